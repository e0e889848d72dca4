/-! row -/
theorem sp_cellW {sc : List Int} {d : Nat} {X : q_M} {t l c : Nat} (ht : t < 3) (hc : ¬ (c : Int) < X 2 t) (hl : l < 10) (hd : 1 ≤ d) : pq sc d 103 [.inr (.inr 1), .inl (t : Int), .inl (l : Int), .inl (c : Int)] GF X = some (some (.inl (-1)), GF, X) := by
  refine (pq_e (by omega) (by decide) (Nat.le_of_ble_eq_true rfl) ⟨0 + 1, sg_X7_cellOf_0.trans ?_⟩)
  have hI : 0 ≤ (t : Int) ∧ (t : Int) < ((3 : Nat) : Int) := by omega
  rw [if_neg (by omega), if_pos (by omega), if_neg (by omega), if_pos (by omega), if_pos hI, Int.toNat_natCast]
  by_cases z : (l : Int) < X 3 t
  · rw [if_pos z, if_neg (by omega)]
    by_cases z2 : (c : Int) < 4
    · rw [if_pos z2, if_pos hI, if_neg hc]
    · rw [if_neg z2]
  · rw [if_neg z]
theorem ap_T {sc : List Int} {d : Nat} {X0 : q_M} {t l w : Nat} (ht : t < 3) (hl : X0 3 t = ((l + 1 : Nat) : Int)) (hl2 : l < 10) (hw : X0 2 t = w) (hw4 : w ≤ 4) (hd : 1 ≤ d) : ∀ (m c : Nat) (X : q_M), c + m = 4 → (∀ a, ¬ a = 4 → ¬ a = 5 → X a = X0 a) → ∃ F X', pr sc (pq sc d) 99 F 34 [some (.inr (.inr 1)), some (.inl (t : Int)), some (.inr (.inr 6)), some (.inl (l : Int)), some (.inl (c : Int)), none] [] X = some (none, GF, X') ∧ (∀ a, ¬ a = 4 → ¬ a = 5 → X' a = X0 a) ∧ (∀ j, j < 40 * t + 4 * l + c ∨ 40 * t + 4 * l + w ≤ j → X' 4 j = X 4 j ∧ X' 5 j = X 5 j) ∧ (∀ i, c ≤ i → i < w → X' 4 (40 * t + 4 * l + i) = X0 7 i ∧ X' 5 (40 * t + 4 * l + i) = if X0 8 i = 0 then 0 else 1) := by
  intro m
  induction m with
  | zero =>
    intro c X hc h1
    refine ⟨0 + 1, X, sg_X7_append_34.trans ?_, h1, fun _ _ => ⟨rfl, rfl⟩, fun i i1 i2 => by omega⟩
    rw [if_neg (by omega)]
  | succ m ih =>
    intro c X hc h1
    by_cases z : c < w
    · have q1 := sp_cell (sc := sc) (d := d) (X := X) (l := l) (c := c) ht (by rw [h1 3 (by decide) (by decide), hl]; omega) (by rw [h1 3 (by decide) (by decide), hl]; omega) (by rw [h1 2 (by decide) (by decide), hw]; omega) (by rw [h1 2 (by decide) (by decide), hw]; omega) hd
      have hI : 0 ≤ ((40 * t + 4 * l + c : Nat) : Int) ∧ ((40 * t + 4 * l + c : Nat) : Int) < ((120 : Nat) : Int) := by omega
      have hc4 : 0 ≤ (c : Int) ∧ (c : Int) < ((4 : Nat) : Int) := by omega
      have q2 : pq sc d 130 [.inr (.inr 6), .inl (c : Int)] GF X = some (some (.inl (X0 7 c)), GF, X) := by
        refine (pq_e (by omega) (by decide) (Nat.le_of_ble_eq_true rfl) ⟨0 + 1, sg_X10_numberAt_0.trans ?_⟩)
        rw [if_neg (by omega), if_pos (by omega), if_pos hc4, Int.toNat_natCast, h1 7 (by decide) (by decide)]
      generalize hA : q_up X 4 (40 * t + 4 * l + c) (X0 7 c) = A
      have q3 : pq sc d 131 [.inr (.inr 6), .inl (c : Int)] GF A = some (some (.inl (if X0 8 c = 0 then 0 else 1)), GF, A) := by
        refine (pq_e (by omega) (by decide) (Nat.le_of_ble_eq_true rfl) ⟨0 + 1, sg_X10_unknownAt_0.trans ?_⟩)
        rw [if_neg (by omega), if_pos (by omega), if_pos hc4, Int.toNat_natCast, ← hA, q_upf (by decide), h1 8 (by decide) (by decide)]
        split <;> rfl
      have hb : b01 (if X0 8 c = 0 then 0 else 1) := by
        split
        · exact Or.inl rfl
        · exact Or.inr rfl
      generalize hx5 : (if X0 8 c = 0 then (0 : Int) else 1) = x5 at q3 hb
      generalize hB : q_up A 5 (40 * t + 4 * l + c) x5 = B
      have B0 : ∀ a, ¬ a = 4 → ¬ a = 5 → B a = X0 a := fun a e1 e2 => by rw [← hB, q_upf e2, ← hA, q_upf e1]; exact h1 a e1 e2
      have B1 : ∀ j, ¬ j = 40 * t + 4 * l + c → B 4 j = X 4 j ∧ B 5 j = X 5 j := fun j e => by rw [← hB, q_up_ne (by decide), q_up_sn e, ← hA, q_up_sn e, q_up_ne (by decide)]; exact ⟨rfl, rfl⟩
      have B2 : B 4 (40 * t + 4 * l + c) = X0 7 c ∧ B 5 (40 * t + 4 * l + c) = x5 := by rw [← hB, q_up_ne (by decide), q_up_s, ← hA, q_up_s]; exact ⟨rfl, rfl⟩
      obtain ⟨F, X', q4, r1, r2, r3⟩ := ih (c + 1) B (by omega) B0
      refine ⟨F + 1, X', sg_X7_append_34.trans ?_, r1, fun j hj => ?_, fun i i1 i2 => ?_⟩
      · rw [if_pos (by omega), q1, q_cI_s, if_neg (by omega), q2, q_cI_s, if_pos hI, Int.toNat_natCast, hA, q3, q_cI_s, if_pos hI, if_pos (Or.inr (Or.inl ⟨rfl, hb⟩)), hB, qw1 (by omega), q4]
      · rw [(r2 j (by omega)).1, (r2 j (by omega)).2]; exact B1 j (by omega)
      · by_cases e : i = c
        · subst e
          rw [(r2 (40 * t + 4 * l + i) (by omega)).1, (r2 (40 * t + 4 * l + i) (by omega)).2, B2.1, B2.2, hx5]; exact ⟨rfl, rfl⟩
        · exact r3 i (by omega) i2
    · have q1 := sp_cellW (sc := sc) (d := d) (X := X) (l := l) (c := c) ht (by rw [h1 2 (by decide) (by decide), hw]; omega) hl2 hd
      obtain ⟨F, X', q4, r1, r2, r3⟩ := ih (c + 1) X (by omega) h1
      refine ⟨F + 1, X', sg_X7_append_34.trans ?_, r1, fun j hj => r2 j (by omega), fun i i1 i2 => by omega⟩
      rw [if_pos (by omega), q1, q_cI_s, if_pos rfl, qw1 (by omega), q4]
theorem ixr {t l c : Nat} (ht : t < 3) (hl : l < 10) (hc : c < 4) : q_w (q_w (q_w (40 * (t : Int)) + q_w (4 * (l : Int))) + c) = ((40 * t + 4 * l + c : Nat) : Int) := by
  rw [q_wid (x := 40 * (t : Int)) (by omega) (by omega), q_wid (x := 4 * (l : Int)) (by omega) (by omega), q_wid (x := 40 * (t : Int) + 4 * (l : Int)) (by omega) (by omega), q_wid (by omega) (by omega)]; omega
theorem rm_T {sc : List Int} {orc : q_O} {Y0 : q_M} {t l n : Nat} (ht : t < 3) (hl : Y0 52 t = l) (hl2 : l < 10) (hn : n ≤ 4) (hb : ∀ k, k < n → b01 (Y0 56 k)) : ∀ (m c : Nat) (Y : q_M), c + m = n → (∀ a, ¬ a = 53 → ¬ a = 54 → Y a = Y0 a) → ∃ F Y', pr sc orc 155 F 64 [some (.inr (.inr 49)), some (.inl (t : Int)), some (.inl (n : Int)), some (.inl (c : Int))] [] Y = some (some (.inl ((l + 1 : Nat) : Int)), GF, q_up Y' 52 t ((l + 1 : Nat) : Int)) ∧ (∀ a, ¬ a = 53 → ¬ a = 54 → Y' a = Y0 a) ∧ (∀ j, j < 40 * t + 4 * l + c ∨ 40 * t + 4 * l + n ≤ j → Y' 53 j = Y 53 j ∧ Y' 54 j = Y 54 j) ∧ (∀ i, c ≤ i → i < n → Y' 53 (40 * t + 4 * l + i) = Y0 55 i ∧ Y' 54 (40 * t + 4 * l + i) = Y0 56 i) := by
  have hI3 : 0 ≤ (t : Int) ∧ (t : Int) < ((3 : Nat) : Int) := by omega
  intro m
  induction m with
  | zero =>
    intro c Y hc h1
    refine ⟨0 + 1, Y, sg_X12_row_64.trans ?_, h1, fun _ _ => ⟨rfl, rfl⟩, fun i i1 i2 => by omega⟩
    rw [if_neg (by omega), if_pos hI3, if_pos hI3, if_pos hI3, Int.toNat_natCast, q_up_s, h1 52 (by decide) (by decide), hl, qw1 (by omega)]
  | succ m ih =>
    intro c Y hc h1
    have hI : 0 ≤ ((40 * t + 4 * l + c : Nat) : Int) ∧ ((40 * t + 4 * l + c : Nat) : Int) < ((120 : Nat) : Int) := by omega
    have hc4 : 0 ≤ (c : Int) ∧ (c : Int) < ((4 : Nat) : Int) := by omega
    have hbc := hb c (by omega)
    generalize hA : q_up (q_up Y 53 (40 * t + 4 * l + c) (Y0 55 c)) 54 (40 * t + 4 * l + c) (Y0 56 c) = A
    have A0 : ∀ a, ¬ a = 53 → ¬ a = 54 → A a = Y0 a := fun a e1 e2 => by rw [← hA, q_upf e2, q_upf e1]; exact h1 a e1 e2
    have A1 : ∀ j, ¬ j = 40 * t + 4 * l + c → A 53 j = Y 53 j ∧ A 54 j = Y 54 j := fun j e => by rw [← hA, q_up_ne (by decide), q_up_sn e, q_up_sn e, q_up_ne (by decide)]; exact ⟨rfl, rfl⟩
    have A2 : A 53 (40 * t + 4 * l + c) = Y0 55 c ∧ A 54 (40 * t + 4 * l + c) = Y0 56 c := by rw [← hA, q_up_ne (by decide), q_up_s, q_up_s]; exact ⟨rfl, rfl⟩
    obtain ⟨F, Y', q4, r1, r2, r3⟩ := ih (c + 1) A (by omega) A0
    refine ⟨F + 1, Y', sg_X12_row_64.trans ?_, r1, fun j hj => ?_, fun i i1 i2 => ?_⟩
    · rw [if_pos (by omega), if_pos hI3, if_pos hc4, Int.toNat_natCast, h1 52 (by decide) (by decide), hl, ixr ht hl2 (by omega), if_pos hI, if_pos hI3, if_pos hc4, if_pos hI, Int.toNat_natCast, Int.toNat_natCast, h1 55 (by decide) (by decide), h1 56 (by decide) (by decide), if_pos (Or.inr (Or.inl ⟨rfl, hbc⟩)), hA, qw1 (by omega), q4]
    · rw [(r2 j (by omega)).1, (r2 j (by omega)).2]; exact A1 j (by omega)
    · by_cases e : i = c
      · subst e
        rw [(r2 (40 * t + 4 * l + i) (by omega)).1, (r2 (40 * t + 4 * l + i) (by omega)).2]; exact A2
      · exact r3 i (by omega) i2
/-- the values are gone, and tables may have changed -/
theorem Rel_vt {X Y X' Y' : q_M} (h : Rel X Y) (ex : ∀ a, ¬ (3 ≤ a ∧ a ≤ 6) → X' a = X a) (ey : ∀ a, ¬ (52 ≤ a ∧ a ≤ 54) → ¬ a = 49 → Y' a = Y a) (s : ∀ j, ¬ j = 1 → ¬ j = 6 → Y' 49 j = Y 49 j) (x6 : X' 6 2 = 0) (y6 : Y' 49 6 = 0) (ht : TBr X' Y') : Rel X' Y' := by
  obtain ⟨h1, h2, h3, h4, h5, h6, h7, h8, h9⟩ := h
  exact ⟨ht, ⟨0, by decide, x6, y6, fun k hk => by omega⟩, TX_l h3 (by rw [ex 9 (by decide)]) (ex 10 (by decide)) (s 9 (by decide) (by decide)) (ey 57 (by decide) (by decide)), HQ_l h4 (by rw [ex 0 (by decide)]) (s 22 (by decide) (by decide)) (fun a _ _ => ex a (by omega)) (fun a _ _ => ey a (by omega) (by omega)) (fun j _ _ => s j (by omega) (by omega)) (ey 51 (by decide) (by decide)) ht.2.2.1, by rw [ex 0 (by decide), s 11 (by decide) (by decide)]; exact h5, by rw [ex 46 (by decide), s 47 (by decide) (by decide)]; exact h6, RA_l h7 (fun a _ _ => ex a (by omega)) (s 49 (by decide) (by decide)) (s 23 (by decide) (by decide)) (ey 77 (by decide) (by decide)) (ey 78 (by decide) (by decide)), by rw [s 26 (by decide) (by decide)]; exact h8, by rw [ey 50 (by decide) (by decide)]; exact h9⟩
theorem sp_valclr {sc : List Int} {d : Nat} {X : q_M} (hd : 1 ≤ d) : pq sc d 128 [.inr (.inr 6)] GF X = some (none, GF, q_up X 6 2 0) := by
  refine (pq_e (by omega) (by decide) (Nat.le_of_ble_eq_true rfl) ⟨0 + 1, sg_X10_clear_0.trans ?_⟩)
  rfl
theorem sp_valsz {sc : List Int} {d : Nat} {X : q_M} (hd : 1 ≤ d) : pq sc d 127 [.inr (.inr 6)] GF X = some (some (.inl (X 6 2)), GF, X) := by
  refine (pq_e (by omega) (by decide) (Nat.le_of_ble_eq_true rfl) ⟨0 + 1, sg_X10_size_0.trans ?_⟩)
  rfl
theorem st_row {sc : List Int} {d dm : Nat} {X Y : q_M} {t : Int} (h : Rel X Y) (hd : 3 ≤ d) (hm9 : 3 ≤ dm) : ∃ X' Y' r rx, (∃ F, px sc (pq sc d) 136 [82, 97] F 0 [some (.inr (.inr 0)), some (.inl t), none, none, none] [] X = some rx) ∧ pq sc dm 155 [.inr (.inr 49), .inl t] GF Y = some (some (.inl r), GF, Y') ∧ Rel X' Y' ∧ CT9 X X' ∧ MT9 Y Y' ∧ ((rx = .inl (some (.inl r), GF, X') ∧ Y' 49 1 = 0) ∨ (rx = .inr (82, GF, X') ∧ Y' 49 1 = 1) ∨ (rx = .inr (97, GF, X') ∧ Y' 49 1 = 2)) := by
  have h' := h
  obtain ⟨⟨hD, hRN, hNW, hb5, h0⟩, ⟨n, n1, n2, n3, n4⟩, -⟩ := h'
  have q1 := sp_twidth (sc := sc) (d := d) (X := X) (t := t) (by omega)
  have q2 := sp_theight' (sc := sc) (d := d) (X := X) (t := t) (by omega)
  have q3 := sp_valsz (sc := sc) (d := d) (X := X) (by omega)
  rw [n2] at q3
  have q4 := sp_valclr (sc := sc) (d := d) (X := X) (by omega)
  generalize hY1 : q_up (q_up Y 49 1 0) 49 6 0 = Y1
  have y0 : ∀ a, ¬ a = 49 → Y1 a = Y a := fun a e => by rw [← hY1, q_upf e, q_upf e]
  have y1 : ∀ j, ¬ j = 1 → ¬ j = 6 → Y1 49 j = Y 49 j := fun j e1 e2 => by rw [← hY1, q_up_sn e2, q_up_sn e1]
  have y6 : Y1 49 6 = 0 := by rw [← hY1, q_up_s]
  have y11 : Y1 49 1 = 0 := by rw [← hY1, q_up_sn (by decide), q_up_s]
  have q5 := mk_isTab (sc := sc) (d := dm - 1) (Y := Y1) (t := t) (by omega)
  rw [y0 51 (by decide)] at q5
  -- it throws
  have bad : ∀ (c : Int) (pc : Nat), ((pc = 82 ∧ c = 1) ∨ (pc = 97 ∧ c = 2)) → (∃ F, px sc (pq sc d) 136 [82, 97] F 0 [some (.inr (.inr 0)), some (.inl t), none, none, none] [] X = some (.inr (pc, GF, q_up X 6 2 0))) → pq sc dm 155 [.inr (.inr 49), .inl t] GF Y = some (some (.inl 0), GF, q_up Y1 49 1 c) → ∃ X' Y' r rx, (∃ F, px sc (pq sc d) 136 [82, 97] F 0 [some (.inr (.inr 0)), some (.inl t), none, none, none] [] X = some rx) ∧ pq sc dm 155 [.inr (.inr 49), .inl t] GF Y = some (some (.inl r), GF, Y') ∧ Rel X' Y' ∧ CT9 X X' ∧ MT9 Y Y' ∧ ((rx = .inl (some (.inl r), GF, X') ∧ Y' 49 1 = 0) ∨ (rx = .inr (82, GF, X') ∧ Y' 49 1 = 1) ∨ (rx = .inr (97, GF, X') ∧ Y' 49 1 = 2)) := fun c pc hcp p1 p2 => by
    refine ⟨q_up X 6 2 0, q_up Y1 49 1 c, 0, _, p1, p2, Rel_vt h (fun a ha => q_upf (by omega)) (fun a _ a2 => by rw [q_upf a2, y0 a a2]) (fun j j1 j2 => by rw [q_up_sn j1, y1 j j1 j2]) q_up_s (by rw [q_up_sn (by decide)]; exact y6) ?_, fun a ha => q_upf (by omega), fun a ha => by rw [q_upf (by omega), y0 a (by omega)], ?_⟩
    · exact TB_l h.1 (fun a _ _ => q_upf (by omega)) (fun a _ _ => by rw [q_upf (by omega), y0 a (by omega)]) (by rw [q_upf (by decide), y0 76 (by decide)])
    · rcases hcp with ⟨rfl, rfl⟩ | ⟨rfl, rfl⟩
      · exact Or.inr (Or.inl ⟨rfl, q_up_s⟩)
      · exact Or.inr (Or.inr ⟨rfl, q_up_s⟩)
  have f1 := mk_fail (sc := sc) (d := dm - 1) (Y := Y1) (w := 1) (by omega)
  have f2 := mk_fail (sc := sc) (d := dm - 1) (Y := Y1) (w := 2) (by omega)
  by_cases zt : 0 ≤ t ∧ t < 3 ∧ 0 < Y 51 t.toNat
  · obtain ⟨k, rfl⟩ : ∃ k : Nat, t = k := ⟨t.toNat, by omega⟩
    rw [Int.toNat_natCast] at zt q1 q2 q5
    have hI : 0 ≤ (k : Int) ∧ (k : Int) < ((3 : Nat) : Int) := by omega
    have hk : k < 3 := by omega
    have hDk := hD.1 k hk
    rw [if_pos zt] at q5
    rw [if_pos ⟨zt.1, zt.2.1⟩, hDk.1] at q1
    rw [if_pos ⟨zt.1, zt.2.1⟩, hDk.2.1] at q2
    by_cases zw : Y 51 k = n
    · by_cases zh : Y 52 k = 10
      · -- full
        refine bad 2 97 (Or.inr ⟨rfl, rfl⟩) ⟨0 + 1 + 1, sgx_X11_row_0.trans ?_⟩ (pq_e (by omega) (by decide) (Nat.le_of_ble_eq_true rfl) ⟨0 + 1, sg_X12_row_0.trans ?_⟩)
        · rw [q1, q_cI_s, if_pos zt.2.2, q3, q_cI_s, if_pos zw, q2, q_cI_s, if_neg (by omega)]
          refine sgx_X11_row_50.trans ?_
          rw [if_neg (by decide), if_neg (by decide), q4, q_c0_s, if_neg (by decide), if_neg (by decide)]
        · rw [hY1, q5, q_cI_s, if_neg (by decide), if_pos hI, Int.toNat_natCast, y0 51 (by decide), n3, if_pos zw, if_pos hI, y0 52 (by decide), if_pos zh, f2, q_cI_s]
      · -- a row more
        obtain ⟨l, hl⟩ : ∃ l : Nat, Y 52 k = l := ⟨(Y 52 k).toNat, by omega⟩
        generalize hXa : q_up X 3 k ((l + 1 : Nat) : Int) = Xa
        have xa0 : ∀ a, ¬ a = 3 → Xa a = X a := fun a e => by rw [← hXa, q_upf e]
        have xa1 : Xa 3 k = ((l + 1 : Nat) : Int) := by rw [← hXa, q_up_s]
        have xa2 : ∀ j, ¬ j = k → Xa 3 j = X 3 j := fun j e => by rw [← hXa, q_up_sn e]
        obtain ⟨F, X2, p1, r1, r2, r3⟩ := ap_T (sc := sc) (d := d - 1) (X0 := Xa) (w := n) hk xa1 (by omega) (by rw [xa0 2 (by decide), hDk.1]; exact zw) n1 (by omega) 4 0 Xa (by omega) (fun _ _ _ => rfl)
        rw [Int.natCast_zero] at p1
        have q2' := sp_theight' (sc := sc) (d := d - 1) (X := X) (t := (k : Int)) (by omega)
        rw [Int.toNat_natCast, if_pos ⟨zt.1, zt.2.1⟩, hDk.2.1, hl] at q2'
        have pA : pq sc d 99 [.inr (.inr 1), .inl (k : Int), .inr (.inr 6)] GF X = some (none, GF, X2) := by
          refine (pq_e (by omega) (by decide) (Nat.le_of_ble_eq_true rfl) ⟨F + 1, sg_X7_append_0.trans ?_⟩)
          rw [q2', q_cI_s, if_neg (by omega), if_pos (by omega), if_pos (by omega), if_pos hI, Int.toNat_natCast, qw1 (by omega), hXa]
          exact p1
        have q6 := sp_valclr (sc := sc) (d := d) (X := X2) (by omega)
        generalize hX3 : q_up X2 6 2 0 = X3 at q6
        have x0 : ∀ a, ¬ a = 6 → X3 a = X2 a := fun a e => by rw [← hX3, q_upf e]
        have q7 := sp_theight' (sc := sc) (d := d) (X := X3) (t := (k : Int)) (by omega)
        rw [Int.toNat_natCast, if_pos ⟨zt.1, zt.2.1⟩, x0 3 (by decide), r1 3 (by decide) (by decide), xa1] at q7
        obtain ⟨G, Y2, p2, s1, s2, s3⟩ := rm_T (sc := sc) (orc := pq sc (dm - 1)) (Y0 := Y1) hk (by rw [y0 52 (by decide)]; exact hl) (by omega) n1 (fun c hc => by rw [y0 56 (by decide)]; exact (n4 c hc).2.2.1) n 0 Y1 (by omega) (fun _ _ _ => rfl)
        rw [Int.natCast_zero] at p2
        generalize hY3 : q_up Y2 52 k ((l + 1 : Nat) : Int) = Y3 at p2
        have v0 : ∀ a, ¬ a = 52 → Y3 a = Y2 a := fun a e => by rw [← hY3, q_upf e]
        have v1 : Y3 52 k = ((l + 1 : Nat) : Int) := by rw [← hY3, q_up_s]
        have v2 : ∀ j, ¬ j = k → Y3 52 j = Y 52 j := fun j e => by rw [← hY3, q_up_sn e, s1 52 (by decide) (by decide), y0 52 (by decide)]
        have v51 : Y3 51 = Y 51 := by rw [v0 51 (by decide), s1 51 (by decide) (by decide), y0 51 (by decide)]
        have c4 : ∀ j, (j < 40 * k + 4 * l ∨ 40 * k + 4 * l + n ≤ j) → X3 4 j = X 4 j ∧ X3 5 j = X 5 j := fun j hj => by
          have := r2 j (by omega)
          rw [xa0 4 (by decide), xa0 5 (by decide)] at this
          rw [x0 4 (by decide), x0 5 (by decide)]; exact this
        have c5 : ∀ i, i < n → X3 4 (40 * k + 4 * l + i) = Y 55 i ∧ X3 5 (40 * k + 4 * l + i) = Y 56 i := fun i hi => by
          have := r3 i (Nat.zero_le _) hi
          rw [xa0 7 (by decide), xa0 8 (by decide), (n4 i hi).1, (n4 i hi).2.1] at this
          rw [x0 4 (by decide), x0 5 (by decide), this.1, this.2]
          refine ⟨rfl, ?_⟩
          rcases (n4 i hi).2.2.1 with z | z
          · rw [z]; rfl
          · rw [z]; rfl
        have m4 : ∀ j, (j < 40 * k + 4 * l ∨ 40 * k + 4 * l + n ≤ j) → Y3 53 j = Y 53 j ∧ Y3 54 j = Y 54 j := fun j hj => by
          have := s2 j (by omega)
          rw [y0 53 (by decide), y0 54 (by decide)] at this
          rw [v0 53 (by decide), v0 54 (by decide)]; exact this
        have m5 : ∀ i, i < n → Y3 53 (40 * k + 4 * l + i) = Y 55 i ∧ Y3 54 (40 * k + 4 * l + i) = Y 56 i := fun i hi => by
          have := s3 i (Nat.zero_le _) hi
          rw [y0 55 (by decide), y0 56 (by decide)] at this
          rw [v0 53 (by decide), v0 54 (by decide)]; exact this
        have inn : ∀ j, ¬ (j < 40 * k + 4 * l ∨ 40 * k + 4 * l + n ≤ j) → ∃ i, i < n ∧ j = 40 * k + 4 * l + i := fun j hj => ⟨j - (40 * k + 4 * l), by omega, by omega⟩
        refine ⟨X3, Y3, ((l + 1 : Nat) : Int), _, ⟨0 + 1 + 1, sgx_X11_row_0.trans ?_⟩, (pq_e (by omega) (by decide) (Nat.le_of_ble_eq_true rfl) ⟨G + 1, sg_X12_row_0.trans ?_⟩), Rel_vt h (fun a ha => ?_) (fun a a1 a2 => ?_) (fun j j1 j2 => ?_) ?_ ?_ ⟨⟨fun i hi => ?_, fun i l' c hi hl' hc => ?_⟩, fun j hj => ?_, ⟨?_, fun j hj => ?_⟩, fun j hj => ?_, fun i hi => ?_⟩, fun a ha => ?_, fun a ha => ?_, Or.inl ⟨rfl, ?_⟩⟩
        · rw [q1, q_cI_s, if_pos zt.2.2, q3, q_cI_s, if_pos zw, q2, q_cI_s, if_pos (by omega)]
          refine sgx_X11_row_50.trans ?_
          rw [if_neg (by decide), if_pos rfl, pA, q_c0_s, q6, q_c0_s, if_neg (by decide), if_pos rfl, q7, q_cI_s]
        · rw [hY1, q5, q_cI_s, if_neg (by decide), if_pos hI, Int.toNat_natCast, y0 51 (by decide), n3, if_pos zw, if_pos hI, y0 52 (by decide), if_neg zh]
          exact p2
        · rw [x0 a (by omega), r1 a (by omega) (by omega), xa0 a (by omega)]
        · rw [v0 a (by omega), s1 a (by omega) (by omega), y0 a a2]
        · rw [v0 49 (by decide), s1 49 (by decide) (by decide)]; exact y1 j j1 j2
        · rw [← hX3, q_up_s]
        · rw [v0 49 (by decide), s1 49 (by decide) (by decide)]; exact y6
        · rw [x0 2 (by decide), r1 2 (by decide) (by decide), xa0 2 (by decide), v51, x0 3 (by decide), r1 3 (by decide) (by decide)]
          have hDi := hD.1 i hi
          by_cases e : i = k
          · subst e; rw [xa1, v1]; refine ⟨hDi.1, rfl, ?_⟩; omega
          · rw [xa2 i e, v2 i e]; exact hDi
        · rw [v51] at hc
          have hDi := hD.1 i hi
          have hc4 : c < 4 := by omega
          by_cases e : i = k
          · subst e
            rw [v1] at hl'
            by_cases e2 : l' = l
            · subst e2
              have hcn : c < n := by omega
              rw [(c5 c hcn).1, (c5 c hcn).2, (m5 c hcn).1, (m5 c hcn).2]; exact ⟨rfl, rfl⟩
            · obtain ⟨a1, a2⟩ := c4 (40 * i + 4 * l' + c) (by omega)
              obtain ⟨b1, b2⟩ := m4 (40 * i + 4 * l' + c) (by omega)
              rw [a1, a2, b1, b2]
              exact hD.2 i l' c hi (by omega) hc
          · rw [v2 i e] at hl'
            have hl10 : l' < 10 := by omega
            have far : 40 * i + 4 * l' + c < 40 * k ∨ 40 * k + 40 ≤ 40 * i + 4 * l' + c := by omega
            obtain ⟨a1, a2⟩ := c4 (40 * i + 4 * l' + c) (by omega)
            obtain ⟨b1, b2⟩ := m4 (40 * i + 4 * l' + c) (by omega)
            rw [a1, a2, b1, b2]
            exact hD.2 i l' c hi hl' hc
        · by_cases e : j < 40 * k + 4 * l ∨ 40 * k + 4 * l + n ≤ j
          · rw [(m4 j e).1]; exact hRN j hj
          · obtain ⟨i, i1, rfl⟩ := inn j e
            rw [(m5 i i1).1]; exact (n4 i i1).2.2.2
        · rw [v0 76 (by decide), s1 76 (by decide) (by decide), y0 76 (by decide)]; exact hNW.1
        · by_cases e : j < 40 * k + 4 * l ∨ 40 * k + 4 * l + n ≤ j
          · rw [(m4 j e).2]; exact hNW.2 j hj
          · obtain ⟨i, i1, rfl⟩ := inn j e
            rw [(m5 i i1).2]; exact (n4 i i1).2.2.1
        · by_cases e : j < 40 * k + 4 * l ∨ 40 * k + 4 * l + n ≤ j
          · rw [(c4 j e).2]; exact hb5 j hj
          · obtain ⟨i, i1, rfl⟩ := inn j e
            rw [(c5 i i1).2]; exact (n4 i i1).2.2.1
        · rw [v51]
          by_cases e : i = k
          · subst e; intro z; omega
          · rw [v2 i e]; exact h0 i hi
        · rw [x0 a (by omega), r1 a (by omega) (by omega), xa0 a (by omega)]
        · rw [v0 a (by omega), s1 a (by omega) (by omega), y0 a (by omega)]
        · rw [v0 49 (by decide), s1 49 (by decide) (by decide)]; exact y11
    · -- not as many values
      have st : ∀ (F : Nat) (b : Int), px sc (pq sc d) 136 [82, 97] (F + 1) 50 [some (.inr (.inr 0)), some (.inl (k : Int)), none, some (.inl 0), some (.inl b)] [] X = some (.inr (82, GF, q_up X 6 2 0)) := fun F b => by
        refine sgx_X11_row_50.trans ?_
        rw [if_pos rfl, q4, q_c0_s, if_pos rfl]
      refine bad 1 82 (Or.inl ⟨rfl, rfl⟩) ⟨0 + 1 + 1, sgx_X11_row_0.trans ?_⟩ (pq_e (by omega) (by decide) (Nat.le_of_ble_eq_true rfl) ⟨0 + 1, sg_X12_row_0.trans ?_⟩)
      · rw [q1, q_cI_s, if_pos zt.2.2, q3, q_cI_s, if_neg zw, q2, q_cI_s]
        split
        · exact st _ _
        · exact st _ _
      · rw [hY1, q5, q_cI_s, if_neg (by decide), if_pos hI, Int.toNat_natCast, y0 51 (by decide), n3, if_neg zw, f1, q_cI_s]
  · -- no such table
    rw [if_neg zt] at q5
    have zx : ¬ 0 < (if 0 ≤ t ∧ t < 3 then X 2 t.toNat else 0) := by
      by_cases z : 0 ≤ t ∧ t < 3
      · rw [if_pos z, (hD.1 t.toNat (by omega)).1]
        exact fun e => zt ⟨z.1, z.2, e⟩
      · rw [if_neg z]; decide
    have st : ∀ (F : Nat) (b : Int), px sc (pq sc d) 136 [82, 97] (F + 1) 50 [some (.inr (.inr 0)), some (.inl t), none, some (.inl 0), some (.inl b)] [] X = some (.inr (82, GF, q_up X 6 2 0)) := fun F b => by
      refine sgx_X11_row_50.trans ?_
      rw [if_pos rfl, q4, q_c0_s, if_pos rfl]
    refine bad 1 82 (Or.inl ⟨rfl, rfl⟩) ⟨0 + 1 + 1, sgx_X11_row_0.trans ?_⟩ (pq_e (by omega) (by decide) (Nat.le_of_ble_eq_true rfl) ⟨0 + 1, sg_X12_row_0.trans ?_⟩)
    · rw [q1, q_cI_s, if_neg zx, q2, q_cI_s]
      generalize (if 0 ≤ t ∧ t < 3 then X 3 t.toNat else 0) = hh
      split
      · exact st _ _
      · exact st _ _
    · rw [hY1, q5, q_cI_s, if_pos rfl, f1, q_cI_s]
