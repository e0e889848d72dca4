/-! drop and row -/
theorem sp_twidth {sc : List Int} {d : Nat} {X : q_M} {t : Int} (hd : 1 ≤ d) : pq sc d 96 [.inr (.inr 1), .inl t] GF X = some (some (.inl (if 0 ≤ t ∧ t < 3 then X 2 t.toNat else 0)), GF, X) := by
  refine (pq_e (by omega) (by decide) (Nat.le_of_ble_eq_true rfl) ⟨0 + 1, sg_X7_width_0.trans ?_⟩)
  by_cases z1 : t < 0
  · rw [if_pos z1, if_neg (by omega)]
  · by_cases z2 : t < 3
    · rw [if_neg z1, if_pos z2, if_pos ⟨by omega, by omega⟩, if_pos ⟨by omega, z2⟩]
    · rw [if_neg z1, if_neg z2, if_neg (by omega)]
theorem sp_theight' {sc : List Int} {d : Nat} {X : q_M} {t : Int} (hd : 1 ≤ d) : pq sc d 97 [.inr (.inr 1), .inl t] GF X = some (some (.inl (if 0 ≤ t ∧ t < 3 then X 3 t.toNat else 0)), GF, X) := by
  refine (pq_e (by omega) (by decide) (Nat.le_of_ble_eq_true rfl) ⟨0 + 1, sg_X7_height_0.trans ?_⟩)
  by_cases z1 : t < 0
  · rw [if_pos z1, if_neg (by omega)]
  · by_cases z2 : t < 3
    · rw [if_neg z1, if_pos z2, if_pos ⟨by omega, by omega⟩, if_pos ⟨by omega, z2⟩]
    · rw [if_neg z1, if_neg z2, if_neg (by omega)]
theorem mk_isTab {sc : List Int} {d : Nat} {Y : q_M} {t : Int} (hd : 1 ≤ d) : pq sc d 150 [.inr (.inr 49), .inl t] GF Y = some (some (.inl (if 0 ≤ t ∧ t < 3 ∧ 0 < Y 51 t.toNat then 1 else 0)), GF, Y) := by
  refine (pq_e (by omega) (by decide) (Nat.le_of_ble_eq_true rfl) ⟨0 + 1, sg_X12_isTable_0.trans ?_⟩)
  by_cases z1 : t < 0
  · rw [if_pos z1, if_neg (by omega)]
  · by_cases z2 : t < 3
    · by_cases z3 : 0 < Y 51 t.toNat
      · rw [if_neg z1, if_pos z2, if_pos ⟨by omega, by omega⟩, if_pos z3, if_pos ⟨by omega, z2, z3⟩]
      · rw [if_neg z1, if_pos z2, if_pos ⟨by omega, by omega⟩, if_neg z3, if_neg (fun e => z3 e.2.2)]
    · rw [if_neg z1, if_neg z2, if_neg (by omega)]
theorem qw4 {k : Nat} (h : k < 2000) : q_w ((k : Int) + 4) = ((k + 4 : Nat) : Int) := by rw [q_wid (by omega) (by omega)]; omega
theorem df_T {sc : List Int} {orc : q_O} {X0 : q_M} {t : Nat} (ht : t < 3) (hb : ∀ n, n < 120 → b01 (X0 5 n)) : ∀ (m k : Nat) (X : q_M), k + m = 40 * t + 36 → (∀ a, ¬ a = 4 → ¬ a = 5 → X a = X0 a) → (∀ j, k ≤ j → X 4 j = X0 4 j ∧ X 5 j = X0 5 j) → ∃ F X', pr sc orc 100 F 35 [some (.inr (.inr 1)), some (.inl (t : Int)), none, some (.inl ((40 * t + 36 : Nat) : Int)), some (.inl (k : Int))] [] X = some (some (.inl (q_w (X0 3 t - 1))), GF, q_up X' 3 t (q_w (X0 3 t - 1))) ∧ (∀ a, ¬ a = 4 → ¬ a = 5 → X' a = X0 a) ∧ (∀ j, j < k ∨ 40 * t + 36 ≤ j → X' 4 j = X 4 j ∧ X' 5 j = X 5 j) ∧ (∀ j, k ≤ j → j < 40 * t + 36 → X' 4 j = X0 4 (j + 4) ∧ X' 5 j = X0 5 (j + 4)) := by
  intro m
  induction m with
  | zero =>
    intro k X hk h1 h2
    have hI : 0 ≤ (t : Int) ∧ (t : Int) < ((3 : Nat) : Int) := by omega
    refine ⟨0 + 1, X, sg_X7_dropFirst_35.trans ?_, h1, fun _ _ => ⟨rfl, rfl⟩, fun j j1 j2 => by omega⟩
    rw [if_neg (by omega), if_pos hI, if_pos hI, if_pos hI, Int.toNat_natCast, q_up_s, h1 3 (by decide) (by decide)]
  | succ m ih =>
    intro k X hk h1 h2
    obtain ⟨a1, a2⟩ := h2 (k + 4) (by omega)
    have hI4 : 0 ≤ ((k + 4 : Nat) : Int) ∧ ((k + 4 : Nat) : Int) < ((120 : Nat) : Int) := by omega
    have hI : 0 ≤ (k : Int) ∧ (k : Int) < ((120 : Nat) : Int) := by omega
    generalize hA : q_up (q_up X 4 k (X0 4 (k + 4))) 5 k (X0 5 (k + 4)) = A
    have A0 : ∀ a, ¬ a = 4 → ¬ a = 5 → A a = X0 a := fun a e1 e2 => by rw [← hA, q_upf e2, q_upf e1]; exact h1 a e1 e2
    have A1 : ∀ j, ¬ j = k → A 4 j = X 4 j ∧ A 5 j = X 5 j := fun j e => by rw [← hA, q_up_ne (by decide), q_up_sn e, q_up_sn e, q_up_ne (by decide)]; exact ⟨rfl, rfl⟩
    have A2 : A 4 k = X0 4 (k + 4) ∧ A 5 k = X0 5 (k + 4) := by rw [← hA, q_up_ne (by decide), q_up_s, q_up_s]; exact ⟨rfl, rfl⟩
    obtain ⟨F, X', q1, r1, r2, r3⟩ := ih (k + 1) A (by omega) A0 (fun j hj => by rw [(A1 j (by omega)).1, (A1 j (by omega)).2]; exact h2 j (by omega))
    refine ⟨F + 1, X', sg_X7_dropFirst_35.trans ?_, r1, fun j hj => ?_, fun j j1 j2 => ?_⟩
    · rw [if_pos (by omega), qw4 (by omega), if_pos hI4, if_pos hI, if_pos hI4, if_pos hI, Int.toNat_natCast, a1, a2, if_pos (Or.inr (Or.inl ⟨rfl, hb _ (by omega)⟩)), Int.toNat_natCast, hA, qw1 (by omega), q1]
    · rw [(r2 j (by omega)).1, (r2 j (by omega)).2]; exact A1 j (by omega)
    · by_cases e : j = k
      · subst e
        rw [(r2 j (by omega)).1, (r2 j (by omega)).2]; exact A2
      · exact r3 j (by omega) j2
theorem dm_T {sc : List Int} {orc : q_O} {Y0 : q_M} {t n : Nat} (ht : t < 3) (hb : ∀ n, n < 120 → b01 (Y0 54 n)) (hn : Y0 52 t = n) (h9 : n ≤ 9) : ∀ (m k : Nat) (Y : q_M), k + m = 40 * t + 4 * n → 40 * t ≤ k → (∀ a, ¬ a = 53 → ¬ a = 54 → Y a = Y0 a) → (∀ j, k ≤ j → Y 53 j = Y0 53 j ∧ Y 54 j = Y0 54 j) → ∃ F Y', pr sc orc 156 F 41 [some (.inr (.inr 49)), some (.inl (t : Int)), some (.inl (k : Int))] [] Y = some (some (.inl (n : Int)), GF, Y') ∧ (∀ a, ¬ a = 53 → ¬ a = 54 → Y' a = Y0 a) ∧ (∀ j, j < k ∨ 40 * t + 4 * n ≤ j → Y' 53 j = Y 53 j ∧ Y' 54 j = Y 54 j) ∧ (∀ j, k ≤ j → j < 40 * t + 4 * n → Y' 53 j = Y0 53 (j + 4) ∧ Y' 54 j = Y0 54 (j + 4)) := by
  have hI3 : 0 ≤ (t : Int) ∧ (t : Int) < ((3 : Nat) : Int) := by omega
  have e9 : q_w (q_w (40 * (t : Int)) + q_w (4 * (n : Int))) = ((40 * t + 4 * n : Nat) : Int) := by
    rw [q_wid (x := 40 * (t : Int)) (by omega) (by omega), q_wid (x := 4 * (n : Int)) (by omega) (by omega), q_wid (by omega) (by omega)]; omega
  intro m
  induction m with
  | zero =>
    intro k Y hk hk0 h1 h2
    refine ⟨0 + 1, Y, sg_X12_drop_41.trans ?_, h1, fun _ _ => ⟨rfl, rfl⟩, fun j j1 j2 => by clear e9; omega⟩
    rw [if_pos hI3, Int.toNat_natCast, h1 52 (by decide) (by decide), hn, e9, if_neg (by clear e9; omega), if_pos hI3]
  | succ m ih =>
    intro k Y hk hk0 h1 h2
    obtain ⟨a1, a2⟩ := h2 (k + 4) (Nat.le_add_right _ _)
    have hI4 : 0 ≤ ((k + 4 : Nat) : Int) ∧ ((k + 4 : Nat) : Int) < ((120 : Nat) : Int) := by clear e9; omega
    have hI : 0 ≤ (k : Int) ∧ (k : Int) < ((120 : Nat) : Int) := by clear e9; omega
    generalize hA : q_up (q_up Y 53 k (Y0 53 (k + 4))) 54 k (Y0 54 (k + 4)) = A
    have A0 : ∀ a, ¬ a = 53 → ¬ a = 54 → A a = Y0 a := fun a e1 e2 => by rw [← hA, q_upf e2, q_upf e1]; exact h1 a e1 e2
    have A1 : ∀ j, ¬ j = k → A 53 j = Y 53 j ∧ A 54 j = Y 54 j := fun j e => by rw [← hA, q_up_ne (by decide), q_up_sn e, q_up_sn e, q_up_ne (by decide)]; exact ⟨rfl, rfl⟩
    have A2 : A 53 k = Y0 53 (k + 4) ∧ A 54 k = Y0 54 (k + 4) := by rw [← hA, q_up_ne (by decide), q_up_s, q_up_s]; exact ⟨rfl, rfl⟩
    obtain ⟨F, Y', q1, r1, r2, r3⟩ := ih (k + 1) A (by clear e9; omega) (by clear e9; omega) A0 (fun j hj => by rw [(A1 j (by clear e9; omega)).1, (A1 j (by clear e9; omega)).2]; exact h2 j (by clear e9; omega))
    refine ⟨F + 1, Y', sg_X12_drop_41.trans ?_, r1, fun j hj => ?_, fun j j1 j2 => ?_⟩
    · rw [if_pos hI3, Int.toNat_natCast, h1 52 (by decide) (by decide), hn, e9, if_pos (by clear e9; omega), qw4 (by clear e9; omega), if_pos hI4, if_pos hI, if_pos hI4, if_pos hI, Int.toNat_natCast, a1, a2, if_pos (Or.inr (Or.inl ⟨rfl, hb _ (by clear e9; omega)⟩)), Int.toNat_natCast, hA, qw1 (by clear e9; omega), q1]
    · rw [(r2 j (by clear e9; omega)).1, (r2 j (by clear e9; omega)).2]; exact A1 j (by clear e9; omega)
    · by_cases e : j = k
      · subst e
        rw [(r2 j (by clear e9; omega)).1, (r2 j (by clear e9; omega)).2]; exact A2
      · exact r3 j (by clear e9; omega) j2
/-- only tables changed -/
theorem Rel_tb {X Y X' Y' : q_M} (h : Rel X Y) (ex : ∀ a, ¬ (3 ≤ a ∧ a ≤ 5) → X' a = X a) (ey : ∀ a, ¬ (52 ≤ a ∧ a ≤ 54) → ¬ a = 49 → Y' a = Y a) (s : ∀ j, ¬ j = 1 → Y' 49 j = Y 49 j) (ht : TBr X' Y') : Rel X' Y' := by
  obtain ⟨h1, h2, h3, h4, h5, h6, h7, h8, h9⟩ := h
  exact ⟨ht, VL_l h2 (by rw [ex 6 (by decide)]) (ex 7 (by decide)) (ex 8 (by decide)) (s 6 (by decide)) (ey 55 (by decide) (by decide)) (ey 56 (by decide) (by decide)), TX_l h3 (by rw [ex 9 (by decide)]) (ex 10 (by decide)) (s 9 (by decide)) (ey 57 (by decide) (by decide)), HQ_l h4 (by rw [ex 0 (by decide)]) (s 22 (by decide)) (fun a _ _ => ex a (by omega)) (fun a _ _ => ey a (by omega) (by omega)) (fun j _ _ => s j (by omega)) (ey 51 (by decide) (by decide)) ht.2.2.1, by rw [ex 0 (by decide), s 11 (by decide)]; exact h5, by rw [ex 46 (by decide), s 47 (by decide)]; exact h6, RA_l h7 (fun a _ _ => ex a (by omega)) (s 49 (by decide)) (s 23 (by decide)) (ey 77 (by decide) (by decide)) (ey 78 (by decide) (by decide)), by rw [s 26 (by decide)]; exact h8, by rw [ey 50 (by decide) (by decide)]; exact h9⟩
theorem st_drop {sc : List Int} {d : Nat} {X Y : q_M} {t : Int} (h : Rel X Y) (hd : 2 ≤ d) : ∃ X' Y' x, pq sc d 137 [.inr (.inr 0), .inl t] GF X = some (some (.inl x), GF, X') ∧ pq sc d 156 [.inr (.inr 49), .inl t] GF Y = some (some (.inl x), GF, Y') ∧ Rel X' Y' ∧ CT9 X X' ∧ MT9 Y Y' := by
  have hr := Rel_s (v := 0) h
  generalize hY1 : q_up Y 49 1 0 = Y1 at hr
  have my : MT9 Y Y1 := by rw [← hY1]; exact MT9_s
  have q2 := mk_isTab (sc := sc) (d := d - 1) (Y := Y1) (t := t) (by omega)
  have no : pq sc (d - 1) 100 [.inr (.inr 1), .inl t] GF X = some (some (.inl (-1)), GF, X) → pq sc d 156 [.inr (.inr 49), .inl t] GF Y = some (some (.inl (-1)), GF, Y1) → ∃ X' Y' x, pq sc d 137 [.inr (.inr 0), .inl t] GF X = some (some (.inl x), GF, X') ∧ pq sc d 156 [.inr (.inr 49), .inl t] GF Y = some (some (.inl x), GF, Y') ∧ Rel X' Y' ∧ CT9 X X' ∧ MT9 Y Y' := fun p1 p2 => by
    refine ⟨X, Y1, -1, (pq_e (by omega) (by decide) (Nat.le_of_ble_eq_true rfl) ⟨0 + 1, sg_X11_drop_0.trans ?_⟩), p2, hr, fun _ _ => rfl, my⟩
    rw [p1, q_cI_s]
  by_cases z1 : t < 0
  · rw [if_neg (by omega)] at q2
    refine no (pq_e (by omega) (by decide) (Nat.le_of_ble_eq_true rfl) ⟨0 + 1, sg_X7_dropFirst_0.trans ?_⟩) (pq_e (by omega) (by decide) (Nat.le_of_ble_eq_true rfl) ⟨0 + 1, sg_X12_drop_0.trans ?_⟩)
    · rw [if_pos z1]
    · rw [hY1, q2, q_cI_s, if_pos rfl]
  · by_cases z2 : t < 3
    · obtain ⟨k, rfl⟩ : ∃ k : Nat, t = k := ⟨t.toNat, by omega⟩
      rw [Int.toNat_natCast] at q2
      have hI : 0 ≤ (k : Int) ∧ (k : Int) < ((3 : Nat) : Int) := by omega
      have hk : k < 3 := by omega
      have hr' := hr
      obtain ⟨⟨hD, hRN, hNW, hb5, h0⟩, -⟩ := hr
      have hDk := hD.1 k hk
      by_cases z3 : 0 < Y1 52 k
      · have hw : 0 < Y1 51 k := by
          rcases Int.lt_or_le 0 (Y1 51 k) with z | z
          · exact z
          · have := h0 k hk (by omega); omega
        rw [if_pos ⟨by omega, by omega, hw⟩] at q2
        obtain ⟨n, hn⟩ : ∃ n : Nat, Y1 52 k = ((n + 1 : Nat) : Int) := ⟨(Y1 52 k).toNat - 1, by omega⟩
        obtain ⟨F, X2, q3, r1, r2, r3⟩ := df_T (sc := sc) (orc := pq sc (d - 1 - 1)) (X0 := X) hk hb5 36 (40 * k) X (by omega) (fun _ _ _ => rfl) (fun _ _ => ⟨rfl, rfl⟩)
        have e1 : q_w (X 3 k - 1) = (n : Int) := by rw [hDk.2.1, hn]; exact qwn (by omega) (by omega)
        rw [e1] at q3
        have e2 : q_w (Y1 52 k - 1) = (n : Int) := by rw [hn]; exact qwn (by omega) (by omega)
        generalize hYa : q_up Y1 52 k (n : Int) = Ya
        have ya0 : ∀ a, ¬ a = 52 → Ya a = Y1 a := fun a e => by rw [← hYa, q_upf e]
        have ya1 : Ya 52 k = n := by rw [← hYa, q_up_s]
        have ya2 : ∀ j, ¬ j = k → Ya 52 j = Y1 52 j := fun j e => by rw [← hYa, q_up_sn e]
        obtain ⟨G, Y2, q4, s1, s2, s3⟩ := dm_T (sc := sc) (orc := pq sc (d - 1)) (Y0 := Ya) hk (by rw [ya0 54 (by decide)]; exact hNW.2) ya1 (by omega) (4 * n) (40 * k) Ya (by omega) (Nat.le_refl _) (fun _ _ _ => rfl) (fun _ _ => ⟨rfl, rfl⟩)
        generalize hX3 : q_up X2 3 k (n : Int) = X3 at q3
        have x0 : ∀ a, ¬ a = 3 → X3 a = X2 a := fun a e => by rw [← hX3, q_upf e]
        have x1 : X3 3 k = n := by rw [← hX3, q_up_s]
        have x2 : ∀ j, ¬ j = k → X3 3 j = X 3 j := fun j e => by rw [← hX3, q_up_sn e, r1 3 (by decide) (by decide)]
        have p1 : pq sc (d - 1) 100 [.inr (.inr 1), .inl (k : Int)] GF X = some (some (.inl (n : Int)), GF, X3) := by
          refine (pq_e (by omega) (by decide) (Nat.le_of_ble_eq_true rfl) ⟨F + 1, sg_X7_dropFirst_0.trans ?_⟩)
          rw [if_neg (by omega), if_pos (by omega), if_pos hI, Int.toNat_natCast, if_pos (by rw [hDk.2.1]; exact z3), q_wid (x := (k : Int) * 10) (by omega) (by omega), qwn (x := (k : Int) * 10 * 4) (n := 40 * k) (by omega) (by omega), qwn (x := ((40 * k : Nat) : Int) + 36) (n := 40 * k + 36) (by omega) (by omega)]
          exact q3
        have d51 : Y2 51 = Y1 51 := by rw [s1 51 (by decide) (by decide), ya0 51 (by decide)]
        have xk : ∀ i, X3 2 i = X 2 i := fun i => by rw [x0 2 (by decide), r1 2 (by decide) (by decide)]
        have c4 : ∀ j, (j < 40 * k ∨ 40 * k + 36 ≤ j) → X3 4 j = X 4 j ∧ X3 5 j = X 5 j := fun j hj => by rw [x0 4 (by decide), x0 5 (by decide)]; exact r2 j hj
        have c5 : ∀ j, 40 * k ≤ j → j < 40 * k + 36 → X3 4 j = X 4 (j + 4) ∧ X3 5 j = X 5 (j + 4) := fun j j1 j2 => by rw [x0 4 (by decide), x0 5 (by decide)]; exact r3 j j1 j2
        have m4 : ∀ j, (j < 40 * k ∨ 40 * k + 4 * n ≤ j) → Y2 53 j = Y1 53 j ∧ Y2 54 j = Y1 54 j := fun j hj => by
          have := s2 j hj
          rw [ya0 53 (by decide), ya0 54 (by decide)] at this; exact this
        have m5 : ∀ j, 40 * k ≤ j → j < 40 * k + 4 * n → Y2 53 j = Y1 53 (j + 4) ∧ Y2 54 j = Y1 54 (j + 4) := fun j j1 j2 => by
          have := s3 j j1 j2
          rw [ya0 53 (by decide), ya0 54 (by decide)] at this; exact this
        refine ⟨X3, Y2, (n : Int), (pq_e (by omega) (by decide) (Nat.le_of_ble_eq_true rfl) ⟨0 + 1, sg_X11_drop_0.trans ?_⟩), (pq_e (by omega) (by decide) (Nat.le_of_ble_eq_true rfl) ⟨G + 1, sg_X12_drop_0.trans ?_⟩), Rel_tb hr' (fun a ha => ?_) (fun a a1 a2 => ?_) (fun j _ => ?_) ⟨⟨fun i hi => ?_, fun i l c hi hl hc => ?_⟩, fun j hj => ?_, ⟨?_, fun j hj => ?_⟩, fun j hj => ?_, fun i hi => ?_⟩, fun a ha => ?_, fun a ha => ?_⟩
        · rw [p1, q_cI_s]
        · rw [hY1, q2, q_cI_s, if_neg (by decide), if_pos hI, Int.toNat_natCast, if_neg (by omega), if_pos hI, if_pos hI, e2, hYa, qwn (x := 40 * (k : Int)) (n := 40 * k) (by omega) (by omega)]
          exact q4
        · rw [x0 a (by omega), r1 a (by omega) (by omega)]
        · rw [s1 a (by omega) (by omega), ya0 a (by omega)]
        · rw [s1 49 (by decide) (by decide), ya0 49 (by decide)]
        · rw [xk i, d51, s1 52 (by decide) (by decide)]
          have hDi := hD.1 i hi
          by_cases e : i = k
          · subst e; rw [x1, ya1]; refine ⟨hDi.1, rfl, ?_⟩; omega
          · rw [x2 i e, ya2 i e]; exact hDi
        · rw [s1 52 (by decide) (by decide)] at hl
          rw [d51] at hc
          have hDi := hD.1 i hi
          have hc4 : c < 4 := by omega
          by_cases e : i = k
          · subst e
            rw [ya1] at hl
            obtain ⟨a1, a2⟩ := c5 (40 * i + 4 * l + c) (by omega) (by omega)
            obtain ⟨b1, b2⟩ := m5 (40 * i + 4 * l + c) (by omega) (by omega)
            rw [a1, a2, b1, b2, show 40 * i + 4 * l + c + 4 = 40 * i + 4 * (l + 1) + c by omega]
            exact hD.2 i (l + 1) c hi (by omega) hc
          · rw [ya2 i e] at hl
            have hl10 : l < 10 := by omega
            have far : 40 * i + 4 * l + c < 40 * k ∨ 40 * k + 40 ≤ 40 * i + 4 * l + c := by omega
            obtain ⟨a1, a2⟩ := c4 (40 * i + 4 * l + c) (by omega)
            obtain ⟨b1, b2⟩ := m4 (40 * i + 4 * l + c) (by omega)
            rw [a1, a2, b1, b2]
            exact hD.2 i l c hi hl hc
        · by_cases e : 40 * k ≤ j ∧ j < 40 * k + 4 * n
          · rw [(m5 j e.1 e.2).1]; exact hRN _ (by omega)
          · rw [(m4 j (by omega)).1]; exact hRN j hj
        · rw [s1 76 (by decide) (by decide), ya0 76 (by decide)]; exact hNW.1
        · by_cases e : 40 * k ≤ j ∧ j < 40 * k + 4 * n
          · rw [(m5 j e.1 e.2).2]; exact hNW.2 _ (by omega)
          · rw [(m4 j (by omega)).2]; exact hNW.2 j hj
        · by_cases e : 40 * k ≤ j ∧ j < 40 * k + 36
          · rw [(c5 j e.1 e.2).2]; exact hb5 _ (by omega)
          · rw [(c4 j (by omega)).2]; exact hb5 j hj
        · rw [d51, s1 52 (by decide) (by decide)]
          by_cases e : i = k
          · subst e; intro z; omega
          · rw [ya2 i e]; exact h0 i hi
        · rw [x0 a (by omega), r1 a (by omega) (by omega)]
        · rw [s1 a (by omega) (by omega), ya0 a (by omega)]; exact my a ha
      · refine no (pq_e (by omega) (by decide) (Nat.le_of_ble_eq_true rfl) ⟨0 + 1, sg_X7_dropFirst_0.trans ?_⟩) (pq_e (by omega) (by decide) (Nat.le_of_ble_eq_true rfl) ⟨0 + 1, sg_X12_drop_0.trans ?_⟩)
        · rw [if_neg (by omega), if_pos (by omega), if_pos hI, Int.toNat_natCast, if_neg (by rw [hDk.2.1]; exact z3)]
        · by_cases z5 : 0 < Y1 51 k
          · rw [if_pos ⟨by omega, by omega, z5⟩] at q2
            rw [hY1, q2, q_cI_s, if_neg (by decide), if_pos hI, Int.toNat_natCast, if_pos (by omega)]
          · rw [if_neg (fun e => z5 e.2.2)] at q2
            rw [hY1, q2, q_cI_s, if_pos rfl]
    · rw [if_neg (by omega)] at q2
      refine no (pq_e (by omega) (by decide) (Nat.le_of_ble_eq_true rfl) ⟨0 + 1, sg_X7_dropFirst_0.trans ?_⟩) (pq_e (by omega) (by decide) (Nat.le_of_ble_eq_true rfl) ⟨0 + 1, sg_X12_drop_0.trans ?_⟩)
      · rw [if_neg z1, if_neg z2]
      · rw [hY1, q2, q_cI_s, if_pos rfl]
