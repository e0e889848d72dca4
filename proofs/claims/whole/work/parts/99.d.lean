/-! value, nothing, ask, declare -/
def iR (v : Int) : Prop := -2147483648 ≤ v ∧ v < 2147483648
theorem put_both {sc : List Int} {d : Nat} {X Y : q_M} {v b : Int} (h : Rel X Y) (hb : b01 b) (hv : iR v) (hd : 1 ≤ d) : ∃ X' Y' x, (x = 0 ∨ x = 1) ∧ pq sc d 129 [.inr (.inr 6), .inl v, .inl b] GF X = some (some (.inl x), GF, X') ∧ pq sc d 152 [.inr (.inr 49), .inl v, .inl b] GF (q_up Y 49 1 0) = some (some (.inl x), GF, Y') ∧ Rel X' Y' ∧ CT9 X X' ∧ MT9 Y Y' := by
  have hr := Rel_s (v := 0) h
  generalize hY1 : q_up Y 49 1 0 = Y1 at hr
  have my : MT9 Y Y1 := by rw [← hY1]; exact MT9_s
  obtain ⟨h1, ⟨n, n1, n2, n3, n4⟩, h3, h4, h5, h6, h7, h8, h9⟩ := hr
  by_cases z : n = 4
  · refine ⟨X, Y1, 0, Or.inl rfl, (pq_e (by omega) (by decide) (Nat.le_of_ble_eq_true rfl) ⟨0 + 1, sg_X10_put_0.trans ?_⟩), (pq_e (by omega) (by decide) (Nat.le_of_ble_eq_true rfl) ⟨0 + 1, sg_X12_put_0.trans ?_⟩), ⟨h1, ⟨n, n1, n2, n3, n4⟩, h3, h4, h5, h6, h7, h8, h9⟩, fun _ _ => rfl, my⟩
    · rw [n2, if_neg (by omega), if_neg (by omega)]
    · rw [n3, if_pos (by omega)]
  · have hI : 0 ≤ (n : Int) ∧ (n : Int) < ((4 : Nat) : Int) := by omega
    generalize hX2 : q_up (q_up (q_up X 7 n v) 8 n b) 6 2 ((n + 1 : Nat) : Int) = X2
    generalize hY2 : q_up (q_up (q_up Y1 55 n v) 56 n b) 49 6 ((n + 1 : Nat) : Int) = Y2
    have u : ∀ a, ¬ a = 6 → ¬ a = 7 → ¬ a = 8 → X2 a = X a := fun a e1 e2 e3 => by rw [← hX2, q_upf e1, q_upf e3, q_upf e2]
    have w : ∀ a, ¬ a = 49 → ¬ a = 55 → ¬ a = 56 → Y2 a = Y1 a := fun a e1 e2 e3 => by rw [← hY2, q_upf e1, q_upf e3, q_upf e2]
    have s : ∀ j, ¬ j = 6 → Y2 49 j = Y1 49 j := fun j e => by rw [← hY2, q_up_sn e, q_upf (by decide), q_upf (by decide)]
    refine ⟨X2, Y2, 1, Or.inr rfl, (pq_e (by omega) (by decide) (Nat.le_of_ble_eq_true rfl) ⟨0 + 1, sg_X10_put_0.trans ?_⟩), (pq_e (by omega) (by decide) (Nat.le_of_ble_eq_true rfl) ⟨0 + 1, sg_X12_put_0.trans ?_⟩), ⟨TB_l h1 (fun a _ _ => u a (by omega) (by omega) (by omega)) (fun a _ _ => w a (by omega) (by omega) (by omega)) (w 76 (by decide) (by decide) (by decide)), ⟨n + 1, by omega, ?_, ?_, fun k hk => ?_⟩, TX_l h3 (by rw [u 9 (by decide) (by decide) (by decide)]) (u 10 (by decide) (by decide) (by decide)) (s 9 (by decide)) (w 57 (by decide) (by decide) (by decide)), HQ_l h4 (by rw [u 0 (by decide) (by decide) (by decide)]) (s 22 (by decide)) (fun a _ _ => u a (by omega) (by omega) (by omega)) (fun a _ _ => w a (by omega) (by omega) (by omega)) (fun j _ _ => s j (by omega)) (w 51 (by decide) (by decide) (by decide)) (NW_l h1.2.2.1 (w 76 (by decide) (by decide) (by decide)) (w 54 (by decide) (by decide) (by decide))), by rw [u 0 (by decide) (by decide) (by decide), s 11 (by decide)]; exact h5, by rw [u 46 (by decide) (by decide) (by decide), s 47 (by decide)]; exact h6, RA_l h7 (fun a _ _ => u a (by omega) (by omega) (by omega)) (s 49 (by decide)) (s 23 (by decide)) (w 77 (by decide) (by decide) (by decide)) (w 78 (by decide) (by decide) (by decide)), by rw [s 26 (by decide)]; exact h8, by rw [w 50 (by decide) (by decide) (by decide)]; exact h9⟩, fun a ha => u a (by omega) (by omega) (by omega), fun a ha => by rw [w a (by omega) (by omega) (by omega)]; exact my a ha⟩
    · rw [n2, if_neg (by omega), if_pos (by omega), if_pos hI, if_pos hI, if_pos (Or.inr (Or.inl ⟨rfl, hb⟩)), Int.toNat_natCast, qw1 (by omega), hX2]
    · rw [n3, if_neg (by omega), if_pos hI, if_pos hI, if_pos (Or.inr (Or.inl ⟨rfl, hb⟩)), Int.toNat_natCast, qw1 (by omega), hY2]
    · rw [← hX2, q_up_s]
    · rw [← hY2, q_up_s]
    · have x7 : X2 7 k = if k = n then v else X 7 k := by
        rw [← hX2, q_up_ne (by decide), q_up_ne (by decide)]
        by_cases e : k = n
        · subst e; rw [q_up_s, if_pos rfl]
        · rw [q_up_sn e, if_neg e]
      have x8 : X2 8 k = if k = n then b else X 8 k := by
        rw [← hX2, q_up_ne (by decide)]
        by_cases e : k = n
        · subst e; rw [q_up_s, if_pos rfl]
        · rw [q_up_sn e, if_neg e, q_up_ne (by decide)]
      have y5 : Y2 55 k = if k = n then v else Y1 55 k := by
        rw [← hY2, q_up_ne (by decide), q_up_ne (by decide)]
        by_cases e : k = n
        · subst e; rw [q_up_s, if_pos rfl]
        · rw [q_up_sn e, if_neg e]
      have y6 : Y2 56 k = if k = n then b else Y1 56 k := by
        rw [← hY2, q_up_ne (by decide)]
        by_cases e : k = n
        · subst e; rw [q_up_s, if_pos rfl]
        · rw [q_up_sn e, if_neg e, q_up_ne (by decide)]
      rw [x7, x8, y5, y6]
      by_cases e : k = n
      · rw [if_pos e, if_pos e, if_pos e, if_pos e]; exact ⟨rfl, rfl, hb, hv⟩
      · rw [if_neg e, if_neg e, if_neg e, if_neg e]; exact n4 k (by omega)
theorem st_value {sc : List Int} {d : Nat} {X Y : q_M} {v : Int} (h : Rel X Y) (hv : iR v) (hd : 2 ≤ d) : ∃ X' Y' x, pq sc d 134 [.inr (.inr 0), .inl v] GF X = some (some (.inl x), GF, X') ∧ pq sc d 153 [.inr (.inr 49), .inl v] GF Y = some (some (.inl x), GF, Y') ∧ Rel X' Y' ∧ CT9 X X' ∧ MT9 Y Y' := by
  obtain ⟨X', Y', x, hx, q1, q2, r⟩ := put_both (sc := sc) (d := d - 1) (v := v) (b := 0) h (Or.inl rfl) hv (by omega)
  refine ⟨X', Y', x, (pq_e (by omega) (by decide) (Nat.le_of_ble_eq_true rfl) ⟨0 + 1, sg_X11_value_0.trans ?_⟩), (pq_e (by omega) (by decide) (Nat.le_of_ble_eq_true rfl) ⟨0 + 1, sg_X12_value_0.trans ?_⟩), r⟩
  · rw [q1, q_cI_s, if_pos hx]
  · rw [q2, q_cI_s, if_pos hx]
theorem st_nothing {sc : List Int} {d : Nat} {X Y : q_M} (h : Rel X Y) (hd : 2 ≤ d) : ∃ X' Y' x, pq sc d 135 [.inr (.inr 0)] GF X = some (some (.inl x), GF, X') ∧ pq sc d 154 [.inr (.inr 49)] GF Y = some (some (.inl x), GF, Y') ∧ Rel X' Y' ∧ CT9 X X' ∧ MT9 Y Y' := by
  obtain ⟨X', Y', x, hx, q1, q2, r⟩ := put_both (sc := sc) (d := d - 1) (v := 0) (b := 1) h (Or.inr rfl) ⟨by decide, by decide⟩ (by omega)
  refine ⟨X', Y', x, (pq_e (by omega) (by decide) (Nat.le_of_ble_eq_true rfl) ⟨0 + 1, sg_X11_nothing_0.trans ?_⟩), (pq_e (by omega) (by decide) (Nat.le_of_ble_eq_true rfl) ⟨0 + 1, sg_X12_nothing_0.trans ?_⟩), r⟩
  · rw [q1, q_cI_s, if_pos hx]
  · rw [q2, q_cI_s, if_pos hx]
theorem st_ask {sc : List Int} {d : Nat} {X Y : q_M} {c : Int} (h : Rel X Y) (hd : 2 ≤ d) : ∃ X' Y' x, pq sc d 138 [.inr (.inr 0), .inl c] GF X = some (some (.inl x), GF, X') ∧ pq sc d 157 [.inr (.inr 49), .inl c] GF Y = some (some (.inl x), GF, Y') ∧ Rel X' Y' ∧ CT9 X X' ∧ MT9 Y Y' := by
  have hr := Rel_s (v := 0) h
  obtain ⟨h1, h2, ⟨n, n1, n2, n3, n4, n5⟩, h4, h5, h6, h7, h8, h9⟩ := h
  have no : pq sc (d - 1) 105 [.inr (.inr 9), .inl c] GF X = some (some (.inl 0), GF, X) → pq sc d 157 [.inr (.inr 49), .inl c] GF Y = some (some (.inl 0), GF, q_up Y 49 1 0) → ∃ X' Y' x, pq sc d 138 [.inr (.inr 0), .inl c] GF X = some (some (.inl x), GF, X') ∧ pq sc d 157 [.inr (.inr 49), .inl c] GF Y = some (some (.inl x), GF, Y') ∧ Rel X' Y' ∧ CT9 X X' ∧ MT9 Y Y' := fun q1 q2 => by
    refine ⟨X, q_up Y 49 1 0, 0, (pq_e (by omega) (by decide) (Nat.le_of_ble_eq_true rfl) ⟨0 + 1, sg_X11_ask_0.trans ?_⟩), q2, hr, fun _ _ => rfl, MT9_s⟩
    rw [q1, q_cI_s, if_pos (Or.inl rfl)]
  by_cases z1 : c < 32
  · refine no (pq_e (by omega) (by decide) (Nat.le_of_ble_eq_true rfl) ⟨0 + 1, sg_X8_append_0.trans ?_⟩) (pq_e (by omega) (by decide) (Nat.le_of_ble_eq_true rfl) ⟨0 + 1, sg_X12_ask_0.trans ?_⟩)
    · rw [if_pos z1]
    · rw [if_pos z1]
  · by_cases z2 : 126 < c
    · refine no (pq_e (by omega) (by decide) (Nat.le_of_ble_eq_true rfl) ⟨0 + 1, sg_X8_append_0.trans ?_⟩) (pq_e (by omega) (by decide) (Nat.le_of_ble_eq_true rfl) ⟨0 + 1, sg_X12_ask_0.trans ?_⟩)
      · rw [if_neg z1, if_pos z2]
      · rw [if_neg z1, if_pos z2]
    · by_cases z3 : n = 130
      · refine no (pq_e (by omega) (by decide) (Nat.le_of_ble_eq_true rfl) ⟨0 + 1, sg_X8_append_0.trans ?_⟩) (pq_e (by omega) (by decide) (Nat.le_of_ble_eq_true rfl) ⟨0 + 1, sg_X12_ask_0.trans ?_⟩)
        · rw [if_neg z1, if_neg z2, n2, if_neg (by omega), if_neg (by omega)]
        · rw [if_neg z1, if_neg z2, n3, if_pos (by omega)]
      · have hI : 0 ≤ (n : Int) ∧ (n : Int) < ((130 : Nat) : Int) := by omega
        generalize hX2 : q_up (q_up X 10 n c) 9 1 ((n + 1 : Nat) : Int) = X2
        generalize hY2 : q_up (q_up (q_up Y 49 1 0) 57 n c) 49 9 ((n + 1 : Nat) : Int) = Y2
        have q1 : pq sc (d - 1) 105 [.inr (.inr 9), .inl c] GF X = some (some (.inl 1), GF, X2) := by
          refine (pq_e (by omega) (by decide) (Nat.le_of_ble_eq_true rfl) ⟨0 + 1, sg_X8_append_0.trans ?_⟩)
          rw [if_neg z1, if_neg z2, n2, if_neg (by omega), if_pos (by omega), if_pos hI, if_pos (Or.inr (Or.inr ⟨rfl, by omega, by omega⟩)), Int.toNat_natCast, qw1 (by omega), hX2]
        have u : ∀ a, ¬ a = 9 → ¬ a = 10 → X2 a = X a := fun a e1 e2 => by rw [← hX2, q_upf e1, q_upf e2]
        have w : ∀ a, ¬ a = 49 → ¬ a = 57 → Y2 a = Y a := fun a e1 e2 => by rw [← hY2, q_upf e1, q_upf e2, q_upf e1]
        have s : ∀ j, ¬ j = 1 → ¬ j = 9 → Y2 49 j = Y 49 j := fun j e1 e2 => by rw [← hY2, q_up_sn e2, q_upf (by decide), q_up_sn e1]
        have x10 : ∀ i, X2 10 i = if i = n then c else X 10 i := fun i => by
          rw [← hX2, q_up_ne (by decide)]
          by_cases e : i = n
          · subst e; rw [q_up_s, if_pos rfl]
          · rw [q_up_sn e, if_neg e]
        have y57 : ∀ i, Y2 57 i = if i = n then c else Y 57 i := fun i => by
          rw [← hY2, q_up_ne (by decide)]
          by_cases e : i = n
          · subst e; rw [q_up_s, if_pos rfl]
          · rw [q_up_sn e, if_neg e, q_up_ne (by decide)]
        refine ⟨X2, Y2, 1, (pq_e (by omega) (by decide) (Nat.le_of_ble_eq_true rfl) ⟨0 + 1, sg_X11_ask_0.trans ?_⟩), (pq_e (by omega) (by decide) (Nat.le_of_ble_eq_true rfl) ⟨0 + 1, sg_X12_ask_0.trans ?_⟩), ⟨TB_l h1 (fun a _ _ => u a (by omega) (by omega)) (fun a _ _ => w a (by omega) (by omega)) (w 76 (by decide) (by decide)), VL_l h2 (by rw [u 6 (by decide) (by decide)]) (u 7 (by decide) (by decide)) (u 8 (by decide) (by decide)) (s 6 (by decide) (by decide)) (w 55 (by decide) (by decide)) (w 56 (by decide) (by decide)), ⟨n + 1, by omega, ?_, ?_, fun i hi => ?_, fun i hi => ?_⟩, HQ_l h4 (by rw [u 0 (by decide) (by decide)]) (s 22 (by decide) (by decide)) (fun a _ _ => u a (by omega) (by omega)) (fun a _ _ => w a (by omega) (by omega)) (fun j _ _ => s j (by omega) (by omega)) (w 51 (by decide) (by decide)) (NW_l h1.2.2.1 (w 76 (by decide) (by decide)) (w 54 (by decide) (by decide))), by rw [u 0 (by decide) (by decide), s 11 (by decide) (by decide)]; exact h5, by rw [u 46 (by decide) (by decide), s 47 (by decide) (by decide)]; exact h6, RA_l h7 (fun a _ _ => u a (by omega) (by omega)) (s 49 (by decide) (by decide)) (s 23 (by decide) (by decide)) (w 77 (by decide) (by decide)) (w 78 (by decide) (by decide)), by rw [s 26 (by decide) (by decide)]; exact h8, by rw [w 50 (by decide) (by decide)]; exact h9⟩, fun a ha => u a (by omega) (by omega), fun a ha => w a (by omega) (by omega)⟩
        · rw [q1, q_cI_s, if_pos (Or.inr rfl)]
        · rw [if_neg z1, if_neg z2, n3, if_neg (by omega), if_pos hI, if_pos (Or.inr (Or.inr ⟨rfl, by omega, by omega⟩)), Int.toNat_natCast, qw1 (by omega), hY2]
        · rw [← hX2, q_up_s]
        · rw [← hY2, q_up_s]
        · rw [x10, y57, n4 i hi]
        · rw [x10]
          split
          · omega
          · exact n5 i (by omega)
/-- is a table in the query -/
theorem us_T {sc : List Int} {orc : q_O} {X : q_M} {t : Int} : ∀ (m k : Nat), k + m = 3 → ∃ F x, pr sc orc 74 F 2 [some (.inr (.inr 15)), some (.inl t), some (.inl (k : Int))] [] X = some (some (.inl x), GF, X) ∧ ((x = 1 ∧ ∃ i : Nat, k ≤ i ∧ i < 3 ∧ (i : Int) < X 15 7 ∧ X 33 i = t) ∨ (x = 0 ∧ ∀ i : Nat, k ≤ i → i < 3 → (i : Int) < X 15 7 → ¬ X 33 i = t)) := by
  intro m
  induction m with
  | zero =>
    intro k hk
    refine ⟨0 + 1, 0, sg_X5_uses_2.trans ?_, Or.inr ⟨rfl, fun i h1 h2 => by omega⟩⟩
    split
    · rw [if_neg (by omega)]
    · rfl
  | succ m ih =>
    intro k hk
    by_cases z1 : (k : Int) < X 15 7
    · by_cases z2 : X 33 k = t
      · refine ⟨0 + 1, 1, sg_X5_uses_2.trans ?_, Or.inl ⟨rfl, k, Nat.le_refl _, by omega, z1, z2⟩⟩
        rw [if_pos z1, if_pos (by omega), if_pos (by omega), Int.toNat_natCast, if_pos z2]
      · obtain ⟨F, x, q1, hx⟩ := ih (k + 1) (by omega)
        refine ⟨F + 1, x, sg_X5_uses_2.trans ?_, ?_⟩
        · rw [if_pos z1, if_pos (by omega), if_pos (by omega), Int.toNat_natCast, if_neg z2, qw1 (by omega), q1]
        · rcases hx with ⟨e, i, i1, i2⟩ | ⟨e, hx⟩
          · exact Or.inl ⟨e, i, by omega, i2⟩
          · refine Or.inr ⟨e, fun i i1 i2 i3 => ?_⟩
            by_cases zz : i = k
            · subst zz; exact z2
            · exact hx i (by omega) i2 i3
    · refine ⟨0 + 1, 0, sg_X5_uses_2.trans ?_, Or.inr ⟨rfl, fun i h1 h2 h3 => by omega⟩⟩
      rw [if_neg z1]
theorem sp_uses {sc : List Int} {d : Nat} {X : q_M} {t : Int} (hd : 1 ≤ d) : ∃ x, pq sc d 74 [.inr (.inr 15), .inl t] GF X = some (some (.inl x), GF, X) ∧ ((x = 1 ∧ ∃ i : Nat, i < 3 ∧ (i : Int) < X 15 7 ∧ X 33 i = t) ∨ (x = 0 ∧ ∀ i : Nat, i < 3 → (i : Int) < X 15 7 → ¬ X 33 i = t)) := by
  obtain ⟨F, x, q1, hx⟩ := us_T (sc := sc) (orc := pq sc (d - 1)) (X := X) (t := t) 3 0 rfl
  refine ⟨x, (pq_e (by omega) (by decide) (Nat.le_of_ble_eq_true rfl) ⟨F + 1, sg_X5_uses_0.trans ?_⟩), ?_⟩
  · exact q1
  · rcases hx with ⟨e, i, -, i2⟩ | ⟨e, hx⟩
    · exact Or.inl ⟨e, i, i2⟩
    · exact Or.inr ⟨e, fun i => hx i (Nat.zero_le _)⟩
theorem dc_T {sc : List Int} {orc : q_O} {Y0 : q_M} {t : Int} {n : Nat} (hn : Y0 49 26 = n) (h4 : n ≤ 4) : ∀ (m k : Nat) (Y : q_M), k + m = n → (∀ a, ¬ a = 49 → Y a = Y0 a) → (∀ j, ¬ j = 22 → Y 49 j = Y0 49 j) → ∃ F Y', pr sc orc 151 F 42 [some (.inr (.inr 49)), some (.inl t), none, some (.inl (k : Int))] [] Y = some (some (.inl 1), GF, Y') ∧ (∀ a, ¬ a = 49 → Y' a = Y0 a) ∧ (∀ j, ¬ j = 22 → Y' 49 j = Y0 49 j) ∧ (((∃ i : Nat, k ≤ i ∧ i < n ∧ Y0 64 i = t) ∧ Y' 49 22 = 0) ∨ ((∀ i : Nat, k ≤ i → i < n → ¬ Y0 64 i = t) ∧ Y' 49 22 = Y 49 22)) := by
  intro m
  induction m with
  | zero =>
    intro k Y hk h1 h2
    refine ⟨0 + 1, Y, sg_X12_declare_42.trans ?_, h1, h2, Or.inr ⟨fun i i1 i2 => by omega, rfl⟩⟩
    rw [h2 26 (by decide), hn, if_neg (by omega)]
  | succ m ih =>
    intro k Y hk h1 h2
    by_cases z : Y0 64 k = t
    · obtain ⟨F, Y', q1, r1, r2, r3⟩ := ih (k + 1) (q_up Y 49 22 0) (by omega) (fun a e => by rw [q_upf e]; exact h1 a e) (fun j e => by rw [q_up_sn e]; exact h2 j e)
      refine ⟨F + 1, Y', sg_X12_declare_42.trans ?_, r1, r2, Or.inl ⟨⟨k, Nat.le_refl _, by omega, z⟩, ?_⟩⟩
      · rw [h2 26 (by decide), hn, if_pos (by omega), if_pos (by omega), Int.toNat_natCast, h1 64 (by decide), if_pos z, qw1 (by omega), q1]
      · rcases r3 with ⟨-, e⟩ | ⟨-, e⟩
        · exact e
        · rw [e, q_up_s]
    · obtain ⟨F, Y', q1, r1, r2, r3⟩ := ih (k + 1) Y (by omega) h1 h2
      refine ⟨F + 1, Y', sg_X12_declare_42.trans ?_, r1, r2, ?_⟩
      · rw [h2 26 (by decide), hn, if_pos (by omega), if_pos (by omega), Int.toNat_natCast, h1 64 (by decide), if_neg z, qw1 (by omega), q1]
      · rcases r3 with ⟨⟨i, i1, i2⟩, e⟩ | ⟨a, e⟩
        · exact Or.inl ⟨⟨i, by omega, i2⟩, e⟩
        · refine Or.inr ⟨fun i i1 i2 => ?_, e⟩
          by_cases zz : i = k
          · subst zz; exact z
          · exact a i (by omega) i2
/-- another table's width is nothing to the query -/
theorem NB_t {W W' C : Nat → Int} (h : NBd W C) (hT : TI C (qTl C)) (e : ∀ (k tk : Nat), (qTl C)[k]? = some tk → W' (C tk - 84).toNat = W (C tk - 84).toNat) : NBd W' C := by
  refine ⟨fun x hx hc => ?_, h.2⟩
  obtain ⟨a1, a2, a3⟩ := h.1 x hx hc
  refine ⟨a1, a2, ?_⟩
  have hr : itm C (qTl C) (C x.1) < ((qTl C).length : Int) := itm_r
  have hg : (qTl C)[(itm C (qTl C) (C x.1)).toNat]? = some (qTl C)[(itm C (qTl C) (C x.1)).toNat] := List.getElem?_eq_getElem (by omega)
  unfold wof at a3 ⊢
  rw [List.getD_eq_getElem?_getD, hg] at a3 ⊢
  dsimp only [Option.getD_some] at a3 ⊢
  rw [e _ _ hg]; exact a3
theorem st_declare {sc : List Int} {d : Nat} {X Y : q_M} {t w : Int} (h : Rel X Y) (hd : 2 ≤ d) : ∃ X' Y' x, pq sc d 133 [.inr (.inr 0), .inl t, .inl w] GF X = some (some (.inl x), GF, X') ∧ pq sc d 151 [.inr (.inr 49), .inl t, .inl w] GF Y = some (some (.inl x), GF, Y') ∧ Rel X' Y' ∧ CT9 X X' ∧ MT9 Y Y' := by
  have no : pq sc (d - 1) 98 [.inr (.inr 1), .inl t, .inl w] GF X = some (some (.inl 0), GF, X) → pq sc d 151 [.inr (.inr 49), .inl t, .inl w] GF Y = some (some (.inl 0), GF, q_up Y 49 1 0) → ∃ X' Y' x, pq sc d 133 [.inr (.inr 0), .inl t, .inl w] GF X = some (some (.inl x), GF, X') ∧ pq sc d 151 [.inr (.inr 49), .inl t, .inl w] GF Y = some (some (.inl x), GF, Y') ∧ Rel X' Y' ∧ CT9 X X' ∧ MT9 Y Y' := fun q1 q2 => by
    refine ⟨X, q_up Y 49 1 0, 0, (pq_e (by omega) (by decide) (Nat.le_of_ble_eq_true rfl) ⟨0 + 1, sg_X11_declare_0.trans ?_⟩), q2, Rel_s h, fun _ _ => rfl, MT9_s⟩
    rw [q1, q_cI_s, if_pos rfl]
  by_cases z1 : t < 0
  · refine no (pq_e (by omega) (by decide) (Nat.le_of_ble_eq_true rfl) ⟨0 + 1, sg_X7_make_0.trans ?_⟩) (pq_e (by omega) (by decide) (Nat.le_of_ble_eq_true rfl) ⟨0 + 1, sg_X12_declare_0.trans ?_⟩)
    · rw [if_pos z1]
    · rw [if_pos z1]
  · by_cases z2 : 2 < t
    · refine no (pq_e (by omega) (by decide) (Nat.le_of_ble_eq_true rfl) ⟨0 + 1, sg_X7_make_0.trans ?_⟩) (pq_e (by omega) (by decide) (Nat.le_of_ble_eq_true rfl) ⟨0 + 1, sg_X12_declare_0.trans ?_⟩)
      · rw [if_neg z1, if_neg (by omega)]
      · rw [if_neg z1, if_pos z2]
    · by_cases z3 : w < 1
      · refine no (pq_e (by omega) (by decide) (Nat.le_of_ble_eq_true rfl) ⟨0 + 1, sg_X7_make_0.trans ?_⟩) (pq_e (by omega) (by decide) (Nat.le_of_ble_eq_true rfl) ⟨0 + 1, sg_X12_declare_0.trans ?_⟩)
        · rw [if_neg z1, if_pos (by omega), if_pos z3]
        · rw [if_neg z1, if_neg z2, if_pos z3]
      · by_cases z4 : 4 < w
        · refine no (pq_e (by omega) (by decide) (Nat.le_of_ble_eq_true rfl) ⟨0 + 1, sg_X7_make_0.trans ?_⟩) (pq_e (by omega) (by decide) (Nat.le_of_ble_eq_true rfl) ⟨0 + 1, sg_X12_declare_0.trans ?_⟩)
          · rw [if_neg z1, if_pos (by omega), if_neg z3, if_pos z4]
          · rw [if_neg z1, if_neg z2, if_neg z3, if_pos z4]
        · obtain ⟨k, rfl⟩ : ∃ k : Nat, t = k := ⟨t.toNat, by omega⟩
          have hI : 0 ≤ (k : Int) ∧ (k : Int) < ((3 : Nat) : Int) := by omega
          generalize hX2 : q_up (q_up X 2 k w) 3 k 0 = X2
          generalize hY2 : q_up (q_up (q_up Y 49 1 0) 51 k w) 52 k 0 = Y2
          have q1 : pq sc (d - 1) 98 [.inr (.inr 1), .inl (k : Int), .inl w] GF X = some (some (.inl 1), GF, X2) := by
            refine (pq_e (by omega) (by decide) (Nat.le_of_ble_eq_true rfl) ⟨0 + 1, sg_X7_make_0.trans ?_⟩)
            rw [if_neg z1, if_pos (by omega), if_neg z3, if_neg z4, if_pos hI, if_pos hI, Int.toNat_natCast, hX2]
          obtain ⟨x, q2, hx⟩ := sp_uses (sc := sc) (d := d - 1) (X := X2) (t := (k : Int)) (by omega)
          have u : ∀ a, ¬ a = 2 → ¬ a = 3 → X2 a = X a := fun a e1 e2 => by rw [← hX2, q_upf e2, q_upf e1]
          have v : ∀ a, ¬ a = 49 → ¬ a = 51 → ¬ a = 52 → Y2 a = Y a := fun a e1 e2 e3 => by rw [← hY2, q_upf e3, q_upf e2, q_upf e1]
          have s : ∀ j, ¬ j = 1 → Y2 49 j = Y 49 j := fun j e => by rw [← hY2, q_upf (by decide), q_upf (by decide), q_up_sn e]
          obtain ⟨h1, h2, h3, h4, h5, h6, h7, h8, h9⟩ := h
          obtain ⟨F, Y3, q3, r1, r2, r3⟩ := dc_T (sc := sc) (orc := pq sc (d - 1)) (Y0 := Y2) (t := (k : Int)) (n := (Y 49 26).toNat) (by rw [s 26 (by decide)]; omega) (by omega) (Y 49 26).toNat 0 Y2 (by omega) (fun _ _ => rfl) (fun _ _ => rfl)
          rw [Int.natCast_zero] at q3
          generalize hX3 : (if x = 0 then X2 else q_up X2 0 9 0) = X3
          have u3 : ∀ a, ¬ a = 0 → X3 a = X2 a := fun a e => by
            rw [← hX3]; split
            · rfl
            · rw [q_upf e]
          have s3 : ∀ j, ¬ j = 9 → X3 0 j = X2 0 j := fun j e => by
            rw [← hX3]; split
            · rfl
            · rw [q_up_sn e]
          have x2 : ∀ j, X2 2 j = if j = k then w else X 2 j := fun j => by
            rw [← hX2, q_up_ne (by decide)]
            by_cases e : j = k
            · subst e; rw [q_up_s, if_pos rfl]
            · rw [q_up_sn e, if_neg e]
          have x3 : ∀ j, X2 3 j = if j = k then 0 else X 3 j := fun j => by
            rw [← hX2]
            by_cases e : j = k
            · subst e; rw [q_up_s, if_pos rfl]
            · rw [q_up_sn e, if_neg e, q_up_ne (by decide)]
          have y51 : ∀ j, Y2 51 j = if j = k then w else Y 51 j := fun j => by
            rw [← hY2, q_up_ne (by decide)]
            by_cases e : j = k
            · subst e; rw [q_up_s, if_pos rfl]
            · rw [q_up_sn e, if_neg e, q_up_ne (by decide)]
          have y52 : ∀ j, Y2 52 j = if j = k then 0 else Y 52 j := fun j => by
            rw [← hY2]
            by_cases e : j = k
            · subst e; rw [q_up_s, if_pos rfl]
            · rw [q_up_sn e, if_neg e, q_up_ne (by decide), q_up_ne (by decide)]
          have nw : NW Y3 := NW_l h1.2.2.1 (by rw [r1 76 (by decide), v 76 (by decide) (by decide) (by decide)]) (by rw [r1 54 (by decide), v 54 (by decide) (by decide) (by decide)])
          have hq : HQr X3 Y3 := by
            rcases h4 with ⟨g1, g2⟩ | ⟨g1, g2, C, P, N, ls, tp, md, g3⟩
            · left
              constructor
              · rw [← hX3]; split
                · rw [u 0 (by decide) (by decide)]; exact g1
                · rw [q_up_s]
              · rcases r3 with ⟨-, e⟩ | ⟨-, e⟩
                · exact e
                · rw [e, s 22 (by decide)]; exact g2
            · obtain ⟨i1, i2, i3, i4, i5⟩ := rs_item g3
              rcases r3 with ⟨⟨i, -, j2, j3⟩, e⟩ | ⟨jn, e⟩
              · -- it is in the query
                have hi : i < (qTl C).length := by omega
                obtain ⟨tk, lf, k1, k2, k3, k4, -⟩ := i5 i hi
                rw [v 64 (by decide) (by decide) (by decide), k4] at j3
                left
                refine ⟨?_, e⟩
                rcases hx with ⟨x1, -⟩ | ⟨-, hn⟩
                · rw [← hX3, if_neg (by omega), q_up_s]
                · exact absurd (show X2 33 i = (k : Int) by rw [u 33 (by decide) (by decide), k2]; exact j3) (hn i (by omega) (by rw [u 15 (by decide) (by decide), i1]; omega))
              · right
                have x0 : x = 0 := by
                  rcases hx with ⟨-, i, m1, m2, m3⟩ | ⟨z, -⟩
                  · rw [u 15 (by decide) (by decide), i1] at m2
                    rw [u 33 (by decide) (by decide)] at m3
                    obtain ⟨tk, lf, k1, k2, k3, k4, -⟩ := i5 i (by omega)
                    exact absurd (show Y2 64 i = (k : Int) by rw [v 64 (by decide) (by decide) (by decide), k4, ← k2]; exact m3) (jn i (Nat.zero_le _) (by omega))
                  · exact z
                refine ⟨?_, by rw [e, s 22 (by decide)]; exact g2, C, P, N, ls, tp, md, RS_l g3 (fun a _ _ => by rw [u3 a (by omega), u a (by omega) (by omega)]) (fun a _ _ => by rw [r1 a (by omega), v a (by omega) (by omega) (by omega)]) (fun j _ _ => by rw [r2 j (by omega), s j (by omega)]) (NB_t g3.2.2.2.2.2.2.1 (fun t ht => by have := g3.2.1.1.2 t ht; exact ⟨this.1, this.2.1, this.2.2.1, this.2.2.2.1⟩) (fun i tk hi => ?_)) nw⟩
                · rw [← hX3, if_pos x0, u 0 (by decide) (by decide)]; exact g1
                · have hil := (List.getElem?_eq_some_iff.mp hi).1
                  obtain ⟨tk', lf, k1, k2, k3, k4, -, k6, k7⟩ := i5 i hil
                  rw [hi] at k1; cases k1
                  have := jn i (Nat.zero_le _) (by omega)
                  rw [v 64 (by decide) (by decide) (by decide), k4] at this
                  rw [r1 51 (by decide), y51, if_neg (by omega)]
          refine ⟨X3, Y3, 1, (pq_e (by omega) (by decide) (Nat.le_of_ble_eq_true rfl) ⟨0 + 1, sg_X11_declare_0.trans ?_⟩), (pq_e (by omega) (by decide) (Nat.le_of_ble_eq_true rfl) ⟨F + 1, sg_X12_declare_0.trans ?_⟩), ⟨⟨⟨fun i hi => ?_, fun i l c hi hl hc => ?_⟩, ?_, nw, ?_, fun i hi => ?_⟩, VL_l h2 (by rw [u3 6 (by decide), u 6 (by decide) (by decide)]) (by rw [u3 7 (by decide), u 7 (by decide) (by decide)]) (by rw [u3 8 (by decide), u 8 (by decide) (by decide)]) (by rw [r2 6 (by decide), s 6 (by decide)]) (by rw [r1 55 (by decide), v 55 (by decide) (by decide) (by decide)]) (by rw [r1 56 (by decide), v 56 (by decide) (by decide) (by decide)]), TX_l h3 (by rw [u3 9 (by decide), u 9 (by decide) (by decide)]) (by rw [u3 10 (by decide), u 10 (by decide) (by decide)]) (by rw [r2 9 (by decide), s 9 (by decide)]) (by rw [r1 57 (by decide), v 57 (by decide) (by decide) (by decide)]), hq, ?_, ?_, RA_l h7 (fun a _ _ => by rw [u3 a (by omega), u a (by omega) (by omega)]) (by rw [r2 49 (by decide), s 49 (by decide)]) (by rw [r2 23 (by decide), s 23 (by decide)]) (by rw [r1 77 (by decide), v 77 (by decide) (by decide) (by decide)]) (by rw [r1 78 (by decide), v 78 (by decide) (by decide) (by decide)]), ?_, ?_⟩, fun a ha => by rw [u3 a (by omega), u a (by omega) (by omega)], fun a ha => by rw [r1 a (by omega), v a (by omega) (by omega) (by omega)]⟩
          · rw [q1, q_cI_s, if_neg (by decide), q2, q_cI_s, ← hX3]
            split <;> rfl
          · rw [if_neg z1, if_neg z2, if_neg z3, if_neg z4, if_pos hI, if_pos hI, Int.toNat_natCast, hY2]
            exact q3
          · rw [u3 2 (by decide), u3 3 (by decide), r1 51 (by decide), r1 52 (by decide), x2, x3, y51, y52]
            by_cases e : i = k
            · rw [if_pos e, if_pos e, if_pos e, if_pos e]; refine ⟨rfl, rfl, ?_⟩; omega
            · rw [if_neg e, if_neg e, if_neg e, if_neg e]; exact h1.1.1 i hi
          · rw [r1 52 (by decide), y52] at hl
            rw [r1 51 (by decide), y51] at hc
            by_cases e : i = k
            · rw [if_pos e] at hl; omega
            · rw [if_neg e] at hl hc
              rw [u3 4 (by decide), u3 5 (by decide), r1 53 (by decide), r1 54 (by decide), u 4 (by decide) (by decide), u 5 (by decide) (by decide), v 53 (by decide) (by decide) (by decide), v 54 (by decide) (by decide) (by decide)]
              exact h1.1.2 i l c hi hl hc
          · have := h1.2.1
            unfold RN at this ⊢
            rw [r1 53 (by decide), v 53 (by decide) (by decide) (by decide)]; exact this
          · rw [u3 5 (by decide), u 5 (by decide) (by decide)]; exact h1.2.2.2.1
          · rw [r1 51 (by decide), r1 52 (by decide), y51, y52]
            by_cases e : i = k
            · rw [if_pos e, if_pos e]; intro _; rfl
            · rw [if_neg e, if_neg e]; exact h1.2.2.2.2 i hi
          · rw [s3 10 (by decide), u 0 (by decide) (by decide), r2 11 (by decide), s 11 (by decide)]; exact h5
          · rw [u3 46 (by decide), u 46 (by decide) (by decide), r2 47 (by decide), s 47 (by decide)]; exact h6
          · rw [r2 26 (by decide), s 26 (by decide)]; exact h8
          · rw [r1 50 (by decide), v 50 (by decide) (by decide) (by decide)]; exact h9
