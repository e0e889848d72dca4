/-! class and model side by side -/
def VLr (X Y : q_M) : Prop := ∃ v : Nat, v ≤ 4 ∧ X 6 2 = v ∧ Y 49 6 = v ∧ ∀ k, k < v → X 7 k = Y 55 k ∧ X 8 k = Y 56 k ∧ b01 (Y 56 k) ∧ -2147483648 ≤ Y 55 k ∧ Y 55 k < 2147483648
def TXr (X Y : q_M) : Prop := ∃ len : Nat, len ≤ 130 ∧ X 9 1 = len ∧ Y 49 9 = len ∧ (∀ i, i < 130 → Y 57 i = X 10 i) ∧ ∀ i, i < len → 32 ≤ X 10 i ∧ X 10 i ≤ 126
def HQr (X Y : q_M) : Prop := (X 0 9 = 0 ∧ Y 49 22 = 0) ∨ (X 0 9 = 1 ∧ Y 49 22 = 1 ∧ ∃ C P N ls tp md, RS X Y C P N ls tp md)
def RAr (X Y : q_M) : Prop := ∃ h : Nat, h ≤ 30 ∧ X 43 3 = h ∧ Y 49 49 = h ∧ (0 < h → ∃ w : Nat, w ≤ 4 ∧ X 43 2 = w ∧ Y 49 23 = w ∧ ∀ r k : Nat, r < h → k < w → X 44 (4 * r + k) = Y 78 (4 * r + k) ∧ X 45 (4 * r + k) = Y 77 (4 * r + k) ∧ b01 (Y 77 (4 * r + k)) ∧ (Y 77 (4 * r + k) = 1 → Y 78 (4 * r + k) = 0))
def TBr (X Y : q_M) : Prop := DB X Y ∧ RN Y ∧ NW Y ∧ (∀ n, n < 120 → b01 (X 5 n)) ∧ ∀ t, t < 3 → Y 51 t = 0 → Y 52 t = 0
def Rel (X Y : q_M) : Prop := TBr X Y ∧ VLr X Y ∧ TXr X Y ∧ HQr X Y ∧ X 0 10 = Y 49 11 ∧ X 46 8 = Y 49 47 ∧ RAr X Y ∧ (0 ≤ Y 49 26 ∧ Y 49 26 ≤ 4) ∧ WD (Y 50)
theorem QC_l {X X' : q_M} {C N : Nat → Int} (h : QC X C N) (e : ∀ a, 15 ≤ a → a ≤ 40 → X' a = X a) : QC X' C N := by
  unfold QC UQ GQ SA SS io at h ⊢
  rw [e 15 (by decide) (by decide), e 16 (by decide) (by decide), e 19 (by decide) (by decide), e 21 (by decide) (by decide), e 22 (by decide) (by decide), e 23 (by decide) (by decide), e 24 (by decide) (by decide), e 25 (by decide) (by decide), e 26 (by decide) (by decide), e 27 (by decide) (by decide), e 28 (by decide) (by decide), e 29 (by decide) (by decide), e 30 (by decide) (by decide), e 31 (by decide) (by decide), e 33 (by decide) (by decide), e 37 (by decide) (by decide), e 38 (by decide) (by decide), e 39 (by decide) (by decide), e 40 (by decide) (by decide)]
  exact h
theorem QM_l {Y Y' : q_M} {C P N : Nat → Int} {ls : List (Nat × Nat)} (h : QM Y C P N ls) (e : ∀ a, 58 ≤ a → a ≤ 72 → Y' a = Y a) (s : ∀ j, 23 ≤ j → j ≤ 40 → Y' 49 j = Y 49 j) : QM Y' C P N ls := by
  obtain ⟨⟨h1, h2, h3, h4, h5, h6, h7⟩, hP, hG⟩ := h
  refine ⟨⟨?_, h2, ?_, MO_fr h4 (e 62 (by decide) (by decide)) (e 63 (by decide) (by decide)) (s 23 (by decide) (by decide)), MG_fr h5 (e 69 (by decide) (by decide)) (s 34 (by decide) (by decide)), by rw [s 32 (by decide) (by decide)]; exact h6, by rw [s 33 (by decide) (by decide)]; exact h7⟩, ?_, by rw [s 40 (by decide) (by decide)]; exact hG⟩
  · unfold MK at h1 ⊢
    rw [e 58 (by decide) (by decide), e 59 (by decide) (by decide), e 60 (by decide) (by decide)]; exact h1
  · unfold MI at h3 ⊢
    rw [e 64 (by decide) (by decide), e 65 (by decide) (by decide), e 66 (by decide) (by decide), e 67 (by decide) (by decide), e 68 (by decide) (by decide), s 26 (by decide) (by decide)]; exact h3
  · unfold PM at hP ⊢
    rw [s 36 (by decide) (by decide), e 70 (by decide) (by decide), e 71 (by decide) (by decide), e 72 (by decide) (by decide)]; exact hP
theorem RS_l {X X' Y Y' : q_M} {C P N : Nat → Int} {ls : List (Nat × Nat)} {tp : List (Nat × Nat × Nat)} {md : Nat} (h : RS X Y C P N ls tp md) (ex : ∀ a, 15 ≤ a → a ≤ 40 → X' a = X a) (ey : ∀ a, 58 ≤ a → a ≤ 72 → Y' a = Y a) (s : ∀ j, 23 ≤ j → j ≤ 40 → Y' 49 j = Y 49 j) (hN : NBd (Y' 51) C) (hw : NW Y') : RS X' Y' C P N ls tp md := by
  obtain ⟨h1, h2, h3, h4, h5, h6, h7, h8⟩ := h
  exact ⟨h1, h2, h3, QC_l h4 ex, QM_l h5 ey s, h6, hN, hw⟩
theorem HQ_l {X X' Y Y' : q_M} (h : HQr X Y) (e0 : X' 0 9 = X 0 9) (e22 : Y' 49 22 = Y 49 22) (ex : ∀ a, 15 ≤ a → a ≤ 40 → X' a = X a) (ey : ∀ a, 58 ≤ a → a ≤ 72 → Y' a = Y a) (s : ∀ j, 23 ≤ j → j ≤ 40 → Y' 49 j = Y 49 j) (h51 : Y' 51 = Y 51) (hw : NW Y') : HQr X' Y' := by
  unfold HQr
  rw [e0, e22]
  rcases h with h | ⟨h1, h2, C, P, N, ls, tp, md, h3⟩
  · exact Or.inl h
  · exact Or.inr ⟨h1, h2, C, P, N, ls, tp, md, RS_l h3 ex ey s (by rw [h51]; exact h3.2.2.2.2.2.2.1) hw⟩
theorem NW_l {Y Y' : q_M} (h : NW Y) (h1 : Y' 76 = Y 76) (h2 : Y' 54 = Y 54) : NW Y' := by
  unfold NW at h ⊢
  rw [h1, h2]; exact h
theorem TB_l {X X' Y Y' : q_M} (h : TBr X Y) (ex : ∀ a, 2 ≤ a → a ≤ 5 → X' a = X a) (ey : ∀ a, 51 ≤ a → a ≤ 54 → Y' a = Y a) (h76 : Y' 76 = Y 76) : TBr X' Y' := by
  obtain ⟨h1, h2, h3, h4, h5⟩ := h
  refine ⟨?_, ?_, NW_l h3 h76 (ey 54 (by decide) (by decide)), by rw [ex 5 (by decide) (by decide)]; exact h4, by rw [ey 51 (by decide) (by decide), ey 52 (by decide) (by decide)]; exact h5⟩
  · unfold DB at h1 ⊢
    rw [ex 2 (by decide) (by decide), ex 3 (by decide) (by decide), ex 4 (by decide) (by decide), ex 5 (by decide) (by decide), ey 51 (by decide) (by decide), ey 52 (by decide) (by decide), ey 53 (by decide) (by decide), ey 54 (by decide) (by decide)]; exact h1
  · unfold RN at h2 ⊢
    rw [ey 53 (by decide) (by decide)]; exact h2
theorem VL_l {X X' Y Y' : q_M} (h : VLr X Y) (e6 : X' 6 2 = X 6 2) (e7 : X' 7 = X 7) (e8 : X' 8 = X 8) (s6 : Y' 49 6 = Y 49 6) (s5 : Y' 55 = Y 55) (s7 : Y' 56 = Y 56) : VLr X' Y' := by
  unfold VLr at h ⊢
  rw [e6, e7, e8, s6, s5, s7]; exact h
theorem TX_l {X X' Y Y' : q_M} (h : TXr X Y) (e9 : X' 9 1 = X 9 1) (e10 : X' 10 = X 10) (s9 : Y' 49 9 = Y 49 9) (s57 : Y' 57 = Y 57) : TXr X' Y' := by
  unfold TXr at h ⊢
  rw [e9, e10, s9, s57]; exact h
theorem RA_l {X X' Y Y' : q_M} (h : RAr X Y) (ex : ∀ a, 43 ≤ a → a ≤ 45 → X' a = X a) (s49 : Y' 49 49 = Y 49 49) (s23 : Y' 49 23 = Y 49 23) (s77 : Y' 77 = Y 77) (s78 : Y' 78 = Y 78) : RAr X' Y' := by
  unfold RAr at h ⊢
  rw [ex 43 (by decide) (by decide), ex 44 (by decide) (by decide), ex 45 (by decide) (by decide), s49, s23, s77, s78]; exact h
/-- only the class's things and the model's matter -/
theorem Rel_l {X X' Y Y' : q_M} (h : Rel X Y) (ex : ∀ a, a < 49 → X' a = X a) (ey : ∀ a, 49 ≤ a → a ≤ 80 → Y' a = Y a) : Rel X' Y' := by
  obtain ⟨h1, h2, h3, h4, h5, h6, h7, h8, h9⟩ := h
  have e49 := ey 49 (by decide) (by decide)
  refine ⟨TB_l h1 (fun a _ _ => ex a (by omega)) (fun a _ _ => ey a (by omega) (by omega)) (ey 76 (by decide) (by decide)), VL_l h2 (by rw [ex 6 (by decide)]) (ex 7 (by decide)) (ex 8 (by decide)) (by rw [e49]) (ey 55 (by decide) (by decide)) (ey 56 (by decide) (by decide)), TX_l h3 (by rw [ex 9 (by decide)]) (ex 10 (by decide)) (by rw [e49]) (ey 57 (by decide) (by decide)), HQ_l h4 (by rw [ex 0 (by decide)]) (by rw [e49]) (fun a _ _ => ex a (by omega)) (fun a _ _ => ey a (by omega) (by omega)) (fun j _ _ => by rw [e49]) (ey 51 (by decide) (by decide)) (NW_l h1.2.2.1 (ey 76 (by decide) (by decide)) (ey 54 (by decide) (by decide))), by rw [ex 0 (by decide), e49]; exact h5, by rw [ex 46 (by decide), e49]; exact h6, RA_l h7 (fun a _ _ => ex a (by omega)) (by rw [e49]) (by rw [e49]) (ey 77 (by decide) (by decide)) (ey 78 (by decide) (by decide)), by rw [e49]; exact h8, by rw [ey 50 (by decide) (by decide)]; exact h9⟩
/-- what a call may touch -/
def CT9 (X X' : q_M) : Prop := ∀ a, 49 ≤ a → X' a = X a
def MT9 (Y Y' : q_M) : Prop := ∀ a, a < 49 ∨ 80 < a → Y' a = Y a
/-- only slots of the model that no one asks for -/
theorem Rel_s {X Y : q_M} {v : Int} (h : Rel X Y) : Rel X (q_up Y 49 1 v) := by
  have u : ∀ a, ¬ a = 49 → q_up Y 49 1 v a = Y a := fun a e => q_upf e
  have w : ∀ j, ¬ j = 1 → q_up Y 49 1 v 49 j = Y 49 j := fun j e => q_up_sn e
  obtain ⟨h1, h2, h3, h4, h5, h6, h7, h8, h9⟩ := h
  refine ⟨TB_l h1 (fun _ _ _ => rfl) (fun a _ _ => u a (by omega)) (u 76 (by decide)), VL_l h2 rfl rfl rfl (w 6 (by decide)) (u 55 (by decide)) (u 56 (by decide)), TX_l h3 rfl rfl (w 9 (by decide)) (u 57 (by decide)), HQ_l h4 rfl (w 22 (by decide)) (fun _ _ _ => rfl) (fun a _ _ => u a (by omega)) (fun j _ _ => w j (by omega)) (u 51 (by decide)) (NW_l h1.2.2.1 (u 76 (by decide)) (u 54 (by decide))), by rw [w 11 (by decide)]; exact h5, by rw [w 47 (by decide)]; exact h6, RA_l h7 (fun _ _ _ => rfl) (w 49 (by decide)) (w 23 (by decide)) (u 77 (by decide)) (u 78 (by decide)), by rw [w 26 (by decide)]; exact h8, by rw [u 50 (by decide)]; exact h9⟩
theorem MT9_s {Y : q_M} {j : Nat} {v : Int} : MT9 Y (q_up Y 49 j v) := fun a ha => q_upf (by omega)
/-! the calls that only look -/
theorem st_place {sc : List Int} {d : Nat} {X Y : q_M} (h : Rel X Y) (hd : 1 ≤ d) : ∃ X' Y' x, pq sc d 140 [.inr (.inr 0)] GF X = some (some (.inl x), GF, X') ∧ pq sc d 189 [.inr (.inr 49)] GF Y = some (some (.inl x), GF, Y') ∧ Rel X' Y' ∧ CT9 X X' ∧ MT9 Y Y' := by
  refine ⟨X, q_up Y 49 1 0, X 0 10, (pq_e (by omega) (by decide) (Nat.le_of_ble_eq_true rfl) ⟨0 + 1, sg_X11_place_0.trans ?_⟩), (pq_e (by omega) (by decide) (Nat.le_of_ble_eq_true rfl) ⟨0 + 1, sg_X12_place_0.trans ?_⟩), Rel_s h, fun _ _ => rfl, MT9_s⟩
  · rfl
  · rw [h.2.2.2.2.1]
theorem st_looked {sc : List Int} {d : Nat} {X Y : q_M} (h : Rel X Y) (hd : 2 ≤ d) : ∃ X' Y' x, pq sc d 142 [.inr (.inr 0)] GF X = some (some (.inl x), GF, X') ∧ pq sc d 209 [.inr (.inr 49)] GF Y = some (some (.inl x), GF, Y') ∧ Rel X' Y' ∧ CT9 X X' ∧ MT9 Y Y' := by
  have q1 : pq sc (d - 1) 15 [.inr (.inr 46)] GF X = some (some (.inl (X 46 8)), GF, X) := by
    refine (pq_e (by omega) (by decide) (Nat.le_of_ble_eq_true rfl) ⟨0 + 1, sg_X2_seen_0.trans ?_⟩)
    rfl
  refine ⟨X, q_up Y 49 1 0, X 46 8, (pq_e (by omega) (by decide) (Nat.le_of_ble_eq_true rfl) ⟨0 + 1, sg_X11_looked_0.trans ?_⟩), (pq_e (by omega) (by decide) (Nat.le_of_ble_eq_true rfl) ⟨0 + 1, sg_X12_looked_0.trans ?_⟩), Rel_s h, fun _ _ => rfl, MT9_s⟩
  · rw [q1, q_cI_s]
  · rw [h.2.2.2.2.2.1]
theorem st_rows {sc : List Int} {d : Nat} {X Y : q_M} (h : Rel X Y) (hd : 2 ≤ d) : ∃ X' Y' x, pq sc d 143 [.inr (.inr 0)] GF X = some (some (.inl x), GF, X') ∧ pq sc d 210 [.inr (.inr 49)] GF Y = some (some (.inl x), GF, Y') ∧ Rel X' Y' ∧ CT9 X X' ∧ MT9 Y Y' := by
  obtain ⟨n, a1, a2, a3, -⟩ := h.2.2.2.2.2.2.1
  have q1 := sp_aheight (sc := sc) (d := d - 1) (M := X) (by omega)
  refine ⟨X, q_up Y 49 1 0, X 43 3, (pq_e (by omega) (by decide) (Nat.le_of_ble_eq_true rfl) ⟨0 + 1, sg_X11_rows_0.trans ?_⟩), (pq_e (by omega) (by decide) (Nat.le_of_ble_eq_true rfl) ⟨0 + 1, sg_X12_rows_0.trans ?_⟩), Rel_s h, fun _ _ => rfl, MT9_s⟩
  · rw [q1, q_cI_s]
  · rw [a2, a3]
/-- is there a cell -/
theorem sp_hasA {sc : List Int} {d : Nat} {X Y : q_M} {r k : Int} (h : Rel X Y) (hd : 1 ≤ d) : (pq sc d 4 [.inr (.inr 43), .inl r, .inl k] GF X = some (some (.inl 0), GF, X) ∧ pq sc d 211 [.inr (.inr 49), .inl r, .inl k] GF (q_up Y 49 1 0) = some (some (.inl 0), GF, q_up Y 49 1 0)) ∨ (pq sc d 211 [.inr (.inr 49), .inl r, .inl k] GF (q_up Y 49 1 0) = some (some (.inl 1), GF, q_up Y 49 1 0) ∧ ∃ n w r' k' : Nat, n ≤ 30 ∧ X 43 3 = n ∧ w ≤ 4 ∧ X 43 2 = w ∧ r = r' ∧ r' < n ∧ k = k' ∧ k' < w ∧ X 44 (4 * r' + k') = Y 78 (4 * r' + k') ∧ X 45 (4 * r' + k') = Y 77 (4 * r' + k') ∧ b01 (Y 77 (4 * r' + k')) ∧ (Y 77 (4 * r' + k') = 1 → Y 78 (4 * r' + k') = 0)) := by
  obtain ⟨n, a1, a2, a3, a4⟩ := h.2.2.2.2.2.2.1
  have e49 : q_up Y 49 1 0 49 49 = n := by rw [q_up_sn (by decide)]; exact a3
  have e23 : q_up Y 49 1 0 49 23 = Y 49 23 := q_up_sn (by decide)
  by_cases z1 : r < 0
  · left
    constructor
    · refine (pq_e (by omega) (by decide) (Nat.le_of_ble_eq_true rfl) ⟨0 + 1, sg_X0_has_0.trans ?_⟩)
      rw [if_pos z1]
    · refine (pq_e (by omega) (by decide) (Nat.le_of_ble_eq_true rfl) ⟨0 + 1, sg_X12_isThere_0.trans ?_⟩)
      rw [if_pos z1]
  · by_cases z2 : r < (n : Int)
    · obtain ⟨w, b1, b2, b3, b4⟩ := a4 (by omega)
      by_cases z3 : k < 0
      · left
        constructor
        · refine (pq_e (by omega) (by decide) (Nat.le_of_ble_eq_true rfl) ⟨0 + 1, sg_X0_has_0.trans ?_⟩)
          rw [if_neg z1, a2, if_pos z2, if_pos (by omega), if_pos z3]
        · refine (pq_e (by omega) (by decide) (Nat.le_of_ble_eq_true rfl) ⟨0 + 1, sg_X12_isThere_0.trans ?_⟩)
          rw [if_neg z1, e49, if_pos z2, if_pos z3]
      · by_cases z4 : k < (w : Int)
        · right
          refine ⟨(pq_e (by omega) (by decide) (Nat.le_of_ble_eq_true rfl) ⟨0 + 1, sg_X12_isThere_0.trans ?_⟩), n, w, r.toNat, k.toNat, a1, a2, b1, b2, by omega, by omega, by omega, by omega, b4 r.toNat k.toNat (by omega) (by omega)⟩
          rw [if_neg z1, e49, if_pos z2, if_neg z3, e23, b3, if_pos z4]
        · left
          constructor
          · refine (pq_e (by omega) (by decide) (Nat.le_of_ble_eq_true rfl) ⟨0 + 1, sg_X0_has_0.trans ?_⟩)
            rw [if_neg z1, a2, if_pos z2, if_pos (by omega), if_neg z3, b2, if_neg z4]
          · refine (pq_e (by omega) (by decide) (Nat.le_of_ble_eq_true rfl) ⟨0 + 1, sg_X12_isThere_0.trans ?_⟩)
            rw [if_neg z1, e49, if_pos z2, if_neg z3, e23, b3, if_neg z4]
    · left
      constructor
      · refine (pq_e (by omega) (by decide) (Nat.le_of_ble_eq_true rfl) ⟨0 + 1, sg_X0_has_0.trans ?_⟩)
        rw [if_neg z1, a2, if_neg z2]
      · refine (pq_e (by omega) (by decide) (Nat.le_of_ble_eq_true rfl) ⟨0 + 1, sg_X12_isThere_0.trans ?_⟩)
        rw [if_neg z1, e49, if_neg z2]
theorem st_isNull {sc : List Int} {d : Nat} {X Y : q_M} {r k : Int} (h : Rel X Y) (hd : 3 ≤ d) : ∃ X' Y' x, pq sc d 144 [.inr (.inr 0), .inl r, .inl k] GF X = some (some (.inl x), GF, X') ∧ pq sc d 212 [.inr (.inr 49), .inl r, .inl k] GF Y = some (some (.inl x), GF, Y') ∧ Rel X' Y' ∧ CT9 X X' ∧ MT9 Y Y' := by
  rcases sp_hasA (sc := sc) (d := d - 1) (r := r) (k := k) h (by omega) with ⟨q1, q2⟩ | ⟨q2, n, w, r', k', a1, a2, b1, b2, rfl, b3, rfl, b4, c1, c2, c3, c4⟩
  · refine ⟨X, q_up Y 49 1 0, 0, (pq_e (by omega) (by decide) (Nat.le_of_ble_eq_true rfl) ⟨0 + 1, sg_X11_isNull_0.trans ?_⟩), (pq_e (by omega) (by decide) (Nat.le_of_ble_eq_true rfl) ⟨0 + 1, sg_X12_isNull_0.trans ?_⟩), Rel_s h, fun _ _ => rfl, MT9_s⟩
    · rw [q1, q_cI_s, if_pos rfl]
    · rw [q2, q_cI_s, if_pos rfl]
  · have q1 := sp_has (sc := sc) (d := d - 1) b3 a2 a1 b4 b2 b1 (by omega)
    have q3 := sp_unkAt (sc := sc) (d := d - 1) b3 a2 a1 b4 b2 b1 (by rw [c2]; exact c3) (by omega)
    rw [c2] at q3
    refine ⟨X, q_up Y 49 1 0, Y 77 (4 * r' + k'), (pq_e (by omega) (by decide) (Nat.le_of_ble_eq_true rfl) ⟨0 + 1, sg_X11_isNull_0.trans ?_⟩), (pq_e (by omega) (by decide) (Nat.le_of_ble_eq_true rfl) ⟨0 + 1, sg_X12_isNull_0.trans ?_⟩), Rel_s h, fun _ _ => rfl, MT9_s⟩
    · rw [q1, q_cI_s, if_neg (by decide), q3, q_cI_s]
      rcases c3 with z | z
      · rw [z, if_pos rfl]
      · rw [z, if_neg (by decide)]
    · rw [q2, q_cI_s, if_neg (by decide), ix6 (by omega) (by omega), if_pos (by omega), Int.toNat_natCast, q_upf (by decide)]
      rcases c3 with z | z
      · rw [z, if_pos rfl]
      · rw [z, if_neg (by decide)]
theorem st_result {sc : List Int} {d : Nat} {X Y : q_M} {r k : Int} (h : Rel X Y) (hd : 3 ≤ d) : ∃ X' Y' x, pq sc d 145 [.inr (.inr 0), .inl r, .inl k] GF X = some (some (.inr (.inl x)), GF, X') ∧ pq sc d 213 [.inr (.inr 49), .inl r, .inl k] GF Y = some (some (.inr (.inl x)), GF, Y') ∧ Rel X' Y' ∧ CT9 X X' ∧ MT9 Y Y' := by
  rcases sp_hasA (sc := sc) (d := d - 1) (r := r) (k := k) h (by omega) with ⟨q1, q2⟩ | ⟨q2, n, w, r', k', a1, a2, b1, b2, rfl, b3, rfl, b4, c1, c2, c3, c4⟩
  · refine ⟨X, q_up Y 49 1 0, 0, (pq_e (by omega) (by decide) (Nat.le_of_ble_eq_true rfl) ⟨0 + 1, sg_X11_result_0.trans ?_⟩), (pq_e (by omega) (by decide) (Nat.le_of_ble_eq_true rfl) ⟨0 + 1, sg_X12_result_0.trans ?_⟩), Rel_s h, fun _ _ => rfl, MT9_s⟩
    · rw [q1, q_cI_s, if_pos rfl]
    · rw [q2, q_cI_s, if_pos rfl]
  · have q1 := sp_has (sc := sc) (d := d - 1) b3 a2 a1 b4 b2 b1 (by omega)
    have q3 := sp_numAt (sc := sc) (d := d - 1) b3 a2 a1 b4 b2 b1 (by omega)
    rw [c1] at q3
    have hI : 0 ≤ ((4 * r' + k' : Nat) : Int) ∧ ((4 * r' + k' : Nat) : Int) < ((120 : Nat) : Int) := by omega
    refine ⟨X, q_up Y 49 1 0, Y 78 (4 * r' + k'), (pq_e (by omega) (by decide) (Nat.le_of_ble_eq_true rfl) ⟨0 + 1, sg_X11_result_0.trans ?_⟩), (pq_e (by omega) (by decide) (Nat.le_of_ble_eq_true rfl) ⟨0 + 1, sg_X12_result_0.trans ?_⟩), Rel_s h, fun _ _ => rfl, MT9_s⟩
    · rw [q1, q_cI_s, if_neg (by decide), q3, q_cL_s]
    · rw [q2, q_cI_s, if_neg (by decide), ix6 (by omega) (by omega), if_pos hI, Int.toNat_natCast, q_upf (by decide), q_upf (by decide)]
      rcases c3 with z | z
      · rw [z, if_pos rfl, if_pos hI]
      · rw [z, if_neg (by decide), c4 z]
