/-! tools of the pure part -/
theorem pq_e {sc : List Int} {d mid : Nat} {as : List q_V} {M : q_M} {r : Option q_V × q_G × q_M} (hd : 1 ≤ d) (hx : mid ≠ 224) (hl : (q_ent as).length ≤ (pg_ym mid).2.2.1) (h : ∃ F, pr sc (pq sc (d - 1)) mid F 0 (q_entry (pg_ym mid).2.2.1 as) [] M = some r) : pq sc d mid as GF M = some r := by
  obtain ⟨F, h⟩ := h
  obtain ⟨e, rfl⟩ : ∃ e, d = e + 1 := ⟨d - 1, by omega⟩
  exact pq_of hx hl h
theorem q_upf {M : q_M} {k j a : Nat} {v : Int} (h : ¬ a = k) : q_up M k j v a = M a := by funext b; simp [q_up, h]
/-- the tokens of the class -/
def TK (M : q_M) (n : Nat) (C P N : Nat → Int) (p : Nat) : Prop := M 11 3 = n ∧ M 11 4 = p ∧ p < n ∧ n ≤ 131 ∧ M 12 = C ∧ M 13 = P ∧ M 14 = N
theorem TK_fr {M M' : q_M} {n : Nat} {C P N : Nat → Int} {p : Nat} (h : TK M n C P N p) (hf : ∀ a, 11 ≤ a → a ≤ 14 → M' a = M a) : TK M' n C P N p := by
  unfold TK at h ⊢
  rw [hf 11 (by omega) (by omega), hf 12 (by omega) (by omega), hf 13 (by omega) (by omega), hf 14 (by omega) (by omega)]; exact h
theorem TK_up {M : q_M} {n : Nat} {C P N : Nat → Int} {p : Nat} {k j : Nat} {v : Int} (h : TK M n C P N p) (hk : k < 11 ∨ 14 < k) : TK (q_up M k j v) n C P N p :=
  TK_fr h (fun a h1 h2 => q_upf (by omega))
theorem TK_adv {M : q_M} {n : Nat} {C P N : Nat → Int} {p : Nat} (h : TK M n C P N p) (hp : p + 1 < n) : TK (q_up M 11 4 ((p : Int) + 1)) n C P N (p + 1) := by
  obtain ⟨h3, h4, h5, hn, hC, hP, hN⟩ := h
  exact ⟨(q_up_sn (by decide)).trans h3, q_up_s.trans (by omega), hp, hn, (q_upf (by decide)).trans hC, (q_upf (by decide)).trans hP, (q_upf (by decide)).trans hN⟩
theorem sp_nextKind {sc : List Int} {d : Nat} {M : q_M} {n p : Nat} {C P N : Nat → Int} (h : TK M n C P N p) (hd : 1 ≤ d) : pq sc d 121 [.inr (.inr 11)] GF M = some (some (.inl (C p)), GF, M) := by
  obtain ⟨h3, h4, h5, hn, hC, hP, hN⟩ := h
  refine pq_e (by omega) (by decide) (Nat.le_of_ble_eq_true rfl) ⟨0 + 1, sg_X9_nextKind_0.trans ?_⟩
  simp (disch := omega) only [true_and, and_true, or_true, true_or, false_or, or_false, false_and, and_false, if_true, if_false, if_pos, if_neg, q_wid, q_cI_s, q_c0_s, q_cL_s, q_cR_s, Int.toNat_natCast, h3, h4, hC]
theorem sp_nextPlace {sc : List Int} {d : Nat} {M : q_M} {n p : Nat} {C P N : Nat → Int} (h : TK M n C P N p) (hd : 1 ≤ d) : pq sc d 122 [.inr (.inr 11)] GF M = some (some (.inl (P p)), GF, M) := by
  obtain ⟨h3, h4, h5, hn, hC, hP, hN⟩ := h
  refine pq_e (by omega) (by decide) (Nat.le_of_ble_eq_true rfl) ⟨0 + 1, sg_X9_nextPlace_0.trans ?_⟩
  simp (disch := omega) only [true_and, and_true, or_true, true_or, false_or, or_false, false_and, and_false, if_true, if_false, if_pos, if_neg, q_wid, q_cI_s, q_c0_s, q_cL_s, q_cR_s, Int.toNat_natCast, h3, h4, hP]
theorem sp_nextNumber {sc : List Int} {d : Nat} {M : q_M} {n p : Nat} {C P N : Nat → Int} (h : TK M n C P N p) (hd : 1 ≤ d) : pq sc d 123 [.inr (.inr 11)] GF M = some (some (.inl (N p)), GF, M) := by
  obtain ⟨h3, h4, h5, hn, hC, hP, hN⟩ := h
  refine pq_e (by omega) (by decide) (Nat.le_of_ble_eq_true rfl) ⟨0 + 1, sg_X9_nextNumber_0.trans ?_⟩
  simp (disch := omega) only [true_and, and_true, or_true, true_or, false_or, or_false, false_and, and_false, if_true, if_false, if_pos, if_neg, q_wid, q_cI_s, q_c0_s, q_cL_s, q_cR_s, Int.toNat_natCast, h3, h4, hN]
theorem sp_advance {sc : List Int} {d : Nat} {M : q_M} {n p : Nat} {C P N : Nat → Int} (h : TK M n C P N p) (hp : p + 1 < n) (hd : 1 ≤ d) : pq sc d 124 [.inr (.inr 11)] GF M = some (none, GF, (q_up M 11 4 ((p : Int) + 1))) := by
  obtain ⟨h3, h4, h5, hn, hC, hP, hN⟩ := h
  refine pq_e (by omega) (by decide) (Nat.le_of_ble_eq_true rfl) ⟨0 + 1, sg_X9_advance_0.trans ?_⟩
  simp (disch := omega) only [true_and, and_true, or_true, true_or, false_or, or_false, false_and, and_false, if_true, if_false, if_pos, if_neg, q_wid, q_cI_s, q_c0_s, q_cL_s, q_cR_s, Int.toNat_natCast, h3, h4]
theorem sp_takeT {sc : List Int} {d : Nat} {M : q_M} {n p : Nat} {C P N : Nat → Int} {k : Int} (h : TK M n C P N p) (hp : p + 1 < n) (hk : C p = k) (hd : 2 ≤ d) : pq sc d 125 [.inr (.inr 11), .inl (k)] GF M = some (some (.inl (1)), GF, (q_up M 11 4 ((p : Int) + 1))) := by
  have q1 := sp_nextKind h (sc := sc) (d := d - 1) (by omega)
  have q2 := sp_advance h hp (sc := sc) (d := d - 1) (by omega)
  refine pq_e (by omega) (by decide) (Nat.le_of_ble_eq_true rfl) ⟨0 + 1, sg_X9_take_0.trans ?_⟩
  simp (disch := omega) only [true_and, and_true, or_true, true_or, false_or, or_false, false_and, and_false, if_true, if_false, if_pos, if_neg, q_wid, q_cI_s, q_c0_s, q_cL_s, q_cR_s, Int.toNat_natCast, q1, q2]
theorem sp_takeF {sc : List Int} {d : Nat} {M : q_M} {n p : Nat} {C P N : Nat → Int} {k : Int} (h : TK M n C P N p) (hk : ¬ C p = k) (hd : 2 ≤ d) : pq sc d 125 [.inr (.inr 11), .inl (k)] GF M = some (some (.inl (0)), GF, M) := by
  have q1 := sp_nextKind h (sc := sc) (d := d - 1) (by omega)
  refine pq_e (by omega) (by decide) (Nat.le_of_ble_eq_true rfl) ⟨0 + 1, sg_X9_take_0.trans ?_⟩
  simp (disch := omega) only [true_and, and_true, or_true, true_or, false_or, or_false, false_and, and_false, if_true, if_false, if_pos, if_neg, q_wid, q_cI_s, q_c0_s, q_cL_s, q_cR_s, Int.toNat_natCast, q1]
theorem sp_get17 {sc : List Int} {d : Nat} {M : q_M} {i : Nat} (hi : i < 130) (hd : 1 ≤ d) : pq sc d 146 [.inr (.inr 17), .inl ((i : Int))] GF M = some (some (.inl (M 17 i)), GF, M) := by
  refine pq_e (by omega) (by decide) (Nat.le_of_ble_eq_true rfl) ⟨0 + 1, sg_X11_get_0_g17.trans ?_⟩
  simp (disch := omega) only [true_and, and_true, or_true, true_or, false_or, or_false, false_and, and_false, if_true, if_false, if_pos, if_neg, q_wid, q_cI_s, q_c0_s, q_cL_s, q_cR_s, Int.toNat_natCast]
theorem sp_gen17 {sc : List Int} {d : Nat} {M : q_M}   (hd : 1 ≤ d) : pq sc d 146 [.inr (.inr 17), .inl (-1)] GF M = some (some (.inl (-1)), GF, M) := by
  refine pq_e (by omega) (by decide) (Nat.le_of_ble_eq_true rfl) ⟨0 + 1, sg_X11_get_0_g17.trans ?_⟩
  simp (disch := omega) only [true_and, and_true, or_true, true_or, false_or, or_false, false_and, and_false, if_true, if_false, if_pos, if_neg, q_wid, q_cI_s, q_c0_s, q_cL_s, q_cR_s, Int.toNat_natCast]
theorem sp_get18 {sc : List Int} {d : Nat} {M : q_M} {i : Nat} (hi : i < 130) (hd : 1 ≤ d) : pq sc d 146 [.inr (.inr 18), .inl ((i : Int))] GF M = some (some (.inl (M 18 i)), GF, M) := by
  refine pq_e (by omega) (by decide) (Nat.le_of_ble_eq_true rfl) ⟨0 + 1, sg_X11_get_0_g18.trans ?_⟩
  simp (disch := omega) only [true_and, and_true, or_true, true_or, false_or, or_false, false_and, and_false, if_true, if_false, if_pos, if_neg, q_wid, q_cI_s, q_c0_s, q_cL_s, q_cR_s, Int.toNat_natCast]
theorem sp_gen18 {sc : List Int} {d : Nat} {M : q_M}   (hd : 1 ≤ d) : pq sc d 146 [.inr (.inr 18), .inl (-1)] GF M = some (some (.inl (-1)), GF, M) := by
  refine pq_e (by omega) (by decide) (Nat.le_of_ble_eq_true rfl) ⟨0 + 1, sg_X11_get_0_g18.trans ?_⟩
  simp (disch := omega) only [true_and, and_true, or_true, true_or, false_or, or_false, false_and, and_false, if_true, if_false, if_pos, if_neg, q_wid, q_cI_s, q_c0_s, q_cL_s, q_cR_s, Int.toNat_natCast]
theorem sp_get19 {sc : List Int} {d : Nat} {M : q_M} {i : Nat} (hi : i < 130) (hd : 1 ≤ d) : pq sc d 146 [.inr (.inr 19), .inl ((i : Int))] GF M = some (some (.inl (M 19 i)), GF, M) := by
  refine pq_e (by omega) (by decide) (Nat.le_of_ble_eq_true rfl) ⟨0 + 1, sg_X11_get_0_g19.trans ?_⟩
  simp (disch := omega) only [true_and, and_true, or_true, true_or, false_or, or_false, false_and, and_false, if_true, if_false, if_pos, if_neg, q_wid, q_cI_s, q_c0_s, q_cL_s, q_cR_s, Int.toNat_natCast]
theorem sp_gen19 {sc : List Int} {d : Nat} {M : q_M}   (hd : 1 ≤ d) : pq sc d 146 [.inr (.inr 19), .inl (-1)] GF M = some (some (.inl (-1)), GF, M) := by
  refine pq_e (by omega) (by decide) (Nat.le_of_ble_eq_true rfl) ⟨0 + 1, sg_X11_get_0_g19.trans ?_⟩
  simp (disch := omega) only [true_and, and_true, or_true, true_or, false_or, or_false, false_and, and_false, if_true, if_false, if_pos, if_neg, q_wid, q_cI_s, q_c0_s, q_cL_s, q_cR_s, Int.toNat_natCast]
theorem sp_get20 {sc : List Int} {d : Nat} {M : q_M} {i : Nat} (hi : i < 130) (hd : 1 ≤ d) : pq sc d 146 [.inr (.inr 20), .inl ((i : Int))] GF M = some (some (.inl (M 20 i)), GF, M) := by
  refine pq_e (by omega) (by decide) (Nat.le_of_ble_eq_true rfl) ⟨0 + 1, sg_X11_get_0_g20.trans ?_⟩
  simp (disch := omega) only [true_and, and_true, or_true, true_or, false_or, or_false, false_and, and_false, if_true, if_false, if_pos, if_neg, q_wid, q_cI_s, q_c0_s, q_cL_s, q_cR_s, Int.toNat_natCast]
theorem sp_gen20 {sc : List Int} {d : Nat} {M : q_M}   (hd : 1 ≤ d) : pq sc d 146 [.inr (.inr 20), .inl (-1)] GF M = some (some (.inl (-1)), GF, M) := by
  refine pq_e (by omega) (by decide) (Nat.le_of_ble_eq_true rfl) ⟨0 + 1, sg_X11_get_0_g20.trans ?_⟩
  simp (disch := omega) only [true_and, and_true, or_true, true_or, false_or, or_false, false_and, and_false, if_true, if_false, if_pos, if_neg, q_wid, q_cI_s, q_c0_s, q_cL_s, q_cR_s, Int.toNat_natCast]
theorem sp_get21 {sc : List Int} {d : Nat} {M : q_M} {i : Nat} (hi : i < 130) (hd : 1 ≤ d) : pq sc d 146 [.inr (.inr 21), .inl ((i : Int))] GF M = some (some (.inl (M 21 i)), GF, M) := by
  refine pq_e (by omega) (by decide) (Nat.le_of_ble_eq_true rfl) ⟨0 + 1, sg_X11_get_0_g21.trans ?_⟩
  simp (disch := omega) only [true_and, and_true, or_true, true_or, false_or, or_false, false_and, and_false, if_true, if_false, if_pos, if_neg, q_wid, q_cI_s, q_c0_s, q_cL_s, q_cR_s, Int.toNat_natCast]
theorem sp_gen21 {sc : List Int} {d : Nat} {M : q_M}   (hd : 1 ≤ d) : pq sc d 146 [.inr (.inr 21), .inl (-1)] GF M = some (some (.inl (-1)), GF, M) := by
  refine pq_e (by omega) (by decide) (Nat.le_of_ble_eq_true rfl) ⟨0 + 1, sg_X11_get_0_g21.trans ?_⟩
  simp (disch := omega) only [true_and, and_true, or_true, true_or, false_or, or_false, false_and, and_false, if_true, if_false, if_pos, if_neg, q_wid, q_cI_s, q_c0_s, q_cL_s, q_cR_s, Int.toNat_natCast]
theorem sp_get33 {sc : List Int} {d : Nat} {M : q_M} {i : Nat} (hi : i < 3) (hd : 1 ≤ d) : pq sc d 146 [.inr (.inr 33), .inl ((i : Int))] GF M = some (some (.inl (M 33 i)), GF, M) := by
  refine pq_e (by omega) (by decide) (Nat.le_of_ble_eq_true rfl) ⟨0 + 1, sg_X11_get_0_g33.trans ?_⟩
  simp (disch := omega) only [true_and, and_true, or_true, true_or, false_or, or_false, false_and, and_false, if_true, if_false, if_pos, if_neg, q_wid, q_cI_s, q_c0_s, q_cL_s, q_cR_s, Int.toNat_natCast]
theorem sp_gen33 {sc : List Int} {d : Nat} {M : q_M}   (hd : 1 ≤ d) : pq sc d 146 [.inr (.inr 33), .inl (-1)] GF M = some (some (.inl (-1)), GF, M) := by
  refine pq_e (by omega) (by decide) (Nat.le_of_ble_eq_true rfl) ⟨0 + 1, sg_X11_get_0_g33.trans ?_⟩
  simp (disch := omega) only [true_and, and_true, or_true, true_or, false_or, or_false, false_and, and_false, if_true, if_false, if_pos, if_neg, q_wid, q_cI_s, q_c0_s, q_cL_s, q_cR_s, Int.toNat_natCast]
theorem sp_get34 {sc : List Int} {d : Nat} {M : q_M} {i : Nat} (hi : i < 3) (hd : 1 ≤ d) : pq sc d 146 [.inr (.inr 34), .inl ((i : Int))] GF M = some (some (.inl (M 34 i)), GF, M) := by
  refine pq_e (by omega) (by decide) (Nat.le_of_ble_eq_true rfl) ⟨0 + 1, sg_X11_get_0_g34.trans ?_⟩
  simp (disch := omega) only [true_and, and_true, or_true, true_or, false_or, or_false, false_and, and_false, if_true, if_false, if_pos, if_neg, q_wid, q_cI_s, q_c0_s, q_cL_s, q_cR_s, Int.toNat_natCast]
theorem sp_gen34 {sc : List Int} {d : Nat} {M : q_M}   (hd : 1 ≤ d) : pq sc d 146 [.inr (.inr 34), .inl (-1)] GF M = some (some (.inl (-1)), GF, M) := by
  refine pq_e (by omega) (by decide) (Nat.le_of_ble_eq_true rfl) ⟨0 + 1, sg_X11_get_0_g34.trans ?_⟩
  simp (disch := omega) only [true_and, and_true, or_true, true_or, false_or, or_false, false_and, and_false, if_true, if_false, if_pos, if_neg, q_wid, q_cI_s, q_c0_s, q_cL_s, q_cR_s, Int.toNat_natCast]
theorem sp_get35 {sc : List Int} {d : Nat} {M : q_M} {i : Nat} (hi : i < 3) (hd : 1 ≤ d) : pq sc d 146 [.inr (.inr 35), .inl ((i : Int))] GF M = some (some (.inl (M 35 i)), GF, M) := by
  refine pq_e (by omega) (by decide) (Nat.le_of_ble_eq_true rfl) ⟨0 + 1, sg_X11_get_0_g35.trans ?_⟩
  simp (disch := omega) only [true_and, and_true, or_true, true_or, false_or, or_false, false_and, and_false, if_true, if_false, if_pos, if_neg, q_wid, q_cI_s, q_c0_s, q_cL_s, q_cR_s, Int.toNat_natCast]
theorem sp_gen35 {sc : List Int} {d : Nat} {M : q_M}   (hd : 1 ≤ d) : pq sc d 146 [.inr (.inr 35), .inl (-1)] GF M = some (some (.inl (-1)), GF, M) := by
  refine pq_e (by omega) (by decide) (Nat.le_of_ble_eq_true rfl) ⟨0 + 1, sg_X11_get_0_g35.trans ?_⟩
  simp (disch := omega) only [true_and, and_true, or_true, true_or, false_or, or_false, false_and, and_false, if_true, if_false, if_pos, if_neg, q_wid, q_cI_s, q_c0_s, q_cL_s, q_cR_s, Int.toNat_natCast]
theorem sp_get36 {sc : List Int} {d : Nat} {M : q_M} {i : Nat} (hi : i < 3) (hd : 1 ≤ d) : pq sc d 146 [.inr (.inr 36), .inl ((i : Int))] GF M = some (some (.inl (M 36 i)), GF, M) := by
  refine pq_e (by omega) (by decide) (Nat.le_of_ble_eq_true rfl) ⟨0 + 1, sg_X11_get_0_g36.trans ?_⟩
  simp (disch := omega) only [true_and, and_true, or_true, true_or, false_or, or_false, false_and, and_false, if_true, if_false, if_pos, if_neg, q_wid, q_cI_s, q_c0_s, q_cL_s, q_cR_s, Int.toNat_natCast]
theorem sp_gen36 {sc : List Int} {d : Nat} {M : q_M}   (hd : 1 ≤ d) : pq sc d 146 [.inr (.inr 36), .inl (-1)] GF M = some (some (.inl (-1)), GF, M) := by
  refine pq_e (by omega) (by decide) (Nat.le_of_ble_eq_true rfl) ⟨0 + 1, sg_X11_get_0_g36.trans ?_⟩
  simp (disch := omega) only [true_and, and_true, or_true, true_or, false_or, or_false, false_and, and_false, if_true, if_false, if_pos, if_neg, q_wid, q_cI_s, q_c0_s, q_cL_s, q_cR_s, Int.toNat_natCast]
theorem sp_get38 {sc : List Int} {d : Nat} {M : q_M} {i : Nat} (hi : i < 4) (hd : 1 ≤ d) : pq sc d 146 [.inr (.inr 38), .inl ((i : Int))] GF M = some (some (.inl (M 38 i)), GF, M) := by
  refine pq_e (by omega) (by decide) (Nat.le_of_ble_eq_true rfl) ⟨0 + 1, sg_X11_get_0_g38.trans ?_⟩
  simp (disch := omega) only [true_and, and_true, or_true, true_or, false_or, or_false, false_and, and_false, if_true, if_false, if_pos, if_neg, q_wid, q_cI_s, q_c0_s, q_cL_s, q_cR_s, Int.toNat_natCast]
theorem sp_gen38 {sc : List Int} {d : Nat} {M : q_M}   (hd : 1 ≤ d) : pq sc d 146 [.inr (.inr 38), .inl (-1)] GF M = some (some (.inl (-1)), GF, M) := by
  refine pq_e (by omega) (by decide) (Nat.le_of_ble_eq_true rfl) ⟨0 + 1, sg_X11_get_0_g38.trans ?_⟩
  simp (disch := omega) only [true_and, and_true, or_true, true_or, false_or, or_false, false_and, and_false, if_true, if_false, if_pos, if_neg, q_wid, q_cI_s, q_c0_s, q_cL_s, q_cR_s, Int.toNat_natCast]
theorem sp_get39 {sc : List Int} {d : Nat} {M : q_M} {i : Nat} (hi : i < 4) (hd : 1 ≤ d) : pq sc d 146 [.inr (.inr 39), .inl ((i : Int))] GF M = some (some (.inl (M 39 i)), GF, M) := by
  refine pq_e (by omega) (by decide) (Nat.le_of_ble_eq_true rfl) ⟨0 + 1, sg_X11_get_0_g39.trans ?_⟩
  simp (disch := omega) only [true_and, and_true, or_true, true_or, false_or, or_false, false_and, and_false, if_true, if_false, if_pos, if_neg, q_wid, q_cI_s, q_c0_s, q_cL_s, q_cR_s, Int.toNat_natCast]
theorem sp_gen39 {sc : List Int} {d : Nat} {M : q_M}   (hd : 1 ≤ d) : pq sc d 146 [.inr (.inr 39), .inl (-1)] GF M = some (some (.inl (-1)), GF, M) := by
  refine pq_e (by omega) (by decide) (Nat.le_of_ble_eq_true rfl) ⟨0 + 1, sg_X11_get_0_g39.trans ?_⟩
  simp (disch := omega) only [true_and, and_true, or_true, true_or, false_or, or_false, false_and, and_false, if_true, if_false, if_pos, if_neg, q_wid, q_cI_s, q_c0_s, q_cL_s, q_cR_s, Int.toNat_natCast]
theorem sp_get40 {sc : List Int} {d : Nat} {M : q_M} {i : Nat} (hi : i < 3) (hd : 1 ≤ d) : pq sc d 146 [.inr (.inr 40), .inl ((i : Int))] GF M = some (some (.inl (M 40 i)), GF, M) := by
  refine pq_e (by omega) (by decide) (Nat.le_of_ble_eq_true rfl) ⟨0 + 1, sg_X11_get_0_g40.trans ?_⟩
  simp (disch := omega) only [true_and, and_true, or_true, true_or, false_or, or_false, false_and, and_false, if_true, if_false, if_pos, if_neg, q_wid, q_cI_s, q_c0_s, q_cL_s, q_cR_s, Int.toNat_natCast]
theorem sp_gen40 {sc : List Int} {d : Nat} {M : q_M}   (hd : 1 ≤ d) : pq sc d 146 [.inr (.inr 40), .inl (-1)] GF M = some (some (.inl (-1)), GF, M) := by
  refine pq_e (by omega) (by decide) (Nat.le_of_ble_eq_true rfl) ⟨0 + 1, sg_X11_get_0_g40.trans ?_⟩
  simp (disch := omega) only [true_and, and_true, or_true, true_or, false_or, or_false, false_and, and_false, if_true, if_false, if_pos, if_neg, q_wid, q_cI_s, q_c0_s, q_cL_s, q_cR_s, Int.toNat_natCast]
theorem sp_placeOf {sc : List Int} {d : Nat} {M : q_M} {i : Nat} (hi : i < 130) (hd : 2 ≤ d) : pq sc d 32 [.inr (.inr 16), .inl ((i : Int))] GF M = some (some (.inl (M 17 i)), GF, M) := by
  refine pq_e (by omega) (by decide) (Nat.le_of_ble_eq_true rfl) ⟨0 + 1, sg_X3_placeOf_0.trans ?_⟩
  simp (disch := omega) only [true_and, and_true, or_true, true_or, false_or, or_false, false_and, and_false, if_true, if_false, if_pos, if_neg, q_wid, q_cI_s, q_c0_s, q_cL_s, q_cR_s, Int.toNat_natCast, sp_get17 hi (show 1 ≤ d - 1 by omega)]
theorem sp_aliasOf {sc : List Int} {d : Nat} {M : q_M} {i : Nat} (hi : i < 130) (hd : 2 ≤ d) : pq sc d 33 [.inr (.inr 16), .inl ((i : Int))] GF M = some (some (.inl (M 18 i)), GF, M) := by
  refine pq_e (by omega) (by decide) (Nat.le_of_ble_eq_true rfl) ⟨0 + 1, sg_X3_aliasOf_0.trans ?_⟩
  simp (disch := omega) only [true_and, and_true, or_true, true_or, false_or, or_false, false_and, and_false, if_true, if_false, if_pos, if_neg, q_wid, q_cI_s, q_c0_s, q_cL_s, q_cR_s, Int.toNat_natCast, sp_get18 hi (show 1 ≤ d - 1 by omega)]
theorem sp_letterOf {sc : List Int} {d : Nat} {M : q_M} {i : Nat} (hi : i < 130) (hd : 2 ≤ d) : pq sc d 34 [.inr (.inr 16), .inl ((i : Int))] GF M = some (some (.inl (M 19 i)), GF, M) := by
  refine pq_e (by omega) (by decide) (Nat.le_of_ble_eq_true rfl) ⟨0 + 1, sg_X3_letterOf_0.trans ?_⟩
  simp (disch := omega) only [true_and, and_true, or_true, true_or, false_or, or_false, false_and, and_false, if_true, if_false, if_pos, if_neg, q_wid, q_cI_s, q_c0_s, q_cL_s, q_cR_s, Int.toNat_natCast, sp_get19 hi (show 1 ≤ d - 1 by omega)]
theorem sp_lastItemOf {sc : List Int} {d : Nat} {M : q_M} {i : Nat} (hi : i < 130) (hd : 2 ≤ d) : pq sc d 35 [.inr (.inr 16), .inl ((i : Int))] GF M = some (some (.inl (M 20 i)), GF, M) := by
  refine pq_e (by omega) (by decide) (Nat.le_of_ble_eq_true rfl) ⟨0 + 1, sg_X3_lastItemOf_0.trans ?_⟩
  simp (disch := omega) only [true_and, and_true, or_true, true_or, false_or, or_false, false_and, and_false, if_true, if_false, if_pos, if_neg, q_wid, q_cI_s, q_c0_s, q_cL_s, q_cR_s, Int.toNat_natCast, sp_get20 hi (show 1 ≤ d - 1 by omega)]
theorem sp_itemOf {sc : List Int} {d : Nat} {M : q_M} {i : Nat} (hi : i < 130) (hd : 2 ≤ d) : pq sc d 36 [.inr (.inr 16), .inl ((i : Int))] GF M = some (some (.inl (M 21 i)), GF, M) := by
  refine pq_e (by omega) (by decide) (Nat.le_of_ble_eq_true rfl) ⟨0 + 1, sg_X3_itemOf_0.trans ?_⟩
  simp (disch := omega) only [true_and, and_true, or_true, true_or, false_or, or_false, false_and, and_false, if_true, if_false, if_pos, if_neg, q_wid, q_cI_s, q_c0_s, q_cL_s, q_cR_s, Int.toNat_natCast, sp_get21 hi (show 1 ≤ d - 1 by omega)]
theorem sp_tableOf {sc : List Int} {d : Nat} {M : q_M} {i : Nat} (hi : i < 3) (hd : 2 ≤ d) : pq sc d 68 [.inr (.inr 15), .inl ((i : Int))] GF M = some (some (.inl (M 33 i)), GF, M) := by
  refine pq_e (by omega) (by decide) (Nat.le_of_ble_eq_true rfl) ⟨0 + 1, sg_X5_tableOf_0.trans ?_⟩
  simp (disch := omega) only [true_and, and_true, or_true, true_or, false_or, or_false, false_and, and_false, if_true, if_false, if_pos, if_neg, q_wid, q_cI_s, q_c0_s, q_cL_s, q_cR_s, Int.toNat_natCast, sp_get33 hi (show 1 ≤ d - 1 by omega)]
theorem sp_tablePlaceOf {sc : List Int} {d : Nat} {M : q_M} {i : Nat} (hi : i < 3) (hd : 2 ≤ d) : pq sc d 69 [.inr (.inr 15), .inl ((i : Int))] GF M = some (some (.inl (M 34 i)), GF, M) := by
  refine pq_e (by omega) (by decide) (Nat.le_of_ble_eq_true rfl) ⟨0 + 1, sg_X5_tablePlaceOf_0.trans ?_⟩
  simp (disch := omega) only [true_and, and_true, or_true, true_or, false_or, or_false, false_and, and_false, if_true, if_false, if_pos, if_neg, q_wid, q_cI_s, q_c0_s, q_cL_s, q_cR_s, Int.toNat_natCast, sp_get34 hi (show 1 ≤ d - 1 by omega)]
theorem sp_qaliasOf {sc : List Int} {d : Nat} {M : q_M} {i : Nat} (hi : i < 3) (hd : 2 ≤ d) : pq sc d 70 [.inr (.inr 15), .inl ((i : Int))] GF M = some (some (.inl (M 35 i)), GF, M) := by
  refine pq_e (by omega) (by decide) (Nat.le_of_ble_eq_true rfl) ⟨0 + 1, sg_X5_aliasOf_0.trans ?_⟩
  simp (disch := omega) only [true_and, and_true, or_true, true_or, false_or, or_false, false_and, and_false, if_true, if_false, if_pos, if_neg, q_wid, q_cI_s, q_c0_s, q_cL_s, q_cR_s, Int.toNat_natCast, sp_get35 hi (show 1 ≤ d - 1 by omega)]
theorem sp_aliasPlaceOf {sc : List Int} {d : Nat} {M : q_M} {i : Nat} (hi : i < 3) (hd : 2 ≤ d) : pq sc d 71 [.inr (.inr 15), .inl ((i : Int))] GF M = some (some (.inl (M 36 i)), GF, M) := by
  refine pq_e (by omega) (by decide) (Nat.le_of_ble_eq_true rfl) ⟨0 + 1, sg_X5_aliasPlaceOf_0.trans ?_⟩
  simp (disch := omega) only [true_and, and_true, or_true, true_or, false_or, or_false, false_and, and_false, if_true, if_false, if_pos, if_neg, q_wid, q_cI_s, q_c0_s, q_cL_s, q_cR_s, Int.toNat_natCast, sp_get36 hi (show 1 ≤ d - 1 by omega)]
theorem sp_outKind {sc : List Int} {d : Nat} {M : q_M} {i : Nat} (hi : i < 4) (hd : 2 ≤ d) : pq sc d 76 [.inr (.inr 15), .inl ((i : Int))] GF M = some (some (.inl (M 38 i)), GF, M) := by
  refine pq_e (by omega) (by decide) (Nat.le_of_ble_eq_true rfl) ⟨0 + 1, sg_X5_outKind_0.trans ?_⟩
  simp (disch := omega) only [true_and, and_true, or_true, true_or, false_or, or_false, false_and, and_false, if_true, if_false, if_pos, if_neg, q_wid, q_cI_s, q_c0_s, q_cL_s, q_cR_s, Int.toNat_natCast, sp_get38 hi (show 1 ≤ d - 1 by omega)]
theorem sp_outColumn {sc : List Int} {d : Nat} {M : q_M} {i : Nat} (hi : i < 4) (hd : 2 ≤ d) : pq sc d 77 [.inr (.inr 15), .inl ((i : Int))] GF M = some (some (.inl (M 39 i)), GF, M) := by
  refine pq_e (by omega) (by decide) (Nat.le_of_ble_eq_true rfl) ⟨0 + 1, sg_X5_outColumn_0.trans ?_⟩
  simp (disch := omega) only [true_and, and_true, or_true, true_or, false_or, or_false, false_and, and_false, if_true, if_false, if_pos, if_neg, q_wid, q_cI_s, q_c0_s, q_cL_s, q_cR_s, Int.toNat_natCast, sp_get39 hi (show 1 ≤ d - 1 by omega)]
theorem sp_groupColumn {sc : List Int} {d : Nat} {M : q_M} {i : Nat} (hi : i < 3) (hd : 2 ≤ d) : pq sc d 79 [.inr (.inr 15), .inl ((i : Int))] GF M = some (some (.inl (M 40 i)), GF, M) := by
  refine pq_e (by omega) (by decide) (Nat.le_of_ble_eq_true rfl) ⟨0 + 1, sg_X5_groupColumn_0.trans ?_⟩
  simp (disch := omega) only [true_and, and_true, or_true, true_or, false_or, or_false, false_and, and_false, if_true, if_false, if_pos, if_neg, q_wid, q_cI_s, q_c0_s, q_cL_s, q_cR_s, Int.toNat_natCast, sp_get40 hi (show 1 ≤ d - 1 by omega)]
theorem sp_itemOfN {sc : List Int} {d : Nat} {M : q_M}   (hd : 2 ≤ d) : pq sc d 36 [.inr (.inr 16), .inl (-1)] GF M = some (some (.inl (-1)), GF, M) := by
  refine pq_e (by omega) (by decide) (Nat.le_of_ble_eq_true rfl) ⟨0 + 1, sg_X3_itemOf_0.trans ?_⟩
  simp (disch := omega) only [true_and, and_true, or_true, true_or, false_or, or_false, false_and, and_false, if_true, if_false, if_pos, if_neg, q_wid, q_cI_s, q_c0_s, q_cL_s, q_cR_s, Int.toNat_natCast, sp_gen21 (show 1 ≤ d - 1 by omega)]
theorem sp_isColumn {sc : List Int} {d : Nat} {M : q_M} {i : Nat} (hi : i < 130) (hd : 2 ≤ d) : pq sc d 31 [.inr (.inr 16), .inl ((i : Int))] GF M = some (some (.inl (if M 18 i = -1 then 0 else 1)), GF, M) := by
  refine pq_e (by omega) (by decide) (Nat.le_of_ble_eq_true rfl) ⟨0 + 1, sg_X3_isColumn_0.trans ?_⟩
  simp (disch := omega) only [true_and, and_true, or_true, true_or, false_or, or_false, false_and, and_false, if_true, if_false, if_pos, if_neg, q_wid, q_cI_s, q_c0_s, q_cL_s, q_cR_s, Int.toNat_natCast, sp_get18 hi (show 1 ≤ d - 1 by omega)]
  split <;> rfl
theorem sp_sameColumn {sc : List Int} {d : Nat} {M : q_M} {i j : Nat} (hi : i < 130) (hj : j < 130) (hd : 3 ≤ d) : pq sc d 38 [.inr (.inr 16), .inl ((i : Int)), .inl ((j : Int))] GF M = some (some (.inl (if M 18 i = M 18 j ∧ M 19 i = M 19 j then 1 else 0)), GF, M) := by
  refine pq_e (by omega) (by decide) (Nat.le_of_ble_eq_true rfl) ⟨0 + 1, sg_X3_sameColumn_0.trans ?_⟩
  simp (disch := omega) only [true_and, and_true, or_true, true_or, false_or, or_false, false_and, and_false, if_true, if_false, if_pos, if_neg, q_wid, q_cI_s, q_c0_s, q_cL_s, q_cR_s, Int.toNat_natCast, sp_aliasOf hi (show 2 ≤ d - 1 by omega), sp_aliasOf hj (show 2 ≤ d - 1 by omega), sp_letterOf hi (show 2 ≤ d - 1 by omega), sp_letterOf hj (show 2 ≤ d - 1 by omega)]
  by_cases h1 : M 18 i = M 18 j <;> by_cases h2 : M 19 i = M 19 j <;> simp [h1, h2]
theorem sp_numberOf {sc : List Int} {d : Nat} {M : q_M} {i : Nat} (hi : i < 130) (hd : 1 ≤ d) : pq sc d 39 [.inr (.inr 16), .inl ((i : Int))] GF M = some (some (.inl (M 22 i)), GF, M) := by
  refine pq_e (by omega) (by decide) (Nat.le_of_ble_eq_true rfl) ⟨0 + 1, sg_X3_numberOf_0.trans ?_⟩
  simp (disch := omega) only [true_and, and_true, or_true, true_or, false_or, or_false, false_and, and_false, if_true, if_false, if_pos, if_neg, q_wid, q_cI_s, q_c0_s, q_cL_s, q_cR_s, Int.toNat_natCast]
theorem sp_unknownOf {sc : List Int} {d : Nat} {M : q_M} {i : Nat} (hi : i < 130) (hd : 1 ≤ d) : pq sc d 40 [.inr (.inr 16), .inl ((i : Int))] GF M = some (some (.inl (if M 23 i = 0 then 0 else 1)), GF, M) := by
  refine pq_e (by omega) (by decide) (Nat.le_of_ble_eq_true rfl) ⟨0 + 1, sg_X3_unknownOf_0.trans ?_⟩
  simp (disch := omega) only [true_and, and_true, or_true, true_or, false_or, or_false, false_and, and_false, if_true, if_false, if_pos, if_neg, q_wid, q_cI_s, q_c0_s, q_cL_s, q_cR_s, Int.toNat_natCast]
  split <;> rfl
theorem sp_setItem {sc : List Int} {d : Nat} {M : q_M} {i : Nat} {v : Int} (hi : i < 130) (hd : 1 ≤ d) : pq sc d 37 [.inr (.inr 16), .inl ((i : Int)), .inl (v)] GF M = some (none, GF, (q_up M 21 i v)) := by
  refine pq_e (by omega) (by decide) (Nat.le_of_ble_eq_true rfl) ⟨0 + 1, sg_X3_setItem_0.trans ?_⟩
  simp (disch := omega) only [true_and, and_true, or_true, true_or, false_or, or_false, false_and, and_false, if_true, if_false, if_pos, if_neg, q_wid, q_cI_s, q_c0_s, q_cL_s, q_cR_s, Int.toNat_natCast]
theorem sp_isLeft {sc : List Int} {d : Nat} {M : q_M} {i : Nat} (hi : i < 3) (hd : 1 ≤ d) : pq sc d 72 [.inr (.inr 15), .inl ((i : Int))] GF M = some (some (.inl (if M 37 i = 0 then 0 else 1)), GF, M) := by
  refine pq_e (by omega) (by decide) (Nat.le_of_ble_eq_true rfl) ⟨0 + 1, sg_X5_isLeft_0.trans ?_⟩
  simp (disch := omega) only [true_and, and_true, or_true, true_or, false_or, or_false, false_and, and_false, if_true, if_false, if_pos, if_neg, q_wid, q_cI_s, q_c0_s, q_cL_s, q_cR_s, Int.toNat_natCast]
  split <;> rfl
theorem sp_ocount {sc : List Int} {d : Nat} {M : q_M} (hd : 1 ≤ d) : pq sc d 28 [.inr (.inr 16)] GF M = some (some (.inl (M 16 7)), GF, M) := pq_e hd (by decide) (Nat.le_of_ble_eq_true rfl) ⟨0 + 1, sg_X3_count_0⟩
theorem sp_scount {sc : List Int} {d : Nat} {M : q_M} (hd : 1 ≤ d) : pq sc d 84 [.inr (.inr 24)] GF M = some (some (.inl (M 24 4)), GF, M) := pq_e hd (by decide) (Nat.le_of_ble_eq_true rfl) ⟨0 + 1, sg_X6_count_0⟩
theorem sp_partCount {sc : List Int} {d : Nat} {M : q_M} (hd : 1 ≤ d) : pq sc d 85 [.inr (.inr 24)] GF M = some (some (.inl (M 24 9)), GF, M) := pq_e hd (by decide) (Nat.le_of_ble_eq_true rfl) ⟨0 + 1, sg_X6_partCount_0⟩
theorem sp_itemCount {sc : List Int} {d : Nat} {M : q_M} (hd : 1 ≤ d) : pq sc d 67 [.inr (.inr 15)] GF M = some (some (.inl (M 15 7)), GF, M) := pq_e hd (by decide) (Nat.le_of_ble_eq_true rfl) ⟨0 + 1, sg_X5_itemCount_0⟩
theorem sp_outCount {sc : List Int} {d : Nat} {M : q_M} (hd : 1 ≤ d) : pq sc d 75 [.inr (.inr 15)] GF M = some (some (.inl (M 15 10)), GF, M) := pq_e hd (by decide) (Nat.le_of_ble_eq_true rfl) ⟨0 + 1, sg_X5_outCount_0⟩
theorem sp_groupedCount {sc : List Int} {d : Nat} {M : q_M} (hd : 1 ≤ d) : pq sc d 78 [.inr (.inr 15)] GF M = some (some (.inl (M 15 12)), GF, M) := pq_e hd (by decide) (Nat.le_of_ble_eq_true rfl) ⟨0 + 1, sg_X5_groupedCount_0⟩
theorem sp_seen {sc : List Int} {d : Nat} {M : q_M} (hd : 1 ≤ d) : pq sc d 15 [.inr (.inr 46)] GF M = some (some (.inl (M 46 8)), GF, M) := pq_e hd (by decide) (Nat.le_of_ble_eq_true rfl) ⟨0 + 1, sg_X2_seen_0⟩
theorem sp_aheight {sc : List Int} {d : Nat} {M : q_M} (hd : 1 ≤ d) : pq sc d 2 [.inr (.inr 43)] GF M = some (some (.inl (M 43 3)), GF, M) := pq_e hd (by decide) (Nat.le_of_ble_eq_true rfl) ⟨0 + 1, sg_X0_height_0⟩
theorem sp_isAliasT {sc : List Int} {d : Nat} {M : q_M} {k : Int} (h1 : 119 ≤ k) (h2 : k ≤ 122) (hd : 1 ≤ d) : pq sc d 58 [.inl (k)] GF M = some (some (.inl (1)), GF, M) := by
  refine pq_e (by omega) (by decide) (Nat.le_of_ble_eq_true rfl) ⟨0 + 1, sg_X4_isAlias_0.trans ?_⟩
  simp (disch := omega) only [true_and, and_true, or_true, true_or, false_or, or_false, false_and, and_false, if_true, if_false, if_pos, if_neg, q_wid, q_cI_s, q_c0_s, q_cL_s, q_cR_s, Int.toNat_natCast]
theorem sp_isAliasF {sc : List Int} {d : Nat} {M : q_M} {k : Int} (h1 : k < 119 ∨ 122 < k) (hd : 1 ≤ d) : pq sc d 58 [.inl (k)] GF M = some (some (.inl (0)), GF, M) := by
  refine pq_e (by omega) (by decide) (Nat.le_of_ble_eq_true rfl) ⟨0 + 1, sg_X4_isAlias_0.trans ?_⟩
  simp (disch := omega) only [true_and, and_true, or_true, true_or, false_or, or_false, false_and, and_false, if_true, if_false, if_pos, if_neg, q_wid, q_cI_s, q_c0_s, q_cL_s, q_cR_s, Int.toNat_natCast]
  all_goals first | rfl | (split <;> first | rfl | omega)
