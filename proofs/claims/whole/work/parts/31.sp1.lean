/-! rows for the pure part -/
theorem q_cI_s {α : Type} {G : q_G} {M : q_M} {x : Int} {k : Int → q_M → Option α} : q_cI (some (some (.inl x), G, M)) G k = k x M := by simp [q_cI]
theorem q_c0_s {α : Type} {G : q_G} {M : q_M} {k : q_M → Option α} : q_c0 (some (none, G, M)) G k = k M := by simp [q_c0]
theorem q_cL_s {α : Type} {G : q_G} {M : q_M} {x : Int} {k : Int → q_M → Option α} : q_cL (some (some (.inr (.inl x)), G, M)) G k = k x M := by simp [q_cL]
theorem q_cR_s {α : Type} {G : q_G} {M : q_M} {x : Nat} {k : Nat → q_M → Option α} : q_cR (some (some (.inr (.inr x)), G, M)) G k = k x M := by simp [q_cR]
theorem q_wid {x : Int} (h : -2147483648 ≤ x) (h2 : x < 2147483648) : q_w x = x := q_w_id ⟨h, h2⟩
theorem q_w6id {x : Int} (h : -9223372036854775808 ≤ x) (h2 : x < 9223372036854775808) : q_w6 x = x := q_w6_id ⟨h, h2⟩
theorem q_up_ne {M : q_M} {k j a b : Nat} {v : Int} (h : ¬ a = k) : q_up M k j v a b = M a b := by simp [q_up, h]
theorem q_up_s {M : q_M} {k j : Nat} {v : Int} : q_up M k j v k j = v := by simp [q_up]
theorem q_up_sn {M : q_M} {k j b : Nat} {v : Int} (h : ¬ b = j) : q_up M k j v k b = M k b := by simp [q_up, h]
/-! Values -/
theorem sp_size {sc : List Int} {d : Nat} {M : q_M} : pq sc (d + 1) 127 [.inr (.inr 6)] GF M = some (some (.inl (M 6 2)), GF, M) :=
  pq_of (F := 0 + 1) (by decide) (Nat.le_of_ble_eq_true rfl) sg_X10_size_0
theorem sp_vclear {sc : List Int} {d : Nat} {M : q_M} : pq sc (d + 1) 128 [.inr (.inr 6)] GF M = some (none, GF, q_up M 6 2 0) :=
  pq_of (F := 0 + 1) (by decide) (Nat.le_of_ble_eq_true rfl) sg_X10_clear_0
theorem sp_put {sc : List Int} {d : Nat} {M : q_M} {v u : Int} (h0 : 0 ≤ M 6 2) (h4 : M 6 2 < 4) (hu : u = 0 ∨ u = 1) : pq sc (d + 1) 129 [.inr (.inr 6), .inl v, .inl u] GF M = some (some (.inl 1), GF, q_up (q_up (q_up M 7 (M 6 2).toNat v) 8 (M 6 2).toNat u) 6 2 (M 6 2 + 1)) := by
  refine pq_of (F := 0 + 1) (by decide) (Nat.le_of_ble_eq_true rfl) (sg_X10_put_0.trans ?_)
  simp (disch := omega) only [true_and, and_true, or_true, true_or, if_true, if_pos, if_neg, q_wid]
theorem sp_putF {sc : List Int} {d : Nat} {M : q_M} {v u : Int} (h4 : 4 ≤ M 6 2) : pq sc (d + 1) 129 [.inr (.inr 6), .inl v, .inl u] GF M = some (some (.inl 0), GF, M) := by
  refine pq_of (F := 0 + 1) (by decide) (Nat.le_of_ble_eq_true rfl) (sg_X10_put_0.trans ?_)
  simp (disch := omega) only [true_and, and_true, or_true, true_or, if_true, if_pos, if_neg]
theorem sp_value {sc : List Int} {d : Nat} {M : q_M} {v : Int} (h0 : 0 ≤ M 6 2) (h4 : M 6 2 < 4) : pq sc (d + 2) 134 [.inr (.inr 0), .inl v] GF M = some (some (.inl 1), GF, q_up (q_up (q_up M 7 (M 6 2).toNat v) 8 (M 6 2).toNat 0) 6 2 (M 6 2 + 1)) := by
  refine pq_of (F := 0 + 1) (by decide) (Nat.le_of_ble_eq_true rfl) (sg_X11_value_0.trans ?_)
  rw [sp_put h0 h4 (Or.inl rfl)]
  simp (disch := omega) only [true_and, and_true, or_true, true_or, if_true, if_pos, if_neg, q_cI_s]
/-! the model's put, value -/
theorem sm_value {sc : List Int} {d : Nat} {M : q_M} {v : Int} (h0 : 0 ≤ M 49 6) (h4 : M 49 6 < 4) : pq sc (d + 2) 153 [.inr (.inr 49), .inl v] GF M = some (some (.inl 1), GF, q_up (q_up (q_up (q_up M 49 1 0) 55 (M 49 6).toNat v) 56 (M 49 6).toNat 0) 49 6 (M 49 6 + 1)) := by
  have hp : pq sc (d + 1) 152 [.inr (.inr 49), .inl v, .inl 0] GF (q_up M 49 1 0) = some (some (.inl 1), GF, q_up (q_up (q_up (q_up M 49 1 0) 55 (M 49 6).toNat v) 56 (M 49 6).toNat 0) 49 6 (M 49 6 + 1)) := by
    refine pq_of (F := 0 + 1) (by decide) (Nat.le_of_ble_eq_true rfl) (sg_X12_put_0.trans ?_)
    simp (disch := omega) only [true_and, and_true, or_true, true_or, if_true, if_pos, if_neg, q_wid, q_up_sn, q_up_ne]
  refine pq_of (F := 0 + 1) (by decide) (Nat.le_of_ble_eq_true rfl) (sg_X12_value_0.trans ?_)
  rw [hp]
  simp (disch := omega) only [true_and, and_true, or_true, true_or, if_true, if_pos, if_neg, q_cI_s]
