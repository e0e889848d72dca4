/-! what the parser of the class writes -/
def opP (C P : Nat → Int) (x : Nat × Int) : Int := if C x.1 = 258 ∨ C x.1 = 274 then -1 else P x.1
def opA (C : Nat → Int) (x : Nat × Int) : Int := if C x.1 = 258 ∨ C x.1 = 274 then -1 else C x.1
def opL (C : Nat → Int) (x : Nat × Int) : Int := if C x.1 = 258 ∨ C x.1 = 274 then -1 else C (x.1 + 2) - 97
def opI (C : Nat → Int) (x : Nat × Int) : Int := if C x.1 = 258 ∨ C x.1 = 274 then -1 else x.2
def opV (C N : Nat → Int) (x : Nat × Int) : Int := if C x.1 = 258 ∨ C x.1 = 274 then N x.1 else 0
def opU (C : Nat → Int) (x : Nat × Int) : Int := if C x.1 = 258 then 0 else 1
def OA (M : q_M) (C P N : Nat → Int) (ops : List (Nat × Int)) : Prop := M 16 7 = ops.length ∧ ∀ i x, ops[i]? = some x → M 17 i = opP C P x ∧ M 18 i = opA C x ∧ M 19 i = opL C x ∧ M 20 i = opI C x ∧ M 21 i = -1 ∧ M 22 i = opV C N x ∧ M 23 i = opU C x
def SA (M : q_M) (stp : List (Int × Int × Int)) : Prop := M 24 4 = stp.length ∧ ∀ i x, stp[i]? = some x → M 25 i = x.1 ∧ M 26 i = x.2.1 ∧ M 27 i = x.2.2
def PA (M : q_M) (prt : List (Nat × Nat × Int × Int)) : Prop := M 24 9 = prt.length ∧ ∀ i x, prt[i]? = some x → M 28 i = x.1 ∧ M 29 i = x.2.1 ∧ M 30 i = x.2.2.1 ∧ M 31 i = x.2.2.2
def IA (M : q_M) (C P : Nat → Int) (its : List (Nat × Int)) : Prop := M 15 7 = its.length ∧ ∀ i x, its[i]? = some x → M 33 i = C x.1 - 84 ∧ M 34 i = P x.1 ∧ M 35 i = C (x.1 + 1) ∧ M 36 i = P (x.1 + 1) ∧ M 37 i = x.2
def UA (M : q_M) (ous : List (Int × Int)) : Prop := M 15 10 = ous.length ∧ ∀ i x, ous[i]? = some x → M 38 i = x.1 ∧ M 39 i = x.2
def GA (M : q_M) (grs : List Nat) : Prop := M 15 12 = grs.length ∧ ∀ (i x : Nat), grs[i]? = some x → M 40 i = x
theorem l_app {α : Type} {l : List α} {x y : α} {i : Nat} (h : (l ++ [x])[i]? = some y) : (i < l.length ∧ l[i]? = some y) ∨ (i = l.length ∧ y = x) := by
  rcases Nat.lt_trichotomy i l.length with hi | hi | hi
  · rw [List.getElem?_append_left hi] at h; exact Or.inl ⟨hi, h⟩
  · subst hi; rw [List.getElem?_append_right (Nat.le_refl _), Nat.sub_self] at h; simp at h; exact Or.inr ⟨rfl, h.symm⟩
  · rw [List.getElem?_append_right (by omega)] at h
    have : ([x] : List α)[i - l.length]? = none := List.getElem?_eq_none (by simp; omega)
    rw [this] at h; cases h
theorem OA_fr {M M' : q_M} {C P N : Nat → Int} {ops : List (Nat × Int)} (h : OA M C P N ops) (hf : ∀ a, 16 ≤ a → a ≤ 23 → M' a = M a) : OA M' C P N ops := by
  unfold OA at h ⊢
  rw [hf 16 (by omega) (by omega), hf 17 (by omega) (by omega), hf 18 (by omega) (by omega), hf 19 (by omega) (by omega), hf 20 (by omega) (by omega), hf 21 (by omega) (by omega), hf 22 (by omega) (by omega), hf 23 (by omega) (by omega)]; exact h
theorem SA_fr {M M' : q_M} {stp : List (Int × Int × Int)} (h : SA M stp) (hf : ∀ a, 25 ≤ a → a ≤ 27 → M' a = M a) (h4 : M' 24 4 = M 24 4) : SA M' stp := by
  unfold SA at h ⊢
  rw [hf 25 (by omega) (by omega), hf 26 (by omega) (by omega), hf 27 (by omega) (by omega), h4]; exact h
theorem PA_fr {M M' : q_M} {prt : List (Nat × Nat × Int × Int)} (h : PA M prt) (hf : ∀ a, 28 ≤ a → a ≤ 31 → M' a = M a) (h4 : M' 24 9 = M 24 9) : PA M' prt := by
  unfold PA at h ⊢
  rw [hf 28 (by omega) (by omega), hf 29 (by omega) (by omega), hf 30 (by omega) (by omega), hf 31 (by omega) (by omega), h4]; exact h
theorem IA_fr {M M' : q_M} {C P : Nat → Int} {its : List (Nat × Int)} (h : IA M C P its) (hf : ∀ a, 33 ≤ a → a ≤ 37 → M' a = M a) (h4 : M' 15 7 = M 15 7) : IA M' C P its := by
  unfold IA at h ⊢
  rw [hf 33 (by omega) (by omega), hf 34 (by omega) (by omega), hf 35 (by omega) (by omega), hf 36 (by omega) (by omega), hf 37 (by omega) (by omega), h4]; exact h
theorem UA_fr {M M' : q_M} {ous : List (Int × Int)} (h : UA M ous) (hf : ∀ a, 38 ≤ a → a ≤ 39 → M' a = M a) (h4 : M' 15 10 = M 15 10) : UA M' ous := by
  unfold UA at h ⊢
  rw [hf 38 (by omega) (by omega), hf 39 (by omega) (by omega), h4]; exact h
theorem GA_fr {M M' : q_M} {grs : List Nat} (h : GA M grs) (hf : M' 40 = M 40) (h4 : M' 15 12 = M 15 12) : GA M' grs := by
  unfold GA at h ⊢
  rw [hf, h4]; exact h
/-- the parser's state -/
def PZ (M : q_M) (n : Nat) (C P N : Nat → Int) (p : Nat) (L : Int) (ops : List (Nat × Int)) (stp : List (Int × Int × Int)) (prt : List (Nat × Nat × Int × Int)) (its : List (Nat × Int)) (ous : List (Int × Int)) (grs : List Nat) : Prop := TK M n C P N p ∧ M 41 4 = L ∧ OA M C P N ops ∧ SA M stp ∧ PA M prt ∧ IA M C P its ∧ UA M ous ∧ GA M grs
theorem PZ_adv {M : q_M} {n : Nat} {C P N : Nat → Int} {p : Nat} {L : Int} {ops : List (Nat × Int)} {stp : List (Int × Int × Int)} {prt : List (Nat × Nat × Int × Int)} {its : List (Nat × Int)} {ous : List (Int × Int)} {grs : List Nat} (h : PZ M n C P N p L ops stp prt its ous grs) (hp : p + 1 < n) : PZ (q_up M 11 4 ((p : Int) + 1)) n C P N (p + 1) L ops stp prt its ous grs := by
  obtain ⟨h1, h2, h3, h4, h5, h6, h7, h8⟩ := h
  exact ⟨TK_adv h1 hp, (congrFun (q_upf (by decide)) 4).trans h2, OA_fr h3 (fun a h1 h2 => q_upf (by omega)), SA_fr h4 (fun a h1 h2 => q_upf (by omega)) (congrFun (q_upf (by decide)) 4), PA_fr h5 (fun a h1 h2 => q_upf (by omega)) (congrFun (q_upf (by decide)) 9), IA_fr h6 (fun a h1 h2 => q_upf (by omega)) (congrFun (q_upf (by decide)) 7), UA_fr h7 (fun a h1 h2 => q_upf (by omega)) (congrFun (q_upf (by decide)) 10), GA_fr h8 (q_upf (by decide)) (congrFun (q_upf (by decide)) 12)⟩
theorem sp_addColumn {sc : List Int} {d : Nat} {M : q_M} {u : Nat} {a1 a2 a3 a4 : Int} (h : M 16 7 = (u : Int)) (hu : u < 130) (hd : 1 ≤ d) : pq sc d 29 [.inr (.inr 16), .inl (a1), .inl (a2), .inl (a3), .inl (a4)] GF M = some (some (.inl ((u : Int))), GF, (q_up (q_up (q_up (q_up (q_up (q_up (q_up (q_up M 17 u a1) 18 u a2) 19 u a3) 20 u a4) 21 u (-1)) 22 u 0) 23 u 1) 16 7 ((u : Int) + 1))) := by
  refine pq_e (by omega) (by decide) (Nat.le_of_ble_eq_true rfl) ⟨0 + 1, sg_X3_addColumn_0.trans ?_⟩
  simp (disch := omega) only [true_and, and_true, or_true, true_or, false_or, or_false, false_and, and_false, if_true, if_false, if_pos, if_neg, q_wid, q_cI_s, q_c0_s, q_cL_s, q_cR_s, Int.toNat_natCast, h, Int.add_sub_cancel]
theorem sp_addConstant {sc : List Int} {d : Nat} {M : q_M} {u : Nat} {a1 a2 : Int} (h : M 16 7 = (u : Int)) (hu : u < 130) (h2 : a2 = 0 ∨ a2 = 1) (hd : 2 ≤ d) : pq sc d 30 [.inr (.inr 16), .inl (a1), .inl (a2)] GF M = some (some (.inl ((u : Int))), GF, (q_up (q_up (q_up (q_up (q_up (q_up (q_up (q_up (q_up (q_up M 17 u (-1)) 18 u (-1)) 19 u (-1)) 20 u (-1)) 21 u (-1)) 22 u 0) 23 u 1) 16 7 ((u : Int) + 1)) 22 u a1) 23 u a2)) := by
  refine pq_e (by omega) (by decide) (Nat.le_of_ble_eq_true rfl) ⟨0 + 1, sg_X3_addConstant_0.trans ?_⟩
  simp (disch := omega) only [true_and, and_true, or_true, true_or, false_or, or_false, false_and, and_false, if_true, if_false, if_pos, if_neg, q_wid, q_cI_s, q_c0_s, q_cL_s, q_cR_s, Int.toNat_natCast, sp_addColumn h hu (show 1 ≤ d - 1 by omega)]
theorem OA_push {M M' : q_M} {C P N : Nat → Int} {ops : List (Nat × Int)} {x : Nat × Int} (h : OA M C P N ops) (h7 : M' 16 7 = (ops.length : Int) + 1) (hk : ∀ i, i < ops.length → M' 17 i = M 17 i ∧ M' 18 i = M 18 i ∧ M' 19 i = M 19 i ∧ M' 20 i = M 20 i ∧ M' 21 i = M 21 i ∧ M' 22 i = M 22 i ∧ M' 23 i = M 23 i) (hx : M' 17 ops.length = opP C P x ∧ M' 18 ops.length = opA C x ∧ M' 19 ops.length = opL C x ∧ M' 20 ops.length = opI C x ∧ M' 21 ops.length = -1 ∧ M' 22 ops.length = opV C N x ∧ M' 23 ops.length = opU C x) : OA M' C P N (ops ++ [x]) := by
  refine ⟨by rw [h7]; simp, fun i y hy => ?_⟩
  rcases l_app hy with ⟨hi, hy⟩ | ⟨rfl, rfl⟩
  · obtain ⟨e1, e2, e3, e4, e5, e6, e7⟩ := hk i hi
    rw [e1, e2, e3, e4, e5, e6, e7]
    exact h.2 i y hy
  · exact hx
theorem ax_column {sc : List Int} {d : Nat} {M : q_M} {C P N : Nat → Int} {ops : List (Nat × Int)} {t : Nat} {L : Int} (h : OA M C P N ops) (hu : ops.length < 130) (h1 : ¬ C t = 258) (h2 : ¬ C t = 274) (hd : 1 ≤ d) : ∃ M', pq sc d 29 [.inr (.inr 16), .inl (P t), .inl (C t), .inl (C (t + 2) - 97), .inl L] GF M = some (some (.inl (ops.length : Int)), GF, M') ∧ OA M' C P N (ops ++ [(t, L)]) ∧ ∀ a, a < 16 ∨ 23 < a → M' a = M a := by
  refine ⟨_, sp_addColumn h.1 hu hd, OA_push h q_up_s ?_ ?_, ?_⟩
  · intro i hi
    refine ⟨?_, ?_, ?_, ?_, ?_, ?_, ?_⟩ <;> simp (disch := omega) only [q_up_ne, q_up_sn]
  · refine ⟨?_, ?_, ?_, ?_, ?_, ?_, ?_⟩ <;> simp (disch := omega) only [q_up_ne, q_up_s, opP, opA, opL, opI, opV, opU, h1, h2, or_self, if_false]
  · intro a ha
    simp (disch := omega) only [q_upf]
theorem ax_const {sc : List Int} {d : Nat} {M : q_M} {C P N : Nat → Int} {ops : List (Nat × Int)} {t : Nat} {L u : Int} (h : OA M C P N ops) (hu : ops.length < 130) (h1 : (C t = 258 ∧ u = 0) ∨ (C t = 274 ∧ u = 1)) (hd : 2 ≤ d) : ∃ M', pq sc d 30 [.inr (.inr 16), .inl (N t), .inl u] GF M = some (some (.inl (ops.length : Int)), GF, M') ∧ OA M' C P N (ops ++ [(t, L)]) ∧ ∀ a, a < 16 ∨ 23 < a → M' a = M a := by
  refine ⟨_, sp_addConstant h.1 hu (by omega) hd, OA_push h ?_ ?_ ?_, ?_⟩
  · simp (disch := omega) only [q_up_ne, q_up_s]
  · intro i hi
    refine ⟨?_, ?_, ?_, ?_, ?_, ?_, ?_⟩ <;> simp (disch := omega) only [q_up_ne, q_up_sn]
  · have hc : C t = 258 ∨ C t = 274 := by omega
    refine ⟨?_, ?_, ?_, ?_, ?_, ?_, ?_⟩ <;> simp (disch := omega) only [q_up_ne, q_up_s, opP, opA, opL, opI, opV, opU, hc, if_true]
    rcases h1 with ⟨h1, rfl⟩ | ⟨h1, rfl⟩ <;> simp [h1]
  · intro a ha
    simp (disch := omega) only [q_upf]
