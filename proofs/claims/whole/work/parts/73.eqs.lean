/-! a query that was read -/
def qTl (C : Nat → Int) : List Nat := ((qO C).2.1 + 1) :: (qJ C).2.2.1.map (·.1)
theorem qMi_t {C : Nat → Int} : (qMi C).map (·.1) = qTl C := by simp [qMi, qTl]
theorem qIts_t {C : Nat → Int} : (qIts C).map (·.1) = qTl C := by simp [qIts, qTl]
def qWf (C : Nat → Int) : Nat := if C (qJ C).2.1 = 264 then (qJ C).2.1 + 1 else 0
def qWt (C : Nat → Int) : Nat := if C (qJ C).2.1 = 264 then (qW C).2.1 else 0
theorem aQ_ok {C : Nat → Int} (h : (aQ C).1 = true) : C 0 = 259 ∧ (qO C).1 = true ∧ C (qO C).2.1 = 260 ∧ (aItem C ((qO C).2.1 + 1)).1 = true ∧ (qJ C).1 = true ∧ (qW C).1 = true ∧ (qG C).1 = true ∧ C (qG C).2.1 = 256 ∧ (aQ C).2 = (qG C).2.1 := by
  unfold aQ at h ⊢
  by_cases h1 : C 0 = 259
  · rw [if_pos h1] at h ⊢
    by_cases h2 : (qO C).1 = true
    · rw [if_pos h2] at h ⊢
      by_cases h3 : C (qO C).2.1 = 260
      · rw [if_pos h3] at h ⊢
        by_cases h4 : (aItem C ((qO C).2.1 + 1)).1 = true
        · rw [if_pos h4] at h ⊢
          by_cases h5 : (qJ C).1 = true
          · rw [if_pos h5] at h ⊢
            by_cases h6 : (qW C).1 = true
            · rw [if_pos h6] at h ⊢
              by_cases h7 : (qG C).1 = true
              · rw [if_pos h7] at h ⊢
                by_cases h8 : C (qG C).2.1 = 256
                · rw [if_pos h8]
                  exact ⟨h1, h2, h3, h4, h5, h6, h7, h8, rfl⟩
                · rw [if_neg h8] at h; cases h
              · rw [if_neg h7] at h; cases h
            · rw [if_neg h6] at h; cases h
          · rw [if_neg h5] at h; cases h
        · rw [if_neg h4] at h; cases h
      · rw [if_neg h3] at h; cases h
    · rw [if_neg h2] at h; cases h
  · rw [if_neg h1] at h; cases h
/-- all facts at once -/
def QF (C : Nat → Int) : Prop := TIq C (aQ C).2 (qTl C) ∧ KO C (aQ C).2 (qO C).2.2.1 ∧ OL C 0 (aQ C).2 (qO C).2.2.1 (qO C).2.2.2 ∧ JF C 1 (aQ C).2 (qJ C).2.2.1 (qJ C).2.2.2.2.1 ∧ AL C (qWf C) (qWt C) (qW C).2.2.2.1 ∧ qWt C ≤ (aQ C).2 ∧ ((qG C).2.2.length ≤ 3 ∧ ∀ t ∈ (qG C).2.2, CT C (aQ C).2 t) ∧ (qOps C).length ≤ (aQ C).2 + 3 ∧ (qO C).2.1 + 2 ≤ (aQ C).2
theorem JF_q {C : Nat → Int} {i q q' : Nat} {its : List aIt} {ops : List (Nat × Int)} (h : JF C i q its ops) (hq : q ≤ q') : JF C i q' its ops := ⟨fun it hit => by
  obtain ⟨⟨a1, a2, a3, a4, a5, a6⟩, b1, b2, b3⟩ := h.1 it hit
  exact ⟨⟨a1, a2, a3, a4, by omega, a6⟩, b1, by omega, fun t c1 c2 c3 c4 => CT_q (b3 t c1 c2 c3 c4) hq⟩, h.2⟩
theorem qF {C : Nat → Int} (h : (aQ C).1 = true) : QF C := by
  obtain ⟨h1, h2, h3, h4, h5, h6, h7, h8, h9⟩ := aQ_ok h
  have o1 : 1 + (qO C).2.2.2.length ≤ (qO C).2.1 ∧ (qO C).2.2.1.length ≤ 4 := aOuts_len h2
  have o2 : OL C 0 (qO C).2.1 (qO C).2.2.1 (qO C).2.2.2 := aOuts_ol h2
  have j1 : ((qO C).2.1 + 3) + (qJ C).2.2.2.2.1.length ≤ (qJ C).2.1 ∧ ((qO C).2.1 + 3) + (qJ C).2.2.2.1.length ≤ (qJ C).2.1 ∧ (qJ C).2.2.2.2.2.length ≤ (qJ C).2.2.2.1.length ∧ (qJ C).2.2.1.length ≤ 2 := aJ_len _ _ _ _ _ h5
  have j2 : JF C 1 (qJ C).2.1 (qJ C).2.2.1 (qJ C).2.2.2.2.1 := aJ_jf _ _ _ _ _ h5
  have w1 : (qJ C).2.1 + (qW C).2.2.2.1.length ≤ (qW C).2.1 ∧ (qJ C).2.1 + (qW C).2.2.1.length ≤ (qW C).2.1 ∧ (qW C).2.2.2.2.length ≤ (qW C).2.2.1.length := aW_len h6
  have w2 : AL C (qWf C) (qWt C) (qW C).2.2.2.1 ∧ (qJ C).2.1 ≤ (qW C).2.1 := aW_al h6
  have g1 : (qW C).2.1 ≤ (qG C).2.1 ∧ (qG C).2.2.length ≤ 3 ∧ ∀ t ∈ (qG C).2.2, CT C (qG C).2.1 t := aGr_f h7
  have f1 := aItem_f h4
  have hwt : qWt C ≤ (qG C).2.1 := by unfold qWt; split <;> omega
  unfold QF
  rw [h9]
  have j3 := JF_q j2 (show (qJ C).2.1 ≤ (qG C).2.1 by omega)
  refine ⟨⟨by simp [qTl]; omega, fun t ht => ?_⟩, ⟨o1.2, fun o ho => ?_⟩, OL_q o2 (by omega), j3, w2.1, hwt, ⟨g1.2.1, g1.2.2⟩, ?_, by omega⟩
  · rcases List.mem_cons.mp ht with rfl | ht
    · exact ⟨f1.1, f1.2.1, f1.2.2.1, f1.2.2.2, by omega⟩
    · simp only [List.mem_map] at ht
      obtain ⟨it, hit, rfl⟩ := ht
      obtain ⟨a1, a2, a3, a4, a5, a6⟩ := (j3.1 it hit).1
      exact ⟨a1, a2, a3, a4, a5⟩
  · rcases o2.1 o ho with k1 | ⟨k1, k2, -⟩
    · exact ⟨by omega, fun hh => absurd k1 hh⟩
    · exact ⟨by omega, fun _ => CT_q k2 (by omega)⟩
  · simp only [qOps, List.length_append, List.length_map]
    omega
theorem itm_r {C : Nat → Int} {tl : List Nat} {a : Int} : itm C tl a < tl.length := by
  rcases itm_s (C := C) (tl := tl) (a := a) with ⟨k1, -⟩ | ⟨k, t, k1, k2, -⟩
  · omega
  · have := (List.getElem?_eq_some_iff.mp k1).1
    omega
theorem bc_3 {W C : Nat → Int} {tl : List Nat} {t : Nat} (hl : tl.length ≤ 3) : bc W C tl t 3 ↔ bc W C tl t tl.length := by
  have := itm_r (C := C) (tl := tl) (a := C t)
  unfold bc
  constructor
  · rintro (h | h | h)
    · exact Or.inl h
    · omega
    · exact Or.inr (Or.inr h)
  · rintro (h | h | h)
    · exact Or.inl h
    · omega
    · exact Or.inr (Or.inr h)
theorem mem_ops {α : Type} {l : List α} {x : α} : (∃ j : Nat, l[j]? = some x) ↔ x ∈ l := by
  constructor
  · rintro ⟨j, h⟩; exact List.mem_of_getElem? h
  · intro h
    obtain ⟨j, hj, e⟩ := List.mem_iff_getElem.mp h
    exact ⟨j, by rw [List.getElem?_eq_getElem hj, e]⟩
/-- class and model find the same places ill -/
theorem BB_Bm {W C P : Nat → Int} (h : QF C) (p : Int) : BB W C P (qTl C) (qOps C) (qO C).2.2.1 (qG C).2.2 p ↔ Bm W C P (qMi C) (qO C).2.2.1 (qG C).2.2 (qWf C) (qWt C) p := by
  obtain ⟨hT, hK, hO, hJ, hA, -, hG, -⟩ := h
  have hl := hT.1
  unfold BB Bm
  rw [qMi_t]
  have al_ncst : ∀ t, 119 ≤ C t → C t ≤ 122 → ¬ cst C t := fun t a1 a2 hh => by unfold cst at hh; omega
  -- membership in the operands
  have mo : ∀ t L, (t, L) ∈ qOps C ↔ ((t ∈ (qO C).2.2.2 ∧ L = 3) ∨ (t, L) ∈ (qJ C).2.2.2.2.1 ∨ (t ∈ (qW C).2.2.2.1 ∧ L = 3) ∨ (t ∈ (qG C).2.2 ∧ L = 3)) := by
    intro t L
    unfold qOps
    simp only [List.mem_append, List.mem_map, Prod.mk.injEq]
    constructor
    · rintro (((⟨a, h1, h2, h3⟩ | h1) | ⟨a, h1, h2, h3⟩) | ⟨a, h1, h2, h3⟩)
      · subst h2; exact Or.inl ⟨h1, h3.symm⟩
      · exact Or.inr (Or.inl h1)
      · subst h2; exact Or.inr (Or.inr (Or.inl ⟨h1, h3.symm⟩))
      · subst h2; exact Or.inr (Or.inr (Or.inr ⟨h1, h3.symm⟩))
    · rintro (⟨h1, h2⟩ | h1 | ⟨h1, h2⟩ | ⟨h1, h2⟩)
      · exact Or.inl (Or.inl (Or.inl ⟨t, h1, rfl, h2.symm⟩))
      · exact Or.inl (Or.inl (Or.inr h1))
      · exact Or.inl (Or.inr ⟨t, h1, rfl, h2.symm⟩)
      · exact Or.inr ⟨t, h1, rfl, h2.symm⟩
  have outop : ∀ o ∈ (qO C).2.2.1, ¬ o.1 = 266 → CT C (aQ C).2 o.2.2 ∧ (o.2.2, (3 : Int)) ∈ qOps C := by
    intro o ho h6
    rcases hO.1 o ho with k1 | ⟨k1, k2, k, k3, k4⟩
    · exact absurd k1 h6
    · exact ⟨k2, (mo _ _).mpr (Or.inl ⟨List.mem_of_getElem? k4, rfl⟩)⟩
  have bcop : ∀ t L, (t, L) ∈ qOps C → 119 ≤ C t → C t ≤ 122 → bc W C (qTl C) t L → p = P t → ∃ j, BC W C P (qTl C) (qOps C) j p := by
    intro t L h1 h2 h3 h4 h5
    obtain ⟨j, hj⟩ := mem_ops.mpr h1
    exact ⟨j, _, hj, al_ncst t h2 h3, h4, h5⟩
  constructor
  · rintro (⟨j, hh⟩ | ⟨j, x, hx, h1, h2, h3⟩ | ⟨hg, j, o, ho, h1, h2, h3⟩)
    · refine Or.inr (Or.inl ⟨j, Or.inl ?_⟩)
      rw [qMi_t]; exact hh
    · obtain ⟨t, L⟩ := x
      dsimp only at h1 h2 h3
      rcases (mo t L).mp (List.mem_of_getElem? hx) with ⟨k1, rfl⟩ | k1 | ⟨k1, rfl⟩ | ⟨k1, rfl⟩
      · obtain ⟨o, k2, k3, rfl⟩ := hO.2 t k1
        obtain ⟨i, hi⟩ := mem_ops.mpr k2
        exact Or.inl ⟨i, o, hi, k3, Or.inl ((bc_3 hl).mp h2), h3⟩
      · rcases hJ.2.1 _ k1 with k2 | ⟨a1, a2, -, -⟩
        · exact absurd k2 h1
        · obtain ⟨i, it, k3, k4, k5, k6⟩ := (hJ.2.2 t L a1 a2).mp k1
          refine Or.inr (Or.inl ⟨1 + i, Or.inr ⟨by omega, it, ?_, ?_⟩⟩)
          · rw [Nat.add_comm]; simpa [qMi] using k3
          · rw [qMi_t]
            exact ⟨t, k5, k6, a1, a2, by rw [← k4]; exact h2, h3⟩
      · obtain ⟨b1, b2, b3⟩ := hA.2.1 t k1
        rcases b3 with b3 | ⟨c1, c2, -⟩
        · exact absurd b3 h1
        · exact Or.inr (Or.inr (Or.inl ⟨t, b1, b2, c1, c2, (bc_3 hl).mp h2, h3⟩))
      · exact Or.inr (Or.inr (Or.inr ⟨t, k1, (bc_3 hl).mp h2, h3⟩))
    · have hm := List.mem_of_getElem? ho
      obtain ⟨hct, -⟩ := outop o hm (by omega)
      refine Or.inl ⟨j, o, ho, by omega, ?_, h3⟩
      by_cases g : grm C (qTl C) (qG C).2.2 o.2.2
      · obtain ⟨t, g1, g2, g3⟩ := g
        refine Or.inl (Or.inl ?_)
        rcases itm_s (C := C) (tl := qTl C) (a := C o.2.2) with ⟨k1, -⟩ | ⟨k, u, k1, k2, k3, -⟩
        · exact k1
        · rcases itm_s (C := C) (tl := qTl C) (a := C t) with ⟨m1, -⟩ | ⟨m, v, m1, m2, m3, -⟩
          · omega
          · have e : m = k := by omega
            subst e
            rw [k1] at m1; cases m1
            exact absurd ⟨t, g1, m3.symm.trans k3, g3⟩ h2
      · exact Or.inr ⟨hg, h1, g⟩
  · rintro (⟨j, o, ho, h1, h2, h3⟩ | ⟨j, hh⟩ | ⟨t, a1, a2, a3, a4, a5, a6⟩ | ⟨t, h1, h2, h3⟩)
    · have hm := List.mem_of_getElem? ho
      obtain ⟨hct, hop⟩ := outop o hm h1
      rcases h2 with h2 | ⟨g1, g2, g3⟩
      · exact Or.inr (Or.inl (bcop _ _ hop hct.1 hct.2.1 ((bc_3 hl).mpr h2) h3))
      · refine Or.inr (Or.inr ⟨g1, j, o, ho, g2, fun ⟨t, k1, k2, k3⟩ => g3 ⟨t, k1, by rw [k2], k3⟩, h3⟩)
    · rcases hh with hh | ⟨h0, it, hit, u, a1, a2, a3, a4, a5, a6⟩
      · rw [qMi_t] at hh
        exact Or.inl ⟨j, hh⟩
      · rw [qMi_t] at a5
        obtain ⟨i, rfl⟩ : ∃ i, j = i + 1 := ⟨j - 1, by omega⟩
        have hit' : (qJ C).2.2.1[i]? = some it := by simpa [qMi] using hit
        exact Or.inr (Or.inl (bcop u _ ((mo _ _).mpr (Or.inr (Or.inl ((hJ.2.2 u ((1 + i : Nat) : Int) a3 a4).mpr ⟨i, it, hit', rfl, a1, a2⟩)))) a3 a4 (by rw [Nat.add_comm]; exact a5) a6))
    · exact Or.inr (Or.inl (bcop t 3 ((mo _ _).mpr (Or.inr (Or.inr (Or.inl ⟨hA.2.2 t a1 a2 a3 a4, rfl⟩)))) a3 a4 ((bc_3 hl).mpr a5) a6))
    · have hct := hG.2 t h1
      exact Or.inr (Or.inl (bcop t 3 ((mo _ _).mpr (Or.inr (Or.inr (Or.inr ⟨h1, rfl⟩)))) hct.1 hct.2.1 ((bc_3 hl).mpr h2) h3))
theorem OT_q {C : Nat → Int} (h : QF C) : OT C (qOps C) := by
  obtain ⟨hT, hK, hO, hJ, hA, -, hG, -⟩ := h
  intro x hx
  unfold qOps at hx
  simp only [List.mem_append, List.mem_map] at hx
  rcases hx with ((⟨t, ht, rfl⟩ | hx) | ⟨t, ht, rfl⟩) | ⟨t, ht, rfl⟩
  · obtain ⟨o, k2, k3, rfl⟩ := hO.2 t ht
    rcases hO.1 o k2 with k1 | ⟨k1, k4, -⟩
    · exact absurd k1 k3
    · exact Or.inr ⟨k4.1, k4.2.1, k4.2.2.1, k4.2.2.2.1⟩
  · exact hJ.2.1 x hx
  · rcases (hA.2.1 t ht).2.2 with b3 | ⟨c1, c2, c3, c4, -⟩
    · exact Or.inl b3
    · exact Or.inr ⟨c1, c2, c3, c4⟩
  · have := hG.2 t ht
    exact Or.inr ⟨this.1, this.2.1, this.2.2.1, this.2.2.2.1⟩
theorem LK_q {C : Nat → Int} (h : QF C) : LK (qOps C) (qO C).2.2.1 (qGrs C) (qG C).2.2 := by
  obtain ⟨hT, hK, hO, hJ, hA, -, hG, -⟩ := h
  refine ⟨fun o ho h6 => ?_, by simp [qGrs], fun i g hg => ?_⟩
  · rcases hO.1 o ho with k1 | ⟨k1, k2, k, k3, k4⟩
    · exact absurd k1 h6
    · refine ⟨k, by rw [k3]; simp, ?_⟩
      unfold qOps
      have hk : k < (qO C).2.2.2.length := (List.getElem?_eq_some_iff.mp k4).1
      rw [List.append_assoc, List.append_assoc, List.getElem?_append_left (by simpa using hk), List.getElem?_map, k4]
      rfl
  · unfold qGrs at hg
    have hi : i < (qG C).2.2.length := by have := (List.getElem?_eq_some_iff.mp hg).1; simpa using this
    have ht : (qG C).2.2[i]? = some (qG C).2.2[i] := List.getElem?_eq_getElem hi
    refine ⟨_, ht, ?_⟩
    have eg : g = qU C + (qW C).2.2.2.1.length + i := by
      rw [List.getElem?_range' (by omega)] at hg
      simp at hg; omega
    subst eg
    unfold qOps
    have el : ((qO C).2.2.2.map (·, (3 : Int)) ++ (qJ C).2.2.2.2.1 ++ (qW C).2.2.2.1.map (·, (3 : Int))).length = qU C + (qW C).2.2.2.1.length := by simp [qU]; omega
    rw [List.getElem?_append_right (by omega), el, Nat.add_sub_cancel_left, List.getElem?_map, ht]
    rfl
