theorem pg_Mok {sc : List Int} : q_Mok (pg_P sc) pg_ym pg_NW pg_Rn := by
  intro co idx w na mid h
  obtain ⟨t, h1, h2, h3⟩ := pt_fin2 (ok := pt_M) h pt_Mall
  simp only [Prod.mk.injEq] at h2
  obtain ⟨rfl, rfl, rfl⟩ := h2
  subst h1
  have nw : ∀ {y : MethodName}, pg_NW.any (fun w => decide (w.1 = pg_Rn co ∧ w.2.1 = t.1 ∧ w.2.2.1 = y)) = true → ∃ h, (pg_Rn co, t.1, y, h) ∈ pg_NW := by
    intro y h
    simp only [List.any_eq_true, decide_eq_true_eq] at h
    obtain ⟨w, hw, e1, e2, e3⟩ := h
    exact ⟨w.2.2.2, by rw [← e1, ← e2, ← e3]; exact hw⟩
  unfold pt_M at h3
  split at h3
  · next e =>
    simp only [Bool.and_eq_true, decide_eq_true_eq] at h3
    exact Or.inl ⟨e, h3.1.1.1, pt_in_ok h3.1.1.2, pt_in_ok h3.1.2, pt_in_ok h3.2⟩
  · next e =>
    rcases hY : pg_ym t.2.2.2.1 with ⟨y, b, ml, rt⟩
    rw [hY] at h3
    unfold pt_M2 at h3
    dsimp only at h3
    rw [Bool.and_eq_true] at h3
    obtain ⟨ha, hb⟩ := h3
    simp only [Bool.and_eq_true, decide_eq_true_eq] at ha
    refine Or.inr ⟨e, pt_in_ok ha.1.1.1.1.1, ha.1.1.1.1.2, pt_in_ok ha.1.1.1.2, ha.1.1.2, ha.1.2, ha.2, ?_⟩
    split at hb
    · next e0 =>
      simp only [Bool.and_eq_true, decide_eq_true_eq] at hb
      refine Or.inl ⟨e0, hb.1.1.1.1.1, pt_in_ok hb.1.1.1.1.2, pt_in_ok hb.1.1.1.2, pt_se_ok hb.1.1.2, hb.1.2, ?_⟩
      have hc := hb.2
      split at hc
      · next e1 => exact Or.inl ⟨e1, of_decide_eq_true hc⟩
      · next e1 =>
        refine Or.inr ⟨e1, fun q hq => ?_⟩
        have hq' : vwCl[(pg_mm t.2.2.2.1).1]? = some q := hq
        rw [hq'] at hc
        exact of_decide_eq_true hc
    · split at hb
      · next e0 =>
        simp only [Bool.and_eq_true, decide_eq_true_eq] at hb
        exact Or.inr (Or.inl ⟨e0, pt_in_ok hb.1.1, pt_in_ok hb.1.2, hb.2⟩)
      · split at hb
        · next e0 =>
          simp only [Bool.and_eq_true, decide_eq_true_eq] at hb
          exact Or.inr (Or.inr (Or.inl ⟨e0, hb.1.1.1.1.1, pt_in_ok hb.1.1.1.1.2, pt_in_ok hb.1.1.1.2, hb.1.1.2, hb.1.2, hb.2⟩))
        · split at hb
          · next e0 =>
            simp only [Bool.and_eq_true, decide_eq_true_eq] at hb
            exact Or.inr (Or.inr (Or.inr (Or.inl ⟨e0, Option.isSome_iff_exists.mp hb.1.1.1, pt_in_ok hb.1.1.2, pt_in_ok hb.1.2, hb.2⟩)))
          · split at hb
            · next e0 =>
              simp only [Bool.and_eq_true, decide_eq_true_eq] at hb
              exact Or.inr (Or.inr (Or.inr (Or.inr (Or.inl ⟨e0, nw hb.1.1, pt_in_ok hb.1.2, hb.2⟩))))
            · split at hb
              · next e0 =>
                simp only [Bool.and_eq_true, decide_eq_true_eq] at hb
                exact Or.inr (Or.inr (Or.inr (Or.inr (Or.inr ⟨e0, hb.1.1.1.1.1, nw hb.1.1.1.1.2, pt_in_ok hb.1.1.1.2, hb.1.1.2, hb.1.2, hb.2⟩))))
              · cases hb
