theorem T3_s {sc : List Int} {d : Nat} {Z : tZ} {n : Nat} {C P : Nat → Int} {S : Nat → Prop} (hE : TE Z n C P S) (hd : 11 ≤ d) {f : Nat} (i0 : T0 sc d Z n C P S f) (i3 : T3 sc d Z n C P S f) : T3 sc d Z n C P S (f + 1) := by
  intro o p t u s M l r hl hcl hr h
  unfold aC at hr
  rw [if_neg (by decide), if_neg (by decide), if_neg (by decide), if_pos rfl] at hr
  by_cases ha : C p = 271
  · rw [if_pos ha] at hr
    obtain ⟨M1, q1, hf1, h1⟩ := c_join (sc := sc) (d := d) hE h (Or.inl ha) (by omega)
    rcases aBd_s hr with ⟨q, st, ot, pt, e1, rfl⟩ | ⟨q, st, ot, pt, e1, e2⟩
    · rcases i0 o (p + 1) (p + 1) u s M1 l _ hl e1 h1 with ⟨hb, -⟩ | ⟨-, F, M', hq, hf, hI⟩
      · cases hb
      · exact Or.inr ⟨rfl, F + 2, M', (q1 F).trans hq, FR_t hf1 hf, hI⟩
    · rcases i0 o (p + 1) (p + 1) u s M1 l _ hl e1 h1 with ⟨-, k, M2, t2, hq2, hf2, h2⟩ | ⟨hb, -⟩
      · rw [hcl] at h2
        rcases aBd_s e2 with ⟨q', st', ot', pt', e3, rfl⟩ | ⟨q', st', ot', pt', e3, e4⟩
        · rcases i3 o q t2 _ _ M2 l _ hl hcl e3 h2 with ⟨hb, -⟩ | ⟨-, F, M', hq, hf, hI⟩
          · cases hb
          · exact Or.inr ⟨rfl, F + k + 2, M', (q1 (F + k)).trans ((hq2 F).trans hq), FR_t hf1 (FR_t hf2 hf), hI⟩
        · cases e4
          rcases i3 o q t2 _ _ M2 l _ hl hcl e3 h2 with ⟨-, k3, M', t', hq, hf, hm⟩ | ⟨hb, -⟩
          · refine Or.inl ⟨rfl, k3 + k + 2, M', t', fun F => ?_, FR_t hf1 (FR_t hf2 hf), hm⟩
            have := q1 (F + k3 + k)
            rw [show F + (k3 + k + 2) = F + k3 + k + 2 by omega, this, hq2 (F + k3), hq F]
          · cases hb
      · cases hb
  · rw [if_neg ha] at hr
    cases hr
    exact Or.inl ⟨rfl, 0, M, t, fun F => rfl, FR_r, h⟩
theorem T4_s {sc : List Int} {d : Nat} {Z : tZ} {n : Nat} {C P : Nat → Int} {S : Nat → Prop} (hE : TE Z n C P S) (hd : 11 ≤ d) {f : Nat} (i1 : T1 sc d Z n C P S f) (i4 : T4 sc d Z n C P S f) : T4 sc d Z n C P S (f + 1) := by
  intro o p t u s M l r hl hcl hr h
  unfold aC at hr
  rw [if_neg (by decide), if_neg (by decide), if_neg (by decide), if_neg (by decide)] at hr
  by_cases ha : C p = 270
  · rw [if_pos ha] at hr
    obtain ⟨M1, q1, hf1, h1⟩ := c_join (sc := sc) (d := d) hE h (Or.inr ha) (by omega)
    rcases aBd_s hr with ⟨q, st, ot, pt, e1, rfl⟩ | ⟨q, st, ot, pt, e1, e2⟩
    · rcases i1 o (p + 1) (p + 1) u s M1 l _ hl hcl e1 h1 with ⟨hb, -⟩ | ⟨-, F, M', hq, hf, hI⟩
      · cases hb
      · exact Or.inr ⟨rfl, F + 2, M', (q1 F).trans hq, FR_t hf1 hf, hI⟩
    · rcases i1 o (p + 1) (p + 1) u s M1 l _ hl hcl e1 h1 with ⟨-, k, M2, t2, hq2, hf2, h2⟩ | ⟨hb, -⟩
      · rcases aBd_s e2 with ⟨q', st', ot', pt', e3, rfl⟩ | ⟨q', st', ot', pt', e3, e4⟩
        · rcases i4 o q t2 _ _ M2 l _ hl hcl e3 h2 with ⟨hb, -⟩ | ⟨-, F, M', hq, hf, hI⟩
          · cases hb
          · exact Or.inr ⟨rfl, F + k + 2, M', (q1 (F + k)).trans ((hq2 F).trans hq), FR_t hf1 (FR_t hf2 hf), hI⟩
        · cases e4
          rcases i4 o q t2 _ _ M2 l _ hl hcl e3 h2 with ⟨-, k3, M', t', hq, hf, hm⟩ | ⟨hb, -⟩
          · refine Or.inl ⟨rfl, k3 + k + 2, M', t', fun F => ?_, FR_t hf1 (FR_t hf2 hf), hm⟩
            have := q1 (F + k3 + k)
            rw [show F + (k3 + k + 2) = F + k3 + k + 2 by omega, this, hq2 (F + k3), hq F]
          · cases hb
      · cases hb
  · rw [if_neg ha] at hr
    cases hr
    exact Or.inl ⟨rfl, 0, M, t, fun F => rfl, FR_r, h⟩
theorem T1_s {sc : List Int} {d : Nat} {Z : tZ} {n : Nat} {C P : Nat → Int} {S : Nat → Prop} {f : Nat} (i0 : T0 sc d Z n C P S f) (i3 : T3 sc d Z n C P S f) : T1 sc d Z n C P S (f + 1) := by
  intro o p t u s M l r hl hcl hr h
  unfold aC at hr
  rw [if_neg (by decide), if_pos rfl] at hr
  rcases aBd_s hr with ⟨q, st, ot, pt, e1, rfl⟩ | ⟨q, st, ot, pt, e1, e2⟩
  · rcases i0 o p t u s M l _ hl e1 h with ⟨hb, -⟩ | ⟨-, F, M', hq, hf, hI⟩
    · cases hb
    · exact Or.inr ⟨rfl, F, M', hq, hf, hI⟩
  · rcases i0 o p t u s M l _ hl e1 h with ⟨-, k, M2, t2, hq2, hf2, h2⟩ | ⟨hb, -⟩
    · rw [hcl] at h2
      rcases aBd_s e2 with ⟨q', st', ot', pt', e3, rfl⟩ | ⟨q', st', ot', pt', e3, e4⟩
      · rcases i3 o q t2 _ _ M2 l _ hl hcl e3 h2 with ⟨hb, -⟩ | ⟨-, F, M', hq, hf, hI⟩
        · cases hb
        · exact Or.inr ⟨rfl, F + k, M', (hq2 F).trans hq, FR_t hf2 hf, hI⟩
      · cases e4
        rcases i3 o q t2 _ _ M2 l _ hl hcl e3 h2 with ⟨-, k3, M', t', hq, hf, hm⟩ | ⟨hb, -⟩
        · refine Or.inl ⟨rfl, k3 + k, M', t', fun F => ?_, FR_t hf2 hf, hm⟩
          rw [show F + (k3 + k) = F + k3 + k by omega, hq2 (F + k3), hq F]
        · cases hb
    · cases hb
theorem T2_s {sc : List Int} {d : Nat} {Z : tZ} {n : Nat} {C P : Nat → Int} {S : Nat → Prop} {f : Nat} (i1 : T1 sc d Z n C P S f) (i4 : T4 sc d Z n C P S f) : T2 sc d Z n C P S (f + 1) := by
  intro o p t u s M l r hl hcl hr h
  unfold aC at hr
  rw [if_neg (by decide), if_neg (by decide), if_pos rfl] at hr
  rcases aBd_s hr with ⟨q, st, ot, pt, e1, rfl⟩ | ⟨q, st, ot, pt, e1, e2⟩
  · rcases i1 o p t u s M l _ hl hcl e1 h with ⟨hb, -⟩ | ⟨-, F, M', hq, hf, hI⟩
    · cases hb
    · exact Or.inr ⟨rfl, F, M', hq, hf, hI⟩
  · rcases i1 o p t u s M l _ hl hcl e1 h with ⟨-, k, M2, t2, hq2, hf2, h2⟩ | ⟨hb, -⟩
    · rcases aBd_s e2 with ⟨q', st', ot', pt', e3, rfl⟩ | ⟨q', st', ot', pt', e3, e4⟩
      · rcases i4 o q t2 _ _ M2 l _ hl hcl e3 h2 with ⟨hb, -⟩ | ⟨-, F, M', hq, hf, hI⟩
        · cases hb
        · exact Or.inr ⟨rfl, F + k, M', (hq2 F).trans hq, FR_t hf2 hf, hI⟩
      · cases e4
        rcases i4 o q t2 _ _ M2 l _ hl hcl e3 h2 with ⟨-, k3, M', t', hq, hf, hm⟩ | ⟨hb, -⟩
        · refine Or.inl ⟨rfl, k3 + k, M', t', fun F => ?_, FR_t hf2 hf, hm⟩
          rw [show F + (k3 + k) = F + k3 + k by omega, hq2 (F + k3), hq F]
        · cases hb
    · cases hb
theorem T_all {sc : List Int} {d : Nat} {Z : tZ} {n : Nat} {C P : Nat → Int} {S : Nat → Prop} (hE : TE Z n C P S) (hd : 11 ≤ d) : ∀ f, T0 sc d Z n C P S f ∧ T1 sc d Z n C P S f ∧ T2 sc d Z n C P S f ∧ T3 sc d Z n C P S f ∧ T4 sc d Z n C P S f := by
  intro f
  induction f with
  | zero =>
    refine ⟨?_, ?_, ?_, ?_, ?_⟩
    · intro o p t u s M l r _ hr; cases hr
    · intro o p t u s M l r _ _ hr; cases hr
    · intro o p t u s M l r _ _ hr; cases hr
    · intro o p t u s M l r _ _ hr; cases hr
    · intro o p t u s M l r _ _ hr; cases hr
  | succ f ih =>
    obtain ⟨i0, i1, i2, i3, i4⟩ := ih
    exact ⟨T0_s hE hd i0 i2, T1_s i0 i3, T2_s i1 i4, T3_s hE hd i0 i3, T4_s hE hd i1 i4⟩
/-- at token q, or ill there -/
def WA (Z : tZ) (n : Nat) (C P : Nat → Int) (S : Nat → Prop) (M : q_M) (q : Nat) : Prop := (∃ t, MP Z n C P S M q t) ∨ (S q ∧ C q = 257 ∧ IL M (P q))
/-- the model reads a condition -/
theorem mx_cond {sc : List Int} {d : Nat} {M : q_M} {Z : tZ} {n : Nat} {C P : Nat → Int} {S : Nat → Prop} {p t : Nat} (u s : Nat) (hE : TE Z n C P S) (h : MP Z n C P S M p t) (hd : 12 ≤ d) : ∃ M', pq sc d 175 [.inr (.inr 49)] GF M = some (none, GF, M') ∧ FR M M' ∧ (((aCo C p u s).1 = true ∧ WA Z n C P S M' (aCo C p u s).2.1) ∨ ((aCo C p u s).1 = false ∧ IL M' (P (aCo C p u s).2.1))) := by
  have hp := h.2.2.2.2.2.2.1
  have hn := TE_n hE
  obtain ⟨e, hlt⟩ := aCo_some (TE_C hE) hn (u := u) (s := s) hp
  have hM : MC Z n C P S (q_up M 49 20 0) p t [] := ⟨MP_fr h (fun a h1 h2 => q_upf (by omega)) (q_up_sn (by omega)) (fun j h1 h2 => q_up_sn (by omega)), q_up_s, trivial, by simp⟩
  have hfo : (aCo C p u s).1 = true → ¬ C (aCo C p u s).2.1 = 271 ∧ ¬ C (aCo C p u s).2.1 = 270 := by
    intro hb
    rcases hr : aCo C p u s with ⟨b, q, st, ot, pt⟩
    rw [hr] at e hb
    dsimp only at hb ⊢
    subst hb
    exact (aC_fol _ _ _ _ _ _ _ _ _ _ e).2.1 rfl
  generalize aCo C p u s = r at e hfo hlt
  rcases (T_all (sc := sc) (d := d - 1) hE (by omega) 600).2.2.1 0 p t u s _ [] r rfl rfl e hM with ⟨hb, k, M1, t1, hq, hf, hm⟩ | ⟨hb, F, M', hq, hf, hI⟩
  · obtain ⟨fo1, fo2⟩ := hfo hb
    have e0 := hm.1.2.2.1
    have e20 : ¬ 0 < M1 49 20 := by rw [hm.2.1]; simp
    obtain ⟨M2, x2, q2, hf2, hx2⟩ := mx_take (sc := sc) (d := d - 1) (c := 271) (k := 212) hE hm.1 (by unfold kG kR; omega) (by decide) (by omega)
    rcases hx2 with ⟨e2, -, -⟩ | ⟨e2, rfl, ⟨hs2, h2⟩ | ⟨hs2, h2⟩⟩
    · exact absurd e2 fo1
    · obtain ⟨M3, x3, q3, hf3, hx3⟩ := mx_take (sc := sc) (d := d - 1) (c := 270) (k := 211) hE h2 (by unfold kG kR; omega) (by decide) (by omega)
      rcases hx3 with ⟨e3, -, -⟩ | ⟨e3, rfl, ⟨hs3, h3⟩ | ⟨hs3, -⟩⟩
      · exact absurd e3 fo2
      · refine ⟨M3, pq_e (by omega) (by decide) (Nat.le_of_ble_eq_true rfl) ⟨0 + 1 + 1 + 1 + k + 1, sg_X12_readCondition_0.trans ?_⟩, FR_t (FR_u (by omega)) (FR_t hf (FR_t (FT_R hf2) (FT_R hf3))), Or.inl ⟨hb, Or.inl ⟨_, h3⟩⟩⟩
        rw [hq (0 + 1 + 1 + 1)]
        refine sg_X12_readCondition_89.trans ?_
        rw [if_pos e0, if_neg e20, if_pos e0, q2, q_cI_s, if_pos rfl, q3, q_cI_s, if_pos rfl]
        refine sg_X12_readCondition_162.trans ?_
        have e320 : ¬ 0 < M3 49 20 := by rw [hf3.2 20 (by omega), hf2.2 20 (by omega)]; exact e20
        rw [if_pos h3.2.2.1, if_pos rfl, if_neg e320]
        refine sg_X12_readCondition_7.trans ?_
        rw [if_pos h3.2.2.1, if_pos rfl]
      · exact absurd hs3 hs2
    · have q3 := mx_takeI (sc := sc) (d := d - 1) (k := 211) h2.1 (by omega)
      refine ⟨M2, pq_e (by omega) (by decide) (Nat.le_of_ble_eq_true rfl) ⟨0 + 1 + 1 + 1 + k + 1, sg_X12_readCondition_0.trans ?_⟩, FR_t (FR_u (by omega)) (FR_t hf (FT_R hf2)), Or.inl ⟨hb, Or.inr ⟨hs2, TE_S hE hm.1.2.2.2.2.2.2.1 hs2, h2.1⟩⟩⟩
      rw [hq (0 + 1 + 1 + 1)]
      refine sg_X12_readCondition_89.trans ?_
      rw [if_pos e0, if_neg e20, if_pos e0, q2, q_cI_s, if_pos rfl, q3, q_cI_s, if_pos rfl]
      exact c_ill162 h2.1
  · refine ⟨M', pq_e (by omega) (by decide) (Nat.le_of_ble_eq_true rfl) ⟨F + 1, sg_X12_readCondition_0.trans ?_⟩, FR_t (FR_u (by omega)) hf, Or.inr ⟨hb, hI⟩⟩
    exact hq
