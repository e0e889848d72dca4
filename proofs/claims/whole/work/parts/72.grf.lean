/-! what the grammar says of the tokens that were read -/
theorem CT_q {C : Nat → Int} {q q' t : Nat} (h : CT C q t) (hq : q ≤ q') : CT C q' t := ⟨h.1, h.2.1, h.2.2.1, h.2.2.2.1, by have := h.2.2.2.2; omega⟩
theorem aCol_ct {C : Nat → Int} {p : Nat} (h : (aCol C p).1 = true) : CT C (aCol C p).2 p ∧ (aCol C p).2 = p + 3 ∧ C (p + 1) = 46 := by
  unfold aCol at h ⊢
  split
  · next h1 =>
    rw [if_pos h1] at h
    split
    · next h2 =>
      rw [if_pos h2] at h
      split
      · next h3 => exact ⟨⟨h1.1, h1.2, h3.1, h3.2, by show p + 2 ≤ p + 3; omega⟩, rfl, h2⟩
      · next h3 => rw [if_neg h3] at h; cases h
    · next h2 => rw [if_neg h2] at h; cases h
  · next h1 => rw [if_neg h1] at h; cases h
/-- the tokens between p and q: ot are the operands, all aliases among them -/
def AL (C : Nat → Int) (p q : Nat) (ot : List Nat) : Prop := p ≤ q ∧ (∀ t ∈ ot, p ≤ t ∧ t < q ∧ (cst C t ∨ (119 ≤ C t ∧ C t ≤ 122 ∧ 97 ≤ C (t + 2) ∧ C (t + 2) ≤ 100 ∧ t + 3 ≤ q))) ∧ (∀ t, p ≤ t → t < q → 119 ≤ C t → C t ≤ 122 → t ∈ ot)
theorem AL_n {C : Nat → Int} {p : Nat} : AL C p p [] := ⟨Nat.le_refl _, fun t ht => by simp at ht, fun t h1 h2 => by omega⟩
theorem AL_a {C : Nat → Int} {p q r : Nat} {a b : List Nat} (h : AL C p q a) (h' : AL C q r b) : AL C p r (a ++ b) := by
  obtain ⟨h1, h2, h3⟩ := h
  obtain ⟨k1, k2, k3⟩ := h'
  refine ⟨by omega, fun t ht => ?_, fun t a1 a2 a3 a4 => ?_⟩
  · rcases List.mem_append.mp ht with ht | ht
    · obtain ⟨b1, b2, b3⟩ := h2 t ht
      refine ⟨b1, by omega, ?_⟩
      rcases b3 with b3 | ⟨c1, c2, c3, c4, c5⟩
      · exact Or.inl b3
      · exact Or.inr ⟨c1, c2, c3, c4, by omega⟩
    · obtain ⟨b1, b2, b3⟩ := k2 t ht
      exact ⟨by omega, b2, b3⟩
  · rcases Nat.lt_or_ge t q with hh | hh
    · exact List.mem_append_left _ (h3 t a1 hh a3 a4)
    · exact List.mem_append_right _ (k3 t hh a2 a3 a4)
theorem AL_1 {C : Nat → Int} {p : Nat} (h : ¬ (119 ≤ C p ∧ C p ≤ 122)) : AL C p (p + 1) [] := ⟨by omega, fun t ht => by simp at ht, fun t h1 h2 h3 h4 => by
  have : t = p := by omega
  subst this; exact absurd ⟨h3, h4⟩ h⟩
theorem AL_opd {C : Nat → Int} {p q : Nat} (h : aOpd C p = (true, q)) : AL C p q [p] := by
  unfold aOpd at h
  split at h
  · next hc =>
    cases h
    refine ⟨by omega, fun t ht => ?_, fun t h1 h2 h3 h4 => ?_⟩
    · simp at ht; subst ht; exact ⟨Nat.le_refl _, by omega, Or.inl hc⟩
    · have : t = p := by omega
      subst this; simp
  · have h1 : (aCol C p).1 = true := by rw [h]
    obtain ⟨c, e, e46⟩ := aCol_ct h1
    rw [h] at c e
    dsimp only at c e
    subst e
    refine ⟨by omega, fun t ht => ?_, fun t h1 h2 h3 h4 => ?_⟩
    · simp at ht; subst ht; exact ⟨Nat.le_refl _, by omega, Or.inr ⟨c.1, c.2.1, c.2.2.1, c.2.2.2.1, Nat.le_refl _⟩⟩
    · rcases (show t = p ∨ t = p + 1 ∨ t = p + 2 by omega) with rfl | rfl | rfl
      · simp
      · omega
      · have := c.2.2.2.1; omega
theorem AL_cmp {C : Nat → Int} {p u : Nat} (h : (aCmp C p u).1 = true) : AL C p (aCmp C p u).2.1 (aCmp C p u).2.2.2 := by
  unfold aCmp at h ⊢
  rcases h1 : aOpd C p with ⟨b, q⟩
  rw [h1] at h
  rcases b with _ | _
  · simp at h
  · have e1 := AL_opd h1
    dsimp only at h ⊢
    split
    · next hc =>
      rw [if_pos hc] at h
      split
      · next hd => exact AL_a e1 (AL_a (a := []) (b := []) (AL_1 (by omega)) (AL_1 (by omega)))
      · next hd => rw [if_neg hd] at h; simp at h
    · next hc =>
      rw [if_neg hc] at h
      split
      · next hd =>
        rw [if_pos hd] at h
        rcases h2 : aOpd C (q + 1) with ⟨b, r⟩
        rw [h2] at h
        rcases b with _ | _
        · simp at h
        · exact AL_a e1 (AL_a (a := []) (AL_1 (by omega)) (AL_opd h2))
      · next hd => rw [if_neg hd] at h; simp at h
theorem aC_al {C : Nat → Int} : ∀ (f md o p u s q : Nat) (st : List (Int × Int × Int)) (ot : List Nat) (pt : List (Nat × Nat)), aC C f md o p u s = some (true, q, st, ot, pt) → AL C p q ot := by
  intro f
  induction f with
  | zero => intro md o p u s q st ot pt h; cases h
  | succ f ih =>
    intro md o p u s q st ot pt h
    unfold aC at h
    split at h
    · split at h
      · next hc =>
        split at h
        · cases h
        · rcases aBd_s h with ⟨q1, st1, ot1, pt1, e1, e2⟩ | ⟨q1, st1, ot1, pt1, e1, e2⟩
          · cases e2
          · cases e2
            exact AL_a (a := []) (AL_1 (by omega)) (ih _ _ _ _ _ _ _ _ _ e1)
      · split at h
        · next hc =>
          split at h
          · cases h
          · rcases aBd_s h with ⟨q1, st1, ot1, pt1, e1, e2⟩ | ⟨q1, st1, ot1, pt1, e1, e2⟩
            · cases e2
            · split at e2
              · next hd =>
                cases e2
                have := AL_a (AL_a (a := []) (AL_1 (by omega)) (ih _ _ _ _ _ _ _ _ _ e1)) (AL_1 (p := q1) (by omega))
                simpa using this
              · cases e2
        · simp only [Option.some.injEq, Prod.mk.injEq] at h
          obtain ⟨h1, h2, -, h4, -⟩ := h
          have := AL_cmp h1
          rw [h2, h4] at this
          exact this
    · split at h
      · rcases aBd_s h with ⟨q1, st1, ot1, pt1, e1, e2⟩ | ⟨q1, st1, ot1, pt1, e1, e2⟩
        · cases e2
        · rcases aBd_s e2 with ⟨q3, st3, ot3, pt3, e3, e4⟩ | ⟨q3, st3, ot3, pt3, e3, e4⟩
          · cases e4
          · cases e4
            exact AL_a (ih _ _ _ _ _ _ _ _ _ e1) (ih _ _ _ _ _ _ _ _ _ e3)
      · split at h
        · rcases aBd_s h with ⟨q1, st1, ot1, pt1, e1, e2⟩ | ⟨q1, st1, ot1, pt1, e1, e2⟩
          · cases e2
          · rcases aBd_s e2 with ⟨q3, st3, ot3, pt3, e3, e4⟩ | ⟨q3, st3, ot3, pt3, e3, e4⟩
            · cases e4
            · cases e4
              exact AL_a (ih _ _ _ _ _ _ _ _ _ e1) (ih _ _ _ _ _ _ _ _ _ e3)
        · split at h
          · split at h
            · rcases aBd_s h with ⟨q1, st1, ot1, pt1, e1, e2⟩ | ⟨q1, st1, ot1, pt1, e1, e2⟩
              · cases e2
              · rcases aBd_s e2 with ⟨q3, st3, ot3, pt3, e3, e4⟩ | ⟨q3, st3, ot3, pt3, e3, e4⟩
                · cases e4
                · cases e4
                  exact AL_a (a := []) (AL_1 (by omega)) (AL_a (ih _ _ _ _ _ _ _ _ _ e1) (ih _ _ _ _ _ _ _ _ _ e3))
            · cases h; exact AL_n
          · split at h
            · rcases aBd_s h with ⟨q1, st1, ot1, pt1, e1, e2⟩ | ⟨q1, st1, ot1, pt1, e1, e2⟩
              · cases e2
              · rcases aBd_s e2 with ⟨q3, st3, ot3, pt3, e3, e4⟩ | ⟨q3, st3, ot3, pt3, e3, e4⟩
                · cases e4
                · cases e4
                  exact AL_a (a := []) (AL_1 (by omega)) (AL_a (ih _ _ _ _ _ _ _ _ _ e1) (ih _ _ _ _ _ _ _ _ _ e3))
            · cases h; exact AL_n
theorem aCo_al {C : Nat → Int} {p u s : Nat} (h : (aCo C p u s).1 = true) : AL C p (aCo C p u s).2.1 (aCo C p u s).2.2.2.1 := by
  rcases e : aC C 600 2 0 p u s with _ | ⟨b, q, st, ot, pt⟩
  · unfold aCo at h; rw [e] at h; cases h
  · have e2 : aCo C p u s = (b, q, st, ot, pt) := by unfold aCo; rw [e]; rfl
    rw [e2] at h ⊢
    dsimp only at h ⊢
    subst h
    exact aC_al _ _ _ _ _ _ _ _ _ _ e
/-! outs -/
def OL (C : Nat → Int) (u q : Nat) (ous : List aOu) (ot : List Nat) : Prop := (∀ o ∈ ous, (o.1 = 266 ∨ (((267 ≤ o.1 ∧ o.1 ≤ 269) ∨ o.1 = 275) ∧ CT C q o.2.2 ∧ ∃ k : Nat, o.2.1 = ((u + k : Nat) : Int) ∧ ot[k]? = some o.2.2))) ∧ (∀ t ∈ ot, ∃ o ∈ ous, ¬ o.1 = 266 ∧ o.2.2 = t)
theorem OL_n {C : Nat → Int} {u q : Nat} : OL C u q [] [] := ⟨fun o ho => by simp at ho, fun t ht => by simp at ht⟩
theorem OL_q {C : Nat → Int} {u q q' : Nat} {ous : List aOu} {ot : List Nat} (h : OL C u q ous ot) (hq : q ≤ q') : OL C u q' ous ot := ⟨fun o ho => by
  rcases h.1 o ho with h1 | ⟨h1, h2, h3⟩
  · exact Or.inl h1
  · exact Or.inr ⟨h1, CT_q h2 hq, h3⟩, h.2⟩
theorem OL_a {C : Nat → Int} {u q : Nat} {a b : List aOu} {c e : List Nat} (h : OL C u q a c) (h' : OL C (u + c.length) q b e) : OL C u q (a ++ b) (c ++ e) := by
  refine ⟨fun o ho => ?_, fun t ht => ?_⟩
  · rcases List.mem_append.mp ho with ho | ho
    · rcases h.1 o ho with h1 | ⟨h1, h2, k, h3, h4⟩
      · exact Or.inl h1
      · refine Or.inr ⟨h1, h2, k, h3, ?_⟩
        rw [List.getElem?_append_left (List.getElem?_eq_some_iff.mp h4).1]; exact h4
    · rcases h'.1 o ho with h1 | ⟨h1, h2, k, h3, h4⟩
      · exact Or.inl h1
      · refine Or.inr ⟨h1, h2, c.length + k, by rw [h3]; omega, ?_⟩
        rw [List.getElem?_append_right (by omega), Nat.add_sub_cancel_left]; exact h4
  · rcases List.mem_append.mp ht with ht | ht
    · obtain ⟨o, h1, h2⟩ := h.2 t ht
      exact ⟨o, List.mem_append_left _ h1, h2⟩
    · obtain ⟨o, h1, h2⟩ := h'.2 t ht
      exact ⟨o, List.mem_append_right _ h1, h2⟩
theorem aOut_ol {C : Nat → Int} {p u : Nat} (h : (aOut C p u).1 = true) : OL C u (aOut C p u).2.1 [(aOut C p u).2.2.1] (aOut C p u).2.2.2 := by
  unfold aOut at h ⊢
  split
  · refine ⟨fun o ho => ?_, fun t ht => by simp at ht⟩
    simp at ho; subst ho; exact Or.inl rfl
  · next h1 =>
    rw [if_neg h1] at h
    split
    · next h2 =>
      rw [if_pos h2] at h
      split
      · next h3 =>
        rw [if_pos h3] at h
        split
        · next h4 =>
          rw [if_pos h4] at h
          split
          · obtain ⟨c, e, -⟩ := aCol_ct h4
            refine ⟨fun o ho => ?_, fun t ht => ?_⟩
            · simp at ho; subst ho
              exact Or.inr ⟨Or.inl (by show 267 ≤ C p ∧ C p ≤ 269; omega), CT_q c (by dsimp only; omega), 0, rfl, rfl⟩
            · simp at ht; subst ht
              exact ⟨_, by simp; rfl, by show ¬ C p = 266; exact h1, rfl⟩
          · next h5 => rw [if_neg h5] at h; cases h
        · next h4 => rw [if_neg h4] at h; cases h
      · next h3 => rw [if_neg h3] at h; cases h
    · next h2 =>
      rw [if_neg h2] at h
      obtain ⟨c, e, -⟩ := aCol_ct h
      refine ⟨fun o ho => ?_, fun t ht => ?_⟩
      · simp at ho; subst ho
        exact Or.inr ⟨Or.inr rfl, c, 0, rfl, rfl⟩
      · simp at ht; subst ht
        exact ⟨_, by simp; rfl, by show ¬ (275 : Int) = 266; decide, rfl⟩
theorem aOs_ol {C : Nat → Int} : ∀ (k p u : Nat), (aOs C k p u).1 = true → OL C u (aOs C k p u).2.1 (aOs C k p u).2.2.1 (aOs C k p u).2.2.2 := by
  intro k
  induction k with
  | zero => intro p u _; exact OL_n
  | succ k ih =>
    intro p u h
    have hl := aOs_len (k + 1) p u h
    unfold aOs at h hl ⊢
    split
    · next h1 =>
      rw [if_pos h1] at h hl
      split
      · next h2 =>
        rw [if_pos h2] at h hl
        have e1 := aOut_ol h2
        have e2 := ih _ _ h
        have e3 := aOs_len _ _ _ h
        exact OL_a (OL_q e1 (by dsimp only; omega)) e2
      · next h2 => rw [if_neg h2] at h; cases h
    · exact OL_n
theorem aOuts_ol {C : Nat → Int} {p u : Nat} (h : (aOuts C p u).1 = true) : OL C u (aOuts C p u).2.1 (aOuts C p u).2.2.1 (aOuts C p u).2.2.2 := by
  unfold aOuts at h ⊢
  split
  · next h2 =>
    rw [if_pos h2] at h
    have e1 := aOut_ol h2
    have e2 := aOs_ol _ _ _ h
    have e3 := aOs_len _ _ _ h
    exact OL_a (OL_q e1 (by dsimp only; omega)) e2
  · next h2 => rw [if_neg h2] at h; cases h
/-! items -/
def IF (C : Nat → Int) (q : Nat) (it : aIt) : Prop := 84 ≤ C it.1 ∧ C it.1 ≤ 86 ∧ 119 ≤ C (it.1 + 1) ∧ C (it.1 + 1) ≤ 122 ∧ it.1 + 1 ≤ q ∧ (it.2.1 = 0 ∨ it.2.1 = 1)
theorem aItem_f {C : Nat → Int} {p : Nat} (h : (aItem C p).1 = true) : 84 ≤ C p ∧ C p ≤ 86 ∧ 119 ≤ C (p + 1) ∧ C (p + 1) ≤ 122 := by
  unfold aItem at h
  split at h
  · next h1 =>
    split at h
    · next h2 => exact ⟨h1.1, h1.2, h2.1, h2.2⟩
    · cases h
  · cases h
def JF (C : Nat → Int) (i q : Nat) (its : List aIt) (ops : List (Nat × Int)) : Prop := (∀ it ∈ its, IF C q it ∧ RG C q it.2.2.1 it.2.2.2) ∧ (∀ x ∈ ops, cst C x.1 ∨ (119 ≤ C x.1 ∧ C x.1 ≤ 122 ∧ 97 ≤ C (x.1 + 2) ∧ C (x.1 + 2) ≤ 100)) ∧ (∀ (t : Nat) (L : Int), 119 ≤ C t → C t ≤ 122 → ((t, L) ∈ ops ↔ ∃ (j : Nat) (it : aIt), its[j]? = some it ∧ L = ((i + j : Nat) : Int) ∧ it.2.2.1 ≤ t ∧ t < it.2.2.2))
theorem AL_rg {C : Nat → Int} {p q q' : Nat} {ot : List Nat} (h : AL C p q ot) (hq : q ≤ q') : RG C q' p q := by
  refine ⟨h.1, hq, fun t a1 a2 a3 a4 => ?_⟩
  obtain ⟨b1, b2, b3⟩ := h.2.1 t (h.2.2 t a1 a2 a3 a4)
  rcases b3 with b3 | ⟨c1, c2, c3, c4, c5⟩
  · unfold cst at b3; omega
  · exact ⟨c1, c2, c3, c4, by omega⟩
theorem aJ_jf {C : Nat → Int} : ∀ (k i p u s : Nat), (aJ C k i p u s).1 = true → JF C i (aJ C k i p u s).2.1 (aJ C k i p u s).2.2.1 (aJ C k i p u s).2.2.2.2.1 := by
  intro k
  have nil : ∀ i q : Nat, JF C i q [] [] := fun i q => ⟨fun it h => by simp at h, fun x h => by simp at h, fun t L _ _ => by simp⟩
  induction k with
  | zero => intro i p u s _; exact nil i p
  | succ k ih =>
    intro i p u s h
    unfold aJ at h ⊢
    split
    · next h1 =>
      rw [if_pos h1] at h
      split
      · next h2 =>
        rw [if_pos h2] at h
        split
        · next h3 =>
          rw [if_pos h3] at h
          split
          · next h4 =>
            rw [if_pos h4] at h
            have e1 := aCo_al h4
            have e2 := ih _ _ _ _ h
            have e3 := aJ_len _ _ _ _ _ h
            have f1 := aItem_f h2
            have l1 := (aCo_len h4).2.2.2
            unfold aJc at h ⊢
            generalize aCo C (p + 4) u s = c at *
            generalize aJ C k (i + 1) c.2.1 (u + c.2.2.2.1.length) (s + c.2.2.1.length) = r at *
            dsimp only at e2 e3 h ⊢
            have hcr : c.2.1 ≤ r.2.1 := by omega
            refine ⟨fun it hit => ?_, fun x hx => ?_, fun t L a1 a2 => ?_⟩
            · rcases List.mem_cons.mp hit with rfl | hit
              · refine ⟨⟨f1.1, f1.2.1, f1.2.2.1, f1.2.2.2, by show p + 1 + 1 ≤ r.2.1; omega, ?_⟩, AL_rg e1 hcr⟩
                show (if C p = 262 then (1 : Int) else 0) = 0 ∨ (if C p = 262 then (1 : Int) else 0) = 1
                split
                · exact Or.inr rfl
                · exact Or.inl rfl
              · exact e2.1 it hit
            · rcases List.mem_append.mp hx with hx | hx
              · simp only [List.mem_map] at hx
                obtain ⟨t, ht, rfl⟩ := hx
                rcases (e1.2.1 t ht).2.2 with b3 | ⟨c1, c2, c3, c4, c5⟩
                · exact Or.inl b3
                · exact Or.inr ⟨c1, c2, c3, c4⟩
              · exact e2.2.1 x hx
            · rw [List.mem_append, e2.2.2 t L a1 a2]
              constructor
              · rintro (hx | ⟨j, it, k1, k2, k3⟩)
                · simp only [List.mem_map, Prod.mk.injEq] at hx
                  obtain ⟨t', ht, rfl, rfl⟩ := hx
                  refine ⟨0, _, rfl, by simp, (e1.2.1 t' ht).1, (e1.2.1 t' ht).2.1⟩
                · exact ⟨j + 1, it, by simpa using k1, by rw [k2]; omega, k3⟩
              · rintro ⟨j, it, k1, k2, k3, k4⟩
                rcases j with _ | j
                · simp only [List.getElem?_cons_zero, Option.some.injEq] at k1
                  subst k1
                  refine Or.inl ?_
                  simp only [List.mem_map, Prod.mk.injEq]
                  exact ⟨t, e1.2.2 t k3 k4 a1 a2, rfl, by rw [k2]; simp⟩
                · exact Or.inr ⟨j, it, by simpa using k1, by rw [k2]; omega, k3, k4⟩
          · next h4 => rw [if_neg h4] at h; cases h
        · next h3 => rw [if_neg h3] at h; cases h
      · next h2 => rw [if_neg h2] at h; cases h
    · exact nil i p
/-! groups -/
theorem aG_f {C : Nat → Int} : ∀ (k p : Nat), (aG C k p).1 = true → p ≤ (aG C k p).2.1 ∧ (aG C k p).2.2.length ≤ k ∧ ∀ t ∈ (aG C k p).2.2, CT C (aG C k p).2.1 t := by
  intro k
  induction k with
  | zero => intro p _; exact ⟨Nat.le_refl _, Nat.le_refl _, fun t ht => by simp [aG] at ht⟩
  | succ k ih =>
    intro p h
    unfold aG at h ⊢
    split
    · next h1 =>
      rw [if_pos h1] at h
      obtain ⟨c, e, -⟩ := aCol_ct h1
      split
      · refine ⟨by dsimp only; omega, by simp, fun t ht => ?_⟩
        simp at ht; subst ht; exact c
      · next h2 =>
        rw [if_neg h2] at h
        split
        · next h3 =>
          rw [if_pos h3] at h
          obtain ⟨i1, i2, i3⟩ := ih _ h
          refine ⟨by dsimp only; omega, by simp; omega, fun t ht => ?_⟩
          rcases List.mem_cons.mp ht with rfl | ht
          · exact CT_q c (by dsimp only; omega)
          · exact i3 t ht
        · refine ⟨by dsimp only; omega, by simp, fun t ht => ?_⟩
          simp at ht; subst ht; exact c
    · next h1 => rw [if_neg h1] at h; cases h
theorem aGr_f {C : Nat → Int} {p : Nat} (h : (aGr C p).1 = true) : p ≤ (aGr C p).2.1 ∧ (aGr C p).2.2.length ≤ 3 ∧ ∀ t ∈ (aGr C p).2.2, CT C (aGr C p).2.1 t := by
  unfold aGr at h ⊢
  split
  · next h1 =>
    rw [if_pos h1] at h
    obtain ⟨i1, i2, i3⟩ := aG_f _ _ h
    exact ⟨by omega, i2, i3⟩
  · exact ⟨Nat.le_refl _, by simp, fun t ht => by simp at ht⟩
theorem aW_al {C : Nat → Int} {p u s : Nat} (h : (aW C p u s).1 = true) : AL C (if C p = 264 then p + 1 else 0) (if C p = 264 then (aW C p u s).2.1 else 0) (aW C p u s).2.2.2.1 ∧ p ≤ (aW C p u s).2.1 := by
  unfold aW at h ⊢
  split
  · next h1 =>
    rw [if_pos h1] at h
    have := aCo_al h
    exact ⟨this, by have := this.1; omega⟩
  · exact ⟨AL_n, Nat.le_refl _⟩
