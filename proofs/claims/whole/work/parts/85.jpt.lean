/-! the conditions of joined items -/
theorem aCo_c {C : Nat → Int} {p u s : Nat} (h : (aCo C p u s).1 = true) : aC C 600 2 0 p u s = some (true, (aCo C p u s).2.1, (aCo C p u s).2.2.1, (aCo C p u s).2.2.2.1, (aCo C p u s).2.2.2.2) := by
  rcases e : aC C 600 2 0 p u s with _ | ⟨b, q, st, ot, pt⟩
  · unfold aCo at h; rw [e] at h; cases h
  · have e2 : aCo C p u s = (b, q, st, ot, pt) := by unfold aCo; rw [e]; rfl
    rw [e2] at h ⊢
    dsimp only at h ⊢
    subst h
    rfl
/-- the condition of item number k: its tokens, steps, operands and parts -/
def JC (C : Nat → Int) (u s : Nat) (stp : List (Int × Int × Int)) (ops : List (Nat × Int)) (prt : List (Nat × Nat × Int × Int)) (k : Nat) (it : aIt) : Prop := ∃ u' s' st' ot' pt', aC C 600 2 0 it.2.2.1 u' s' = some (true, it.2.2.2, st', ot', pt') ∧ s ≤ s' ∧ u ≤ u' ∧ (∀ (m : Nat) y, st'[m]? = some y → stp[s' - s + m]? = some y) ∧ (∀ (m t : Nat), ot'[m]? = some t → ops[u' - u + m]? = some (t, (k : Int))) ∧ (∀ x : Nat × Nat × Int × Int, (x ∈ prt ∧ x.2.2.1 = (k : Int)) ↔ ∃ y ∈ pt', x = (y.1, y.2, (k : Int), pW (k : Int)))
def JP (C : Nat → Int) (i u s : Nat) (its : List aIt) (stp : List (Int × Int × Int)) (ops : List (Nat × Int)) (prt : List (Nat × Nat × Int × Int)) : Prop := (∀ x ∈ prt, ∃ j : Nat, j < its.length ∧ x.2.2.1 = ((i + j : Nat) : Int) ∧ x.2.2.2 = pW x.2.2.1) ∧ ∀ (j : Nat) it, its[j]? = some it → JC C u s stp ops prt (i + j) it
theorem aJ_jp {C : Nat → Int} : ∀ (k i p u s : Nat), (aJ C k i p u s).1 = true → JP C i u s (aJ C k i p u s).2.2.1 (aJ C k i p u s).2.2.2.1 (aJ C k i p u s).2.2.2.2.1 (aJ C k i p u s).2.2.2.2.2 := by
  intro k
  have nil : ∀ i u s : Nat, JP C i u s [] [] [] [] := fun i u s => ⟨fun x h => by simp at h, fun j it h => by simp at h⟩
  induction k with
  | zero => intro i p u s _; exact nil i u s
  | succ k ih =>
    intro i p u s h
    unfold aJ at h ⊢
    split
    · next h1 =>
      rw [if_pos h1] at h
      split
      · next h2 =>
        rw [if_pos h2] at h
        split
        · next h3 =>
          rw [if_pos h3] at h
          split
          · next h4 =>
            rw [if_pos h4] at h
            have e1 := aCo_c h4
            have e2 := ih _ _ _ _ h
            unfold aJc at h ⊢
            generalize aCo C (p + 4) u s = c at *
            generalize aJ C k (i + 1) c.2.1 (u + c.2.2.2.1.length) (s + c.2.2.1.length) = r at *
            dsimp only at e2 h ⊢
            have hpm : ∀ x : Nat × Nat × Int × Int, x ∈ pm 0 (i : Int) c.2.2.2.2 ↔ ∃ y ∈ c.2.2.2.2, x = (y.1, y.2, (i : Int), pW (i : Int)) := by
              intro x
              unfold pm
              rw [if_pos rfl, List.mem_map]
              constructor
              · rintro ⟨y, a, b⟩; exact ⟨y, a, b.symm⟩
              · rintro ⟨y, a, b⟩; exact ⟨y, a, b.symm⟩
            refine ⟨fun x hx => ?_, fun j it hj => ?_⟩
            · rcases List.mem_append.mp hx with hx | hx
              · obtain ⟨y, -, rfl⟩ := (hpm x).mp hx
                exact ⟨0, by simp, by simp, rfl⟩
              · obtain ⟨j, j1, j2, j3⟩ := e2.1 x hx
                exact ⟨j + 1, by simp; omega, by rw [j2]; omega, j3⟩
            · rcases j with _ | j
              · simp only [List.getElem?_cons_zero, Option.some.injEq] at hj
                subst hj
                refine ⟨u, s, _, _, _, e1, Nat.le_refl _, Nat.le_refl _, fun m y hy => ?_, fun m t ht => ?_, fun x => ?_⟩
                · rw [Nat.sub_self, Nat.zero_add, List.getElem?_append_left (List.getElem?_eq_some_iff.mp hy).1]; exact hy
                · rw [Nat.sub_self, Nat.zero_add, List.getElem?_append_left (by rw [List.length_map]; exact (List.getElem?_eq_some_iff.mp ht).1), List.getElem?_map, ht]; rfl
                · rw [Nat.add_zero, ← hpm x, List.mem_append]
                  constructor
                  · rintro ⟨hx | hx, h5⟩
                    · exact hx
                    · obtain ⟨j, j1, j2, j3⟩ := e2.1 x hx
                      omega
                  · intro hx
                    obtain ⟨y, -, rfl⟩ := (hpm x).mp hx
                    exact ⟨Or.inl hx, rfl⟩
              · simp only [List.getElem?_cons_succ] at hj
                obtain ⟨u', s', st', ot', pt', k1, k2, k3, k4, k5, k6⟩ := e2.2 j it hj
                refine ⟨u', s', st', ot', pt', k1, by omega, by omega, fun m y hy => ?_, fun m t ht => ?_, fun x => ?_⟩
                · have := k4 m y hy
                  rw [List.getElem?_append_right (by omega), show s' - s + m - c.2.2.1.length = s' - (s + c.2.2.1.length) + m by omega]; exact this
                · have := k5 m t ht
                  rw [List.getElem?_append_right (by rw [List.length_map]; omega), List.length_map, show u' - u + m - c.2.2.2.1.length = u' - (u + c.2.2.2.1.length) + m by omega, show i + (j + 1) = i + 1 + j by omega]; exact this
                · rw [show i + (j + 1) = i + 1 + j by omega, ← k6 x, List.mem_append]
                  constructor
                  · rintro ⟨hx | hx, h5⟩
                    · obtain ⟨y, -, rfl⟩ := (hpm x).mp hx
                      dsimp only at h5
                      omega
                    · exact ⟨hx, h5⟩
                  · rintro ⟨hx, h5⟩
                    exact ⟨Or.inr hx, h5⟩
          · next h4 => rw [if_neg h4] at h; cases h
        · next h3 => rw [if_neg h3] at h; cases h
      · next h2 => rw [if_neg h2] at h; cases h
    · exact nil i u s
/-! a query, as class and model keep it -/
def QC (M : q_M) (C N : Nat → Int) : Prop := (M 15 7 = (qIts C).length ∧ ∀ (i : Nat) x, (qIts C)[i]? = some x → M 33 i = C x.1 - 84 ∧ M 37 i = x.2) ∧ UQ M (qO C).2.2.1 ∧ GQ M (qGrs C) ∧ (M 16 7 = (qOps C).length ∧ (qOps C).length ≤ 130 ∧ ∀ (i : Nat) x, (qOps C)[i]? = some x → M 19 i = opL C x ∧ M 21 i = (if C x.1 = 258 ∨ C x.1 = 274 then -1 else itm C (qTl C) (C x.1)) ∧ (cst C x.1 → M 22 i = N x.1 ∧ M 23 i = opU C x)) ∧ (SA M (qStp C) ∧ (qStp C).length ≤ 130) ∧ (M 24 9 = (qPrt C).length ∧ (qPrt C).length ≤ 130 ∧ ∀ (i : Nat) x, (qPrt C)[i]? = some x → M 28 i = x.1 ∧ M 29 i = x.2.1 ∧ M 31 i = x.2.2.2 ∧ (x.2.2.2 = 0 → M 30 i = x.2.2.1) ∧ (¬ x.2.2.2 = 0 → MX (M 30 i) (SS M x.1 x.2.1)))
def QM (M : q_M) (C P N : Nat → Int) (ls : List (Nat × Nat)) : Prop := SM M C P N (aQ C).2 (qMi C) (qO C).2.2.1 (qG C).2.2 (qWf C) (qWt C) ∧ PM M C (qTl C) ls ∧ ((M 49 40 = 1 ∧ gth (qO C).2.2.1 (qG C).2.2.length) ∨ (M 49 40 = 0 ∧ ¬ gth (qO C).2.2.1 (qG C).2.2.length))
/-- the parts of where, both ways -/
def WP (C : Nat → Int) (ls : List (Nat × Nat)) (tp : List (Nat × Nat × Nat)) (md : Nat) : Prop := (md = 0 ∨ md = 2) ∧ ls = tp.map (fun x => (x.1, x.2.1)) ∧ PD C (qU C) (qJ C).2.2.2.1.length (qW C).2.2.1 (qW C).2.2.2.1 (qW C).2.2.2.2 tp md 600 ∧ tp.length ≤ 40 ∧ ∀ z ∈ tp, z.2.1 ≤ (aQ C).2
/-- nothing is ill in it -/
def NBd (W C : Nat → Int) : Prop := (∀ x ∈ qOps C, ¬ cst C x.1 → 0 ≤ itm C (qTl C) (C x.1) ∧ itm C (qTl C) (C x.1) ≤ x.2 ∧ C (x.1 + 2) - 97 < wof W C (qTl C) (itm C (qTl C) (C x.1))) ∧ (gth (qO C).2.2.1 (qG C).2.2.length → ∀ o ∈ (qO C).2.2.1, o.1 = 275 → grp C (qG C).2.2 o.2.2)
theorem NB_of {W C P : Nat → Int} (h : ∀ p, ¬ BB W C P (qTl C) (qOps C) (qO C).2.2.1 (qG C).2.2 p) : NBd W C := by
  refine ⟨fun x hx hc => ?_, fun hg o ho h5 => ?_⟩
  · have hb : ¬ bc W C (qTl C) x.1 x.2 := fun hb => by
      obtain ⟨j, hj⟩ := mem_ops.mpr hx
      exact h _ (Or.inr (Or.inl ⟨j, x, hj, hc, hb, rfl⟩))
    unfold bc at hb
    have h1 : ¬ itm C (qTl C) (C x.1) = -1 := fun e => hb (Or.inl e)
    have h2 : ¬ x.2 < itm C (qTl C) (C x.1) := fun e => hb (Or.inr (Or.inl e))
    have h3 : C (x.1 + 2) - 97 < wof W C (qTl C) (itm C (qTl C) (C x.1)) := Classical.byContradiction (fun e => hb (Or.inr (Or.inr e)))
    rcases itm_s (C := C) (tl := qTl C) (a := C x.1) with ⟨k1, -⟩ | ⟨k, t, k1, k2, -⟩
    · exact absurd k1 h1
    · exact ⟨by omega, by omega, h3⟩
  · refine Classical.byContradiction (fun e => ?_)
    obtain ⟨j, hj⟩ := mem_ops.mpr ho
    exact h _ (Or.inr (Or.inr ⟨hg, j, o, hj, h5, e, rfl⟩))
