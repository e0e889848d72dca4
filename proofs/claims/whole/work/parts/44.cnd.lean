/-! conditions -/
abbrev aRes : Type := Bool × Nat × List (Int × Int × Int) × List Nat × List (Nat × Nat)
def aBd (x : Option aRes) (k : Nat → List (Int × Int × Int) → List Nat → List (Nat × Nat) → Option aRes) : Option aRes := match x with
  | none => none
  | some (false, q, _, _, _) => some (false, q, [], [], [])
  | some (true, q, st, ot, pt) => k q st ot pt
/-- modes: 0 a test, 1 a conjunction, 2 a condition, 3 the rest of a conjunction, 4 the rest of a condition -/
def aC (C : Nat → Int) : Nat → Nat → Nat → Nat → Nat → Nat → Option aRes
  | 0, _, _, _, _, _ => none
  | f + 1, md, o, p, u, s =>
    if md = 0 then
      (if C p = 272 then (if 4 ≤ o then some (false, p, [], [], []) else aBd (aC C f 0 (o + 1) (p + 1) u s) (fun q st ot _ => some (true, q, st ++ [(272, -1, -1)], ot, [(s, s + (st.length + 1))])))
      else if C p = 40 then (if 4 ≤ o then some (false, p, [], [], []) else aBd (aC C f 2 (o + 1) (p + 1) u s) (fun q st ot _ => if C q = 41 then some (true, q + 1, st, ot, [(s, s + st.length)]) else some (false, q, [], [], [])))
      else some ((aCmp C p u).1, (aCmp C p u).2.1, (aCmp C p u).2.2.1, (aCmp C p u).2.2.2, [(s, s + 1)]))
    else if md = 1 then aBd (aC C f 0 o p u s) (fun q st ot pt => aBd (aC C f 3 o q (u + ot.length) (s + st.length)) (fun q' st' ot' pt' => some (true, q', st ++ st', ot ++ ot', pt ++ pt')))
    else if md = 2 then aBd (aC C f 1 o p u s) (fun q st ot pt => aBd (aC C f 4 o q (u + ot.length) (s + st.length)) (fun q' st' ot' _ => some (true, q', st ++ st', ot ++ ot', if q' = q then pt else [(s, s + (st.length + st'.length))])))
    else if md = 3 then (if C p = 271 then aBd (aC C f 0 o (p + 1) u s) (fun q st ot pt => aBd (aC C f 3 o q (u + ot.length) (s + st.length + 1)) (fun q' st' ot' pt' => some (true, q', st ++ (271, -1, -1) :: st', ot ++ ot', pt ++ pt'))) else some (true, p, [], [], []))
    else (if C p = 270 then aBd (aC C f 1 o (p + 1) u s) (fun q st ot _ => aBd (aC C f 4 o q (u + ot.length) (s + st.length + 1)) (fun q' st' ot' _ => some (true, q', st ++ (270, -1, -1) :: st', ot ++ ot', []))) else some (true, p, [], [], []))
theorem aBd_s {x : Option aRes} {k : Nat → List (Int × Int × Int) → List Nat → List (Nat × Nat) → Option aRes} {r : aRes} (h : aBd x k = some r) : (∃ q st ot pt, x = some (false, q, st, ot, pt) ∧ r = (false, q, [], [], [])) ∨ (∃ q st ot pt, x = some (true, q, st, ot, pt) ∧ k q st ot pt = some r) := by
  unfold aBd at h
  split at h
  · cases h
  · next q st ot pt => cases h; exact Or.inl ⟨q, st, ot, pt, rfl, rfl⟩
  · next q st ot pt => exact Or.inr ⟨q, st, ot, pt, rfl, h⟩
theorem aCol_len {C : Nat → Int} {p q : Nat} (h : aCol C p = (true, q)) : q = p + 3 := by
  unfold aCol at h
  repeat' split at h
  all_goals (simp at h; try omega)
theorem aOpd_len {C : Nat → Int} {p q : Nat} (h : aOpd C p = (true, q)) : p + 1 ≤ q := by
  unfold aOpd at h
  split at h
  · simp at h; omega
  · have := aCol_len h; omega
theorem aCmp_len {C : Nat → Int} {p u : Nat} (h : (aCmp C p u).1 = true) : (aCmp C p u).2.2.1.length = 1 ∧ p + (aCmp C p u).2.2.2.length + 1 ≤ (aCmp C p u).2.1 := by
  unfold aCmp at h ⊢
  rcases h1 : aOpd C p with ⟨b, q⟩
  rw [h1] at h
  rcases b with _ | _
  · simp at h
  · have e1 := aOpd_len h1
    dsimp only at h ⊢
    split
    · next hc =>
      rw [if_pos hc] at h
      split
      · simp; omega
      · next hd => rw [if_neg hd] at h; simp at h
    · next hc =>
      rw [if_neg hc] at h
      split
      · next hd =>
        rw [if_pos hd] at h
        rcases h2 : aOpd C (q + 1) with ⟨b, r⟩
        rw [h2] at h
        rcases b with _ | _
        · simp at h
        · have e2 := aOpd_len h2
          simp; omega
      · next hd => rw [if_neg hd] at h; simp at h
/-- lengths -/
theorem aC_len {C : Nat → Int} : ∀ (f md o p u s : Nat) (q : Nat) (st : List (Int × Int × Int)) (ot : List Nat) (pt : List (Nat × Nat)), aC C f md o p u s = some (true, q, st, ot, pt) → p + ot.length ≤ q ∧ p + st.length ≤ q ∧ pt.length ≤ st.length ∧ (md < 3 → p < q ∧ 1 ≤ st.length) ∧ (md = 0 → pt = [(s, s + st.length)]) ∧ (3 ≤ md → p < q ∨ (q = p ∧ st = [] ∧ ot = [] ∧ pt = [])) := by
  intro f
  induction f with
  | zero => intro md o p u s q st ot pt h; cases h
  | succ f ih =>
    intro md o p u s q st ot pt h
    unfold aC at h
    split at h
    · next hm =>
      split at h
      · split at h
        · simp at h
        · rcases aBd_s h with ⟨q1, st1, ot1, pt1, h1, h2⟩ | ⟨q1, st1, ot1, pt1, h1, h2⟩
          · simp at h2
          · have := ih _ _ _ _ _ _ _ _ _ h1
            simp at h2
            obtain ⟨rfl, rfl, rfl, rfl⟩ := h2
            simp; omega
      · split at h
        · split at h
          · simp at h
          · rcases aBd_s h with ⟨q1, st1, ot1, pt1, h1, h2⟩ | ⟨q1, st1, ot1, pt1, h1, h2⟩
            · simp at h2
            · have := ih _ _ _ _ _ _ _ _ _ h1
              split at h2
              · simp at h2
                obtain ⟨rfl, rfl, rfl, rfl⟩ := h2
                simp; omega
              · simp at h2
        · simp at h
          obtain ⟨h1, rfl, rfl, rfl, rfl⟩ := h
          have := aCmp_len h1
          simp; omega
    · next hm0 =>
      split at h
      · rcases aBd_s h with ⟨q1, st1, ot1, pt1, h1, h2⟩ | ⟨q1, st1, ot1, pt1, h1, h2⟩
        · simp at h2
        · have i1 := ih _ _ _ _ _ _ _ _ _ h1
          rcases aBd_s h2 with ⟨q2, st2, ot2, pt2, h3, h4⟩ | ⟨q2, st2, ot2, pt2, h3, h4⟩
          · simp at h4
          · have i2 := ih _ _ _ _ _ _ _ _ _ h3
            simp at h4
            obtain ⟨rfl, rfl, rfl, rfl⟩ := h4
            simp; omega
      · next hm1 =>
        split at h
        · rcases aBd_s h with ⟨q1, st1, ot1, pt1, h1, h2⟩ | ⟨q1, st1, ot1, pt1, h1, h2⟩
          · simp at h2
          · have i1 := ih _ _ _ _ _ _ _ _ _ h1
            rcases aBd_s h2 with ⟨q2, st2, ot2, pt2, h3, h4⟩ | ⟨q2, st2, ot2, pt2, h3, h4⟩
            · simp at h4
            · have i2 := ih _ _ _ _ _ _ _ _ _ h3
              simp at h4
              obtain ⟨rfl, rfl, rfl, rfl⟩ := h4
              split <;> simp <;> omega
        · next hm2 =>
          split at h
          · split at h
            · rcases aBd_s h with ⟨q1, st1, ot1, pt1, h1, h2⟩ | ⟨q1, st1, ot1, pt1, h1, h2⟩
              · simp at h2
              · have i1 := ih _ _ _ _ _ _ _ _ _ h1
                rcases aBd_s h2 with ⟨q2, st2, ot2, pt2, h3, h4⟩ | ⟨q2, st2, ot2, pt2, h3, h4⟩
                · simp at h4
                · have i2 := ih _ _ _ _ _ _ _ _ _ h3
                  simp at h4
                  obtain ⟨rfl, rfl, rfl, rfl⟩ := h4
                  simp; omega
            · simp at h
              obtain ⟨rfl, rfl, rfl, rfl⟩ := h
              simp; omega
          · split at h
            · rcases aBd_s h with ⟨q1, st1, ot1, pt1, h1, h2⟩ | ⟨q1, st1, ot1, pt1, h1, h2⟩
              · simp at h2
              · have i1 := ih _ _ _ _ _ _ _ _ _ h1
                rcases aBd_s h2 with ⟨q2, st2, ot2, pt2, h3, h4⟩ | ⟨q2, st2, ot2, pt2, h3, h4⟩
                · simp at h4
                · have i2 := ih _ _ _ _ _ _ _ _ _ h3
                  simp at h4
                  obtain ⟨rfl, rfl, rfl, rfl⟩ := h4
                  simp; omega
            · simp at h
              obtain ⟨rfl, rfl, rfl, rfl⟩ := h
              simp; omega
