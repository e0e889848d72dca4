/-! conditions always come to an end -/
theorem aCol_lt {n p : Nat} {C : Nat → Int} (hE : TC n C) (hp : p < n) : (aCol C p).2 < n := by
  unfold aCol
  split
  · have h1 := ends hE hp (by omega)
    split
    · have h2 := ends hE h1 (by omega)
      split
      · next hc => exact ends hE h2 (by have : 97 ≤ C (p + 1 + 1) ∧ C (p + 1 + 1) ≤ 100 := hc; omega)
      · exact h2
    · exact h1
  · exact hp
theorem aOpd_lt {n p : Nat} {C : Nat → Int} (hE : TC n C) (hp : p < n) : (aOpd C p).2 < n := by
  unfold aOpd
  split
  · exact ends hE hp (by omega)
  · exact aCol_lt hE hp
theorem aCmp_lt {n p u : Nat} {C : Nat → Int} (hE : TC n C) (hp : p < n) : (aCmp C p u).2.1 < n := by
  unfold aCmp
  have e1 := aOpd_lt hE hp
  rcases h1 : aOpd C p with ⟨b, q⟩
  rw [h1] at e1
  rcases b with _ | _
  · exact e1
  · dsimp only at e1 ⊢
    split
    · have h2 := ends hE e1 (by omega)
      split
      · next hc => exact ends hE h2 (by omega)
      · exact h2
    · split
      · have h2 := ends hE e1 (by omega)
        have e2 := aOpd_lt hE h2
        rcases h3 : aOpd C (q + 1) with ⟨b, r⟩
        rw [h3] at e2
        rcases b with _ | _ <;> exact e2
      · exact e1
theorem aBd_t {x : Option aRes} {k : Nat → List (Int × Int × Int) → List Nat → List (Nat × Nat) → Option aRes} {n : Nat} (h : ∃ r, x = some r ∧ r.2.1 < n) (hk : ∀ q st ot pt, x = some (true, q, st, ot, pt) → q < n → ∃ r, k q st ot pt = some r ∧ r.2.1 < n) : ∃ r, aBd x k = some r ∧ r.2.1 < n := by
  obtain ⟨⟨b, q, st, ot, pt⟩, rfl, hq⟩ := h
  rcases b with _ | _
  · exact ⟨_, rfl, hq⟩
  · exact hk q st ot pt rfl hq
theorem aC_tot {n : Nat} {C : Nat → Int} (hE : TC n C) : ∀ (f md o p u s : Nat), p < n → 4 * (n - p) + (if md = 1 then 1 else if md = 2 then 2 else 0) + 1 ≤ f → ∃ r, aC C f md o p u s = some r ∧ r.2.1 < n := by
  intro f
  induction f with
  | zero => intro md o p u s _ h; omega
  | succ f ih =>
    intro md o p u s hp hf
    unfold aC
    split
    · next hm =>
      subst hm
      simp at hf
      split
      · split
        · exact ⟨_, rfl, hp⟩
        · have h1 := ends hE hp (by omega)
          refine aBd_t (ih 0 (o + 1) (p + 1) u s h1 (by simp; omega)) (fun q st ot pt _ hq => ⟨_, rfl, hq⟩)
      · split
        · split
          · exact ⟨_, rfl, hp⟩
          · have h1 := ends hE hp (by omega)
            refine aBd_t (ih 2 (o + 1) (p + 1) u s h1 (by simp; omega)) (fun q st ot pt _ hq => ?_)
            split
            · exact ⟨_, rfl, ends hE hq (by omega)⟩
            · exact ⟨_, rfl, hq⟩
        · exact ⟨_, rfl, aCmp_lt hE hp⟩
    · next hm =>
      split
      · next hm =>
        subst hm
        simp at hf
        refine aBd_t (ih 0 o p u s hp (by simp; omega)) (fun q st ot pt e hq => ?_)
        have hl := (aC_len _ _ _ _ _ _ _ _ _ _ e).2.2.2.1 (by omega)
        refine aBd_t (ih 3 o q _ _ hq (by simp; omega)) (fun q' st' ot' pt' _ hq' => ⟨_, rfl, hq'⟩)
      · next hm1 =>
        split
        · next hm =>
          subst hm
          simp at hf
          refine aBd_t (ih 1 o p u s hp (by simp; omega)) (fun q st ot pt e hq => ?_)
          have hl := (aC_len _ _ _ _ _ _ _ _ _ _ e).2.2.2.1 (by omega)
          refine aBd_t (ih 4 o q _ _ hq (by simp; omega)) (fun q' st' ot' pt' _ hq' => ⟨_, rfl, hq'⟩)
        · next hm2 =>
          rw [if_neg hm1, if_neg hm2] at hf
          split
          · split
            · have h1 := ends hE hp (by omega)
              refine aBd_t (ih 0 o (p + 1) u s h1 (by simp; omega)) (fun q st ot pt e hq => ?_)
              have hl := (aC_len _ _ _ _ _ _ _ _ _ _ e).2.2.2.1 (by omega)
              refine aBd_t (ih 3 o q _ _ hq (by simp; omega)) (fun q' st' ot' pt' _ hq' => ⟨_, rfl, hq'⟩)
            · exact ⟨_, rfl, hp⟩
          · split
            · have h1 := ends hE hp (by omega)
              refine aBd_t (ih 1 o (p + 1) u s h1 (by simp; omega)) (fun q st ot pt e hq => ?_)
              have hl := (aC_len _ _ _ _ _ _ _ _ _ _ e).2.2.2.1 (by omega)
              refine aBd_t (ih 4 o q _ _ hq (by simp; omega)) (fun q' st' ot' pt' _ hq' => ⟨_, rfl, hq'⟩)
            · exact ⟨_, rfl, hp⟩
/-- a whole condition -/
def aCo (C : Nat → Int) (p u s : Nat) : aRes := (aC C 600 2 0 p u s).getD (false, p, [], [], [])
theorem aCo_some {n : Nat} {C : Nat → Int} (hE : TC n C) (hn : n ≤ 131) {p u s : Nat} (hp : p < n) : aC C 600 2 0 p u s = some (aCo C p u s) ∧ (aCo C p u s).2.1 < n := by
  obtain ⟨r, h1, h2⟩ := aC_tot hE 600 2 0 p u s hp (by simp; omega)
  unfold aCo
  rw [h1]
  exact ⟨rfl, h2⟩
