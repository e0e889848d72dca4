/-! parts -/
theorem aV1 {C ob on : Nat → Int} {f p : Nat} : (aV C ob on (f + 1) 1 p).2 = min (aV C ob on f 0 p).2 (aV C ob on f 3 (aV C ob on f 0 p).1).2 := by rw [aV, if_neg (by decide), if_pos rfl]
theorem aV2 {C ob on : Nat → Int} {f p : Nat} : (aV C ob on (f + 1) 2 p).2 = max (aV C ob on f 1 p).2 (aV C ob on f 4 (aV C ob on f 1 p).1).2 := by rw [aV, if_neg (by decide), if_neg (by decide), if_pos rfl]
theorem aV3 {C ob on : Nat → Int} {f p : Nat} (h : C p = 271) : (aV C ob on (f + 1) 3 p).2 = min (aV C ob on f 0 (p + 1)).2 (aV C ob on f 3 (aV C ob on f 0 (p + 1)).1).2 := by rw [aV, if_neg (by decide), if_neg (by decide), if_neg (by decide), if_pos rfl, if_pos h]
theorem aV3n {C ob on : Nat → Int} {f p : Nat} (h : ¬ C p = 271) : (aV C ob on (f + 1) 3 p).2 = 2 := by rw [aV, if_neg (by decide), if_neg (by decide), if_neg (by decide), if_pos rfl, if_neg h]
theorem aV4n {C ob on : Nat → Int} {f p : Nat} (h : ¬ C p = 270) : (aV C ob on f 4 p).2 = 0 := by
  rcases f with _ | f
  · rfl
  · rw [aV, if_neg (by decide), if_neg (by decide), if_neg (by decide), if_neg (by decide), if_neg h]
/-- tests joined by 'and', from behind the one that ends at p -/
def chn (C : Nat → Int) : Nat → Nat → List (Nat × Nat × Nat) → Prop
  | p, q, [] => q = p
  | p, q, x :: l => C p = 271 ∧ x.1 = p + 1 ∧ chn C x.2.1 q l
/-- a part: its steps from sb to se, its tokens from a to b; read by f in mode md -/
def CD (C : Nat → Int) (u s : Nat) (st : List (Int × Int × Int)) (ot : List Nat) (sb se a b f md : Nat) : Prop := ∃ u' st' ot' pt', aC C f md 0 a u' sb = some (true, b, st', ot', pt') ∧ se = sb + st'.length ∧ s ≤ sb ∧ u ≤ u' ∧ (∀ (j : Nat) y, st'[j]? = some y → st[sb - s + j]? = some y) ∧ (∀ (j t : Nat), ot'[j]? = some t → ot[u' - u + j]? = some t)
theorem CD_l {C : Nat → Int} {u s : Nat} {st : List (Int × Int × Int)} {ot : List Nat} {sb se a b f md : Nat} (st2 : List (Int × Int × Int)) (ot2 : List Nat) (h : CD C u s st ot sb se a b f md) : CD C u s (st ++ st2) (ot ++ ot2) sb se a b f md := by
  obtain ⟨u', st', ot', pt', h1, h2, h3, h4, h5, h6⟩ := h
  refine ⟨u', st', ot', pt', h1, h2, h3, h4, fun j y hy => ?_, fun j t ht => ?_⟩
  · have := h5 j y hy
    rw [List.getElem?_append_left (List.getElem?_eq_some_iff.mp this).1]; exact this
  · have := h6 j t ht
    rw [List.getElem?_append_left (List.getElem?_eq_some_iff.mp this).1]; exact this
theorem CD_r {C : Nat → Int} {u s : Nat} {st : List (Int × Int × Int)} {ot : List Nat} {sb se a b f md : Nat} (st2 : List (Int × Int × Int)) (ot2 : List Nat) (h : CD C (u + ot2.length) (s + st2.length) st ot sb se a b f md) : CD C u s (st2 ++ st) (ot2 ++ ot) sb se a b f md := by
  obtain ⟨u', st', ot', pt', h1, h2, h3, h4, h5, h6⟩ := h
  refine ⟨u', st', ot', pt', h1, h2, by omega, by omega, fun j y hy => ?_, fun j t ht => ?_⟩
  · have := h5 j y hy
    rw [List.getElem?_append_right (by omega), show sb - s + j - st2.length = sb - (s + st2.length) + j by omega]; exact this
  · have := h6 j t ht
    rw [List.getElem?_append_right (by omega), show u' - u + j - ot2.length = u' - (u + ot2.length) + j by omega]; exact this
theorem CD_s {C : Nat → Int} {u s p q f md : Nat} {st : List (Int × Int × Int)} {ot : List Nat} {pt : List (Nat × Nat)} (h : aC C f md 0 p u s = some (true, q, st, ot, pt)) : CD C u s st ot s (s + st.length) p q f md := ⟨u, st, ot, pt, h, rfl, Nat.le_refl _, Nat.le_refl _, fun j y hy => by rw [Nat.sub_self, Nat.zero_add]; exact hy, fun j t ht => by rw [Nat.sub_self, Nat.zero_add]; exact ht⟩
/-- parts and tests lie side by side -/
def PD (C : Nat → Int) (u s : Nat) (st : List (Int × Int × Int)) (ot : List Nat) (pt : List (Nat × Nat)) (tp : List (Nat × Nat × Nat)) (md fm : Nat) : Prop := tp.length = pt.length ∧ ∀ (i : Nat) (x : Nat × Nat) (y : Nat × Nat × Nat), pt[i]? = some x → tp[i]? = some y → CD C u s st ot x.1 x.2 y.1 y.2.1 y.2.2 md ∧ y.2.2 ≤ fm
theorem PD_a {C : Nat → Int} {u s md fm : Nat} {st st2 : List (Int × Int × Int)} {ot ot2 : List Nat} {pt pt2 : List (Nat × Nat)} {tp tp2 : List (Nat × Nat × Nat)} (h : PD C u s st ot pt tp md fm) (h2 : PD C (u + ot.length) (s + st.length) st2 ot2 pt2 tp2 md fm) : PD C u s (st ++ st2) (ot ++ ot2) (pt ++ pt2) (tp ++ tp2) md fm := by
  refine ⟨by simp [h.1, h2.1], fun i x y hx hy => ?_⟩
  rcases Nat.lt_or_ge i pt.length with hi | hi
  · rw [List.getElem?_append_left hi] at hx
    rw [List.getElem?_append_left (by rw [h.1]; exact hi)] at hy
    obtain ⟨a, b⟩ := h.2 i x y hx hy
    exact ⟨CD_l _ _ a, b⟩
  · rw [List.getElem?_append_right hi] at hx
    rw [List.getElem?_append_right (by rw [h.1]; exact hi), h.1] at hy
    obtain ⟨a, b⟩ := h2.2 _ x y hx hy
    exact ⟨CD_r _ _ a, b⟩
theorem PD_m {C : Nat → Int} {u s md fm fm' : Nat} {st : List (Int × Int × Int)} {ot : List Nat} {pt : List (Nat × Nat)} {tp : List (Nat × Nat × Nat)} (h : PD C u s st ot pt tp md fm) (hf : fm ≤ fm') : PD C u s st ot pt tp md fm' := ⟨h.1, fun i x y hx hy => ⟨(h.2 i x y hx hy).1, Nat.le_trans (h.2 i x y hx hy).2 hf⟩⟩
theorem PT1 {C : Nat → Int} : ∀ (f md p u s q : Nat) (st : List (Int × Int × Int)) (ot : List Nat) (pt : List (Nat × Nat)), aC C f md 0 p u s = some (true, q, st, ot, pt) → (md = 1 → ∃ b g l, PD C u s st ot pt ((p, b, g) :: l) 0 f ∧ chn C b q l ∧ ∀ ob on, (aV C ob on f md p).2 = 2 ↔ ∀ x ∈ (p, b, g) :: l, (aV C ob on x.2.2 0 x.1).2 = 2) ∧ (md = 3 → ∃ l, PD C u s st ot pt l 0 f ∧ chn C p q l ∧ ∀ ob on, (aV C ob on f md p).2 = 2 ↔ ∀ x ∈ l, (aV C ob on x.2.2 0 x.1).2 = 2) := by
  intro f
  induction f with
  | zero => intro md p u s q st ot pt h; cases h
  | succ f ih =>
    intro md p u s q st ot pt h
    unfold aC at h
    have one : ∀ {q1 u1 s1 : Nat} {st1 : List (Int × Int × Int)} {ot1 : List Nat} {pt1 : List (Nat × Nat)} {a : Nat}, aC C f 0 0 a u1 s1 = some (true, q1, st1, ot1, pt1) → PD C u1 s1 st1 ot1 pt1 [(a, q1, f)] 0 (f + 1) := by
      intro q1 u1 s1 st1 ot1 pt1 a e1
      have hp := (aC_len _ _ _ _ _ _ _ _ _ _ e1).2.2.2.2.1 rfl
      rw [hp]
      refine ⟨rfl, fun i x y hx hy => ?_⟩
      rcases i with _ | i
      · simp at hx hy
        subst hx; subst hy
        exact ⟨CD_s e1, by show f ≤ f + 1; omega⟩
      · simp at hx
    refine ⟨fun hm => ?_, fun hm => ?_⟩
    · subst hm
      rw [if_neg (by decide), if_pos rfl] at h
      rcases aBd_s h with ⟨q1, st1, ot1, pt1, e1, e2⟩ | ⟨q1, st1, ot1, pt1, e1, e2⟩
      · cases e2
      · rcases aBd_s e2 with ⟨q3, st3, ot3, pt3, e3, e4⟩ | ⟨q3, st3, ot3, pt3, e3, e4⟩
        · cases e4
        · cases e4
          obtain ⟨l, k1, k2, k3⟩ := (ih 3 _ _ _ _ _ _ _ e3).2 rfl
          refine ⟨q1, f, l, PD_a (one e1) (PD_m k1 (by omega)), k2, fun ob on => ?_⟩
          have hv := aV_r (C := C) (ob := ob) (on := on) f 0 p
          have hv3 := aV_r (C := C) (ob := ob) (on := on) f 3 q1
          rw [aV1, aV_q _ _ _ _ _ _ _ _ _ _ e1, List.forall_mem_cons, ← k3 ob on]
          dsimp only
          omega
    · subst hm
      rw [if_neg (by decide), if_neg (by decide), if_neg (by decide), if_pos rfl] at h
      by_cases c1 : C p = 271
      · rw [if_pos c1] at h
        rcases aBd_s h with ⟨q1, st1, ot1, pt1, e1, e2⟩ | ⟨q1, st1, ot1, pt1, e1, e2⟩
        · cases e2
        · rcases aBd_s e2 with ⟨q3, st3, ot3, pt3, e3, e4⟩ | ⟨q3, st3, ot3, pt3, e3, e4⟩
          · cases e4
          · cases e4
            obtain ⟨l, k1, k2, k3⟩ := (ih 3 _ _ _ _ _ _ _ e3).2 rfl
            refine ⟨(p + 1, q1, f) :: l, ?_, ⟨c1, rfl, k2⟩, fun ob on => ?_⟩
            · have h1 := one e1
              have h2 : PD C (u + ot1.length) (s + st1.length) ((271, -1, -1) :: st3) ot3 pt3 l 0 (f + 1) := by
                refine ⟨k1.1, fun i x y hx hy => ?_⟩
                obtain ⟨a, b⟩ := k1.2 i x y hx hy
                refine ⟨?_, by omega⟩
                have := CD_r (C := C) (u := u + ot1.length) (s := s + st1.length) [(271, -1, -1)] [] (by simpa using a)
                simpa using this
              have := PD_a h1 h2
              simpa using this
            · have hv := aV_r (C := C) (ob := ob) (on := on) f 0 (p + 1)
              have hv3 := aV_r (C := C) (ob := ob) (on := on) f 3 q1
              rw [aV3 c1, aV_q _ _ _ _ _ _ _ _ _ _ e1, List.forall_mem_cons, ← k3 ob on]
              dsimp only
              omega
      · rw [if_neg c1] at h
        cases h
        refine ⟨[], ⟨rfl, fun i x y hx hy => by simp at hx⟩, rfl, fun ob on => ?_⟩
        rw [aV3n c1]
        simp
/-- a whole condition: tests joined by 'and' alone, or one part -/
theorem PT2 {C : Nat → Int} {f p u s q : Nat} {st : List (Int × Int × Int)} {ot : List Nat} {pt : List (Nat × Nat)} (h : aC C (f + 1) 2 0 p u s = some (true, q, st, ot, pt)) : (∃ b g l, PD C u s st ot pt ((p, b, g) :: l) 0 (f + 1) ∧ chn C b q l ∧ (∀ ob on, (aV C ob on (f + 1) 2 p).2 = 2 ↔ ∀ x ∈ (p, b, g) :: l, (aV C ob on x.2.2 0 x.1).2 = 2) ∧ ∃ st1 ot1 pt1, aC C f 1 0 p u s = some (true, q, st1, ot1, pt1)) ∨ (PD C u s st ot pt [(p, q, f + 1)] 2 (f + 1) ∧ ∃ q1 st1 ot1 pt1 u' s' st2 ot2 pt2, aC C f 1 0 p u s = some (true, q1, st1, ot1, pt1) ∧ aC C f 4 0 q1 u' s' = some (true, q, st2, ot2, pt2) ∧ ¬ q = q1) := by
  have h' := h
  unfold aC at h
  rw [if_neg (by decide), if_neg (by decide), if_pos rfl] at h
  rcases aBd_s h with ⟨q1, st1, ot1, pt1, e1, e2⟩ | ⟨q1, st1, ot1, pt1, e1, e2⟩
  · cases e2
  · rcases aBd_s e2 with ⟨q3, st3, ot3, pt3, e3, e4⟩ | ⟨q3, st3, ot3, pt3, e3, e4⟩
    · cases e4
    · have hl := (aC_len _ _ _ _ _ _ _ _ _ _ e3).2.2.2.2.2 (by omega)
      by_cases g : q3 = q1
      · rw [if_pos g] at e4
        cases e4
        rcases hl with hl | ⟨-, l1, l2, l3⟩
        · omega
        · subst l1; subst l2
          subst g
          obtain ⟨b, g', l, k1, k2, k3⟩ := (PT1 f 1 _ _ _ _ _ _ _ e1).1 rfl
          refine Or.inl ⟨b, g', l, PD_m (by simpa using k1) (by omega), k2, fun ob on => ?_, _, _, _, e1⟩
          rw [← k3 ob on]
          have hv := aV_r (C := C) (ob := ob) (on := on) f 1 p
          have hc : ¬ C q = 270 := by
            intro hc
            rcases f with _ | f
            · cases e1
            · unfold aC at e3
              rw [if_neg (by decide), if_neg (by decide), if_neg (by decide), if_neg (by decide), if_pos hc] at e3
              rcases aBd_s e3 with ⟨q5, st5, ot5, pt5, e5, e6⟩ | ⟨q5, st5, ot5, pt5, e5, e6⟩
              · cases e6
              · rcases aBd_s e6 with ⟨q7, st7, ot7, pt7, e7, e8⟩ | ⟨q7, st7, ot7, pt7, e7, e8⟩
                · cases e8
                · simp at e8
          rw [aV2, aV_q _ _ _ _ _ _ _ _ _ _ e1, aV4n hc]
          omega
      · rw [if_neg g] at e4
        simp only [Option.some.injEq, Prod.mk.injEq, true_and] at e4
        obtain ⟨f1, f2, f3, f4⟩ := e4
        subst f1
        refine Or.inr ⟨?_, q1, _, _, _, _, _, _, _, _, e1, e3, g⟩
        rw [← f4]
        refine ⟨rfl, fun i x y hx hy => ?_⟩
        rcases i with _ | i
        · simp at hx hy
          subst hx; subst hy
          have := CD_s h'
          rw [← f2] at this ⊢
          rw [List.length_append] at this
          exact ⟨this, Nat.le_refl _⟩
        · simp at hx
