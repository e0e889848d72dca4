/-! what a condition comes to, values being given: ob whether an operand is NULL, on its number, by tokens -/
def rel3 (c x y : Int) : Prop := if c = 61 then x = y else if c = 60 then x < y else y < x
def cv (C ob on : Nat → Int) (p : Nat) : Int := if C (aOpd C p).2 = 273 then (if ob p = 0 then 0 else 2) else if ob p = 0 ∧ ob ((aOpd C p).2 + 1) = 0 then (if C (aOpd C p).2 = 61 then (if on p = on ((aOpd C p).2 + 1) then 2 else 0) else if C (aOpd C p).2 = 60 then (if on p < on ((aOpd C p).2 + 1) then 2 else 0) else (if on ((aOpd C p).2 + 1) < on p then 2 else 0)) else 1
def aV (C ob on : Nat → Int) : Nat → Nat → Nat → Nat × Int
  | 0, _, p => (p, 0)
  | f + 1, md, p =>
    if md = 0 then (if C p = 272 then ((aV C ob on f 0 (p + 1)).1, 2 - (aV C ob on f 0 (p + 1)).2) else if C p = 40 then ((aV C ob on f 2 (p + 1)).1 + 1, (aV C ob on f 2 (p + 1)).2) else ((aCmp C p 0).2.1, cv C ob on p))
    else if md = 1 then ((aV C ob on f 3 (aV C ob on f 0 p).1).1, min (aV C ob on f 0 p).2 (aV C ob on f 3 (aV C ob on f 0 p).1).2)
    else if md = 2 then ((aV C ob on f 4 (aV C ob on f 1 p).1).1, max (aV C ob on f 1 p).2 (aV C ob on f 4 (aV C ob on f 1 p).1).2)
    else if md = 3 then (if C p = 271 then ((aV C ob on f 3 (aV C ob on f 0 (p + 1)).1).1, min (aV C ob on f 0 (p + 1)).2 (aV C ob on f 3 (aV C ob on f 0 (p + 1)).1).2) else (p, 2))
    else (if C p = 270 then ((aV C ob on f 4 (aV C ob on f 1 (p + 1)).1).1, max (aV C ob on f 1 (p + 1)).2 (aV C ob on f 4 (aV C ob on f 1 (p + 1)).1).2) else (p, 0))
theorem aCmp_u {C : Nat → Int} {p u : Nat} : (aCmp C p u).2.1 = (aCmp C p 0).2.1 := by
  unfold aCmp
  rcases aOpd C p with ⟨b, q⟩
  rcases b with _ | _
  · rfl
  · dsimp only
    split
    · split <;> rfl
    · split
      · rcases aOpd C (q + 1) with ⟨b, r⟩
        rcases b with _ | _ <;> rfl
      · rfl
theorem cv_r {C ob on : Nat → Int} {p : Nat} : cv C ob on p = 0 ∨ cv C ob on p = 1 ∨ cv C ob on p = 2 := by
  unfold cv
  repeat' split
  all_goals omega
theorem aV_r {C ob on : Nat → Int} : ∀ (f md p : Nat), 0 ≤ (aV C ob on f md p).2 ∧ (aV C ob on f md p).2 ≤ 2 := by
  intro f
  induction f with
  | zero => intro md p; exact ⟨Int.le_refl _, by show (0 : Int) ≤ 2; decide⟩
  | succ f ih =>
    intro md p
    unfold aV
    have hc := cv_r (C := C) (ob := ob) (on := on) (p := p)
    split
    · split
      · have := ih 0 (p + 1); dsimp only; omega
      · split
        · have := ih 2 (p + 1); dsimp only; omega
        · dsimp only; omega
    · split
      · have := ih 0 p; have := ih 3 (aV C ob on f 0 p).1; dsimp only; omega
      · split
        · have := ih 1 p; have := ih 4 (aV C ob on f 1 p).1; dsimp only; omega
        · split
          · split
            · have := ih 0 (p + 1); have := ih 3 (aV C ob on f 0 (p + 1)).1; dsimp only; omega
            · dsimp only; omega
          · split
            · have := ih 1 (p + 1); have := ih 4 (aV C ob on f 1 (p + 1)).1; dsimp only; omega
            · dsimp only; omega
/-- it ends where the parser does -/
theorem aV_q {C ob on : Nat → Int} : ∀ (f md o p u s q : Nat) (st : List (Int × Int × Int)) (ot : List Nat) (pt : List (Nat × Nat)), aC C f md o p u s = some (true, q, st, ot, pt) → (aV C ob on f md p).1 = q := by
  intro f
  induction f with
  | zero => intro md o p u s q st ot pt h; cases h
  | succ f ih =>
    intro md o p u s q st ot pt h
    unfold aC at h
    unfold aV
    split
    · next hm =>
      rw [if_pos hm] at h
      split
      · next hc =>
        rw [if_pos hc] at h
        split at h
        · cases h
        · rcases aBd_s h with ⟨q1, st1, ot1, pt1, e1, e2⟩ | ⟨q1, st1, ot1, pt1, e1, e2⟩
          · cases e2
          · cases e2
            exact ih _ _ _ _ _ _ _ _ _ e1
      · next hc =>
        rw [if_neg hc] at h
        split
        · next hd =>
          rw [if_pos hd] at h
          split at h
          · cases h
          · rcases aBd_s h with ⟨q1, st1, ot1, pt1, e1, e2⟩ | ⟨q1, st1, ot1, pt1, e1, e2⟩
            · cases e2
            · split at e2
              · cases e2
                have := ih _ _ _ _ _ _ _ _ _ e1
                dsimp only; omega
              · cases e2
        · next hd =>
          rw [if_neg hd] at h
          simp only [Option.some.injEq, Prod.mk.injEq] at h
          rw [← h.2.1]
          exact aCmp_u.symm
    · next hm =>
      rw [if_neg hm] at h
      split
      · next hm1 =>
        rw [if_pos hm1] at h
        rcases aBd_s h with ⟨q1, st1, ot1, pt1, e1, e2⟩ | ⟨q1, st1, ot1, pt1, e1, e2⟩
        · cases e2
        · rcases aBd_s e2 with ⟨q3, st3, ot3, pt3, e3, e4⟩ | ⟨q3, st3, ot3, pt3, e3, e4⟩
          · cases e4
          · cases e4
            rw [ih _ _ _ _ _ _ _ _ _ e1]
            exact ih _ _ _ _ _ _ _ _ _ e3
      · next hm1 =>
        rw [if_neg hm1] at h
        split
        · next hm2 =>
          rw [if_pos hm2] at h
          rcases aBd_s h with ⟨q1, st1, ot1, pt1, e1, e2⟩ | ⟨q1, st1, ot1, pt1, e1, e2⟩
          · cases e2
          · rcases aBd_s e2 with ⟨q3, st3, ot3, pt3, e3, e4⟩ | ⟨q3, st3, ot3, pt3, e3, e4⟩
            · cases e4
            · cases e4
              rw [ih _ _ _ _ _ _ _ _ _ e1]
              exact ih _ _ _ _ _ _ _ _ _ e3
        · next hm2 =>
          rw [if_neg hm2] at h
          split
          · next hm3 =>
            rw [if_pos hm3] at h
            split
            · next hc =>
              rw [if_pos hc] at h
              rcases aBd_s h with ⟨q1, st1, ot1, pt1, e1, e2⟩ | ⟨q1, st1, ot1, pt1, e1, e2⟩
              · cases e2
              · rcases aBd_s e2 with ⟨q3, st3, ot3, pt3, e3, e4⟩ | ⟨q3, st3, ot3, pt3, e3, e4⟩
                · cases e4
                · cases e4
                  rw [ih _ _ _ _ _ _ _ _ _ e1]
                  exact ih _ _ _ _ _ _ _ _ _ e3
            · next hc =>
              rw [if_neg hc] at h
              cases h; rfl
          · next hm3 =>
            rw [if_neg hm3] at h
            split
            · next hc =>
              rw [if_pos hc] at h
              rcases aBd_s h with ⟨q1, st1, ot1, pt1, e1, e2⟩ | ⟨q1, st1, ot1, pt1, e1, e2⟩
              · cases e2
              · rcases aBd_s e2 with ⟨q3, st3, ot3, pt3, e3, e4⟩ | ⟨q3, st3, ot3, pt3, e3, e4⟩
                · cases e4
                · cases e4
                  rw [ih _ _ _ _ _ _ _ _ _ e1]
                  exact ih _ _ _ _ _ _ _ _ _ e3
            · next hc =>
              rw [if_neg hc] at h
              cases h; rfl
/-! the class comes to it by its steps -/
/-- the steps lie from s on, the operands from u on -/
def STp (M : q_M) (s : Nat) (st : List (Int × Int × Int)) : Prop := ∀ (i : Nat) y, st[i]? = some y → s + i < 130 ∧ M 25 (s + i) = y.1 ∧ M 26 (s + i) = y.2.1 ∧ M 27 (s + i) = y.2.2
def OV (M : q_M) (ob on : Nat → Int) (u : Nat) (ot : List Nat) : Prop := ∀ (i t : Nat), ot[i]? = some t → u + i < 130 ∧ M 23 (u + i) = ob t ∧ (ob t = 0 → M 22 (u + i) = on t)
theorem STp_a {M : q_M} {s : Nat} {a b : List (Int × Int × Int)} (h : STp M s (a ++ b)) : STp M s a ∧ STp M (s + a.length) b := by
  refine ⟨fun i y hy => ?_, fun i y hy => ?_⟩
  · exact h i y (by rw [List.getElem?_append_left (List.getElem?_eq_some_iff.mp hy).1]; exact hy)
  · have := h (a.length + i) y (by rw [List.getElem?_append_right (by omega), Nat.add_sub_cancel_left]; exact hy)
    rw [← Nat.add_assoc] at this; exact this
theorem OV_a {M : q_M} {ob on : Nat → Int} {u : Nat} {a b : List Nat} (h : OV M ob on u (a ++ b)) : OV M ob on u a ∧ OV M ob on (u + a.length) b := by
  refine ⟨fun i y hy => ?_, fun i y hy => ?_⟩
  · exact h i y (by rw [List.getElem?_append_left (List.getElem?_eq_some_iff.mp hy).1]; exact hy)
  · have := h (a.length + i) y (by rw [List.getElem?_append_right (by omega), Nat.add_sub_cancel_left]; exact hy)
    rw [← Nat.add_assoc] at this; exact this
theorem sp_unknownOfN {sc : List Int} {d : Nat} {M : q_M} {i : Nat} {v : Int} (hi : i < 130) (h : M 23 i = v) (hd : 1 ≤ d) : pq sc d 40 [.inr (.inr 16), .inl (i : Int)] GF M = some (some (.inl (if v = 0 then 0 else 1)), GF, M) := by
  have := sp_unknownOf (sc := sc) (d := d) (M := M) hi hd
  rw [h] at this; exact this
theorem sp_cmp {sc : List Int} {d : Nat} {M : q_M} {a b : Int} (hd : 1 ≤ d) : pq sc d 229 [.inl a, .inl b] GF M = some (some (.inl (if a < b then -1 else if a = b then 0 else 1)), GF, M) := by
  refine (pq_e (by omega) (by decide) (Nat.le_of_ble_eq_true rfl) ⟨0 + 1, sg_J6_compare_7cf53_0.trans ?_⟩)
  by_cases h1 : a < b
  · rw [if_pos h1, if_pos h1]
  · rw [if_neg h1, if_neg h1]
    by_cases h2 : a = b
    · rw [if_pos h2, if_pos h2]
    · rw [if_neg h2, if_neg h2]
theorem cx_test {sc : List Int} {d : Nat} {M : q_M} {C ob on : Nat → Int} {p u : Nat} (h : (aCmp C p u).1 = true) (hO : OV M ob on u (aCmp C p u).2.2.2) (hd : 2 ≤ d) : ∃ k l r, (aCmp C p u).2.2.1 = [(k, l, r)] ∧ ¬ k = 272 ∧ ¬ k = 271 ∧ ¬ k = 270 ∧ pq sc d 94 [.inr (.inr 24), .inl k, .inl l, .inl r] GF M = some (some (.inl (cv C ob on p)), GF, M) := by
  unfold aCmp at h hO ⊢
  unfold cv
  rcases h1 : aOpd C p with ⟨b, q⟩
  rw [h1] at h hO
  rcases b with _ | _
  · simp at h
  · dsimp only at h hO ⊢
    by_cases hc : C q = 273
    · rw [if_pos hc] at h hO ⊢
      by_cases hd2 : C (q + 1) = 274
      · rw [if_pos hd2] at hO ⊢
        obtain ⟨o1, o2, -⟩ := hO 0 p rfl
        refine ⟨273, _, _, rfl, by decide, by decide, by decide, (pq_e (by omega) (by decide) (Nat.le_of_ble_eq_true rfl) ⟨0 + 1, sg_X6_testOf_0.trans ?_⟩)⟩
        rw [if_pos rfl, sp_unknownOfN (i := u) (by omega) o2 (by omega), q_cI_s]
        rw [if_pos hc]
        by_cases e : ob p = 0
        · rw [if_pos e, if_pos rfl, if_pos e]
        · rw [if_neg e, if_neg (by decide), if_neg e]
      · rw [if_neg hd2] at h; simp at h
    · rw [if_neg hc] at h hO ⊢
      by_cases hd2 : C q = 61 ∨ C q = 60 ∨ C q = 62
      · rw [if_pos hd2] at h hO ⊢
        rcases h2 : aOpd C (q + 1) with ⟨b, r⟩
        rw [h2] at h hO
        rcases b with _ | _
        · simp at h
        · dsimp only at hO ⊢
          obtain ⟨o1, o2, o3⟩ := hO 0 p rfl
          obtain ⟨o4, o5, o6⟩ := hO 1 (q + 1) rfl
          refine ⟨C q, _, _, rfl, by omega, by omega, by omega, (pq_e (by omega) (by decide) (Nat.le_of_ble_eq_true rfl) ⟨0 + 1, sg_X6_testOf_0.trans ?_⟩)⟩
          rw [if_neg hc, if_neg hc, sp_unknownOfN (i := u) (by omega) o2 (by omega), q_cI_s]
          by_cases e1 : ob p = 0
          · rw [if_pos e1, if_pos rfl, show (u : Int) + 1 = ((u + 1 : Nat) : Int) by omega, sp_unknownOfN (i := u + 1) (by omega) o5 (by omega), q_cI_s]
            by_cases e2 : ob (q + 1) = 0
            · have n1' := o3 e1
              have n2' := o6 e2
              rw [Nat.add_zero] at n1'
              have q1 := sp_numberOf (sc := sc) (d := d - 1) (M := M) (i := u) (by omega) (by omega)
              have q2 := sp_numberOf (sc := sc) (d := d - 1) (M := M) (i := u + 1) (by omega) (by omega)
              rw [n1'] at q1
              rw [n2'] at q2
              rw [if_pos e2, if_pos rfl, q1, q_cI_s, q2, q_cI_s, sp_cmp (by omega), q_cI_s, if_pos (show ob p = 0 ∧ ob (q + 1) = 0 from ⟨e1, e2⟩)]
              by_cases k1 : C q = 60
              · rw [if_pos k1, if_neg (show ¬ C q = 61 by omega), if_pos k1]
                by_cases l1 : on p < on (q + 1)
                · rw [if_pos l1, if_pos (by decide), if_neg (by decide), if_pos l1]
                · rw [if_neg l1, if_neg l1]
                  by_cases l2 : on p = on (q + 1)
                  · rw [if_pos l2, if_neg (by decide), if_pos rfl]
                  · rw [if_neg l2, if_neg (by decide), if_pos rfl]
              · rw [if_neg k1]
                by_cases k2 : C q = 62
                · rw [if_pos k2, if_neg (show ¬ C q = 61 by omega), if_neg k1]
                  by_cases l1 : on p < on (q + 1)
                  · rw [if_pos l1, if_neg (by decide), if_pos rfl, if_neg (by omega)]
                  · rw [if_neg l1]
                    by_cases l2 : on p = on (q + 1)
                    · rw [if_pos l2, if_neg (by decide), if_pos rfl, if_neg (by omega)]
                    · rw [if_neg l2, if_pos (by decide), if_neg (by decide), if_pos (by omega)]
                · rw [if_neg k2, if_pos (show C q = 61 by omega)]
                  by_cases l1 : on p < on (q + 1)
                  · rw [if_pos l1, if_neg (by decide), if_pos rfl, if_neg (by omega)]
                  · rw [if_neg l1]
                    by_cases l2 : on p = on (q + 1)
                    · rw [if_pos l2, if_pos rfl, if_neg (by decide), if_pos l2]
                    · rw [if_neg l2, if_neg (by decide), if_pos rfl, if_neg l2]
            · rw [if_neg e2, if_neg (by decide), if_neg (fun hh : ob p = 0 ∧ ob (q + 1) = 0 => e2 hh.2)]
          · rw [if_neg e1, if_neg (by decide), if_neg (fun hh : ob p = 0 ∧ ob (q + 1) = 0 => e1 hh.1)]
      · rw [if_neg hd2] at h; simp at h
