/-! a whole query -/
theorem i10 {α : Type} {a b : α} : (if (1 : Int) = 0 then a else b) = b := if_neg (by decide)
theorem i00 {α : Type} {a b : α} : (if (0 : Int) = 0 then a else b) = a := if_pos rfl
def qO (C : Nat → Int) : Bool × Nat × List aOu × List Nat := aOuts C 1 0
def qJ (C : Nat → Int) : aJr := aJ C 2 1 ((qO C).2.1 + 3) (qO C).2.2.2.length 0
def qU (C : Nat → Int) : Nat := (qO C).2.2.2.length + (qJ C).2.2.2.2.1.length
def qW (C : Nat → Int) : aRes := aW C (qJ C).2.1 (qU C) (qJ C).2.2.2.1.length
def qG (C : Nat → Int) : Bool × Nat × List Nat := aGr C (qW C).2.1
def aQ (C : Nat → Int) : Bool × Nat :=
  if C 0 = 259 then (if (qO C).1 = true then (if C (qO C).2.1 = 260 then (if (aItem C ((qO C).2.1 + 1)).1 = true then (if (qJ C).1 = true then (if (qW C).1 = true then (if (qG C).1 = true then (if C (qG C).2.1 = 256 then (true, (qG C).2.1) else (false, (qG C).2.1)) else (false, (qG C).2.1)) else (false, (qW C).2.1)) else (false, (qJ C).2.1)) else (false, (aItem C ((qO C).2.1 + 1)).2)) else (false, (qO C).2.1)) else (false, (qO C).2.1)) else (false, 0)
def qOps (C : Nat → Int) : List (Nat × Int) := (qO C).2.2.2.map (·, 3) ++ (qJ C).2.2.2.2.1 ++ (qW C).2.2.2.1.map (·, 3) ++ (qG C).2.2.map (·, 3)
def qStp (C : Nat → Int) : List (Int × Int × Int) := (qJ C).2.2.2.1 ++ (qW C).2.2.1
def qPrt (C : Nat → Int) : List (Nat × Nat × Int × Int) := (qJ C).2.2.2.2.2 ++ pm 0 3 (qW C).2.2.2.2
def qIts (C : Nat → Int) : List (Nat × Int) := ((qO C).2.1 + 1, 0) :: (qJ C).2.2.1.map (fun t => (t.1, t.2.1))
def qOus (C : Nat → Int) : List (Int × Int) := (qO C).2.2.1.map (fun o => (o.1, o.2.1))
def qGrs (C : Nat → Int) : List Nat := List.range' (qU C + (qW C).2.2.2.1.length) (qG C).2.2.length
theorem aOuts_len {C : Nat → Int} {p u : Nat} (h : (aOuts C p u).1 = true) : p + (aOuts C p u).2.2.2.length ≤ (aOuts C p u).2.1 ∧ (aOuts C p u).2.2.1.length ≤ 4 := by
  unfold aOuts at h ⊢
  split
  · next h2 =>
    rw [if_pos h2] at h
    have e1 := aOut_len h2
    have e2 := aOs_len _ _ _ h
    simp only [List.length_append, List.length_cons]
    omega
  · next h2 => rw [if_neg h2] at h; cases h
theorem aJ_len {C : Nat → Int} : ∀ (k i p u s : Nat), (aJ C k i p u s).1 = true → p + (aJ C k i p u s).2.2.2.2.1.length ≤ (aJ C k i p u s).2.1 ∧ p + (aJ C k i p u s).2.2.2.1.length ≤ (aJ C k i p u s).2.1 ∧ (aJ C k i p u s).2.2.2.2.2.length ≤ (aJ C k i p u s).2.2.2.1.length ∧ (aJ C k i p u s).2.2.1.length ≤ k := by
  intro k
  induction k with
  | zero => intro i p u s _; simp [aJ]
  | succ k ih =>
    intro i p u s h
    unfold aJ at h ⊢
    split
    · next h1 =>
      rw [if_pos h1] at h
      split
      · next h2 =>
        rw [if_pos h2] at h
        split
        · next h3 =>
          rw [if_pos h3] at h
          split
          · next h4 =>
            rw [if_pos h4] at h
            have e1 := aCo_len h4
            have e2 := ih _ _ _ _ h
            simp only [aJc, List.length_append, List.length_cons, List.length_map, pm_len0]
            omega
          · next h4 => rw [if_neg h4] at h; cases h
        · next h3 => rw [if_neg h3] at h; cases h
      · next h2 => rw [if_neg h2] at h; cases h
    · simp
theorem aW_len {C : Nat → Int} {p u s : Nat} (h : (aW C p u s).1 = true) : p + (aW C p u s).2.2.2.1.length ≤ (aW C p u s).2.1 ∧ p + (aW C p u s).2.2.1.length ≤ (aW C p u s).2.1 ∧ (aW C p u s).2.2.2.2.length ≤ (aW C p u s).2.2.1.length := by
  unfold aW at h ⊢
  split
  · next h2 =>
    rw [if_pos h2] at h
    have e1 := aCo_len h
    omega
  · simp
theorem cx_clear {sc : List Int} {d : Nat} {M : q_M} {n : Nat} {C P N : Nat → Int} {p : Nat} (h : TK M n C P N p) (hd : 2 ≤ d) : ∃ M', pq sc d 60 [.inr (.inr 15)] GF M = some (none, GF, M') ∧ (∀ a, a < 11 ∨ 41 < a → M' a = M a) ∧ PZ (q_up M' 41 4 3) n C P N p 3 [] [] [] [] [] [] := by
  have q1 : pq sc (d - 1) 27 [.inr (.inr 16)] GF M = some (none, GF, q_up M 16 7 0) := pq_e (by omega) (by decide) (Nat.le_of_ble_eq_true rfl) ⟨0 + 1, sg_X3_clear_0⟩
  have q2 : pq sc (d - 1) 83 [.inr (.inr 24)] GF (q_up M 16 7 0) = some (none, GF, q_up (q_up (q_up M 16 7 0) 24 4 0) 24 9 0) := pq_e (by omega) (by decide) (Nat.le_of_ble_eq_true rfl) ⟨0 + 1, sg_X6_clear_0⟩
  refine ⟨q_up (q_up (q_up (q_up (q_up (q_up M 16 7 0) 24 4 0) 24 9 0) 15 7 0) 15 10 0) 15 12 0, pq_e (by omega) (by decide) (Nat.le_of_ble_eq_true rfl) ⟨0 + 1, sg_X5_clear_0.trans ?_⟩, fun a ha => ?_, TK_up (TK_up (TK_up (TK_up (TK_up (TK_up (TK_up h (by omega)) (by omega)) (by omega)) (by omega)) (by omega)) (by omega)) (by omega), q_up_s, ⟨?_, ?_⟩, ⟨?_, ?_⟩, ⟨?_, ?_⟩, ⟨?_, ?_⟩, ⟨?_, ?_⟩, ⟨?_, ?_⟩⟩
  · simp (disch := omega) only [true_and, and_true, or_true, true_or, false_or, or_false, false_and, and_false, if_true, if_false, if_pos, if_neg, q_wid, q_cI_s, q_c0_s, q_cL_s, q_cR_s, Int.toNat_natCast, q1, q2]
  · simp (disch := omega) only [q_upf]
  all_goals first | (intro i x hx; simp at hx) | (simp (disch := omega) only [q_up_ne, q_up_s, q_up_sn, List.length_nil, Int.natCast_zero])
/-- the class reads a query -/
theorem cx_query {sc : List Int} {d : Nat} {M : q_M} {n : Nat} {C P N : Nat → Int} (h : TK M n C P N 0) (hE : TC n C) (hd : 26 ≤ d) : ∃ M' x, pq sc d 43 [.inr (.inr 41)] GF M = some (some (.inl x), GF, M') ∧ CQ M M' x n C P N (aQ C).1 (aQ C).2 (PZ M' n C P N (aQ C).2 3 (qOps C) (qStp C) (qPrt C) (qIts C) (qOus C) (qGrs C)) := by
  obtain ⟨M1, q1, hf1, h1⟩ := cx_clear (sc := sc) (d := d - 1) h (by omega)
  have hT1 := h1.1
  have hg1 : ∀ a, a < 11 ∨ 41 < a → q_up M1 41 4 3 a = M a := fun a ha => (q_upf (by omega)).trans (hf1 a ha)
  unfold aQ
  by_cases ha : C 0 = 259
  · rw [if_pos ha]
    have hp1 := ends hE hT1.2.2.1 (by omega)
    have q2 := sp_takeT hT1 hp1 ha (sc := sc) (d := d - 1) (by omega)
    have h2 := PZ_adv h1 hp1
    obtain ⟨M3, x3, q3, hf3, hc3⟩ := cx_outs (sc := sc) (d := d - 1) h2 hE (by simp) rfl (by omega)
    have hg3 : ∀ a, a < 11 ∨ 41 < a → M3 a = M a := fun a ha => (hf3 a ha).trans ((q_upf (by omega)).trans (hg1 a ha))
    have hc3' : ((qO C).1 = true ∧ x3 = 1 ∧ PZ M3 n C P N (qO C).2.1 3 ((qO C).2.2.2.map (·, 3)) [] [] [] (qOus C) []) ∨ ((qO C).1 = false ∧ x3 = 0 ∧ TK M3 n C P N (qO C).2.1) := hc3
    rcases hc3' with ⟨hb3, rfl, h3⟩ | ⟨hb3, rfl, h3⟩
    · rw [if_pos hb3]
      have hl3 : 1 + (qO C).2.2.2.length ≤ (qO C).2.1 ∧ (qO C).2.2.1.length ≤ 4 := aOuts_len hb3
      by_cases hc : C (qO C).2.1 = 260
      · rw [if_pos hc]
        have hp4 := ends hE h3.1.2.2.1 (by omega)
        have q4 := sp_takeT h3.1 hp4 hc (sc := sc) (d := d - 1) (by omega)
        have h4 := PZ_adv h3 hp4
        obtain ⟨M5, x5, q5, hf5, hc5⟩ := cx_item (sc := sc) (d := d - 1) (l := 0) h4 hE (by simp) (Or.inl rfl) (by omega)
        have hg5 : ∀ a, a < 11 ∨ 41 < a → M5 a = M a := fun a ha => (hf5 a ha).trans ((q_upf (by omega)).trans (hg3 a ha))
        rcases hc5 with ⟨hb5, rfl, h5⟩ | ⟨hb5, rfl, h5⟩
        · rw [if_pos hb5]
          rw [aItem_t hb5] at h5
          have h5' : PZ M5 n C P N ((qO C).2.1 + 3) 3 ((qO C).2.2.2.map (·, 3)) [] [] [((qO C).2.1 + 1, 0)] (qOus C) [] := h5
          obtain ⟨M6, x6, q6, hf6, hc6⟩ := cx_joined (sc := sc) (d := d - 1) h5' hE rfl (by simp; omega) (by simp) (by simp) (by omega)
          have hg6 : ∀ a, a < 11 ∨ 41 < a → M6 a = M a := fun a ha => (hf6 a ha).trans (hg5 a ha)
          rw [List.length_map] at hc6
          have hc6' : ((qJ C).1 = true ∧ x6 = 1 ∧ PZ M6 n C P N (qJ C).2.1 3 ((qO C).2.2.2.map (·, 3) ++ (qJ C).2.2.2.2.1) (qJ C).2.2.2.1 (qJ C).2.2.2.2.2 (qIts C) (qOus C) []) ∨ ((qJ C).1 = false ∧ x6 = 0 ∧ TK M6 n C P N (qJ C).2.1) := hc6
          rcases hc6' with ⟨hb6, rfl, h6⟩ | ⟨hb6, rfl, h6⟩
          · rw [if_pos hb6]
            have hl6 : ((qO C).2.1 + 3) + (qJ C).2.2.2.2.1.length ≤ (qJ C).2.1 ∧ ((qO C).2.1 + 3) + (qJ C).2.2.2.1.length ≤ (qJ C).2.1 ∧ (qJ C).2.2.2.2.2.length ≤ (qJ C).2.2.2.1.length ∧ (qJ C).2.2.1.length ≤ 2 := aJ_len _ _ _ _ _ hb6
            obtain ⟨M7, x7, q7, hf7, hc7⟩ := cx_where (sc := sc) (d := d - 1) h6 hE (by simp; omega) (by omega) (by omega) (by omega)
            have hg7 : ∀ a, a < 11 ∨ 41 < a → M7 a = M a := fun a ha => (hf7 a ha).trans (hg6 a ha)
            rw [List.length_append, List.length_map] at hc7
            have hc7' : ((qW C).1 = true ∧ x7 = 1 ∧ PZ M7 n C P N (qW C).2.1 3 ((qO C).2.2.2.map (·, 3) ++ (qJ C).2.2.2.2.1 ++ (qW C).2.2.2.1.map (·, 3)) (qStp C) (qPrt C) (qIts C) (qOus C) []) ∨ ((qW C).1 = false ∧ x7 = 0 ∧ TK M7 n C P N (qW C).2.1) := hc7
            rcases hc7' with ⟨hb7, rfl, h7⟩ | ⟨hb7, rfl, h7⟩
            · rw [if_pos hb7]
              have hl7 : (qJ C).2.1 + (qW C).2.2.2.1.length ≤ (qW C).2.1 ∧ (qJ C).2.1 + (qW C).2.2.1.length ≤ (qW C).2.1 ∧ (qW C).2.2.2.2.length ≤ (qW C).2.2.1.length := aW_len hb7
              obtain ⟨M8, x8, q8, hf8, hc8⟩ := cx_group (sc := sc) (d := d - 1) h7 hE (by simp; omega) rfl (by omega)
              have hg8 : ∀ a, a < 11 ∨ 41 < a → M8 a = M a := fun a ha => (hf8 a ha).trans (hg7 a ha)
              have e8 : ((qO C).2.2.2.map (·, (3 : Int)) ++ (qJ C).2.2.2.2.1 ++ (qW C).2.2.2.1.map (·, 3)).length = qU C + (qW C).2.2.2.1.length := by simp [qU]; omega
              rw [e8] at hc8
              have hc8' : ((qG C).1 = true ∧ x8 = 1 ∧ PZ M8 n C P N (qG C).2.1 3 (qOps C) (qStp C) (qPrt C) (qIts C) (qOus C) (qGrs C)) ∨ ((qG C).1 = false ∧ x8 = 0 ∧ TK M8 n C P N (qG C).2.1) := hc8
              rcases hc8' with ⟨hb8, rfl, h8⟩ | ⟨hb8, rfl, h8⟩
              · rw [if_pos hb8]
                have q9 := sp_nextKind h8.1 (sc := sc) (d := d - 1) (by omega)
                by_cases he : C (qG C).2.1 = 256
                · rw [if_pos he]
                  refine ⟨M8, 1, pq_e (by omega) (by decide) (Nat.le_of_ble_eq_true rfl) ⟨0 + 1, sg_X4_readQuery_0.trans ?_⟩, hg8, Or.inl ⟨rfl, rfl, h8⟩⟩
                  simp only [q_cI_s, q_c0_s, i10, i00, if_true, q1, q2, q3, q4, q5, q6, q7, q8, q9, if_pos he]
                · rw [if_neg he]
                  refine ⟨M8, 0, pq_e (by omega) (by decide) (Nat.le_of_ble_eq_true rfl) ⟨0 + 1, sg_X4_readQuery_0.trans ?_⟩, hg8, Or.inr ⟨rfl, rfl, h8.1⟩⟩
                  simp only [q_cI_s, q_c0_s, i10, i00, if_true, q1, q2, q3, q4, q5, q6, q7, q8, q9, if_neg he]
              · rw [if_neg (by rw [hb8]; decide)]
                refine ⟨M8, 0, pq_e (by omega) (by decide) (Nat.le_of_ble_eq_true rfl) ⟨0 + 1, sg_X4_readQuery_0.trans ?_⟩, hg8, Or.inr ⟨rfl, rfl, h8⟩⟩
                simp only [q_cI_s, q_c0_s, i10, i00, if_true, q1, q2, q3, q4, q5, q6, q7, q8]
            · rw [if_neg (by rw [hb7]; decide)]
              refine ⟨M7, 0, pq_e (by omega) (by decide) (Nat.le_of_ble_eq_true rfl) ⟨0 + 1, sg_X4_readQuery_0.trans ?_⟩, hg7, Or.inr ⟨rfl, rfl, h7⟩⟩
              simp only [q_cI_s, q_c0_s, i10, i00, if_true, q1, q2, q3, q4, q5, q6, q7]
          · rw [if_neg (by rw [hb6]; decide)]
            refine ⟨M6, 0, pq_e (by omega) (by decide) (Nat.le_of_ble_eq_true rfl) ⟨0 + 1, sg_X4_readQuery_0.trans ?_⟩, hg6, Or.inr ⟨rfl, rfl, h6⟩⟩
            simp only [q_cI_s, q_c0_s, i10, i00, if_true, q1, q2, q3, q4, q5, q6]
        · rw [if_neg (by rw [hb5]; decide)]
          refine ⟨M5, 0, pq_e (by omega) (by decide) (Nat.le_of_ble_eq_true rfl) ⟨0 + 1, sg_X4_readQuery_0.trans ?_⟩, hg5, Or.inr ⟨rfl, rfl, h5⟩⟩
          simp only [q_cI_s, q_c0_s, i10, i00, if_true, q1, q2, q3, q4, q5]
      · rw [if_neg hc]
        have q4 := sp_takeF h3.1 hc (sc := sc) (d := d - 1) (by omega)
        refine ⟨M3, 0, pq_e (by omega) (by decide) (Nat.le_of_ble_eq_true rfl) ⟨0 + 1, sg_X4_readQuery_0.trans ?_⟩, hg3, Or.inr ⟨rfl, rfl, h3.1⟩⟩
        simp only [q_cI_s, q_c0_s, i10, i00, if_true, q1, q2, q3, q4]
    · rw [if_neg (by rw [hb3]; decide)]
      refine ⟨M3, 0, pq_e (by omega) (by decide) (Nat.le_of_ble_eq_true rfl) ⟨0 + 1, sg_X4_readQuery_0.trans ?_⟩, hg3, Or.inr ⟨rfl, rfl, h3⟩⟩
      simp only [q_cI_s, q_c0_s, i10, i00, if_true, q1, q2, q3]
  · rw [if_neg ha]
    have q2 := sp_takeF hT1 ha (sc := sc) (d := d - 1) (by omega)
    refine ⟨_, 0, pq_e (by omega) (by decide) (Nat.le_of_ble_eq_true rfl) ⟨0 + 1, sg_X4_readQuery_0.trans ?_⟩, hg1, Or.inr ⟨rfl, rfl, hT1⟩⟩
    simp only [q_cI_s, q_c0_s, i10, i00, if_true, q1, q2]
