/-! the rest of the class's parser -/
abbrev aOu : Type := Int × Int × Nat
def aOut (C : Nat → Int) (p u : Nat) : Bool × Nat × aOu × List Nat :=
  if C p = 266 then (true, p + 1, (266, -1, p), [])
  else if 267 ≤ C p ∧ C p ≤ 269 then (if C (p + 1) = 40 then (if (aCol C (p + 2)).1 = true then (if C (aCol C (p + 2)).2 = 41 then (true, (aCol C (p + 2)).2 + 1, (C p, (u : Int), p + 2), [p + 2]) else (false, (aCol C (p + 2)).2, (0, 0, 0), [])) else (false, (aCol C (p + 2)).2, (0, 0, 0), [])) else (false, p + 1, (0, 0, 0), []))
  else ((aCol C p).1, (aCol C p).2, (275, (u : Int), p), [p])
def aOs (C : Nat → Int) : Nat → Nat → Nat → Bool × Nat × List aOu × List Nat
  | 0, p, _ => (true, p, [], [])
  | k + 1, p, u => if C p = 44 then (if (aOut C (p + 1) u).1 = true then ((aOs C k (aOut C (p + 1) u).2.1 (u + (aOut C (p + 1) u).2.2.2.length)).1, (aOs C k (aOut C (p + 1) u).2.1 (u + (aOut C (p + 1) u).2.2.2.length)).2.1, (aOut C (p + 1) u).2.2.1 :: (aOs C k (aOut C (p + 1) u).2.1 (u + (aOut C (p + 1) u).2.2.2.length)).2.2.1, (aOut C (p + 1) u).2.2.2 ++ (aOs C k (aOut C (p + 1) u).2.1 (u + (aOut C (p + 1) u).2.2.2.length)).2.2.2) else (false, (aOut C (p + 1) u).2.1, [], [])) else (true, p, [], [])
def aOuts (C : Nat → Int) (p u : Nat) : Bool × Nat × List aOu × List Nat := if (aOut C p u).1 = true then ((aOs C 3 (aOut C p u).2.1 (u + (aOut C p u).2.2.2.length)).1, (aOs C 3 (aOut C p u).2.1 (u + (aOut C p u).2.2.2.length)).2.1, (aOut C p u).2.2.1 :: (aOs C 3 (aOut C p u).2.1 (u + (aOut C p u).2.2.2.length)).2.2.1, (aOut C p u).2.2.2 ++ (aOs C 3 (aOut C p u).2.1 (u + (aOut C p u).2.2.2.length)).2.2.2) else (false, (aOut C p u).2.1, [], [])
def aItem (C : Nat → Int) (p : Nat) : Bool × Nat := if 84 ≤ C p ∧ C p ≤ 86 then (if 119 ≤ C (p + 1) ∧ C (p + 1) ≤ 122 then (true, p + 2) else (false, p + 1)) else (false, p)
abbrev aJr : Type := Bool × Nat × List (Nat × Int × Nat × Nat) × List (Int × Int × Int) × List (Nat × Int) × List (Nat × Nat × Int × Int)
def aJc (i p : Nat) (l : Int) (c : aRes) (r : aJr) : aJr := (r.1, r.2.1, (p + 1, l, p + 4, c.2.1) :: r.2.2.1, c.2.2.1 ++ r.2.2.2.1, c.2.2.2.1.map (·, (i : Int)) ++ r.2.2.2.2.1, pm 0 (i : Int) c.2.2.2.2 ++ r.2.2.2.2.2)
def aJ (C : Nat → Int) : Nat → Nat → Nat → Nat → Nat → aJr
  | 0, _, p, _, _ => (true, p, [], [], [], [])
  | k + 1, i, p, u, s => if C p = 261 ∨ C p = 262 then (if (aItem C (p + 1)).1 = true then (if C (p + 3) = 263 then (if (aCo C (p + 4) u s).1 = true then aJc i p (if C p = 262 then 1 else 0) (aCo C (p + 4) u s) (aJ C k (i + 1) (aCo C (p + 4) u s).2.1 (u + (aCo C (p + 4) u s).2.2.2.1.length) (s + (aCo C (p + 4) u s).2.2.1.length)) else (false, (aCo C (p + 4) u s).2.1, [], [], [], [])) else (false, p + 3, [], [], [], [])) else (false, (aItem C (p + 1)).2, [], [], [], [])) else (true, p, [], [], [], [])
def aW (C : Nat → Int) (p u s : Nat) : aRes := if C p = 264 then aCo C (p + 1) u s else (true, p, [], [], [])
def aG (C : Nat → Int) : Nat → Nat → Bool × Nat × List Nat
  | 0, p => (true, p, [])
  | k + 1, p => if (aCol C p).1 = true then (if k = 0 then (true, (aCol C p).2, [p]) else if C (aCol C p).2 = 44 then ((aG C k ((aCol C p).2 + 1)).1, (aG C k ((aCol C p).2 + 1)).2.1, p :: (aG C k ((aCol C p).2 + 1)).2.2) else (true, (aCol C p).2, [p])) else (false, (aCol C p).2, [])
def aGr (C : Nat → Int) (p : Nat) : Bool × Nat × List Nat := if C p = 265 then aG C 3 (p + 1) else (true, p, [])
def CQ (M M' : q_M) (x : Int) (n : Nat) (C P N : Nat → Int) (ok : Bool) (q : Nat) (K : Prop) : Prop := (∀ a, a < 11 ∨ 41 < a → M' a = M a) ∧ ((ok = true ∧ x = 1 ∧ K) ∨ (ok = false ∧ x = 0 ∧ TK M' n C P N q))
theorem cx_addOut {sc : List Int} {d : Nat} {M : q_M} {n : Nat} {C P N : Nat → Int} {p : Nat} {L : Int} {ops : List (Nat × Int)} {stp : List (Int × Int × Int)} {prt : List (Nat × Nat × Int × Int)} {its : List (Nat × Int)} {ous : List (Int × Int)} {grs : List Nat} {k c : Int} (h : PZ M n C P N p L ops stp prt its ous grs) (ho : ous.length < 4) (hd : 1 ≤ d) : ∃ M', pq sc d 65 [.inr (.inr 15), .inl k, .inl c] GF M = some (none, GF, M') ∧ (∀ a, a < 15 ∨ 40 < a → M' a = M a) ∧ PZ M' n C P N p L ops stp prt its (ous ++ [(k, c)]) grs := by
  obtain ⟨h1, h2, h3, h4, h5, h6, h7, h8⟩ := h
  have hq : pq sc d 65 [.inr (.inr 15), .inl k, .inl c] GF M = some (none, GF, q_up (q_up (q_up M 38 ous.length k) 39 ous.length c) 15 10 ((ous.length : Int) + 1)) := by
    have h10 := h7.1
    refine pq_e (by omega) (by decide) (Nat.le_of_ble_eq_true rfl) ⟨0 + 1, sg_X5_addOut_0.trans ?_⟩
    simp (disch := omega) only [true_and, and_true, or_true, true_or, false_or, or_false, false_and, and_false, if_true, if_false, if_pos, if_neg, q_wid, q_cI_s, q_c0_s, q_cL_s, q_cR_s, Int.toNat_natCast, h10]
  have hf : ∀ a, ¬ a = 38 → ¬ a = 39 → ¬ a = 15 → q_up (q_up (q_up M 38 ous.length k) 39 ous.length c) 15 10 ((ous.length : Int) + 1) a = M a := fun a h1 h2 h3 => by simp only [q_upf, h1, h2, h3, not_false_eq_true]
  have h15 : ∀ j, ¬ j = 10 → q_up (q_up (q_up M 38 ous.length k) 39 ous.length c) 15 10 ((ous.length : Int) + 1) 15 j = M 15 j := fun j hj => by simp (disch := omega) only [q_up_sn, q_up_ne]
  refine ⟨_, hq, fun a ha => hf a (by omega) (by omega) (by omega), TK_fr h1 (fun a h1 h2 => hf a (by omega) (by omega) (by omega)), (congrFun (hf 41 (by omega) (by omega) (by omega)) 4).trans h2, OA_fr h3 (fun a h1 h2 => hf a (by omega) (by omega) (by omega)), SA_fr h4 (fun a h1 h2 => hf a (by omega) (by omega) (by omega)) (congrFun (hf 24 (by omega) (by omega) (by omega)) 4), PA_fr h5 (fun a h1 h2 => hf a (by omega) (by omega) (by omega)) (congrFun (hf 24 (by omega) (by omega) (by omega)) 9), IA_fr h6 (fun a h1 h2 => hf a (by omega) (by omega) (by omega)) (h15 7 (by omega)), ⟨?_, ?_⟩, GA_fr h8 (hf 40 (by omega) (by omega) (by omega)) (h15 12 (by omega))⟩
  · rw [q_up_s]; simp
  · intro i y hy
    rcases l_app hy with ⟨hi, hy⟩ | ⟨rfl, rfl⟩
    · have := h7.2 i y hy
      simp (disch := omega) only [q_up_ne, q_up_sn]
      exact this
    · simp (disch := omega) only [q_up_ne, q_up_s, and_self]
theorem cx_addGrouped {sc : List Int} {d : Nat} {M : q_M} {n : Nat} {C P N : Nat → Int} {p : Nat} {L : Int} {ops : List (Nat × Int)} {stp : List (Int × Int × Int)} {prt : List (Nat × Nat × Int × Int)} {its : List (Nat × Int)} {ous : List (Int × Int)} {grs : List Nat} {c : Nat} (h : PZ M n C P N p L ops stp prt its ous grs) (ho : grs.length < 3) (hd : 1 ≤ d) : ∃ M', pq sc d 66 [.inr (.inr 15), .inl (c : Int)] GF M = some (none, GF, M') ∧ (∀ a, a < 15 ∨ 40 < a → M' a = M a) ∧ PZ M' n C P N p L ops stp prt its ous (grs ++ [c]) := by
  obtain ⟨h1, h2, h3, h4, h5, h6, h7, h8⟩ := h
  have hq : pq sc d 66 [.inr (.inr 15), .inl (c : Int)] GF M = some (none, GF, q_up (q_up M 40 grs.length c) 15 12 ((grs.length : Int) + 1)) := by
    have h10 := h8.1
    refine pq_e (by omega) (by decide) (Nat.le_of_ble_eq_true rfl) ⟨0 + 1, sg_X5_addGrouped_0.trans ?_⟩
    simp (disch := omega) only [true_and, and_true, or_true, true_or, false_or, or_false, false_and, and_false, if_true, if_false, if_pos, if_neg, q_wid, q_cI_s, q_c0_s, q_cL_s, q_cR_s, Int.toNat_natCast, h10]
  have hf : ∀ a, ¬ a = 40 → ¬ a = 15 → q_up (q_up M 40 grs.length (c : Int)) 15 12 ((grs.length : Int) + 1) a = M a := fun a h1 h2 => by simp only [q_upf, h1, h2, not_false_eq_true]
  have h15 : ∀ j, ¬ j = 12 → q_up (q_up M 40 grs.length (c : Int)) 15 12 ((grs.length : Int) + 1) 15 j = M 15 j := fun j hj => by simp (disch := omega) only [q_up_sn, q_up_ne]
  refine ⟨_, hq, fun a ha => hf a (by omega) (by omega), TK_fr h1 (fun a h1 h2 => hf a (by omega) (by omega)), (congrFun (hf 41 (by omega) (by omega)) 4).trans h2, OA_fr h3 (fun a h1 h2 => hf a (by omega) (by omega)), SA_fr h4 (fun a h1 h2 => hf a (by omega) (by omega)) (congrFun (hf 24 (by omega) (by omega)) 4), PA_fr h5 (fun a h1 h2 => hf a (by omega) (by omega)) (congrFun (hf 24 (by omega) (by omega)) 9), IA_fr h6 (fun a h1 h2 => hf a (by omega) (by omega)) (h15 7 (by omega)), UA_fr h7 (fun a h1 h2 => hf a (by omega) (by omega)) (h15 10 (by omega)), ⟨?_, ?_⟩⟩
  · rw [q_up_s]; simp
  · intro i y hy
    rcases l_app hy with ⟨hi, hy⟩ | ⟨rfl, rfl⟩
    · have := h8.2 i y hy
      simp (disch := omega) only [q_up_ne, q_up_sn]
      exact this
    · simp (disch := omega) only [q_up_ne, q_up_s]
theorem cx_addItem {sc : List Int} {d : Nat} {M : q_M} {n : Nat} {C P N : Nat → Int} {p : Nat} {L : Int} {ops : List (Nat × Int)} {stp : List (Int × Int × Int)} {prt : List (Nat × Nat × Int × Int)} {its : List (Nat × Int)} {ous : List (Int × Int)} {grs : List Nat} {t : Nat} {l : Int} (h : PZ M n C P N p L ops stp prt its ous grs) (ho : its.length < 3) (hl : l = 0 ∨ l = 1) (hd : 1 ≤ d) : ∃ M', pq sc d 64 [.inr (.inr 15), .inl (C t - 84), .inl (P t), .inl (C (t + 1)), .inl (P (t + 1)), .inl l] GF M = some (none, GF, M') ∧ (∀ a, a < 15 ∨ 40 < a → M' a = M a) ∧ PZ M' n C P N p L ops stp prt (its ++ [(t, l)]) ous grs := by
  obtain ⟨h1, h2, h3, h4, h5, h6, h7, h8⟩ := h
  have hq : pq sc d 64 [.inr (.inr 15), .inl (C t - 84), .inl (P t), .inl (C (t + 1)), .inl (P (t + 1)), .inl l] GF M = some (none, GF, q_up (q_up (q_up (q_up (q_up (q_up M 33 its.length (C t - 84)) 34 its.length (P t)) 35 its.length (C (t + 1))) 36 its.length (P (t + 1))) 37 its.length l) 15 7 ((its.length : Int) + 1)) := by
    have h10 := h6.1
    refine pq_e (by omega) (by decide) (Nat.le_of_ble_eq_true rfl) ⟨0 + 1, sg_X5_addItem_0.trans ?_⟩
    simp (disch := omega) only [true_and, and_true, or_true, true_or, false_or, or_false, false_and, and_false, if_true, if_false, if_pos, if_neg, q_wid, q_cI_s, q_c0_s, q_cL_s, q_cR_s, Int.toNat_natCast, h10]
  generalize hM' : q_up (q_up (q_up (q_up (q_up (q_up M 33 its.length (C t - 84)) 34 its.length (P t)) 35 its.length (C (t + 1))) 36 its.length (P (t + 1))) 37 its.length l) 15 7 ((its.length : Int) + 1) = M' at hq
  have hf : ∀ a, (a < 33 ∨ 37 < a) → ¬ a = 15 → M' a = M a := fun a h1 h2 => by subst hM'; simp (disch := omega) only [q_upf]
  have h15 : ∀ j, ¬ j = 7 → M' 15 j = M 15 j := fun j hj => by subst hM'; simp (disch := omega) only [q_up_sn, q_up_ne]
  refine ⟨_, hq, fun a ha => hf a (by omega) (by omega), TK_fr h1 (fun a h1 h2 => hf a (by omega) (by omega)), (congrFun (hf 41 (by omega) (by omega)) 4).trans h2, OA_fr h3 (fun a h1 h2 => hf a (by omega) (by omega)), SA_fr h4 (fun a h1 h2 => hf a (by omega) (by omega)) (congrFun (hf 24 (by omega) (by omega)) 4), PA_fr h5 (fun a h1 h2 => hf a (by omega) (by omega)) (congrFun (hf 24 (by omega) (by omega)) 9), ⟨?_, ?_⟩, UA_fr h7 (fun a h1 h2 => hf a (by omega) (by omega)) (h15 10 (by omega)), GA_fr h8 (hf 40 (by omega) (by omega)) (h15 12 (by omega))⟩
  · subst hM'; rw [q_up_s]; simp
  · intro i y hy
    subst hM'
    rcases l_app hy with ⟨hi, hy⟩ | ⟨rfl, rfl⟩
    · have := h6.2 i y hy
      simp (disch := omega) only [q_up_ne, q_up_sn]
      exact this
    · simp (disch := omega) only [q_up_ne, q_up_s, and_self]
theorem cx_out {sc : List Int} {d : Nat} {M : q_M} {n : Nat} {C P N : Nat → Int} {p : Nat} {L : Int} {ops : List (Nat × Int)} {stp : List (Int × Int × Int)} {prt : List (Nat × Nat × Int × Int)} {its : List (Nat × Int)} {ous : List (Int × Int)} {grs : List Nat} (h : PZ M n C P N p L ops stp prt its ous grs) (hE : TC n C) (hu : ops.length ≤ p) (ho : ous.length < 4) (hd : 3 ≤ d) : ∃ M' x, pq sc d 45 [.inr (.inr 41)] GF M = some (some (.inl x), GF, M') ∧ CQ M M' x n C P N (aOut C p ops.length).1 (aOut C p ops.length).2.1 (PZ M' n C P N (aOut C p ops.length).2.1 L (ops ++ (aOut C p ops.length).2.2.2.map (·, L)) stp prt its (ous ++ [((aOut C p ops.length).2.2.1.1, (aOut C p ops.length).2.2.1.2.1)]) grs) := by
  have hT := h.1
  have hpn := hT.2.2.1
  have hn := hT.2.2.2.1
  have q1 := sp_nextKind hT (sc := sc) (d := d - 1) (by omega)
  unfold aOut
  by_cases ha : C p = 266
  · rw [if_pos ha]
    have hp1 := ends hE hpn (by omega)
    have q2 := sp_advance hT hp1 (sc := sc) (d := d - 1) (by omega)
    have h1 := PZ_adv h hp1
    obtain ⟨M2, q3, hf3, h3⟩ := cx_addOut (sc := sc) (d := d - 1) (k := 266) (c := -1) h1 ho (by omega)
    refine ⟨M2, 1, pq_e (by omega) (by decide) (Nat.le_of_ble_eq_true rfl) ⟨0 + 1, sg_X4_readOut_0.trans ?_⟩, fun a ha => (hf3 a (by omega)).trans (q_upf (by omega)), Or.inl ⟨rfl, rfl, by simpa using h3⟩⟩
    simp (disch := omega) only [true_and, and_true, or_true, true_or, false_or, or_false, false_and, and_false, if_true, if_false, if_pos, if_neg, q_wid, q_cI_s, q_c0_s, q_cL_s, q_cR_s, Int.toNat_natCast, q1, q2, q3]
  · rw [if_neg ha]
    by_cases hb : 267 ≤ C p ∧ C p ≤ 269
    · rw [if_pos hb]
      have hp1 := ends hE hpn (by omega)
      have q2 := sp_advance hT hp1 (sc := sc) (d := d - 1) (by omega)
      have h1 := PZ_adv h hp1
      by_cases hc : C (p + 1) = 40
      · rw [if_pos hc]
        have hp2 := ends hE hp1 (by omega)
        have q3 := sp_takeT h1.1 hp2 hc (sc := sc) (d := d - 1) (by omega)
        have h2 := PZ_adv h1 hp2
        obtain ⟨M4, x4, q4, hf4, hc4⟩ := cx_column (sc := sc) (d := d - 1) h2 hE (by omega) (by omega)
        rcases hc4 with ⟨hb4, rfl, h4, -⟩ | ⟨hb4, rfl, h4, -⟩
        · have hb4' : (aCol C (p + 2)).1 = true := hb4
          have h4' : PZ M4 n C P N (aCol C (p + 2)).2 L (ops ++ [(p + 2, L)]) stp prt its ous grs := h4
          rw [if_pos hb4']
          obtain ⟨M5, q5, hf5, h5⟩ := cx_addOut (sc := sc) (d := d - 1) (k := C p) (c := (ops.length : Int)) h4' ho (by omega)
          by_cases he : C (aCol C (p + 2)).2 = 41
          · rw [if_pos he]
            have hp5 := ends hE h5.1.2.2.1 (by omega)
            have q6 := sp_takeT h5.1 hp5 he (sc := sc) (d := d - 1) (by omega)
            refine ⟨_, 1, pq_e (by omega) (by decide) (Nat.le_of_ble_eq_true rfl) ⟨0 + 1 + 1, sg_X4_readOut_0.trans ?_⟩, fun a ha => ?_, Or.inl ⟨rfl, rfl, PZ_adv h5 hp5⟩⟩
            · rcases (show C p = 267 ∨ C p = 268 ∨ C p = 269 by omega) with e | e | e <;> simp (disch := omega) only [true_and, and_true, or_true, true_or, false_or, or_false, false_and, and_false, if_true, if_false, if_pos, if_neg, q_wid, q_cI_s, q_c0_s, q_cL_s, q_cR_s, Int.toNat_natCast, q1, e] <;> rw [sg_X4_readOut_62] <;> (rw [e] at q5) <;> simp (disch := omega) only [true_and, and_true, or_true, true_or, false_or, or_false, false_and, and_false, if_true, if_false, if_pos, if_neg, q_wid, q_cI_s, q_c0_s, q_cL_s, q_cR_s, Int.toNat_natCast, q2, q3, q4, q5, q6]
            · rw [q_upf (by omega), hf5 a (by omega), hf4 a ha, q_upf (by omega), q_upf (by omega)]
          · rw [if_neg he]
            have q6 := sp_takeF h5.1 he (sc := sc) (d := d - 1) (by omega)
            refine ⟨_, 0, pq_e (by omega) (by decide) (Nat.le_of_ble_eq_true rfl) ⟨0 + 1 + 1, sg_X4_readOut_0.trans ?_⟩, fun a ha => ?_, Or.inr ⟨rfl, rfl, h5.1⟩⟩
            · rcases (show C p = 267 ∨ C p = 268 ∨ C p = 269 by omega) with e | e | e <;> simp (disch := omega) only [true_and, and_true, or_true, true_or, false_or, or_false, false_and, and_false, if_true, if_false, if_pos, if_neg, q_wid, q_cI_s, q_c0_s, q_cL_s, q_cR_s, Int.toNat_natCast, q1, e] <;> rw [sg_X4_readOut_62] <;> (rw [e] at q5) <;> simp (disch := omega) only [true_and, and_true, or_true, true_or, false_or, or_false, false_and, and_false, if_true, if_false, if_pos, if_neg, q_wid, q_cI_s, q_c0_s, q_cL_s, q_cR_s, Int.toNat_natCast, q2, q3, q4, q5, q6]
            · rw [hf5 a (by omega), hf4 a ha, q_upf (by omega), q_upf (by omega)]
        · have hb4' : ¬ (aCol C (p + 2)).1 = true := by have : (aCol C (p + 2)).1 = false := hb4; rw [this]; decide
          rw [if_neg hb4']
          refine ⟨_, 0, pq_e (by omega) (by decide) (Nat.le_of_ble_eq_true rfl) ⟨0 + 1 + 1, sg_X4_readOut_0.trans ?_⟩, fun a ha => ?_, Or.inr ⟨rfl, rfl, h4⟩⟩
          · rcases (show C p = 267 ∨ C p = 268 ∨ C p = 269 by omega) with e | e | e <;> simp (disch := omega) only [true_and, and_true, or_true, true_or, false_or, or_false, false_and, and_false, if_true, if_false, if_pos, if_neg, q_wid, q_cI_s, q_c0_s, q_cL_s, q_cR_s, Int.toNat_natCast, q1, e] <;> rw [sg_X4_readOut_62] <;> simp (disch := omega) only [true_and, and_true, or_true, true_or, false_or, or_false, false_and, and_false, if_true, if_false, if_pos, if_neg, q_wid, q_cI_s, q_c0_s, q_cL_s, q_cR_s, Int.toNat_natCast, q2, q3, q4]
          · rw [hf4 a ha, q_upf (by omega), q_upf (by omega)]
      · rw [if_neg hc]
        have q3 := sp_takeF h1.1 hc (sc := sc) (d := d - 1) (by omega)
        refine ⟨_, 0, pq_e (by omega) (by decide) (Nat.le_of_ble_eq_true rfl) ⟨0 + 1 + 1, sg_X4_readOut_0.trans ?_⟩, fun a ha => ?_, Or.inr ⟨rfl, rfl, h1.1⟩⟩
        · rcases (show C p = 267 ∨ C p = 268 ∨ C p = 269 by omega) with e | e | e <;> simp (disch := omega) only [true_and, and_true, or_true, true_or, false_or, or_false, false_and, and_false, if_true, if_false, if_pos, if_neg, q_wid, q_cI_s, q_c0_s, q_cL_s, q_cR_s, Int.toNat_natCast, q1, e] <;> rw [sg_X4_readOut_62] <;> simp (disch := omega) only [true_and, and_true, or_true, true_or, false_or, or_false, false_and, and_false, if_true, if_false, if_pos, if_neg, q_wid, q_cI_s, q_c0_s, q_cL_s, q_cR_s, Int.toNat_natCast, q2, q3]
        · rw [q_upf (by omega)]
    · rw [if_neg hb]
      obtain ⟨M4, x4, q4, hf4, hc4⟩ := cx_column (sc := sc) (d := d - 1) h hE (by omega) (by omega)
      rcases hc4 with ⟨hb4, rfl, h4, -⟩ | ⟨hb4, rfl, h4, -⟩
      · obtain ⟨M5, q5, hf5, h5⟩ := cx_addOut (sc := sc) (d := d - 1) (k := 275) (c := (ops.length : Int)) h4 ho (by omega)
        refine ⟨_, 1, pq_e (by omega) (by decide) (Nat.le_of_ble_eq_true rfl) ⟨0 + 1 + 1, sg_X4_readOut_0.trans ?_⟩, fun a ha => ?_, Or.inl ⟨hb4, rfl, h5⟩⟩
        · simp (disch := omega) only [true_and, and_true, or_true, true_or, false_or, or_false, false_and, and_false, if_true, if_false, if_pos, if_neg, q_wid, q_cI_s, q_c0_s, q_cL_s, q_cR_s, Int.toNat_natCast, q1]
          rw [sg_X4_readOut_62]
          simp (disch := omega) only [true_and, and_true, or_true, true_or, false_or, or_false, false_and, and_false, if_true, if_false, if_pos, if_neg, q_wid, q_cI_s, q_c0_s, q_cL_s, q_cR_s, Int.toNat_natCast, q4, q5]
        · rw [hf5 a (by omega), hf4 a ha]
      · refine ⟨_, 0, pq_e (by omega) (by decide) (Nat.le_of_ble_eq_true rfl) ⟨0 + 1 + 1, sg_X4_readOut_0.trans ?_⟩, fun a ha => ?_, Or.inr ⟨hb4, rfl, h4⟩⟩
        · simp (disch := omega) only [true_and, and_true, or_true, true_or, false_or, or_false, false_and, and_false, if_true, if_false, if_pos, if_neg, q_wid, q_cI_s, q_c0_s, q_cL_s, q_cR_s, Int.toNat_natCast, q1]
          rw [sg_X4_readOut_62]
          simp (disch := omega) only [true_and, and_true, or_true, true_or, false_or, or_false, false_and, and_false, if_true, if_false, if_pos, if_neg, q_wid, q_cI_s, q_c0_s, q_cL_s, q_cR_s, Int.toNat_natCast, q4]
        · rw [hf4 a ha]
