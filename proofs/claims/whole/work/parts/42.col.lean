/-! the grammar over tokens, leaves first: whether it goes well, and the token that is next then -/
def aCol (C : Nat → Int) (p : Nat) : Bool × Nat := if 119 ≤ C p ∧ C p ≤ 122 then (if C (p + 1) = 46 then (if 97 ≤ C (p + 2) ∧ C (p + 2) ≤ 100 then (true, p + 3) else (false, p + 2)) else (false, p + 1)) else (false, p)
def aOpd (C : Nat → Int) (p : Nat) : Bool × Nat := if C p = 258 ∨ C p = 274 then (true, p + 1) else aCol C p
def aCmp (C : Nat → Int) (p u : Nat) : Bool × Nat × List (Int × Int × Int) × List Nat := match aOpd C p with
  | (false, q) => (false, q, [], [])
  | (true, q) => if C q = 273 then (if C (q + 1) = 274 then (true, q + 2, [(273, (u : Int), -1)], [p]) else (false, q + 1, [], []))
    else if C q = 61 ∨ C q = 60 ∨ C q = 62 then (match aOpd C (q + 1) with
      | (true, r) => (true, r, [(C q, (u : Int), (u : Int) + 1)], [p, q + 1])
      | (false, r) => (false, r, [], []))
    else (false, q, [], [])
theorem PZ_ops {M M' : q_M} {n : Nat} {C P N : Nat → Int} {p : Nat} {L : Int} {ops : List (Nat × Int)} {stp : List (Int × Int × Int)} {prt : List (Nat × Nat × Int × Int)} {its : List (Nat × Int)} {ous : List (Int × Int)} {grs : List Nat} (h : PZ M n C P N p L ops stp prt its ous grs) {ops' : List (Nat × Int)} (h' : OA M' C P N ops') (hf : ∀ a, a < 16 ∨ 23 < a → M' a = M a) : PZ M' n C P N p L ops' stp prt its ous grs := by
  obtain ⟨h1, h2, h3, h4, h5, h6, h7, h8⟩ := h
  exact ⟨TK_fr h1 (fun a h1 h2 => hf a (by omega)), (congrFun (hf 41 (by omega)) 4).trans h2, h', SA_fr h4 (fun a h1 h2 => hf a (by omega)) (congrFun (hf 24 (by omega)) 4), PA_fr h5 (fun a h1 h2 => hf a (by omega)) (congrFun (hf 24 (by omega)) 9), IA_fr h6 (fun a h1 h2 => hf a (by omega)) (congrFun (hf 15 (by omega)) 7), UA_fr h7 (fun a h1 h2 => hf a (by omega)) (congrFun (hf 15 (by omega)) 10), GA_fr h8 (hf 40 (by omega)) (congrFun (hf 15 (by omega)) 12)⟩
theorem up_out {M : q_M} {k j : Nat} {v : Int} (hk : 11 ≤ k ∧ k ≤ 41) : ∀ a, a < 11 ∨ 41 < a → q_up M k j v a = M a := fun a h => q_upf (by omega)
def TC (n : Nat) (C : Nat → Int) : Prop := C (n - 1) = 256 ∧ ∀ i, i < n → 0 ≤ C i ∧ C i ≤ 275
theorem ends {n p : Nat} {C : Nat → Int} (hE : TC n C) (hp : p < n) (hc : ¬ C p = 256) : p + 1 < n := by
  rcases Nat.lt_or_ge (p + 1) n with h | h
  · exact h
  · have : p = n - 1 := by omega
    rw [this] at hc; exact absurd hE.1 hc
/-- a column is read -/
theorem cx_column {sc : List Int} {d : Nat} {M : q_M} {n : Nat} {C P N : Nat → Int} {p : Nat} {L : Int} {ops : List (Nat × Int)} {stp : List (Int × Int × Int)} {prt : List (Nat × Nat × Int × Int)} {its : List (Nat × Int)} {ous : List (Int × Int)} {grs : List Nat} (h : PZ M n C P N p L ops stp prt its ous grs) (hE : TC n C) (hu : ops.length ≤ p) (hd : 2 ≤ d) : ∃ M' x, pq sc d 57 [.inr (.inr 41)] GF M = some (some (.inl x), GF, M') ∧ (∀ a, a < 11 ∨ 41 < a → M' a = M a) ∧ (((aCol C p).1 = true ∧ x = (ops.length : Int) ∧ PZ M' n C P N (aCol C p).2 L (ops ++ [(p, L)]) stp prt its ous grs ∧ p + 3 = (aCol C p).2) ∨ ((aCol C p).1 = false ∧ x = -1 ∧ TK M' n C P N (aCol C p).2 ∧ ∀ a, ¬ a = 11 → M' a = M a)) := by
  have hT := h.1
  have hpn := hT.2.2.1
  have hn := hT.2.2.2.1
  have q1 := sp_nextPlace hT (sc := sc) (d := d - 1) (by omega)
  have q2 := sp_nextKind hT (sc := sc) (d := d - 1) (by omega)
  unfold aCol
  by_cases ha : 119 ≤ C p ∧ C p ≤ 122
  · rw [if_pos ha]
    have hp1 := ends hE hpn (by omega)
    have q3 := sp_advance hT hp1 (sc := sc) (d := d - 1) (by omega)
    have hT1 := TK_adv hT hp1
    have q4 := sp_nextKind hT1 (sc := sc) (d := d - 1) (by omega)
    by_cases hb : C (p + 1) = 46
    · rw [if_pos hb]
      have hp2 := ends hE hp1 (by omega)
      have q5 := sp_advance hT1 hp2 (sc := sc) (d := d - 1) (by omega)
      have hT2 := TK_adv hT1 hp2
      have q6 := sp_nextKind hT2 (sc := sc) (d := d - 1) (by omega)
      have hr := hE.2 _ hp2
      by_cases hc : 97 ≤ C (p + 2) ∧ C (p + 2) ≤ 100
      · rw [if_pos hc]
        have hc' : 97 ≤ C (p + 1 + 1) ∧ C (p + 1 + 1) ≤ 100 := hc
        have hp3 := ends hE hp2 (by show ¬ C (p + 2) = 256; omega)
        have q7 := sp_advance hT2 hp3 (sc := sc) (d := d - 1) (by omega)
        have h3 := PZ_adv (PZ_adv (PZ_adv h hp1) hp2) hp3
        obtain ⟨M', q8, hO, hf⟩ := ax_column (sc := sc) (d := d - 1) (t := p) (L := L) h3.2.2.1 (by omega) (by omega) (by omega) (by omega)
        have q8' : pq sc (d - 1) 29 [.inr (.inr 16), .inl (P p), .inl (C p), .inl (C (p + 1 + 1) - 97), .inl L] GF _ = _ := q8
        refine ⟨M', _, pq_e (by omega) (by decide) (Nat.le_of_ble_eq_true rfl) ⟨0 + 1, sg_X4_readColumn_0.trans ?_⟩, ?_, Or.inl ⟨rfl, rfl, PZ_ops h3 hO hf, rfl⟩⟩
        · simp (disch := omega) only [true_and, and_true, or_true, true_or, false_or, or_false, false_and, and_false, if_true, if_false, if_pos, if_neg, q_wid, q_cI_s, q_c0_s, q_cL_s, q_cR_s, Int.toNat_natCast, q1, q2, q3, q4, q5, q6, q7, sp_isAliasT ha.1 ha.2 (show 1 ≤ d - 1 by omega), h3.2.1, q8']
        · intro a ha
          rw [hf a (by omega), q_upf (by omega), q_upf (by omega), q_upf (by omega)]
      · rw [if_neg hc]
        refine ⟨_, _, pq_e (by omega) (by decide) (Nat.le_of_ble_eq_true rfl) ⟨0 + 1, sg_X4_readColumn_0.trans ?_⟩, ?_, Or.inr ⟨rfl, rfl, hT2, fun a ha => (q_upf ha).trans (q_upf ha)⟩⟩
        · simp (disch := omega) only [true_and, and_true, or_true, true_or, false_or, or_false, false_and, and_false, if_true, if_false, if_pos, if_neg, q_wid, q_cI_s, q_c0_s, q_cL_s, q_cR_s, Int.toNat_natCast, q1, q2, q3, q4, q5, q6, sp_isAliasT ha.1 ha.2 (show 1 ≤ d - 1 by omega)]
          split
          · rfl
          · rw [if_neg (by have : ¬ (97 ≤ C (p + 1 + 1) ∧ C (p + 1 + 1) ≤ 100) := hc; omega)]
        · intro a ha
          rw [q_upf (by omega), q_upf (by omega)]
    · rw [if_neg hb]
      refine ⟨_, _, pq_e (by omega) (by decide) (Nat.le_of_ble_eq_true rfl) ⟨0 + 1, sg_X4_readColumn_0.trans ?_⟩, ?_, Or.inr ⟨rfl, rfl, hT1, fun a ha => q_upf ha⟩⟩
      · simp (disch := omega) only [true_and, and_true, or_true, true_or, false_or, or_false, false_and, and_false, if_true, if_false, if_pos, if_neg, q_wid, q_cI_s, q_c0_s, q_cL_s, q_cR_s, Int.toNat_natCast, q1, q2, q3, q4, sp_isAliasT ha.1 ha.2 (show 1 ≤ d - 1 by omega)]
      · intro a ha
        rw [q_upf (by omega)]
  · rw [if_neg ha]
    refine ⟨_, _, pq_e (by omega) (by decide) (Nat.le_of_ble_eq_true rfl) ⟨0 + 1, sg_X4_readColumn_0.trans ?_⟩, fun _ _ => rfl, Or.inr ⟨rfl, rfl, hT, fun _ _ => rfl⟩⟩
    simp (disch := omega) only [true_and, and_true, or_true, true_or, false_or, or_false, false_and, and_false, if_true, if_false, if_pos, if_neg, q_wid, q_cI_s, q_c0_s, q_cL_s, q_cR_s, Int.toNat_natCast, q1, q2, sp_isAliasF (show C p < 119 ∨ 122 < C p by omega) (show 1 ≤ d - 1 by omega)]
