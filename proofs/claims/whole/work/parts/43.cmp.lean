theorem cx_operand {sc : List Int} {d : Nat} {M : q_M} {n : Nat} {C P N : Nat → Int} {p : Nat} {L : Int} {ops : List (Nat × Int)} {stp : List (Int × Int × Int)} {prt : List (Nat × Nat × Int × Int)} {its : List (Nat × Int)} {ous : List (Int × Int)} {grs : List Nat} (h : PZ M n C P N p L ops stp prt its ous grs) (hE : TC n C) (hu : ops.length ≤ p) (hd : 3 ≤ d) : ∃ M' x, pq sc d 56 [.inr (.inr 41)] GF M = some (some (.inl x), GF, M') ∧ (∀ a, a < 11 ∨ 41 < a → M' a = M a) ∧ (((aOpd C p).1 = true ∧ x = (ops.length : Int) ∧ PZ M' n C P N (aOpd C p).2 L (ops ++ [(p, L)]) stp prt its ous grs ∧ p + 1 ≤ (aOpd C p).2) ∨ ((aOpd C p).1 = false ∧ x = -1 ∧ TK M' n C P N (aOpd C p).2 ∧ ∀ a, ¬ a = 11 → M' a = M a)) := by
  have hT := h.1
  have hpn := hT.2.2.1
  have hn := hT.2.2.2.1
  have q2 := sp_nextKind hT (sc := sc) (d := d - 1) (by omega)
  unfold aOpd
  by_cases ha : C p = 258 ∨ C p = 274
  · rw [if_pos ha]
    have hp1 := ends hE hpn (by omega)
    have q1 := sp_nextNumber hT (sc := sc) (d := d - 1) (by omega)
    have q3 := sp_advance hT hp1 (sc := sc) (d := d - 1) (by omega)
    have h1 := PZ_adv h hp1
    rcases ha with ha | ha
    · obtain ⟨M', q8, hO, hf⟩ := ax_const (sc := sc) (d := d - 1) (t := p) (L := L) (u := 0) h1.2.2.1 (by omega) (by omega) (by omega)
      refine ⟨M', _, pq_e (by omega) (by decide) (Nat.le_of_ble_eq_true rfl) ⟨0 + 1, sg_X4_readOperand_0.trans ?_⟩, ?_, Or.inl ⟨rfl, rfl, PZ_ops h1 hO hf, Nat.le_refl _⟩⟩
      · simp (disch := omega) only [true_and, and_true, or_true, true_or, false_or, or_false, false_and, and_false, if_true, if_false, if_pos, if_neg, q_wid, q_cI_s, q_c0_s, q_cL_s, q_cR_s, Int.toNat_natCast, q1, q2, q3, q8]
      · intro a ha
        rw [hf a (by omega), q_upf (by omega)]
    · obtain ⟨M', q8, hO, hf⟩ := ax_const (sc := sc) (d := d - 1) (t := p) (L := L) (u := 1) h1.2.2.1 (by omega) (by omega) (by omega)
      refine ⟨M', _, pq_e (by omega) (by decide) (Nat.le_of_ble_eq_true rfl) ⟨0 + 1, sg_X4_readOperand_0.trans ?_⟩, ?_, Or.inl ⟨rfl, rfl, PZ_ops h1 hO hf, Nat.le_refl _⟩⟩
      · simp (disch := omega) only [true_and, and_true, or_true, true_or, false_or, or_false, false_and, and_false, if_true, if_false, if_pos, if_neg, q_wid, q_cI_s, q_c0_s, q_cL_s, q_cR_s, Int.toNat_natCast, q1, q2, q3, q8]
      · intro a ha
        rw [hf a (by omega), q_upf (by omega)]
  · rw [if_neg ha]
    obtain ⟨M', x, q1, hf, hc⟩ := cx_column (sc := sc) (d := d - 1) h hE hu (by omega)
    refine ⟨M', x, pq_e (by omega) (by decide) (Nat.le_of_ble_eq_true rfl) ⟨0 + 1, sg_X4_readOperand_0.trans ?_⟩, hf, ?_⟩
    · simp (disch := omega) only [true_and, and_true, or_true, true_or, false_or, or_false, false_and, and_false, if_true, if_false, if_pos, if_neg, q_wid, q_cI_s, q_c0_s, q_cL_s, q_cR_s, Int.toNat_natCast, q1, q2]
    · rcases hc with ⟨a, b, c, e⟩ | hc
      · exact Or.inl ⟨a, b, c, by omega⟩
      · exact Or.inr hc
theorem sp_sadd {sc : List Int} {d : Nat} {M : q_M} {s : Nat} {a1 a2 a3 : Int} (h : M 24 4 = (s : Int)) (hu : s < 130) (hd : 1 ≤ d) : pq sc d 86 [.inr (.inr 24), .inl (a1), .inl (a2), .inl (a3)] GF M = some (none, GF, (q_up (q_up (q_up (q_up M 25 s a1) 26 s a2) 27 s a3) 24 4 ((s : Int) + 1))) := by
  refine pq_e (by omega) (by decide) (Nat.le_of_ble_eq_true rfl) ⟨0 + 1, sg_X6_add_0.trans ?_⟩
  simp (disch := omega) only [true_and, and_true, or_true, true_or, false_or, or_false, false_and, and_false, if_true, if_false, if_pos, if_neg, q_wid, q_cI_s, q_c0_s, q_cL_s, q_cR_s, Int.toNat_natCast, h]
theorem sp_addPart {sc : List Int} {d : Nat} {M : q_M} {k s : Nat} {a2 a3 a4 : Int} (h : M 24 4 = (s : Int)) (hu : k < 130) (h4 : a4 = 0 ∨ a4 = 1) (hd : 1 ≤ d) : pq sc d 87 [.inr (.inr 24), .inl ((k : Int)), .inl (a2), .inl (a3), .inl (a4)] GF M = some (none, GF, (q_up (q_up (q_up (q_up (q_up M 28 k a2) 29 k (s : Int)) 30 k a3) 31 k a4) 24 9 ((k : Int) + 1))) := by
  refine pq_e (by omega) (by decide) (Nat.le_of_ble_eq_true rfl) ⟨0 + 1, sg_X6_addPart_0.trans ?_⟩
  simp (disch := omega) only [true_and, and_true, or_true, true_or, false_or, or_false, false_and, and_false, if_true, if_false, if_pos, if_neg, q_wid, q_cI_s, q_c0_s, q_cL_s, q_cR_s, Int.toNat_natCast, h]
theorem cx_add {sc : List Int} {d : Nat} {M : q_M} {n : Nat} {C P N : Nat → Int} {p : Nat} {L : Int} {ops : List (Nat × Int)} {stp : List (Int × Int × Int)} {prt : List (Nat × Nat × Int × Int)} {its : List (Nat × Int)} {ous : List (Int × Int)} {grs : List Nat} {k l r : Int} (h : PZ M n C P N p L ops stp prt its ous grs) (hs : stp.length < 130) (hd : 1 ≤ d) : ∃ M', pq sc d 86 [.inr (.inr 24), .inl k, .inl l, .inl r] GF M = some (none, GF, M') ∧ (∀ a, a < 24 ∨ 27 < a → M' a = M a) ∧ PZ M' n C P N p L ops (stp ++ [(k, l, r)]) prt its ous grs := by
  obtain ⟨h1, h2, h3, h4, h5, h6, h7, h8⟩ := h
  have hf : ∀ a, a < 24 ∨ 27 < a → (q_up (q_up (q_up (q_up M 25 stp.length k) 26 stp.length l) 27 stp.length r) 24 4 ((stp.length : Int) + 1)) a = M a := fun a ha => by simp (disch := omega) only [q_upf]
  refine ⟨_, sp_sadd h4.1 hs hd, hf, TK_fr h1 (fun a h1 h2 => hf a (by omega)), (congrFun (hf 41 (by omega)) 4).trans h2, OA_fr h3 (fun a h1 h2 => hf a (by omega)), ⟨?_, ?_⟩, PA_fr h5 (fun a h1 h2 => hf a (by omega)) ?_, IA_fr h6 (fun a h1 h2 => hf a (by omega)) (congrFun (hf 15 (by omega)) 7), UA_fr h7 (fun a h1 h2 => hf a (by omega)) (congrFun (hf 15 (by omega)) 10), GA_fr h8 (hf 40 (by omega)) (congrFun (hf 15 (by omega)) 12)⟩
  · rw [q_up_s]; simp
  · intro i y hy
    rcases l_app hy with ⟨hi, hy⟩ | ⟨rfl, rfl⟩
    · have := h4.2 i y hy
      simp (disch := omega) only [q_up_ne, q_up_sn]
      exact this
    · simp (disch := omega) only [q_up_ne, q_up_s, and_self]
  · simp (disch := omega) only [q_up_ne, q_up_sn]
theorem l_take {α : Type} {l : List α} {x y : α} {k i : Nat} (hk : k ≤ l.length) (h : (l.take k ++ [x])[i]? = some y) : (i < k ∧ l[i]? = some y) ∨ (i = k ∧ y = x) := by
  have hl : (l.take k).length = k := by simp; omega
  rcases l_app h with ⟨hi, h⟩ | ⟨hi, h⟩
  · rw [hl] at hi
    rw [List.getElem?_take_of_lt hi] at h
    exact Or.inl ⟨hi, h⟩
  · exact Or.inr ⟨by omega, h⟩
theorem cx_addPart {sc : List Int} {d : Nat} {M : q_M} {n : Nat} {C P N : Nat → Int} {p : Nat} {L : Int} {ops : List (Nat × Int)} {stp : List (Int × Int × Int)} {prt : List (Nat × Nat × Int × Int)} {its : List (Nat × Int)} {ous : List (Int × Int)} {grs : List Nat} {k b : Nat} {w : Int} (h : PZ M n C P N p L ops stp prt its ous grs) (hk : k ≤ prt.length) (hk2 : k < 130) (hw : w = 0 ∨ w = 1) (hd : 1 ≤ d) : ∃ M', pq sc d 87 [.inr (.inr 24), .inl (k : Int), .inl (b : Int), .inl L, .inl w] GF M = some (none, GF, M') ∧ (∀ a, a < 24 ∨ 31 < a → M' a = M a) ∧ PZ M' n C P N p L ops stp (prt.take k ++ [(b, stp.length, L, w)]) its ous grs := by
  obtain ⟨h1, h2, h3, h4, h5, h6, h7, h8⟩ := h
  have hf : ∀ a, a < 24 ∨ (24 < a ∧ a < 28) ∨ 31 < a → (q_up (q_up (q_up (q_up (q_up M 28 k (b : Int)) 29 k (stp.length : Int)) 30 k L) 31 k w) 24 9 ((k : Int) + 1)) a = M a := fun a ha => by simp (disch := omega) only [q_upf]
  refine ⟨_, sp_addPart h4.1 hk2 hw hd, fun a ha => hf a (by omega), TK_fr h1 (fun a h1 h2 => hf a (by omega)), (congrFun (hf 41 (by omega)) 4).trans h2, OA_fr h3 (fun a h1 h2 => hf a (by omega)), SA_fr h4 (fun a h1 h2 => hf a (by omega)) ?_, ⟨?_, ?_⟩, IA_fr h6 (fun a h1 h2 => hf a (by omega)) (congrFun (hf 15 (by omega)) 7), UA_fr h7 (fun a h1 h2 => hf a (by omega)) (congrFun (hf 15 (by omega)) 10), GA_fr h8 (hf 40 (by omega)) (congrFun (hf 15 (by omega)) 12)⟩
  · simp (disch := omega) only [q_up_ne, q_up_sn]
  · rw [q_up_s]; simp; omega
  · intro i y hy
    rcases l_take hk hy with ⟨hi, hy⟩ | ⟨rfl, rfl⟩
    · have := h5.2 i y hy
      simp (disch := omega) only [q_up_ne, q_up_sn]
      exact this
    · simp (disch := omega) only [q_up_ne, q_up_s, and_self]
/-- whether a part is of where -/
def pW (L : Int) : Int := if L = 3 then 1 else 0
theorem cx_note {sc : List Int} {d : Nat} {M : q_M} {n : Nat} {C P N : Nat → Int} {p : Nat} {L : Int} {ops : List (Nat × Int)} {stp : List (Int × Int × Int)} {prt : List (Nat × Nat × Int × Int)} {its : List (Nat × Int)} {ous : List (Int × Int)} {grs : List Nat} {k b : Nat} (h : PZ M n C P N p L ops stp prt its ous grs) (hk : k ≤ prt.length) (hk2 : k < 130) (hd : 2 ≤ d) : ∃ M', pq sc d 53 [.inr (.inr 41), .inl 0, .inl (k : Int), .inl (b : Int)] GF M = some (none, GF, M') ∧ (∀ a, a < 24 ∨ 31 < a → M' a = M a) ∧ PZ M' n C P N p L ops stp (prt.take k ++ [(b, stp.length, L, pW L)]) its ous grs := by
  obtain ⟨M', q1, hf, h'⟩ := cx_addPart (sc := sc) (d := d - 1) (b := b) (w := pW L) h hk hk2 (by unfold pW; split <;> omega) (by omega)
  refine ⟨M', pq_e (by omega) (by decide) (Nat.le_of_ble_eq_true rfl) ⟨0 + 1, sg_X4_notePart_0.trans ?_⟩, hf, h'⟩
  rw [h.2.1]
  unfold pW at q1
  split at q1
  · next hL => rw [if_pos rfl, if_pos hL]; simp only [q1, q_c0_s]
  · next hL => rw [if_pos rfl, if_neg hL]; simp only [q1, q_c0_s]
theorem cx_note1 {sc : List Int} {d : Nat} {M : q_M} {o a b : Int} (ho : ¬ o = 0) (hd : 2 ≤ d) : pq sc d 53 [.inr (.inr 41), .inl o, .inl a, .inl b] GF M = some (none, GF, M) :=
  pq_e (by omega) (by decide) (Nat.le_of_ble_eq_true rfl) ⟨0 + 1, sg_X4_notePart_0.trans (if_neg ho)⟩
theorem sp_take01 {sc : List Int} {d : Nat} {M : q_M} {n p : Nat} {C P N : Nat → Int} {k : Int} (h : TK M n C P N p) (hE : TC n C) (hk : ¬ k = 256) (hd : 2 ≤ d) : pq sc d 125 [.inr (.inr 11), .inl k] GF M = some (some (.inl (if C p = k then 1 else 0)), GF, if C p = k then q_up M 11 4 ((p : Int) + 1) else M) := by
  by_cases hc : C p = k
  · rw [if_pos hc, if_pos hc]; exact sp_takeT h (ends hE h.2.2.1 (by omega)) hc hd
  · rw [if_neg hc, if_neg hc]; exact sp_takeF h hc hd
/-- a comparison is read -/
theorem cx_cmp {sc : List Int} {d : Nat} {M : q_M} {n : Nat} {C P N : Nat → Int} {p : Nat} {L : Int} {ops : List (Nat × Int)} {stp : List (Int × Int × Int)} {prt : List (Nat × Nat × Int × Int)} {its : List (Nat × Int)} {ous : List (Int × Int)} {grs : List Nat} (h : PZ M n C P N p L ops stp prt its ous grs) (hE : TC n C) (hu : ops.length ≤ p) (hs : stp.length ≤ p) (hd : 4 ≤ d) : ∃ M' x, pq sc d 55 [.inr (.inr 41)] GF M = some (some (.inl x), GF, M') ∧ (∀ a, a < 11 ∨ 41 < a → M' a = M a) ∧ (((aCmp C p ops.length).1 = true ∧ x = 1 ∧ PZ M' n C P N (aCmp C p ops.length).2.1 L (ops ++ (aCmp C p ops.length).2.2.2.map (·, L)) (stp ++ (aCmp C p ops.length).2.2.1) prt its ous grs ∧ (aCmp C p ops.length).2.2.1.length = 1 ∧ p + (aCmp C p ops.length).2.2.2.length + 1 ≤ (aCmp C p ops.length).2.1) ∨ ((aCmp C p ops.length).1 = false ∧ x = 0 ∧ TK M' n C P N (aCmp C p ops.length).2.1)) := by
  obtain ⟨M1, x1, q1, hf1, hc1⟩ := cx_operand (sc := sc) (d := d - 1) h hE hu (by omega)
  unfold aCmp
  rcases ho : aOpd C p with ⟨b, q⟩
  rw [ho] at hc1
  rcases hc1 with ⟨hb, rfl, h1, hq⟩ | ⟨hb, rfl, h1, -⟩
  · dsimp only at hb h1 hq ⊢
    subst hb
    dsimp only
    have hT := h1.1
    have hpn := hT.2.2.1
    have hn := hT.2.2.2.1
    have q2 := sp_nextKind hT (sc := sc) (d := d - 1) (by omega)
    by_cases hi : C q = 273
    · rw [if_pos hi]
      have hp1 := ends hE hpn (by omega)
      have q3 := sp_advance hT hp1 (sc := sc) (d := d - 1) (by omega)
      have h2 := PZ_adv h1 hp1
      obtain ⟨M3, q4, hf3, h3⟩ := cx_add (sc := sc) (d := d - 1) (k := 273) (l := (ops.length : Int)) (r := -1) h2 (by omega) (by omega)
      have hp2 := h3.1.2.2.1
      by_cases hj : C (q + 1) = 274
      · rw [if_pos hj]
        have hp3 := ends hE hp2 (by omega)
        have q5 := sp_takeT h3.1 hp3 hj (sc := sc) (d := d - 1) (by omega)
        refine ⟨_, _, pq_e (by omega) (by decide) (Nat.le_of_ble_eq_true rfl) ⟨0 + 1, sg_X4_readComparison_0.trans ?_⟩, ?_, Or.inl ⟨rfl, rfl, PZ_adv h3 hp3, rfl, ?_⟩⟩
        · simp (disch := omega) only [true_and, and_true, or_true, true_or, false_or, or_false, false_and, and_false, if_true, if_false, if_pos, if_neg, q_wid, q_cI_s, q_c0_s, q_cL_s, q_cR_s, Int.toNat_natCast, q1, q2, q3, q4, q5]
        · intro a ha
          rw [q_upf (by omega), hf3 a (by omega), q_upf (by omega), hf1 a ha]
        · simp; omega
      · rw [if_neg hj]
        have q5 := sp_takeF h3.1 hj (sc := sc) (d := d - 1) (by omega)
        refine ⟨_, _, pq_e (by omega) (by decide) (Nat.le_of_ble_eq_true rfl) ⟨0 + 1, sg_X4_readComparison_0.trans ?_⟩, ?_, Or.inr ⟨rfl, rfl, h3.1⟩⟩
        · simp (disch := omega) only [true_and, and_true, or_true, true_or, false_or, or_false, false_and, and_false, if_true, if_false, if_pos, if_neg, q_wid, q_cI_s, q_c0_s, q_cL_s, q_cR_s, Int.toNat_natCast, q1, q2, q3, q4, q5]
        · intro a ha
          rw [hf3 a (by omega), q_upf (by omega), hf1 a ha]
    · rw [if_neg hi]
      by_cases hj : C q = 61 ∨ C q = 60 ∨ C q = 62
      · rw [if_pos hj]
        have hp1 := ends hE hpn (by omega)
        have q3 := sp_advance hT hp1 (sc := sc) (d := d - 1) (by omega)
        have h2 := PZ_adv h1 hp1
        obtain ⟨M3, x3, q4, hf3, hc3⟩ := cx_operand (sc := sc) (d := d - 1) h2 hE (by simp; omega) (by omega)
        rcases ho2 : aOpd C (q + 1) with ⟨b2, r⟩
        rw [ho2] at hc3
        rcases hc3 with ⟨hb2, rfl, h3, hr⟩ | ⟨hb2, rfl, h3, hf5⟩
        · dsimp only at hb2 h3 hr ⊢
          subst hb2
          dsimp only
          obtain ⟨M4, q5, hf4, h4⟩ := cx_add (sc := sc) (d := d - 1) (k := C q) (l := (ops.length : Int)) (r := ((ops ++ [(p, L)]).length : Int)) h3 (by have := h3.1.2.2; omega) (by omega)
          have e1 : (((ops ++ [(p, L)]).length : Nat) : Int) = (ops.length : Int) + 1 := by simp
          rw [e1] at q4 q5 h4
          refine ⟨M4, _, pq_e (by omega) (by decide) (Nat.le_of_ble_eq_true rfl) ⟨0 + 1, sg_X4_readComparison_0.trans ?_⟩, ?_, Or.inl ⟨rfl, rfl, by simpa using h4, rfl, ?_⟩⟩
          · rcases hj with hj | hj | hj <;> simp (disch := omega) only [true_and, and_true, or_true, true_or, false_or, or_false, false_and, and_false, if_true, if_false, if_pos, if_neg, q_wid, q_cI_s, q_c0_s, q_cL_s, q_cR_s, Int.toNat_natCast, q1, q2, q3, q4, q5, hi]
          · intro a ha
            rw [hf4 a (by omega), hf3 a ha, q_upf (by omega), hf1 a ha]
          · simp; omega
        · dsimp only at hb2 h3 ⊢
          subst hb2
          dsimp only
          have hs4 : M3 24 4 = ((stp.length : Nat) : Int) := by
            rw [hf5 24 (by decide)]; exact h2.2.2.2.1.1
          refine ⟨q_up (q_up (q_up (q_up M3 25 stp.length (C q)) 26 stp.length (ops.length : Int)) 27 stp.length (-1)) 24 4 ((stp.length : Int) + 1), _, pq_e (by omega) (by decide) (Nat.le_of_ble_eq_true rfl) ⟨0 + 1, sg_X4_readComparison_0.trans ?_⟩, ?_, Or.inr ⟨rfl, rfl, TK_fr h3 ?_⟩⟩
          · rcases hj with hj | hj | hj <;> simp (disch := omega) only [true_and, and_true, or_true, true_or, false_or, or_false, false_and, and_false, if_true, if_false, if_pos, if_neg, q_wid, q_cI_s, q_c0_s, q_cL_s, q_cR_s, Int.toNat_natCast, q1, q2, q3, q4, hi, sp_sadd hs4 (show stp.length < 130 by omega) (show 1 ≤ d - 1 by omega)]
          · intro a ha
            rw [q_upf (by omega), q_upf (by omega), q_upf (by omega), q_upf (by omega), hf3 a ha, q_upf (by omega), hf1 a ha]
          · intro a h1 h2
            rw [q_upf (by omega), q_upf (by omega), q_upf (by omega), q_upf (by omega)]
      · rw [if_neg hj]
        refine ⟨_, _, pq_e (by omega) (by decide) (Nat.le_of_ble_eq_true rfl) ⟨0 + 1, sg_X4_readComparison_0.trans ?_⟩, hf1, Or.inr ⟨rfl, rfl, hT⟩⟩
        simp (disch := omega) only [true_and, and_true, or_true, true_or, false_or, or_false, false_and, and_false, if_true, if_false, if_pos, if_neg, q_wid, q_cI_s, q_c0_s, q_cL_s, q_cR_s, Int.toNat_natCast, q1, q2]
  · dsimp only at hb h1 ⊢
    subst hb
    dsimp only
    refine ⟨_, _, pq_e (by omega) (by decide) (Nat.le_of_ble_eq_true rfl) ⟨0 + 1, sg_X4_readComparison_0.trans ?_⟩, hf1, Or.inr ⟨rfl, rfl, h1⟩⟩
    simp (disch := omega) only [true_and, and_true, or_true, true_or, false_or, or_false, false_and, and_false, if_true, if_false, if_pos, if_neg, q_wid, q_cI_s, q_c0_s, q_cL_s, q_cR_s, Int.toNat_natCast, q1]
