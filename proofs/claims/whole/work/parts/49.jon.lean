theorem pm_len0 {L : Int} {a : List (Nat × Nat)} : (pm 0 L a).length = a.length := by simp [pm]
theorem cx_joinT {sc : List Int} {n : Nat} {C P N : Nat → Int} {ous : List (Int × Int)} {grs : List Nat} {d : Nat} (hE : TC n C) (hd : 24 ≤ d) : ∀ (k i p : Nat) (M : q_M) (L : Int) (ops : List (Nat × Int)) (stp : List (Int × Int × Int)) (prt : List (Nat × Nat × Int × Int)) (its : List (Nat × Int)), i + k = 3 → its.length = i → PZ M n C P N p L ops stp prt its ous grs → ops.length ≤ p → stp.length ≤ p → prt.length ≤ stp.length → ∃ F M' x, pr sc (pq sc d) 47 F 2 [some (.inr (.inr 41)), some (.inl (i : Int)), none] [] M = some (some (.inl x), GF, M') ∧ CQ M M' x n C P N (aJ C k i p ops.length stp.length).1 (aJ C k i p ops.length stp.length).2.1 (PZ M' n C P N (aJ C k i p ops.length stp.length).2.1 3 (ops ++ (aJ C k i p ops.length stp.length).2.2.2.2.1) (stp ++ (aJ C k i p ops.length stp.length).2.2.2.1) (prt ++ (aJ C k i p ops.length stp.length).2.2.2.2.2) (its ++ (aJ C k i p ops.length stp.length).2.2.1.map (fun t => (t.1, t.2.1))) ous grs) := by
  intro k
  induction k with
  | zero =>
    intro i p M L ops stp prt its hi hit h hu hs hpr
    refine ⟨0 + 1, q_up M 41 4 3, 1, sg_X4_readJoined_2.trans ?_, fun a ha => q_upf (by omega), Or.inl ⟨rfl, rfl, by simpa [aJ] using PZ_L (l := 3) h⟩⟩
    rw [if_neg (by omega)]
  | succ k ih =>
    intro i p M L ops stp prt its hi hit h hu hs hpr
    have hT := h.1
    have hpn := hT.2.2.1
    have q1 := sp_nextKind hT (sc := sc) (d := d) (by omega)
    have key : ∀ l : Int, ((C p = 261 ∧ l = 0) ∨ (C p = 262 ∧ l = 1)) → ∃ F M' x, pr sc (pq sc d) 47 F 2 [some (.inr (.inr 41)), some (.inl (i : Int)), none] [] M = some (some (.inl x), GF, M') ∧ CQ M M' x n C P N (aJ C (k + 1) i p ops.length stp.length).1 (aJ C (k + 1) i p ops.length stp.length).2.1 (PZ M' n C P N (aJ C (k + 1) i p ops.length stp.length).2.1 3 (ops ++ (aJ C (k + 1) i p ops.length stp.length).2.2.2.2.1) (stp ++ (aJ C (k + 1) i p ops.length stp.length).2.2.2.1) (prt ++ (aJ C (k + 1) i p ops.length stp.length).2.2.2.2.2) (its ++ (aJ C (k + 1) i p ops.length stp.length).2.2.1.map (fun t => (t.1, t.2.1))) ous grs) := by
      intro l hl
      have hl1 : l = 0 ∨ l = 1 := by omega
      have hl2 : (if C p = 262 then (1 : Int) else 0) = l := by
        rcases hl with ⟨a, b⟩ | ⟨a, b⟩
        · rw [if_neg (by omega), b]
        · rw [if_pos a, b]
      have hp1 := ends hE hpn (by omega)
      have q2 := sp_advance hT hp1 (sc := sc) (d := d) (by omega)
      have h1 := PZ_L (l := (i : Int)) (PZ_adv h hp1)
      obtain ⟨M3, x3, q3, hf3, hc3⟩ := cx_item (sc := sc) (d := d) h1 hE (by omega) hl1 (by omega)
      unfold aJ
      rw [if_pos (by omega), hl2]
      rcases hc3 with ⟨hb3, rfl, h3⟩ | ⟨hb3, rfl, h3⟩
      · rw [if_pos hb3]
        have e2 := aItem_t hb3
        rw [e2] at h3
        have h3' : PZ M3 n C P N (p + 3) i ops stp prt (its ++ [(p + 1, l)]) ous grs := h3
        by_cases hc : C (p + 3) = 263
        · rw [if_pos hc]
          have hp3 := ends hE h3'.1.2.2.1 (by omega)
          have q4 := sp_takeT h3'.1 hp3 hc (sc := sc) (d := d) (by omega)
          have h4 := PZ_adv h3' hp3
          obtain ⟨M5, x5, q5, hf5, hc5⟩ := cx_cond (sc := sc) (d := d) h4 hE (by omega) (by omega) hpr hd
          have hc5' : ((aCo C (p + 4) ops.length stp.length).1 = true ∧ x5 = 1 ∧ PZ M5 n C P N (aCo C (p + 4) ops.length stp.length).2.1 i (ops ++ (aCo C (p + 4) ops.length stp.length).2.2.2.1.map (·, (i : Int))) (stp ++ (aCo C (p + 4) ops.length stp.length).2.2.1) (prt ++ pm 0 i (aCo C (p + 4) ops.length stp.length).2.2.2.2) (its ++ [(p + 1, l)]) ous grs) ∨ ((aCo C (p + 4) ops.length stp.length).1 = false ∧ x5 = 0 ∧ TK M5 n C P N (aCo C (p + 4) ops.length stp.length).2.1) := hc5
          have hn5 := fun hb => aCo_len (C := C) (p := p + 4) (u := ops.length) (s := stp.length) hb
          generalize aCo C (p + 4) ops.length stp.length = c at *
          rcases hc5' with ⟨hb5, rfl, h5⟩ | ⟨hb5, rfl, h5⟩
          · rw [if_pos hb5]
            have hn6 := hn5 hb5
            obtain ⟨F, M6, x6, q6, hf6, hc6⟩ := ih (i + 1) c.2.1 M5 i _ _ _ _ (by omega) (by simp; omega) h5 (by simp; omega) (by simp; omega) (by simp only [List.length_append, pm_len0]; omega)
            rw [List.length_append, List.length_map, List.length_append] at hc6
            rw [n1] at q6
            refine ⟨F + 1, M6, x6, sg_X4_readJoined_2.trans ?_, fun a ha => ?_, ?_⟩
            · rcases hl with ⟨a, b⟩ | ⟨a, b⟩ <;> rw [b] at q3 <;> simp (disch := omega) only [true_and, and_true, or_true, true_or, false_or, or_false, false_and, and_false, if_true, if_false, if_pos, if_neg, q_wid, q_cI_s, q_c0_s, q_cL_s, q_cR_s, Int.toNat_natCast, q1, q2, q3, q4, q5, q6]
            · rw [hf6 a ha, hf5 a ha, q_upf (by omega), hf3 a ha, q_upf (by omega), q_upf (by omega)]
            · unfold aJc
              rcases hc6 with ⟨b6, rfl, h6⟩ | ⟨b6, rfl, h6⟩
              · refine Or.inl ⟨b6, rfl, ?_⟩
                dsimp only at h6 ⊢
                simpa only [List.map_append, List.map_cons, List.append_assoc, List.cons_append, List.nil_append] using h6
              · exact Or.inr ⟨b6, rfl, h6⟩
          · rw [if_neg (by rw [hb5]; decide)]
            refine ⟨0 + 1, M5, 0, sg_X4_readJoined_2.trans ?_, fun a ha => ?_, Or.inr ⟨rfl, rfl, h5⟩⟩
            · rcases hl with ⟨a, b⟩ | ⟨a, b⟩ <;> rw [b] at q3 <;> simp (disch := omega) only [true_and, and_true, or_true, true_or, false_or, or_false, false_and, and_false, if_true, if_false, if_pos, if_neg, q_wid, q_cI_s, q_c0_s, q_cL_s, q_cR_s, Int.toNat_natCast, q1, q2, q3, q4, q5]
            · rw [hf5 a ha, q_upf (by omega), hf3 a ha, q_upf (by omega), q_upf (by omega)]
        · rw [if_neg hc]
          have q4 := sp_takeF h3'.1 hc (sc := sc) (d := d) (by omega)
          refine ⟨0 + 1, M3, 0, sg_X4_readJoined_2.trans ?_, fun a ha => ?_, Or.inr ⟨rfl, rfl, h3'.1⟩⟩
          · rcases hl with ⟨a, b⟩ | ⟨a, b⟩ <;> rw [b] at q3 <;> simp (disch := omega) only [true_and, and_true, or_true, true_or, false_or, or_false, false_and, and_false, if_true, if_false, if_pos, if_neg, q_wid, q_cI_s, q_c0_s, q_cL_s, q_cR_s, Int.toNat_natCast, q1, q2, q3, q4]
          · rw [hf3 a ha, q_upf (by omega), q_upf (by omega)]
      · rw [if_neg (by rw [hb3]; decide)]
        refine ⟨0 + 1, M3, 0, sg_X4_readJoined_2.trans ?_, fun a ha => ?_, Or.inr ⟨rfl, rfl, h3⟩⟩
        · rcases hl with ⟨a, b⟩ | ⟨a, b⟩ <;> rw [b] at q3 <;> simp (disch := omega) only [true_and, and_true, or_true, true_or, false_or, or_false, false_and, and_false, if_true, if_false, if_pos, if_neg, q_wid, q_cI_s, q_c0_s, q_cL_s, q_cR_s, Int.toNat_natCast, q1, q2, q3]
        · rw [hf3 a ha, q_upf (by omega), q_upf (by omega)]
    by_cases ha : C p = 261
    · exact key 0 (Or.inl ⟨ha, rfl⟩)
    · by_cases hb : C p = 262
      · exact key 1 (Or.inr ⟨hb, rfl⟩)
      · refine ⟨0 + 1, q_up M 41 4 3, 1, sg_X4_readJoined_2.trans ?_, fun a ha => q_upf (by omega), Or.inl ?_⟩
        · simp (disch := omega) only [true_and, and_true, or_true, true_or, false_or, or_false, false_and, and_false, if_true, if_false, if_pos, if_neg, q_wid, q_cI_s, q_c0_s, q_cL_s, q_cR_s, Int.toNat_natCast, q1]
        · unfold aJ
          rw [if_neg (by omega)]
          exact ⟨rfl, rfl, by simpa using PZ_L (l := 3) h⟩
theorem cx_joined {sc : List Int} {d : Nat} {M : q_M} {n : Nat} {C P N : Nat → Int} {p : Nat} {L : Int} {ops : List (Nat × Int)} {stp : List (Int × Int × Int)} {prt : List (Nat × Nat × Int × Int)} {its : List (Nat × Int)} {ous : List (Int × Int)} {grs : List Nat} (h : PZ M n C P N p L ops stp prt its ous grs) (hE : TC n C) (hit : its.length = 1) (hu : ops.length ≤ p) (hs : stp.length ≤ p) (hpr : prt.length ≤ stp.length) (hd : 25 ≤ d) : ∃ M' x, pq sc d 47 [.inr (.inr 41)] GF M = some (some (.inl x), GF, M') ∧ CQ M M' x n C P N (aJ C 2 1 p ops.length stp.length).1 (aJ C 2 1 p ops.length stp.length).2.1 (PZ M' n C P N (aJ C 2 1 p ops.length stp.length).2.1 3 (ops ++ (aJ C 2 1 p ops.length stp.length).2.2.2.2.1) (stp ++ (aJ C 2 1 p ops.length stp.length).2.2.2.1) (prt ++ (aJ C 2 1 p ops.length stp.length).2.2.2.2.2) (its ++ (aJ C 2 1 p ops.length stp.length).2.2.1.map (fun t => (t.1, t.2.1))) ous grs) := by
  obtain ⟨F, M', x, q, hc⟩ := cx_joinT (sc := sc) (d := d - 1) hE (by omega) 2 1 p M L ops stp prt its (by omega) hit h hu hs hpr
  refine ⟨M', x, pq_e (by omega) (by decide) (Nat.le_of_ble_eq_true rfl) ⟨F + 1, sg_X4_readJoined_0.trans ?_⟩, hc⟩
  exact q
theorem cx_where {sc : List Int} {d : Nat} {M : q_M} {n : Nat} {C P N : Nat → Int} {p : Nat} {L : Int} {ops : List (Nat × Int)} {stp : List (Int × Int × Int)} {prt : List (Nat × Nat × Int × Int)} {its : List (Nat × Int)} {ous : List (Int × Int)} {grs : List Nat} (h : PZ M n C P N p L ops stp prt its ous grs) (hE : TC n C) (hu : ops.length ≤ p) (hs : stp.length ≤ p) (hpr : prt.length ≤ stp.length) (hd : 25 ≤ d) : ∃ M' x, pq sc d 48 [.inr (.inr 41)] GF M = some (some (.inl x), GF, M') ∧ CQ M M' x n C P N (aW C p ops.length stp.length).1 (aW C p ops.length stp.length).2.1 (PZ M' n C P N (aW C p ops.length stp.length).2.1 L (ops ++ (aW C p ops.length stp.length).2.2.2.1.map (·, L)) (stp ++ (aW C p ops.length stp.length).2.2.1) (prt ++ pm 0 L (aW C p ops.length stp.length).2.2.2.2) its ous grs) := by
  have hT := h.1
  have hpn := hT.2.2.1
  unfold aW
  by_cases ha : C p = 264
  · rw [if_pos ha]
    have hp1 := ends hE hpn (by omega)
    have q1 := sp_takeT hT hp1 ha (sc := sc) (d := d - 1) (by omega)
    obtain ⟨M5, x5, q5, hf5, hc5⟩ := cx_cond (sc := sc) (d := d - 1) (PZ_adv h hp1) hE (by omega) (by omega) hpr (by omega)
    rcases hc5 with ⟨hb5, rfl, h5⟩ | ⟨hb5, rfl, h5⟩
    · refine ⟨M5, 1, pq_e (by omega) (by decide) (Nat.le_of_ble_eq_true rfl) ⟨0 + 1, sg_X4_readWhere_0.trans ?_⟩, fun a ha => (hf5 a ha).trans (q_upf (by omega)), Or.inl ⟨hb5, rfl, h5⟩⟩
      simp (disch := omega) only [true_and, and_true, or_true, true_or, false_or, or_false, false_and, and_false, if_true, if_false, if_pos, if_neg, q_wid, q_cI_s, q_c0_s, q_cL_s, q_cR_s, Int.toNat_natCast, q1, q5]
    · refine ⟨M5, 0, pq_e (by omega) (by decide) (Nat.le_of_ble_eq_true rfl) ⟨0 + 1, sg_X4_readWhere_0.trans ?_⟩, fun a ha => (hf5 a ha).trans (q_upf (by omega)), Or.inr ⟨hb5, rfl, h5⟩⟩
      simp (disch := omega) only [true_and, and_true, or_true, true_or, false_or, or_false, false_and, and_false, if_true, if_false, if_pos, if_neg, q_wid, q_cI_s, q_c0_s, q_cL_s, q_cR_s, Int.toNat_natCast, q1, q5]
  · rw [if_neg ha]
    have q1 := sp_takeF hT ha (sc := sc) (d := d - 1) (by omega)
    refine ⟨M, 1, pq_e (by omega) (by decide) (Nat.le_of_ble_eq_true rfl) ⟨0 + 1, sg_X4_readWhere_0.trans ?_⟩, fun a ha => rfl, Or.inl ⟨rfl, rfl, by simpa [pm] using h⟩⟩
    simp (disch := omega) only [true_and, and_true, or_true, true_or, false_or, or_false, false_and, and_false, if_true, if_false, if_pos, if_neg, q_wid, q_cI_s, q_c0_s, q_cL_s, q_cR_s, Int.toNat_natCast, q1]
theorem cx_groupT {sc : List Int} {n : Nat} {C P N : Nat → Int} {L : Int} {stp : List (Int × Int × Int)} {prt : List (Nat × Nat × Int × Int)} {its : List (Nat × Int)} {ous : List (Int × Int)} {d : Nat} (hE : TC n C) (hd : 2 ≤ d) : ∀ (k c p : Nat) (M : q_M) (ops : List (Nat × Int)) (grs : List Nat), c + k = 3 → grs.length + 1 ≤ c → PZ M n C P N p L ops stp prt its ous grs → ops.length ≤ p → ∃ F M' x, pr sc (pq sc d) 49 F 17 [some (.inr (.inr 41)), some (.inl (c : Int)), none] [] M = some (some (.inl x), GF, M') ∧ CQ M M' x n C P N (aG C (k + 1) p).1 (aG C (k + 1) p).2.1 (PZ M' n C P N (aG C (k + 1) p).2.1 L (ops ++ (aG C (k + 1) p).2.2.map (·, L)) stp prt its ous (grs ++ List.range' ops.length (aG C (k + 1) p).2.2.length)) := by
  intro k
  induction k with
  | zero =>
    intro c p M ops grs hk hg h hu
    obtain ⟨M2, x2, q2, hf2, hc2⟩ := cx_column (sc := sc) (d := d) h hE hu hd
    unfold aG
    rcases hc2 with ⟨hb, rfl, h2, hp3⟩ | ⟨hb, rfl, h2, -⟩
    · rw [if_pos hb, if_pos rfl]
      obtain ⟨M3, q3, hf3, h3⟩ := cx_addGrouped (sc := sc) (d := d) (c := ops.length) h2 (by omega) (by omega)
      refine ⟨0 + 1, M3, 1, sg_X4_readGroup_17.trans ?_, fun a ha => (hf3 a (by omega)).trans (hf2 a ha), Or.inl ⟨rfl, rfl, by simpa using h3⟩⟩
      simp (disch := omega) only [true_and, and_true, or_true, true_or, false_or, or_false, false_and, and_false, if_true, if_false, if_pos, if_neg, q_wid, q_cI_s, q_c0_s, q_cL_s, q_cR_s, Int.toNat_natCast, q2, q3]
    · rw [if_neg (by rw [hb]; decide)]
      refine ⟨0 + 1, M2, 0, sg_X4_readGroup_17.trans ?_, hf2, Or.inr ⟨rfl, rfl, h2⟩⟩
      simp (disch := omega) only [true_and, and_true, or_true, true_or, false_or, or_false, false_and, and_false, if_true, if_false, if_pos, if_neg, q_wid, q_cI_s, q_c0_s, q_cL_s, q_cR_s, Int.toNat_natCast, q2]
  | succ k ih =>
    intro c p M ops grs hk hg h hu
    obtain ⟨M2, x2, q2, hf2, hc2⟩ := cx_column (sc := sc) (d := d) h hE hu hd
    unfold aG
    rcases hc2 with ⟨hb, rfl, h2, hp3⟩ | ⟨hb, rfl, h2, -⟩
    · rw [if_pos hb, if_neg (by omega)]
      obtain ⟨M3, q3, hf3, h3⟩ := cx_addGrouped (sc := sc) (d := d) (c := ops.length) h2 (by omega) (by omega)
      by_cases hc : C (aCol C p).2 = 44
      · rw [if_pos hc]
        have hp4 := ends hE h3.1.2.2.1 (by omega)
        have q4 := sp_takeT h3.1 hp4 hc (sc := sc) (d := d) (by omega)
        obtain ⟨F, M5, x5, q5, hf5, hc5⟩ := ih (c + 1) ((aCol C p).2 + 1) _ _ _ (by omega) (by simp; omega) (PZ_adv h3 hp4) (by simp; omega)
        rw [n1] at q5
        refine ⟨F + 1, M5, x5, sg_X4_readGroup_17.trans ?_, fun a ha => ?_, ?_⟩
        · simp (disch := omega) only [true_and, and_true, or_true, true_or, false_or, or_false, false_and, and_false, if_true, if_false, if_pos, if_neg, q_wid, q_cI_s, q_c0_s, q_cL_s, q_cR_s, Int.toNat_natCast, q2, q3, q4, q5]
        · rw [hf5 a ha, q_upf (by omega), hf3 a (by omega), hf2 a ha]
        · rcases hc5 with ⟨b6, rfl, h6⟩ | ⟨b6, rfl, h6⟩
          · refine Or.inl ⟨b6, rfl, ?_⟩
            dsimp only at h6 ⊢
            simpa only [List.map_append, List.map_cons, List.append_assoc, List.cons_append, List.nil_append, List.length_cons, List.range'_succ, List.length_append, List.length_nil] using h6
          · exact Or.inr ⟨b6, rfl, h6⟩
      · rw [if_neg hc]
        have q4 := sp_takeF h3.1 hc (sc := sc) (d := d) (by omega)
        refine ⟨0 + 1, M3, 1, sg_X4_readGroup_17.trans ?_, fun a ha => (hf3 a (by omega)).trans (hf2 a ha), Or.inl ⟨rfl, rfl, by simpa using h3⟩⟩
        simp (disch := omega) only [true_and, and_true, or_true, true_or, false_or, or_false, false_and, and_false, if_true, if_false, if_pos, if_neg, q_wid, q_cI_s, q_c0_s, q_cL_s, q_cR_s, Int.toNat_natCast, q2, q3, q4]
    · rw [if_neg (by rw [hb]; decide)]
      refine ⟨0 + 1, M2, 0, sg_X4_readGroup_17.trans ?_, hf2, Or.inr ⟨rfl, rfl, h2⟩⟩
      simp (disch := omega) only [true_and, and_true, or_true, true_or, false_or, or_false, false_and, and_false, if_true, if_false, if_pos, if_neg, q_wid, q_cI_s, q_c0_s, q_cL_s, q_cR_s, Int.toNat_natCast, q2]
theorem cx_group {sc : List Int} {d : Nat} {M : q_M} {n : Nat} {C P N : Nat → Int} {p : Nat} {L : Int} {ops : List (Nat × Int)} {stp : List (Int × Int × Int)} {prt : List (Nat × Nat × Int × Int)} {its : List (Nat × Int)} {ous : List (Int × Int)} {grs : List Nat} (h : PZ M n C P N p L ops stp prt its ous grs) (hE : TC n C) (hu : ops.length ≤ p) (hg : grs = []) (hd : 3 ≤ d) : ∃ M' x, pq sc d 49 [.inr (.inr 41)] GF M = some (some (.inl x), GF, M') ∧ CQ M M' x n C P N (aGr C p).1 (aGr C p).2.1 (PZ M' n C P N (aGr C p).2.1 L (ops ++ (aGr C p).2.2.map (·, L)) stp prt its ous (List.range' ops.length (aGr C p).2.2.length)) := by
  subst hg
  have hT := h.1
  have hpn := hT.2.2.1
  unfold aGr
  by_cases ha : C p = 265
  · rw [if_pos ha]
    have hp1 := ends hE hpn (by omega)
    have q1 := sp_takeT hT hp1 ha (sc := sc) (d := d - 1) (by omega)
    obtain ⟨F, M5, x5, q5, hf5, hc5⟩ := cx_groupT (sc := sc) (d := d - 1) hE (by omega) 2 1 (p + 1) _ _ [] (by omega) (by simp) (PZ_adv h hp1) (by omega)
    rw [show ((1 : Nat) : Int) = 1 from rfl] at q5
    refine ⟨M5, x5, pq_e (by omega) (by decide) (Nat.le_of_ble_eq_true rfl) ⟨F + 1, sg_X4_readGroup_0.trans ?_⟩, fun a ha => (hf5 a ha).trans (q_upf (by omega)), by simpa using hc5⟩
    simp (disch := omega) only [true_and, and_true, or_true, true_or, false_or, or_false, false_and, and_false, if_true, if_false, if_pos, if_neg, q_wid, q_cI_s, q_c0_s, q_cL_s, q_cR_s, Int.toNat_natCast, q1, q5]
  · rw [if_neg ha]
    have q1 := sp_takeF hT ha (sc := sc) (d := d - 1) (by omega)
    refine ⟨M, 1, pq_e (by omega) (by decide) (Nat.le_of_ble_eq_true rfl) ⟨0 + 1, sg_X4_readGroup_0.trans ?_⟩, fun a ha => rfl, Or.inl ⟨rfl, rfl, by simpa using h⟩⟩
    simp (disch := omega) only [true_and, and_true, or_true, true_or, false_or, or_false, false_and, and_false, if_true, if_false, if_pos, if_neg, q_wid, q_cI_s, q_c0_s, q_cL_s, q_cR_s, Int.toNat_natCast, q1]
