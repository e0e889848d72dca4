theorem aOut_len {C : Nat → Int} {p u : Nat} (h : (aOut C p u).1 = true) : p < (aOut C p u).2.1 ∧ (aOut C p u).2.2.2.length ≤ 1 := by
  unfold aOut at h ⊢
  split
  · simp
  · next h1 =>
    rw [if_neg h1] at h
    split
    · next h2 =>
      rw [if_pos h2] at h
      split
      · next h3 =>
        rw [if_pos h3] at h
        split
        · next h4 =>
          rw [if_pos h4] at h
          have e := aCol_len (C := C) (p := p + 2) (q := (aCol C (p + 2)).2) (Prod.ext h4 rfl)
          split
          · simp; omega
          · next h5 => rw [if_neg h5] at h; cases h
        · next h4 => rw [if_neg h4] at h; cases h
      · next h3 => rw [if_neg h3] at h; cases h
    · next h2 =>
      rw [if_neg h2] at h
      have e := aCol_len (C := C) (p := p) (q := (aCol C p).2) (Prod.ext h rfl)
      simp; omega
theorem aOs_len {C : Nat → Int} : ∀ (k p u : Nat), (aOs C k p u).1 = true → p + (aOs C k p u).2.2.2.length ≤ (aOs C k p u).2.1 ∧ (aOs C k p u).2.2.1.length ≤ k := by
  intro k
  induction k with
  | zero => intro p u _; simp [aOs]
  | succ k ih =>
    intro p u h
    unfold aOs at h ⊢
    split
    · next h1 =>
      rw [if_pos h1] at h
      split
      · next h2 =>
        rw [if_pos h2] at h
        have e1 := aOut_len h2
        have e2 := ih _ _ h
        simp only [List.length_append, List.length_cons]
        omega
      · next h2 => rw [if_neg h2] at h; cases h
    · simp
theorem cx_outsT {sc : List Int} {n : Nat} {C P N : Nat → Int} {L : Int} {stp : List (Int × Int × Int)} {prt : List (Nat × Nat × Int × Int)} {its : List (Nat × Int)} {grs : List Nat} {d : Nat} (hE : TC n C) (hd : 3 ≤ d) : ∀ (k c p : Nat) (M : q_M) (ops : List (Nat × Int)) (ous : List (Int × Int)), c + k = 4 → ous.length ≤ c → PZ M n C P N p L ops stp prt its ous grs → ops.length ≤ p → ∃ F M' x, pr sc (pq sc d) 44 F 11 [some (.inr (.inr 41)), some (.inl (c : Int))] [] M = some (some (.inl x), GF, M') ∧ CQ M M' x n C P N (aOs C k p ops.length).1 (aOs C k p ops.length).2.1 (PZ M' n C P N (aOs C k p ops.length).2.1 L (ops ++ (aOs C k p ops.length).2.2.2.map (·, L)) stp prt its (ous ++ (aOs C k p ops.length).2.2.1.map (fun o => (o.1, o.2.1))) grs) := by
  intro k
  induction k with
  | zero =>
    intro c p M ops ous hc ho h hu
    refine ⟨0 + 1, M, 1, sg_X4_readOuts_11.trans ?_, fun _ _ => rfl, Or.inl ⟨rfl, rfl, by simpa [aOs] using h⟩⟩
    rw [if_neg (by omega)]
  | succ k ih =>
    intro c p M ops ous hc ho h hu
    have hT := h.1
    have hpn := hT.2.2.1
    unfold aOs
    by_cases ha : C p = 44
    · rw [if_pos ha]
      have hp1 := ends hE hpn (by omega)
      have q1 := sp_takeT hT hp1 ha (sc := sc) (d := d) (by omega)
      have h1 := PZ_adv h hp1
      obtain ⟨M2, x2, q2, hf2, hc2⟩ := cx_out (sc := sc) (d := d) h1 hE (by omega) (by omega) (by omega)
      rcases hc2 with ⟨hb, rfl, h2⟩ | ⟨hb, rfl, h2⟩
      · rw [if_pos hb]
        have hl := aOut_len hb
        obtain ⟨F, M3, x3, q3, hf3, hc3⟩ := ih (c + 1) (aOut C (p + 1) ops.length).2.1 M2 _ _ (by omega) (by simp; omega) h2 (by simp; omega)
        rw [n1] at q3
        rw [List.length_append, List.length_map] at hc3
        refine ⟨F + 1, M3, x3, sg_X4_readOuts_11.trans ?_, fun a ha => (hf3 a ha).trans ((hf2 a ha).trans (q_upf (by omega))), ?_⟩
        · simp (disch := omega) only [true_and, and_true, or_true, true_or, false_or, or_false, false_and, and_false, if_true, if_false, if_pos, if_neg, q_wid, q_cI_s, q_c0_s, q_cL_s, q_cR_s, Int.toNat_natCast, q1, q2, q3]
        · rcases hc3 with ⟨b3, rfl, h3⟩ | ⟨b3, rfl, h3⟩
          · refine Or.inl ⟨b3, rfl, ?_⟩
            dsimp only at h3 ⊢
            simpa only [List.map_append, List.map_cons, List.append_assoc, List.cons_append, List.nil_append] using h3
          · exact Or.inr ⟨b3, rfl, h3⟩
      · rw [if_neg (by rw [hb]; decide)]
        refine ⟨0 + 1, M2, 0, sg_X4_readOuts_11.trans ?_, fun a ha => (hf2 a ha).trans (q_upf (by omega)), Or.inr ⟨rfl, rfl, h2⟩⟩
        simp (disch := omega) only [true_and, and_true, or_true, true_or, false_or, or_false, false_and, and_false, if_true, if_false, if_pos, if_neg, q_wid, q_cI_s, q_c0_s, q_cL_s, q_cR_s, Int.toNat_natCast, q1, q2]
    · rw [if_neg ha]
      have q1 := sp_takeF hT ha (sc := sc) (d := d) (by omega)
      refine ⟨0 + 1, M, 1, sg_X4_readOuts_11.trans ?_, fun _ _ => rfl, Or.inl ⟨rfl, rfl, by simpa using h⟩⟩
      simp (disch := omega) only [true_and, and_true, or_true, true_or, false_or, or_false, false_and, and_false, if_true, if_false, if_pos, if_neg, q_wid, q_cI_s, q_c0_s, q_cL_s, q_cR_s, Int.toNat_natCast, q1]
theorem cx_outs {sc : List Int} {d : Nat} {M : q_M} {n : Nat} {C P N : Nat → Int} {p : Nat} {L : Int} {ops : List (Nat × Int)} {stp : List (Int × Int × Int)} {prt : List (Nat × Nat × Int × Int)} {its : List (Nat × Int)} {ous : List (Int × Int)} {grs : List Nat} (h : PZ M n C P N p L ops stp prt its ous grs) (hE : TC n C) (hu : ops.length ≤ p) (ho : ous = []) (hd : 4 ≤ d) : ∃ M' x, pq sc d 44 [.inr (.inr 41)] GF M = some (some (.inl x), GF, M') ∧ CQ M M' x n C P N (aOuts C p ops.length).1 (aOuts C p ops.length).2.1 (PZ M' n C P N (aOuts C p ops.length).2.1 L (ops ++ (aOuts C p ops.length).2.2.2.map (·, L)) stp prt its ((aOuts C p ops.length).2.2.1.map (fun o => (o.1, o.2.1))) grs) := by
  subst ho
  obtain ⟨M2, x2, q2, hf2, hc2⟩ := cx_out (sc := sc) (d := d - 1) h hE (by omega) (by simp) (by omega)
  unfold aOuts
  rcases hc2 with ⟨hb, rfl, h2⟩ | ⟨hb, rfl, h2⟩
  · rw [if_pos hb]
    have hl := aOut_len hb
    obtain ⟨F, M3, x3, q3, hf3, hc3⟩ := cx_outsT (sc := sc) (d := d - 1) hE (by omega) 3 1 (aOut C p ops.length).2.1 M2 _ _ (by omega) (by simp) h2 (by simp; omega)
    rw [List.length_append, List.length_map] at hc3
    rw [show ((1 : Nat) : Int) = 1 from rfl] at q3
    refine ⟨M3, x3, pq_e (by omega) (by decide) (Nat.le_of_ble_eq_true rfl) ⟨F + 1, sg_X4_readOuts_0.trans ?_⟩, fun a ha => (hf3 a ha).trans (hf2 a ha), ?_⟩
    · simp (disch := omega) only [true_and, and_true, or_true, true_or, false_or, or_false, false_and, and_false, if_true, if_false, if_pos, if_neg, q_wid, q_cI_s, q_c0_s, q_cL_s, q_cR_s, Int.toNat_natCast, q2, q3]
    · rcases hc3 with ⟨b3, rfl, h3⟩ | ⟨b3, rfl, h3⟩
      · refine Or.inl ⟨b3, rfl, ?_⟩
        dsimp only at h3 ⊢
        simpa only [List.map_append, List.map_cons, List.append_assoc, List.cons_append, List.nil_append] using h3
      · exact Or.inr ⟨b3, rfl, h3⟩
  · rw [if_neg (by rw [hb]; decide)]
    refine ⟨M2, 0, pq_e (by omega) (by decide) (Nat.le_of_ble_eq_true rfl) ⟨0 + 1, sg_X4_readOuts_0.trans ?_⟩, hf2, Or.inr ⟨rfl, rfl, h2⟩⟩
    simp (disch := omega) only [true_and, and_true, or_true, true_or, false_or, or_false, false_and, and_false, if_true, if_false, if_pos, if_neg, q_wid, q_cI_s, q_c0_s, q_cL_s, q_cR_s, Int.toNat_natCast, q2]
theorem cx_item {sc : List Int} {d : Nat} {M : q_M} {n : Nat} {C P N : Nat → Int} {p : Nat} {L : Int} {ops : List (Nat × Int)} {stp : List (Int × Int × Int)} {prt : List (Nat × Nat × Int × Int)} {its : List (Nat × Int)} {ous : List (Int × Int)} {grs : List Nat} {l : Int} (h : PZ M n C P N p L ops stp prt its ous grs) (hE : TC n C) (ho : its.length < 3) (hl : l = 0 ∨ l = 1) (hd : 2 ≤ d) : ∃ M' x, pq sc d 46 [.inr (.inr 41), .inl l] GF M = some (some (.inl x), GF, M') ∧ CQ M M' x n C P N (aItem C p).1 (aItem C p).2 (PZ M' n C P N (aItem C p).2 L ops stp prt (its ++ [(p, l)]) ous grs) := by
  have hT := h.1
  have hpn := hT.2.2.1
  have hn := hT.2.2.2.1
  have hr := hE.2 _ hpn
  have q1 := sp_nextKind hT (sc := sc) (d := d - 1) (by omega)
  have q2 := sp_nextPlace hT (sc := sc) (d := d - 1) (by omega)
  unfold aItem
  by_cases ha : 84 ≤ C p ∧ C p ≤ 86
  · rw [if_pos ha]
    have hp1 := ends hE hpn (by omega)
    have q3 := sp_advance hT hp1 (sc := sc) (d := d - 1) (by omega)
    have h1 := PZ_adv h hp1
    have q4 := sp_nextKind h1.1 (sc := sc) (d := d - 1) (by omega)
    by_cases hb : 119 ≤ C (p + 1) ∧ C (p + 1) ≤ 122
    · rw [if_pos hb]
      have hp2 := ends hE hp1 (by omega)
      have q5 := sp_nextPlace h1.1 (sc := sc) (d := d - 1) (by omega)
      obtain ⟨M2, q6, hf2, h2⟩ := cx_addItem (sc := sc) (d := d - 1) (t := p) h1 ho hl (by omega)
      have q7 := sp_advance h2.1 hp2 (sc := sc) (d := d - 1) (by omega)
      refine ⟨_, 1, pq_e (by omega) (by decide) (Nat.le_of_ble_eq_true rfl) ⟨0 + 1, sg_X4_readItem_0.trans ?_⟩, fun a ha => ?_, Or.inl ⟨rfl, rfl, PZ_adv h2 hp2⟩⟩
      · simp (disch := omega) only [true_and, and_true, or_true, true_or, false_or, or_false, false_and, and_false, if_true, if_false, if_pos, if_neg, q_wid, q_cI_s, q_c0_s, q_cL_s, q_cR_s, Int.toNat_natCast, q1, q2, q3, q4, sp_isAliasT hb.1 hb.2 (show 1 ≤ d - 1 by omega), q5, q6, q7]
      · rw [q_upf (by omega), hf2 a (by omega), q_upf (by omega)]
    · rw [if_neg hb]
      refine ⟨_, 0, pq_e (by omega) (by decide) (Nat.le_of_ble_eq_true rfl) ⟨0 + 1, sg_X4_readItem_0.trans ?_⟩, fun a ha => ?_, Or.inr ⟨rfl, rfl, h1.1⟩⟩
      · simp (disch := omega) only [true_and, and_true, or_true, true_or, false_or, or_false, false_and, and_false, if_true, if_false, if_pos, if_neg, q_wid, q_cI_s, q_c0_s, q_cL_s, q_cR_s, Int.toNat_natCast, q1, q2, q3, q4, sp_isAliasF (show C (p + 1) < 119 ∨ 122 < C (p + 1) by omega) (show 1 ≤ d - 1 by omega)]
      · rw [q_upf (by omega)]
  · rw [if_neg ha]
    refine ⟨_, 0, pq_e (by omega) (by decide) (Nat.le_of_ble_eq_true rfl) ⟨0 + 1, sg_X4_readItem_0.trans ?_⟩, fun a ha => rfl, Or.inr ⟨rfl, rfl, hT⟩⟩
    simp (disch := omega) only [true_and, and_true, or_true, true_or, false_or, or_false, false_and, and_false, if_true, if_false, if_pos, if_neg, q_wid, q_cI_s, q_c0_s, q_cL_s, q_cR_s, Int.toNat_natCast, q1, q2]
    split
    · rfl
    · first | rfl | rw [if_neg (by omega)]
theorem cx_cond {sc : List Int} {d : Nat} {M : q_M} {n : Nat} {C P N : Nat → Int} {p : Nat} {L : Int} {ops : List (Nat × Int)} {stp : List (Int × Int × Int)} {prt : List (Nat × Nat × Int × Int)} {its : List (Nat × Int)} {ous : List (Int × Int)} {grs : List Nat} (h : PZ M n C P N p L ops stp prt its ous grs) (hE : TC n C) (hu : ops.length ≤ p) (hs : stp.length ≤ p) (hp : prt.length ≤ stp.length) (hd : 24 ≤ d) : ∃ M' x, pq sc d 50 [.inr (.inr 41), .inl 0] GF M = some (some (.inl x), GF, M') ∧ CQ M M' x n C P N (aCo C p ops.length stp.length).1 (aCo C p ops.length stp.length).2.1 (PZ M' n C P N (aCo C p ops.length stp.length).2.1 L (ops ++ (aCo C p ops.length stp.length).2.2.2.1.map (·, L)) (stp ++ (aCo C p ops.length stp.length).2.2.1) (prt ++ pm 0 L (aCo C p ops.length stp.length).2.2.2.2) its ous grs) := by
  have hT := h.1
  obtain ⟨e, -⟩ := aCo_some hE hT.2.2.2.1 (u := ops.length) (s := stp.length) hT.2.2.1
  obtain ⟨M', x, q, hf, hc⟩ := (cx_all (sc := sc) (P := P) (N := N) hE 600).2.2.2.1 0 p d M L ops stp prt its ous grs _ (by omega) e h hu hs hp (by omega)
  exact ⟨M', x, q, hf, hc⟩
theorem aCo_len {C : Nat → Int} {p u s : Nat} (h : (aCo C p u s).1 = true) : p + (aCo C p u s).2.2.2.1.length ≤ (aCo C p u s).2.1 ∧ p + (aCo C p u s).2.2.1.length ≤ (aCo C p u s).2.1 ∧ (aCo C p u s).2.2.2.2.length ≤ (aCo C p u s).2.2.1.length ∧ p < (aCo C p u s).2.1 := by
  rcases e : aC C 600 2 0 p u s with _ | ⟨b, q, st, ot, pt⟩
  · unfold aCo at h; rw [e] at h; cases h
  · have e2 : aCo C p u s = (b, q, st, ot, pt) := by unfold aCo; rw [e]; rfl
    rw [e2] at h ⊢
    dsimp only at h ⊢
    subst h
    have := aC_len _ _ _ _ _ _ _ _ _ _ e
    exact ⟨this.1, this.2.1, this.2.2.1, (this.2.2.2.1 (by omega)).1⟩
theorem PZ_L {M : q_M} {n : Nat} {C P N : Nat → Int} {p : Nat} {L : Int} {ops : List (Nat × Int)} {stp : List (Int × Int × Int)} {prt : List (Nat × Nat × Int × Int)} {its : List (Nat × Int)} {ous : List (Int × Int)} {grs : List Nat} {l : Int} (h : PZ M n C P N p L ops stp prt its ous grs) : PZ (q_up M 41 4 l) n C P N p l ops stp prt its ous grs := by
  obtain ⟨h1, h2, h3, h4, h5, h6, h7, h8⟩ := h
  exact ⟨TK_up h1 (by omega), q_up_s, OA_fr h3 (fun a h1 h2 => q_upf (by omega)), SA_fr h4 (fun a h1 h2 => q_upf (by omega)) (congrFun (q_upf (by decide)) 4), PA_fr h5 (fun a h1 h2 => q_upf (by omega)) (congrFun (q_upf (by decide)) 9), IA_fr h6 (fun a h1 h2 => q_upf (by omega)) (congrFun (q_upf (by decide)) 7), UA_fr h7 (fun a h1 h2 => q_upf (by omega)) (congrFun (q_upf (by decide)) 10), GA_fr h8 (q_upf (by decide)) (congrFun (q_upf (by decide)) 12)⟩
theorem aItem_t {C : Nat → Int} {p : Nat} (h : (aItem C p).1 = true) : (aItem C p).2 = p + 2 := by
  unfold aItem at h ⊢
  repeat' split at h
  all_goals simp_all
