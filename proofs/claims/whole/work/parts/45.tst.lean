/-! the class reads a condition -/
def CR (M M' : q_M) (x : Int) (n : Nat) (C P N : Nat → Int) (L : Int) (ops : List (Nat × Int)) (stp : List (Int × Int × Int)) (its : List (Nat × Int)) (ous : List (Int × Int)) (grs : List Nat) (r : aRes) (prt' : List (Nat × Nat × Int × Int)) : Prop := (∀ a, a < 11 ∨ 41 < a → M' a = M a) ∧ ((r.1 = true ∧ x = 1 ∧ PZ M' n C P N r.2.1 L (ops ++ r.2.2.2.1.map (·, L)) (stp ++ r.2.2.1) prt' its ous grs) ∨ (r.1 = false ∧ x = 0 ∧ TK M' n C P N r.2.1))
def pm (o : Nat) (L : Int) (pt : List (Nat × Nat)) : List (Nat × Nat × Int × Int) := if o = 0 then pt.map (fun x => (x.1, x.2, L, pW L)) else []
theorem pm_app {o : Nat} {L : Int} {a b : List (Nat × Nat)} : pm o L (a ++ b) = pm o L a ++ pm o L b := by unfold pm; split <;> simp
theorem pm_len {o : Nat} {L : Int} {a : List (Nat × Nat)} : (pm o L a).length ≤ a.length := by unfold pm; split <;> simp
def S54 (sc : List Int) (n : Nat) (C P N : Nat → Int) (f : Nat) : Prop := ∀ (o p d : Nat) (M : q_M) (L : Int) (ops : List (Nat × Int)) (stp : List (Int × Int × Int)) (prt : List (Nat × Nat × Int × Int)) (its : List (Nat × Int)) (ous : List (Int × Int)) (grs : List Nat) (r : aRes), o ≤ 4 → aC C f 0 o p ops.length stp.length = some r → PZ M n C P N p L ops stp prt its ous grs → ops.length ≤ p → stp.length ≤ p → prt.length ≤ stp.length → 21 ≤ d + 4 * o → ∃ M' x, pq sc d 54 [.inr (.inr 41), .inl (o : Int)] GF M = some (some (.inl x), GF, M') ∧ CR M M' x n C P N L ops stp its ous grs r prt
def S52 (sc : List Int) (n : Nat) (C P N : Nat → Int) (f : Nat) : Prop := ∀ (o p d : Nat) (M : q_M) (L : Int) (ops : List (Nat × Int)) (stp : List (Int × Int × Int)) (prt : List (Nat × Nat × Int × Int)) (its : List (Nat × Int)) (ous : List (Int × Int)) (grs : List Nat) (r : aRes), o ≤ 4 → aC C f 0 o p ops.length stp.length = some r → PZ M n C P N p L ops stp prt its ous grs → ops.length ≤ p → stp.length ≤ p → prt.length ≤ stp.length → 22 ≤ d + 4 * o → ∃ M' x, pq sc d 52 [.inr (.inr 41), .inl (o : Int)] GF M = some (some (.inl x), GF, M') ∧ CR M M' x n C P N L ops stp its ous grs r (prt ++ pm o L r.2.2.2.2)
def S51 (sc : List Int) (n : Nat) (C P N : Nat → Int) (f : Nat) : Prop := ∀ (o p d : Nat) (M : q_M) (L : Int) (ops : List (Nat × Int)) (stp : List (Int × Int × Int)) (prt : List (Nat × Nat × Int × Int)) (its : List (Nat × Int)) (ous : List (Int × Int)) (grs : List Nat) (r : aRes), o ≤ 4 → aC C f 1 o p ops.length stp.length = some r → PZ M n C P N p L ops stp prt its ous grs → ops.length ≤ p → stp.length ≤ p → prt.length ≤ stp.length → 23 ≤ d + 4 * o → ∃ M' x, pq sc d 51 [.inr (.inr 41), .inl (o : Int)] GF M = some (some (.inl x), GF, M') ∧ CR M M' x n C P N L ops stp its ous grs r (prt ++ pm o L r.2.2.2.2)
def S50 (sc : List Int) (n : Nat) (C P N : Nat → Int) (f : Nat) : Prop := ∀ (o p d : Nat) (M : q_M) (L : Int) (ops : List (Nat × Int)) (stp : List (Int × Int × Int)) (prt : List (Nat × Nat × Int × Int)) (its : List (Nat × Int)) (ous : List (Int × Int)) (grs : List Nat) (r : aRes), o ≤ 4 → aC C f 2 o p ops.length stp.length = some r → PZ M n C P N p L ops stp prt its ous grs → ops.length ≤ p → stp.length ≤ p → prt.length ≤ stp.length → 24 ≤ d + 4 * o → ∃ M' x, pq sc d 50 [.inr (.inr 41), .inl (o : Int)] GF M = some (some (.inl x), GF, M') ∧ CR M M' x n C P N L ops stp its ous grs r (prt ++ pm o L r.2.2.2.2)
def S51t (sc : List Int) (n : Nat) (C P N : Nat → Int) (f : Nat) : Prop := ∀ (o p d c : Nat) (M : q_M) (L : Int) (ops : List (Nat × Int)) (stp : List (Int × Int × Int)) (prt : List (Nat × Nat × Int × Int)) (its : List (Nat × Int)) (ous : List (Int × Int)) (grs : List Nat) (r : aRes), o ≤ 4 → aC C f 3 o p ops.length stp.length = some r → PZ M n C P N p L ops stp prt its ous grs → ops.length ≤ p → stp.length ≤ p → prt.length ≤ stp.length → c ≤ p → 22 ≤ d + 4 * o → ∃ F M' x, pr sc (pq sc d) 51 F 12 [some (.inr (.inr 41)), some (.inl (o : Int)), some (.inl (c : Int))] [] M = some (some (.inl x), GF, M') ∧ CR M M' x n C P N L ops stp its ous grs r (prt ++ pm o L r.2.2.2.2)
def S50t (sc : List Int) (n : Nat) (C P N : Nat → Int) (f : Nat) : Prop := ∀ (o p d c k b : Nat) (M : q_M) (L : Int) (ops : List (Nat × Int)) (stp : List (Int × Int × Int)) (prt : List (Nat × Nat × Int × Int)) (its : List (Nat × Int)) (ous : List (Int × Int)) (grs : List Nat) (r : aRes), o ≤ 4 → aC C f 4 o p ops.length stp.length = some r → PZ M n C P N p L ops stp prt its ous grs → ops.length ≤ p → stp.length ≤ p → prt.length ≤ stp.length → k ≤ prt.length → c ≤ p → 23 ≤ d + 4 * o → ∃ F M' x, pr sc (pq sc d) 50 F 29 [some (.inr (.inr 41)), some (.inl (o : Int)), some (.inl (b : Int)), some (.inl (k : Int)), some (.inl (c : Int))] [] M = some (some (.inl x), GF, M') ∧ CR M M' x n C P N L ops stp its ous grs r (if r.2.1 = p then prt else if o = 0 then prt.take k ++ [(b, stp.length + r.2.2.1.length, L, pW L)] else prt)
theorem n1 {o : Nat} : ((o + 1 : Nat) : Int) = (o : Int) + 1 := by omega
theorem S54_s {sc : List Int} {n : Nat} {C P N : Nat → Int} (hE : TC n C) {f : Nat} (i54 : S54 sc n C P N f) (i50 : S50 sc n C P N f) : S54 sc n C P N (f + 1) := by
  intro o p d M L ops stp prt its ous grs r ho hr h hu hs hpr hd
  have hT := h.1
  have hpn := hT.2.2.1
  have hn := hT.2.2.2.1
  have q1 := sp_nextKind hT (sc := sc) (d := d - 1) (by omega)
  unfold aC at hr
  rw [if_pos rfl] at hr
  by_cases hN : C p = 272
  · rw [if_pos hN] at hr
    by_cases ho4 : 4 ≤ o
    · rw [if_pos ho4] at hr
      cases hr
      refine ⟨M, 0, pq_e (by omega) (by decide) (Nat.le_of_ble_eq_true rfl) ⟨0 + 1, sg_X4_readTest_0.trans ?_⟩, fun _ _ => rfl, Or.inr ⟨rfl, rfl, hT⟩⟩
      simp (disch := omega) only [true_and, and_true, or_true, true_or, false_or, or_false, false_and, and_false, if_true, if_false, if_pos, if_neg, q_wid, q_cI_s, q_c0_s, q_cL_s, q_cR_s, Int.toNat_natCast, q1, hN]
    · rw [if_neg ho4] at hr
      have hp1 := ends hE hpn (by omega)
      have q2 := sp_advance hT hp1 (sc := sc) (d := d - 1) (by omega)
      have h1 := PZ_adv h hp1
      rcases aBd_s hr with ⟨q, st, ot, pt, e1, rfl⟩ | ⟨q, st, ot, pt, e1, e2⟩
      · obtain ⟨M', x, q3, hf, hc⟩ := i54 (o + 1) (p + 1) (d - 1) _ L ops stp prt its ous grs _ (by omega) e1 h1 (by omega) (by omega) (by omega) (by omega)
        rw [n1] at q3
        rcases hc with ⟨hb, -, -⟩ | ⟨-, rfl, hT'⟩
        · cases hb
        · refine ⟨M', 0, pq_e (by omega) (by decide) (Nat.le_of_ble_eq_true rfl) ⟨0 + 1, sg_X4_readTest_0.trans ?_⟩, fun a ha => (hf a ha).trans (q_upf (by omega)), Or.inr ⟨rfl, rfl, hT'⟩⟩
          simp (disch := omega) only [true_and, and_true, or_true, true_or, false_or, or_false, false_and, and_false, if_true, if_false, if_pos, if_neg, q_wid, q_cI_s, q_c0_s, q_cL_s, q_cR_s, Int.toNat_natCast, q1, q2, q3, hN]
      · obtain ⟨M', x, q3, hf, hc⟩ := i54 (o + 1) (p + 1) (d - 1) _ L ops stp prt its ous grs _ (by omega) e1 h1 (by omega) (by omega) (by omega) (by omega)
        rw [n1] at q3
        have hl := aC_len _ _ _ _ _ _ _ _ _ _ e1
        rcases hc with ⟨-, rfl, h3⟩ | ⟨hb, -, -⟩
        · dsimp only at h3
          have hq := h3.1.2.2.1
          obtain ⟨M4, q4, hf4, h4⟩ := cx_add (sc := sc) (d := d - 1) (k := 272) (l := -1) (r := -1) h3 (by simp; omega) (by omega)
          cases e2
          refine ⟨M4, 1, pq_e (by omega) (by decide) (Nat.le_of_ble_eq_true rfl) ⟨0 + 1, sg_X4_readTest_0.trans ?_⟩, fun a ha => (hf4 a (by omega)).trans ((hf a ha).trans (q_upf (by omega))), Or.inl ⟨rfl, rfl, by simpa using h4⟩⟩
          simp (disch := omega) only [true_and, and_true, or_true, true_or, false_or, or_false, false_and, and_false, if_true, if_false, if_pos, if_neg, q_wid, q_cI_s, q_c0_s, q_cL_s, q_cR_s, Int.toNat_natCast, q1, q2, q3, q4, hN]
        · cases hb
  · rw [if_neg hN] at hr
    by_cases hP : C p = 40
    · rw [if_pos hP] at hr
      by_cases ho4 : 4 ≤ o
      · rw [if_pos ho4] at hr
        cases hr
        refine ⟨M, 0, pq_e (by omega) (by decide) (Nat.le_of_ble_eq_true rfl) ⟨0 + 1, sg_X4_readTest_0.trans ?_⟩, fun _ _ => rfl, Or.inr ⟨rfl, rfl, hT⟩⟩
        simp (disch := omega) only [true_and, and_true, or_true, true_or, false_or, or_false, false_and, and_false, if_true, if_false, if_pos, if_neg, q_wid, q_cI_s, q_c0_s, q_cL_s, q_cR_s, Int.toNat_natCast, q1, hP]
      · rw [if_neg ho4] at hr
        have hp1 := ends hE hpn (by omega)
        have q2 := sp_advance hT hp1 (sc := sc) (d := d - 1) (by omega)
        have h1 := PZ_adv h hp1
        have hpl : pm (o + 1) L = fun _ => [] := by funext x; simp [pm]
        have hz : prt ++ [] = prt := by simp
        rcases aBd_s hr with ⟨q, st, ot, pt, e1, rfl⟩ | ⟨q, st, ot, pt, e1, e2⟩
        · obtain ⟨M', x, q3, hf, hc⟩ := i50 (o + 1) (p + 1) (d - 1) _ L ops stp prt its ous grs _ (by omega) e1 h1 (by omega) (by omega) (by omega) (by omega)
          rw [n1] at q3
          rcases hc with ⟨hb, -, -⟩ | ⟨-, rfl, hT'⟩
          · cases hb
          · refine ⟨M', 0, pq_e (by omega) (by decide) (Nat.le_of_ble_eq_true rfl) ⟨0 + 1, sg_X4_readTest_0.trans ?_⟩, fun a ha => (hf a ha).trans (q_upf (by omega)), Or.inr ⟨rfl, rfl, hT'⟩⟩
            simp (disch := omega) only [true_and, and_true, or_true, true_or, false_or, or_false, false_and, and_false, if_true, if_false, if_pos, if_neg, q_wid, q_cI_s, q_c0_s, q_cL_s, q_cR_s, Int.toNat_natCast, q1, q2, q3, hP]
        · obtain ⟨M', x, q3, hf, hc⟩ := i50 (o + 1) (p + 1) (d - 1) _ L ops stp prt its ous grs _ (by omega) e1 h1 (by omega) (by omega) (by omega) (by omega)
          rw [n1] at q3
          rcases hc with ⟨-, rfl, h3⟩ | ⟨hb, -, -⟩
          · dsimp only at h3
            rw [hpl, hz] at h3
            have hq := h3.1.2.2.1
            by_cases hr9 : C q = 41
            · rw [if_pos hr9] at e2
              cases e2
              have hp2 := ends hE hq (by omega)
              have q4 := sp_takeT h3.1 hp2 hr9 (sc := sc) (d := d - 1) (by omega)
              refine ⟨_, 1, pq_e (by omega) (by decide) (Nat.le_of_ble_eq_true rfl) ⟨0 + 1, sg_X4_readTest_0.trans ?_⟩, (by intro a ha; rw [q_upf (by omega), hf a ha, q_upf (by omega)]), Or.inl ⟨rfl, rfl, PZ_adv h3 hp2⟩⟩
              simp (disch := omega) only [true_and, and_true, or_true, true_or, false_or, or_false, false_and, and_false, if_true, if_false, if_pos, if_neg, q_wid, q_cI_s, q_c0_s, q_cL_s, q_cR_s, Int.toNat_natCast, q1, q2, q3, q4, hP]
            · rw [if_neg hr9] at e2
              cases e2
              have q4 := sp_takeF h3.1 hr9 (sc := sc) (d := d - 1) (by omega)
              refine ⟨_, 0, pq_e (by omega) (by decide) (Nat.le_of_ble_eq_true rfl) ⟨0 + 1, sg_X4_readTest_0.trans ?_⟩, fun a ha => (hf a ha).trans (q_upf (by omega)), Or.inr ⟨rfl, rfl, h3.1⟩⟩
              simp (disch := omega) only [true_and, and_true, or_true, true_or, false_or, or_false, false_and, and_false, if_true, if_false, if_pos, if_neg, q_wid, q_cI_s, q_c0_s, q_cL_s, q_cR_s, Int.toNat_natCast, q1, q2, q3, q4, hP]
          · cases hb
    · rw [if_neg hP] at hr
      obtain ⟨M', x, q2, hf, hc⟩ := cx_cmp (sc := sc) (d := d - 1) h hE hu hs (by omega)
      cases hr
      rcases hc with ⟨e1, rfl, h3, -, -⟩ | ⟨e1, rfl, h3⟩
      · refine ⟨M', 1, pq_e (by omega) (by decide) (Nat.le_of_ble_eq_true rfl) ⟨0 + 1, sg_X4_readTest_0.trans ?_⟩, hf, Or.inl ⟨e1, rfl, h3⟩⟩
        simp (disch := omega) only [true_and, and_true, or_true, true_or, false_or, or_false, false_and, and_false, if_true, if_false, if_pos, if_neg, q_wid, q_cI_s, q_c0_s, q_cL_s, q_cR_s, Int.toNat_natCast, q1, q2, hN, hP]
      · refine ⟨M', 0, pq_e (by omega) (by decide) (Nat.le_of_ble_eq_true rfl) ⟨0 + 1, sg_X4_readTest_0.trans ?_⟩, hf, Or.inr ⟨e1, rfl, h3⟩⟩
        simp (disch := omega) only [true_and, and_true, or_true, true_or, false_or, or_false, false_and, and_false, if_true, if_false, if_pos, if_neg, q_wid, q_cI_s, q_c0_s, q_cL_s, q_cR_s, Int.toNat_natCast, q1, q2, hN, hP]
theorem S52_s {sc : List Int} {n : Nat} {C P N : Nat → Int} {f : Nat} (i54 : S54 sc n C P N f) : S52 sc n C P N f := by
  intro o p d M L ops stp prt its ous grs r ho hr h hu hs hpr hd
  have q1 := sp_scount (sc := sc) (d := d - 1) (M := M) (by omega)
  rw [h.2.2.2.1.1] at q1
  obtain ⟨M', x, q2, hf, hc⟩ := i54 o p (d - 1) M L ops stp prt its ous grs r ho hr h hu hs hpr (by omega)
  rcases hc with ⟨hb, rfl, h3⟩ | ⟨hb, rfl, h3⟩
  · obtain ⟨b, q, st, ot, pt⟩ := r
    dsimp only at hb h3
    subst hb
    have hl := aC_len _ _ _ _ _ _ _ _ _ _ hr
    have hpt := hl.2.2.2.2.1 rfl
    subst hpt
    have q3 := sp_partCount (sc := sc) (d := d - 1) (M := M') (by omega)
    rw [h3.2.2.2.2.1.1] at q3
    have hq := h3.1.2.2
    by_cases h0 : o = 0
    · subst h0
      obtain ⟨M4, q4, hf4, h4⟩ := cx_note (sc := sc) (d := d - 1) (b := stp.length) h3 (Nat.le_refl _) (by omega) (by omega)
      refine ⟨M4, 1, pq_e (by omega) (by decide) (Nat.le_of_ble_eq_true rfl) ⟨0 + 1, sg_X4_readPart_0.trans ?_⟩, fun a ha => (hf4 a (by omega)).trans (hf a ha), Or.inl ⟨rfl, rfl, ?_⟩⟩
      · rw [Int.natCast_zero] at q2 ⊢
        simp (disch := omega) only [true_and, and_true, or_true, true_or, false_or, or_false, false_and, and_false, if_true, if_false, if_pos, if_neg, q_wid, q_cI_s, q_c0_s, q_cL_s, q_cR_s, Int.toNat_natCast, q1, q2, q3, q4]
      · simpa [pm] using h4
    · refine ⟨M', 1, pq_e (by omega) (by decide) (Nat.le_of_ble_eq_true rfl) ⟨0 + 1, sg_X4_readPart_0.trans ?_⟩, hf, Or.inl ⟨rfl, rfl, ?_⟩⟩
      · simp (disch := omega) only [true_and, and_true, or_true, true_or, false_or, or_false, false_and, and_false, if_true, if_false, if_pos, if_neg, q_wid, q_cI_s, q_c0_s, q_cL_s, q_cR_s, Int.toNat_natCast, q1, q2, q3, cx_note1 (show ¬ (o : Int) = 0 by omega) (show 2 ≤ d - 1 by omega)]
      · simpa [pm, h0] using h3
  · refine ⟨M', 0, pq_e (by omega) (by decide) (Nat.le_of_ble_eq_true rfl) ⟨0 + 1, sg_X4_readPart_0.trans ?_⟩, hf, Or.inr ⟨hb, rfl, h3⟩⟩
    simp (disch := omega) only [true_and, and_true, or_true, true_or, false_or, or_false, false_and, and_false, if_true, if_false, if_pos, if_neg, q_wid, q_cI_s, q_c0_s, q_cL_s, q_cR_s, Int.toNat_natCast, q1, q2]
theorem S51t_s {sc : List Int} {n : Nat} {C P N : Nat → Int} (hE : TC n C) {f : Nat} (i52 : S52 sc n C P N f) (it : S51t sc n C P N f) : S51t sc n C P N (f + 1) := by
  intro o p d c M L ops stp prt its ous grs r ho hr h hu hs hpr hcp hd
  have hT := h.1
  have hpn := hT.2.2.1
  have hn := hT.2.2.2.1
  have q1 := sp_nextKind hT (sc := sc) (d := d) (by omega)
  unfold aC at hr
  rw [if_neg (by decide), if_neg (by decide), if_neg (by decide), if_pos rfl] at hr
  by_cases hA : C p = 271
  · rw [if_pos hA] at hr
    have hp1 := ends hE hpn (by omega)
    have q2 := sp_advance hT hp1 (sc := sc) (d := d) (by omega)
    have h1 := PZ_adv h hp1
    rcases aBd_s hr with ⟨q, st, ot, pt, e1, rfl⟩ | ⟨q, st, ot, pt, e1, e2⟩
    · obtain ⟨M', x, q3, hf, hc⟩ := i52 o (p + 1) d _ L ops stp prt its ous grs _ ho e1 h1 (by omega) (by omega) hpr (by omega)
      rcases hc with ⟨hb, -, -⟩ | ⟨-, rfl, hT'⟩
      · cases hb
      · refine ⟨0 + 1, M', 0, sg_X4_readConjunction_12.trans ?_, fun a ha => (hf a ha).trans (q_upf (by omega)), Or.inr ⟨rfl, rfl, hT'⟩⟩
        simp (disch := omega) only [true_and, and_true, or_true, true_or, false_or, or_false, false_and, and_false, if_true, if_false, if_pos, if_neg, q_wid, q_cI_s, q_c0_s, q_cL_s, q_cR_s, Int.toNat_natCast, q1, q2, q3, hA]
    · obtain ⟨M', x, q3, hf, hc⟩ := i52 o (p + 1) d _ L ops stp prt its ous grs _ ho e1 h1 (by omega) (by omega) hpr (by omega)
      have hl := aC_len _ _ _ _ _ _ _ _ _ _ e1
      rcases hc with ⟨-, rfl, h3⟩ | ⟨hb, -, -⟩
      · dsimp only at h3
        have hq := h3.1.2.2.1
        obtain ⟨M4, q4, hf4, h4⟩ := cx_add (sc := sc) (d := d) (k := 271) (l := -1) (r := -1) h3 (by simp; omega) (by omega)
        have hpm := pm_len (o := o) (L := L) (a := pt)
        have e3 : aBd (aC C f 3 o q (ops ++ ot.map (·, L)).length (stp ++ st ++ [(271, -1, -1)]).length) (fun q' st' ot' pt' => some (true, q', st ++ (271, -1, -1) :: st', ot ++ ot', pt ++ pt')) = some r := by
          simpa [Nat.add_assoc] using e2
        rcases aBd_s e3 with ⟨q5, st5, ot5, pt5, e5, rfl⟩ | ⟨q5, st5, ot5, pt5, e5, e6⟩
        · obtain ⟨F, M6, x6, q6, hf6, hc6⟩ := it o q d (c + 1) M4 L _ _ _ its ous grs _ ho e5 h4 (by simp; omega) (by simp; omega) (by simp; omega) (by omega) (by omega)
          rcases hc6 with ⟨hb, -, -⟩ | ⟨-, rfl, hT'⟩
          · cases hb
          · refine ⟨F + 1, M6, 0, sg_X4_readConjunction_12.trans ?_, fun a ha => (hf6 a ha).trans ((hf4 a (by omega)).trans ((hf a ha).trans (q_upf (by omega)))), Or.inr ⟨rfl, rfl, hT'⟩⟩
            rw [n1] at q6
            simp (disch := omega) only [true_and, and_true, or_true, true_or, false_or, or_false, false_and, and_false, if_true, if_false, if_pos, if_neg, q_wid, q_cI_s, q_c0_s, q_cL_s, q_cR_s, Int.toNat_natCast, q1, q2, q3, q4, q6, hA]
        · obtain ⟨F, M6, x6, q6, hf6, hc6⟩ := it o q d (c + 1) M4 L _ _ _ its ous grs _ ho e5 h4 (by simp; omega) (by simp; omega) (by simp; omega) (by omega) (by omega)
          rcases hc6 with ⟨-, rfl, h6⟩ | ⟨hb, -, -⟩
          · cases e6
            refine ⟨F + 1, M6, 1, sg_X4_readConjunction_12.trans ?_, fun a ha => (hf6 a ha).trans ((hf4 a (by omega)).trans ((hf a ha).trans (q_upf (by omega)))), Or.inl ⟨rfl, rfl, ?_⟩⟩
            · rw [n1] at q6
              simp (disch := omega) only [true_and, and_true, or_true, true_or, false_or, or_false, false_and, and_false, if_true, if_false, if_pos, if_neg, q_wid, q_cI_s, q_c0_s, q_cL_s, q_cR_s, Int.toNat_natCast, q1, q2, q3, q4, q6, hA]
            · simpa [pm_app] using h6
          · cases hb
      · cases hb
  · rw [if_neg hA] at hr
    cases hr
    refine ⟨0 + 1, M, 1, sg_X4_readConjunction_12.trans ?_, fun _ _ => rfl, Or.inl ⟨rfl, rfl, by simpa [pm] using h⟩⟩
    simp (disch := omega) only [true_and, and_true, or_true, true_or, false_or, or_false, false_and, and_false, if_true, if_false, if_pos, if_neg, q_wid, q_cI_s, q_c0_s, q_cL_s, q_cR_s, Int.toNat_natCast, q1, hA, ite_self]
theorem S51_s {sc : List Int} {n : Nat} {C P N : Nat → Int} {f : Nat} (i52 : S52 sc n C P N f) (it : S51t sc n C P N f) : S51 sc n C P N (f + 1) := by
  intro o p d M L ops stp prt its ous grs r ho hr h hu hs hpr hd
  unfold aC at hr
  rw [if_neg (by decide), if_pos rfl] at hr
  rcases aBd_s hr with ⟨q, st, ot, pt, e1, rfl⟩ | ⟨q, st, ot, pt, e1, e2⟩
  · obtain ⟨M', x, q3, hf, hc⟩ := i52 o p (d - 1) _ L ops stp prt its ous grs _ ho e1 h (by omega) (by omega) hpr (by omega)
    rcases hc with ⟨hb, -, -⟩ | ⟨-, rfl, hT'⟩
    · cases hb
    · refine ⟨M', 0, pq_e (by omega) (by decide) (Nat.le_of_ble_eq_true rfl) ⟨0 + 1, sg_X4_readConjunction_0.trans ?_⟩, hf, Or.inr ⟨rfl, rfl, hT'⟩⟩
      simp (disch := omega) only [true_and, and_true, or_true, true_or, false_or, or_false, false_and, and_false, if_true, if_false, if_pos, if_neg, q_wid, q_cI_s, q_c0_s, q_cL_s, q_cR_s, Int.toNat_natCast, q3]
  · obtain ⟨M', x, q3, hf, hc⟩ := i52 o p (d - 1) _ L ops stp prt its ous grs _ ho e1 h (by omega) (by omega) hpr (by omega)
    have hl := aC_len _ _ _ _ _ _ _ _ _ _ e1
    have hpm := pm_len (o := o) (L := L) (a := pt)
    rcases hc with ⟨-, rfl, h3⟩ | ⟨hb, -, -⟩
    · dsimp only at h3
      have e3 : aBd (aC C f 3 o q (ops ++ ot.map (·, L)).length (stp ++ st).length) (fun q' st' ot' pt' => some (true, q', st ++ st', ot ++ ot', pt ++ pt')) = some r := by
        simpa using e2
      rcases aBd_s e3 with ⟨q5, st5, ot5, pt5, e5, rfl⟩ | ⟨q5, st5, ot5, pt5, e5, e6⟩
      · obtain ⟨F, M6, x6, q6, hf6, hc6⟩ := it o q (d - 1) 0 M' L _ _ _ its ous grs _ ho e5 h3 (by simp; omega) (by simp; omega) (by simp; omega) (by omega) (by omega)
        rcases hc6 with ⟨hb, -, -⟩ | ⟨-, rfl, hT'⟩
        · cases hb
        · refine ⟨M6, 0, pq_e (by omega) (by decide) (Nat.le_of_ble_eq_true rfl) ⟨F + 1, sg_X4_readConjunction_0.trans ?_⟩, fun a ha => (hf6 a ha).trans (hf a ha), Or.inr ⟨rfl, rfl, hT'⟩⟩
          rw [Int.natCast_zero] at q6
          simp (disch := omega) only [true_and, and_true, or_true, true_or, false_or, or_false, false_and, and_false, if_true, if_false, if_pos, if_neg, q_wid, q_cI_s, q_c0_s, q_cL_s, q_cR_s, Int.toNat_natCast, q3, q6]
      · obtain ⟨F, M6, x6, q6, hf6, hc6⟩ := it o q (d - 1) 0 M' L _ _ _ its ous grs _ ho e5 h3 (by simp; omega) (by simp; omega) (by simp; omega) (by omega) (by omega)
        rcases hc6 with ⟨-, rfl, h6⟩ | ⟨hb, -, -⟩
        · cases e6
          refine ⟨M6, 1, pq_e (by omega) (by decide) (Nat.le_of_ble_eq_true rfl) ⟨F + 1, sg_X4_readConjunction_0.trans ?_⟩, fun a ha => (hf6 a ha).trans (hf a ha), Or.inl ⟨rfl, rfl, ?_⟩⟩
          · rw [Int.natCast_zero] at q6
            simp (disch := omega) only [true_and, and_true, or_true, true_or, false_or, or_false, false_and, and_false, if_true, if_false, if_pos, if_neg, q_wid, q_cI_s, q_c0_s, q_cL_s, q_cR_s, Int.toNat_natCast, q3, q6]
          · simpa [pm_app] using h6
        · cases hb
    · cases hb
theorem S50t_s {sc : List Int} {n : Nat} {C P N : Nat → Int} (hE : TC n C) {f : Nat} (i51 : S51 sc n C P N f) (it : S50t sc n C P N f) : S50t sc n C P N (f + 1) := by
  intro o p d c k b M L ops stp prt its ous grs r ho hr h hu hs hpr hk hcp hd
  have hT := h.1
  have hpn := hT.2.2.1
  have hn := hT.2.2.2.1
  have q1 := sp_nextKind hT (sc := sc) (d := d) (by omega)
  unfold aC at hr
  rw [if_neg (by decide), if_neg (by decide), if_neg (by decide), if_neg (by decide)] at hr
  by_cases hA : C p = 270
  · rw [if_pos hA] at hr
    have hp1 := ends hE hpn (by omega)
    have q2 := sp_advance hT hp1 (sc := sc) (d := d) (by omega)
    have h1 := PZ_adv h hp1
    rcases aBd_s hr with ⟨q, st, ot, pt, e1, rfl⟩ | ⟨q, st, ot, pt, e1, e2⟩
    · obtain ⟨M', x, q3, hf, hc⟩ := i51 o (p + 1) d _ L ops stp prt its ous grs _ ho e1 h1 (by omega) (by omega) hpr (by omega)
      rcases hc with ⟨hb, -, -⟩ | ⟨-, rfl, hT'⟩
      · cases hb
      · refine ⟨0 + 1, M', 0, sg_X4_readCondition_29.trans ?_, fun a ha => (hf a ha).trans (q_upf (by omega)), Or.inr ⟨rfl, rfl, hT'⟩⟩
        simp (disch := omega) only [true_and, and_true, or_true, true_or, false_or, or_false, false_and, and_false, if_true, if_false, if_pos, if_neg, q_wid, q_cI_s, q_c0_s, q_cL_s, q_cR_s, Int.toNat_natCast, q1, q2, q3, hA]
    · obtain ⟨M', x, q3, hf, hc⟩ := i51 o (p + 1) d _ L ops stp prt its ous grs _ ho e1 h1 (by omega) (by omega) hpr (by omega)
      have hl := aC_len _ _ _ _ _ _ _ _ _ _ e1
      rcases hc with ⟨-, rfl, h3⟩ | ⟨hb, -, -⟩
      · dsimp only at h3
        have hq := h3.1.2.2.1
        obtain ⟨M4, q4, hf4, h4⟩ := cx_add (sc := sc) (d := d) (k := 270) (l := -1) (r := -1) h3 (by simp; omega) (by omega)
        have hpm := pm_len (o := o) (L := L) (a := pt)
        -- the part is noted
        have hnote : ∃ M5, pq sc d 53 [.inr (.inr 41), .inl (o : Int), .inl (k : Int), .inl (b : Int)] GF M4 = some (none, GF, M5) ∧ (∀ a, a < 24 ∨ 31 < a → M5 a = M4 a) ∧ PZ M5 n C P N q L (ops ++ ot.map (·, L)) (stp ++ st ++ [(270, -1, -1)]) (if o = 0 then prt.take k ++ [(b, (stp ++ st ++ [((270 : Int), (-1 : Int), (-1 : Int))]).length, L, pW L)] else prt) its ous grs := by
          by_cases h0 : o = 0
          · subst h0
            obtain ⟨M5, q5, hf5, h5⟩ := cx_note (sc := sc) (d := d) (b := b) (k := k) h4 (by simp; omega) (by omega) (by omega)
            refine ⟨M5, q5, hf5, ?_⟩
            rw [List.take_append_of_le_length hk] at h5
            rw [if_pos rfl]; exact h5
          · refine ⟨M4, cx_note1 (by omega) (by omega), fun _ _ => rfl, ?_⟩
            rw [if_neg h0]
            simpa [pm, h0] using h4
        obtain ⟨M5, q5, hf5, h5⟩ := hnote
        have e3 : aBd (aC C f 4 o q (ops ++ ot.map (·, L)).length (stp ++ st ++ [(270, -1, -1)]).length) (fun q' st' ot' _ => some (true, q', st ++ (270, -1, -1) :: st', ot ++ ot', [])) = some r := by
          simpa [Nat.add_assoc] using e2
        have hlen : (if o = 0 then prt.take k ++ [(b, (stp ++ st ++ [((270 : Int), (-1 : Int), (-1 : Int))]).length, L, pW L)] else prt).length ≤ (stp ++ st ++ [((270 : Int), (-1 : Int), (-1 : Int))]).length := by split <;> (try simp) <;> omega
        have hkl : k ≤ (if o = 0 then prt.take k ++ [(b, (stp ++ st ++ [((270 : Int), (-1 : Int), (-1 : Int))]).length, L, pW L)] else prt).length := by split <;> (try simp) <;> omega
        rcases aBd_s e3 with ⟨q7, st7, ot7, pt7, e7, rfl⟩ | ⟨q7, st7, ot7, pt7, e7, e8⟩
        · obtain ⟨F, M6, x6, q6, hf6, hc6⟩ := it o q d (c + 1) k b M5 L _ _ _ its ous grs _ ho e7 h5 (by simp; omega) (by simp; omega) hlen hkl (by omega) (by omega)
          rcases hc6 with ⟨hb, -, -⟩ | ⟨-, rfl, hT'⟩
          · cases hb
          · refine ⟨F + 1, M6, 0, sg_X4_readCondition_29.trans ?_, fun a ha => (hf6 a ha).trans ((hf5 a (by omega)).trans ((hf4 a (by omega)).trans ((hf a ha).trans (q_upf (by omega))))), Or.inr ⟨rfl, rfl, hT'⟩⟩
            rw [n1] at q6
            simp (disch := omega) only [true_and, and_true, or_true, true_or, false_or, or_false, false_and, and_false, if_true, if_false, if_pos, if_neg, q_wid, q_cI_s, q_c0_s, q_cL_s, q_cR_s, Int.toNat_natCast, q1, q2, q3, q4, q5, q6, hA]
        · obtain ⟨F, M6, x6, q6, hf6, hc6⟩ := it o q d (c + 1) k b M5 L _ _ _ its ous grs _ ho e7 h5 (by simp; omega) (by simp; omega) hlen hkl (by omega) (by omega)
          have hl7 := aC_len _ _ _ _ _ _ _ _ _ _ e7
          rcases hc6 with ⟨-, rfl, h6⟩ | ⟨hb, -, -⟩
          · cases e8
            refine ⟨F + 1, M6, 1, sg_X4_readCondition_29.trans ?_, fun a ha => (hf6 a ha).trans ((hf5 a (by omega)).trans ((hf4 a (by omega)).trans ((hf a ha).trans (q_upf (by omega))))), Or.inl ⟨rfl, rfl, ?_⟩⟩
            · rw [n1] at q6
              simp (disch := omega) only [true_and, and_true, or_true, true_or, false_or, or_false, false_and, and_false, if_true, if_false, if_pos, if_neg, q_wid, q_cI_s, q_c0_s, q_cL_s, q_cR_s, Int.toNat_natCast, q1, q2, q3, q4, q5, q6, hA]
            · dsimp only at h6 ⊢
              rw [if_neg (by omega)]
              by_cases h0 : o = 0
              · rw [if_pos h0]
                rw [if_pos h0, if_pos h0] at h6
                by_cases hq7 : q7 = q
                · rw [if_pos hq7] at h6
                  have h8 := hl7.2.2.2.2.2 (by omega)
                  have h9 : st7 = [] := by rcases h8 with h8 | h8; omega; exact h8.2.1
                  subst h9
                  simpa [Nat.add_assoc] using h6
                · rw [if_neg hq7] at h6
                  rw [List.take_append_of_le_length (by simp; omega), List.take_take] at h6
                  simpa [Nat.add_assoc, Nat.add_comm 1] using h6
              · rw [if_neg h0]
                rw [if_neg h0, if_neg h0] at h6
                simpa using h6
          · cases hb
      · cases hb
  · rw [if_neg hA] at hr
    cases hr
    refine ⟨0 + 1, M, 1, sg_X4_readCondition_29.trans ?_, fun _ _ => rfl, Or.inl ⟨rfl, rfl, by simpa [pm] using h⟩⟩
    simp (disch := omega) only [true_and, and_true, or_true, true_or, false_or, or_false, false_and, and_false, if_true, if_false, if_pos, if_neg, q_wid, q_cI_s, q_c0_s, q_cL_s, q_cR_s, Int.toNat_natCast, q1, hA, ite_self]
theorem S50_s {sc : List Int} {n : Nat} {C P N : Nat → Int} {f : Nat} (i51 : S51 sc n C P N f) (it : S50t sc n C P N f) : S50 sc n C P N (f + 1) := by
  intro o p d M L ops stp prt its ous grs r ho hr h hu hs hpr hd
  have q1 := sp_scount (sc := sc) (d := d - 1) (M := M) (by omega)
  have q2 := sp_partCount (sc := sc) (d := d - 1) (M := M) (by omega)
  rw [h.2.2.2.1.1] at q1
  rw [h.2.2.2.2.1.1] at q2
  unfold aC at hr
  rw [if_neg (by decide), if_neg (by decide), if_pos rfl] at hr
  rcases aBd_s hr with ⟨q, st, ot, pt, e1, rfl⟩ | ⟨q, st, ot, pt, e1, e2⟩
  · obtain ⟨M', x, q3, hf, hc⟩ := i51 o p (d - 1) _ L ops stp prt its ous grs _ ho e1 h (by omega) (by omega) hpr (by omega)
    rcases hc with ⟨hb, -, -⟩ | ⟨-, rfl, hT'⟩
    · cases hb
    · refine ⟨M', 0, pq_e (by omega) (by decide) (Nat.le_of_ble_eq_true rfl) ⟨0 + 1, sg_X4_readCondition_0.trans ?_⟩, hf, Or.inr ⟨rfl, rfl, hT'⟩⟩
      simp (disch := omega) only [true_and, and_true, or_true, true_or, false_or, or_false, false_and, and_false, if_true, if_false, if_pos, if_neg, q_wid, q_cI_s, q_c0_s, q_cL_s, q_cR_s, Int.toNat_natCast, q1, q2, q3]
  · obtain ⟨M', x, q3, hf, hc⟩ := i51 o p (d - 1) _ L ops stp prt its ous grs _ ho e1 h (by omega) (by omega) hpr (by omega)
    have hl := aC_len _ _ _ _ _ _ _ _ _ _ e1
    have hpm := pm_len (o := o) (L := L) (a := pt)
    rcases hc with ⟨-, rfl, h3⟩ | ⟨hb, -, -⟩
    · dsimp only at h3
      have e3 : aBd (aC C f 4 o q (ops ++ ot.map (·, L)).length (stp ++ st).length) (fun q' st' ot' _ => some (true, q', st ++ st', ot ++ ot', if q' = q then pt else [(stp.length, stp.length + (st.length + st'.length))])) = some r := by
        simpa using e2
      rcases aBd_s e3 with ⟨q5, st5, ot5, pt5, e5, rfl⟩ | ⟨q5, st5, ot5, pt5, e5, e6⟩
      · obtain ⟨F, M6, x6, q6, hf6, hc6⟩ := it o q (d - 1) 0 prt.length stp.length M' L _ _ _ its ous grs _ ho e5 h3 (by simp; omega) (by simp; omega) (by simp; omega) (by simp) (by omega) (by omega)
        rcases hc6 with ⟨hb, -, -⟩ | ⟨-, rfl, hT'⟩
        · cases hb
        · refine ⟨M6, 0, pq_e (by omega) (by decide) (Nat.le_of_ble_eq_true rfl) ⟨F + 1, sg_X4_readCondition_0.trans ?_⟩, fun a ha => (hf6 a ha).trans (hf a ha), Or.inr ⟨rfl, rfl, hT'⟩⟩
          rw [Int.natCast_zero] at q6
          simp (disch := omega) only [true_and, and_true, or_true, true_or, false_or, or_false, false_and, and_false, if_true, if_false, if_pos, if_neg, q_wid, q_cI_s, q_c0_s, q_cL_s, q_cR_s, Int.toNat_natCast, q1, q2, q3, q6]
      · obtain ⟨F, M6, x6, q6, hf6, hc6⟩ := it o q (d - 1) 0 prt.length stp.length M' L _ _ _ its ous grs _ ho e5 h3 (by simp; omega) (by simp; omega) (by simp; omega) (by simp) (by omega) (by omega)
        rcases hc6 with ⟨-, rfl, h6⟩ | ⟨hb, -, -⟩
        · cases e6
          refine ⟨M6, 1, pq_e (by omega) (by decide) (Nat.le_of_ble_eq_true rfl) ⟨F + 1, sg_X4_readCondition_0.trans ?_⟩, fun a ha => (hf6 a ha).trans (hf a ha), Or.inl ⟨rfl, rfl, ?_⟩⟩
          · rw [Int.natCast_zero] at q6
            simp (disch := omega) only [true_and, and_true, or_true, true_or, false_or, or_false, false_and, and_false, if_true, if_false, if_pos, if_neg, q_wid, q_cI_s, q_c0_s, q_cL_s, q_cR_s, Int.toNat_natCast, q1, q2, q3, q6]
          · dsimp only at h6 ⊢
            by_cases hq5 : q5 = q
            · rw [if_pos hq5] at h6 ⊢
              simpa using h6
            · rw [if_neg hq5] at h6 ⊢
              by_cases h0 : o = 0
              · rw [if_pos h0] at h6
                rw [List.take_append_of_le_length (Nat.le_refl _), List.take_length] at h6
                simpa [pm, h0, Nat.add_assoc] using h6
              · rw [if_neg h0] at h6
                simpa [pm, h0] using h6
        · cases hb
    · cases hb
theorem cx_all {sc : List Int} {n : Nat} {C P N : Nat → Int} (hE : TC n C) : ∀ f, S54 sc n C P N f ∧ S52 sc n C P N f ∧ S51 sc n C P N f ∧ S50 sc n C P N f ∧ S51t sc n C P N f ∧ S50t sc n C P N f := by
  intro f
  induction f with
  | zero =>
    refine ⟨?_, ?_, ?_, ?_, ?_, ?_⟩
    · intro o p d M L ops stp prt its ous grs r ho hr; cases hr
    · intro o p d M L ops stp prt its ous grs r ho hr; cases hr
    · intro o p d M L ops stp prt its ous grs r ho hr; cases hr
    · intro o p d M L ops stp prt its ous grs r ho hr; cases hr
    · intro o p d c M L ops stp prt its ous grs r ho hr; cases hr
    · intro o p d c k b M L ops stp prt its ous grs r ho hr; cases hr
  | succ f ih =>
    obtain ⟨i54, i52, i51, i50, i51t, i50t⟩ := ih
    have j54 := S54_s hE i54 i50
    exact ⟨j54, S52_s j54, S51_s i52 i51t, S50_s i51 i50t, S51t_s hE i52 i51t, S50t_s hE i51 i50t⟩
