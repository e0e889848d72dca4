/-! the model's parser: comparisons -/
theorem kp_i {a b k : Int} (ha : kR a) (hb : kG b) (hk : kp b = k) : kp a = k ↔ a = b := ⟨fun h => kp_ne ha hb.1 hb.2.1 hb.2.2.1 (h.trans hk.symm), fun h => by rw [h, hk]⟩
theorem mx_operandI {sc : List Int} {d : Nat} {M : q_M} {x : Int} (h : IT M x) (hd : 4 ≤ d) : pq sc d 172 [.inr (.inr 49)] GF M = some (none, GF, M) := by
  obtain ⟨y, q1, hy⟩ := mx_lookI (sc := sc) (d := d - 1) h.1 (by omega)
  have hy := hy h.2
  subst hy
  have q2 := mx_columnI (sc := sc) (d := d - 1) h (by omega)
  refine pq_e (by omega) (by decide) (Nat.le_of_ble_eq_true rfl) ⟨0 + 1, sg_X12_readOperand_0.trans ?_⟩
  rw [q1, q_cI_s, if_neg (by decide), if_neg (by decide), q2, q_c0_s]
theorem mx_operand {sc : List Int} {d : Nat} {M : q_M} {Z : tZ} {n : Nat} {C P : Nat → Int} {S : Nat → Prop} {p t : Nat} (hE : TE Z n C P S) (h : MP Z n C P S M p t) (hd : 9 ≤ d) : ∃ M', pq sc d 172 [.inr (.inr 49)] GF M = some (none, GF, M') ∧ FT M M' ∧ (((aOpd C p).1 = true ∧ MP Z n C P S M' (aOpd C p).2 (aOpd C p).2) ∨ ((aOpd C p).1 = false ∧ IL M' (P (aOpd C p).2))) := by
  obtain ⟨M1, x, q1, hf1, hx⟩ := mx_look (sc := sc) (d := d - 1) hE h (by omega)
  have hp := h.2.2.2.2.2.2.1
  have hr := TE_R hE hp
  unfold aOpd
  rcases hx with ⟨hs, rfl, h1⟩ | ⟨hs, rfl, h1⟩
  · have e1 := kp_i hr (b := 258) (k := 1) (by unfold kG kR; omega) (by decide)
    have e2 := kp_i hr (b := 274) (k := 215) (by unfold kG kR; omega) (by decide)
    by_cases ha : C p = 258 ∨ C p = 274
    · rw [if_pos ha]
      have hp1 := ends (TE_C hE) hp (by omega)
      have ew := MP_w hE h1
      refine ⟨_, pq_e (by omega) (by decide) (Nat.le_of_ble_eq_true rfl) ⟨0 + 1, sg_X12_readOperand_0.trans ?_⟩, FT_t (FL_T hf1) (FT_u (j := 16) (v := (p : Int) + 1) (by omega)), Or.inl ⟨rfl, MP_adv h1 hp1⟩⟩
      rw [q1, q_cI_s, ew]
      rcases ha with ha | ha
      · rw [if_pos (e1.mpr ha)]
      · rw [if_neg (fun e => by have := e1.mp e; omega), if_pos (e2.mpr ha)]
    · rw [if_neg ha]
      obtain ⟨M2, q2, hf2, h2⟩ := mx_column (sc := sc) (d := d - 1) hE h1 (by omega)
      refine ⟨M2, pq_e (by omega) (by decide) (Nat.le_of_ble_eq_true rfl) ⟨0 + 1, sg_X12_readOperand_0.trans ?_⟩, FT_t (FL_T hf1) hf2, h2⟩
      rw [q1, q_cI_s, if_neg (fun e => by have := e1.mp e; omega), if_neg (fun e => by have := e2.mp e; omega), q2, q_c0_s]
  · have e5 := TE_S hE hp hs
    have q2 := mx_columnI (sc := sc) (d := d - 1) h1 (by omega)
    rw [if_neg (by omega)]
    have ea : aCol C p = (false, p) := by unfold aCol; rw [if_neg (by omega)]
    rw [ea]
    refine ⟨M1, pq_e (by omega) (by decide) (Nat.le_of_ble_eq_true rfl) ⟨0 + 1, sg_X12_readOperand_0.trans ?_⟩, FL_T hf1, Or.inr ⟨rfl, h1.1⟩⟩
    rw [q1, q_cI_s, if_neg (by decide), if_neg (by decide), q2, q_c0_s]
theorem mx_cmpI {sc : List Int} {d : Nat} {M : q_M} {x : Int} (h : IT M x) (hd : 5 ≤ d) : pq sc d 173 [.inr (.inr 49)] GF M = some (none, GF, M) := by
  have q2 := mx_operandI (sc := sc) (d := d - 1) h (by omega)
  refine pq_e (by omega) (by decide) (Nat.le_of_ble_eq_true rfl) ⟨0 + 1, sg_X12_readComparison_0.trans ?_⟩
  rw [q2, q_c0_s, if_neg (by have := h.1.1; omega)]
theorem mx_cmp {sc : List Int} {d : Nat} {M : q_M} {Z : tZ} {n : Nat} {C P : Nat → Int} {S : Nat → Prop} {p t : Nat} {u : Nat} (hE : TE Z n C P S) (h : MP Z n C P S M p t) (hd : 10 ≤ d) : ∃ M', pq sc d 173 [.inr (.inr 49)] GF M = some (none, GF, M') ∧ FT M M' ∧ (((aCmp C p u).1 = true ∧ MP Z n C P S M' (aCmp C p u).2.1 (aCmp C p u).2.1) ∨ ((aCmp C p u).1 = false ∧ IL M' (P (aCmp C p u).2.1))) := by
  obtain ⟨M1, q1, hf1, hx⟩ := mx_operand (sc := sc) (d := d - 1) hE h (by omega)
  unfold aCmp
  rcases ho : aOpd C p with ⟨b, q⟩
  rw [ho] at hx
  rcases hx with ⟨hb, h1⟩ | ⟨hb, h1⟩
  · dsimp only at hb h1
    subst hb
    dsimp only
    have e0 := h1.2.2.1
    have hq := h1.2.2.2.2.2.2.1
    have hr := TE_R hE hq
    obtain ⟨M2, x, q2, hf2, hx2⟩ := mx_look (sc := sc) (d := d - 1) hE h1 (by omega)
    rcases hx2 with ⟨hs, rfl, h2⟩ | ⟨hs, rfl, h2⟩
    · have e1 := kp_i hr (b := 273) (k := 214) (by unfold kG kR; omega) (by decide)
      have e2 := kp_i hr (b := 61) (k := 61) (by unfold kG kR; omega) (by decide)
      have e3 := kp_i hr (b := 60) (k := 60) (by unfold kG kR; omega) (by decide)
      have e4 := kp_i hr (b := 62) (k := 62) (by unfold kG kR; omega) (by decide)
      have ew := MP_w hE h2
      by_cases hi : C q = 273
      · rw [if_pos hi]
        have hp1 := ends (TE_C hE) hq (by omega)
        obtain ⟨M3, q3, hf3, h3⟩ := mx_want (sc := sc) (d := d - 1) (c := 274) (k := 215) hE (MP_adv h2 hp1) (by unfold kG kR; omega) (by decide) (by omega)
        have hfr := FT_t hf1 (FT_t (FL_T hf2) (FT_t (FT_u (j := 16) (v := (q : Int) + 1) (by omega)) hf3))
        rcases h3 with ⟨hc, h3⟩ | ⟨hc, h3⟩
        · rw [if_pos hc]
          refine ⟨M3, pq_e (by omega) (by decide) (Nat.le_of_ble_eq_true rfl) ⟨0 + 1, sg_X12_readComparison_0.trans ?_⟩, hfr, Or.inl ⟨rfl, h3⟩⟩
          rw [q1, q_c0_s, if_pos e0, q2, q_cI_s, if_pos (e1.mpr hi), ew, q3, q_c0_s]
        · rw [if_neg hc]
          refine ⟨M3, pq_e (by omega) (by decide) (Nat.le_of_ble_eq_true rfl) ⟨0 + 1, sg_X12_readComparison_0.trans ?_⟩, hfr, Or.inr ⟨rfl, h3⟩⟩
          rw [q1, q_c0_s, if_pos e0, q2, q_cI_s, if_pos (e1.mpr hi), ew, q3, q_c0_s]
      · rw [if_neg hi]
        by_cases hj : C q = 61 ∨ C q = 60 ∨ C q = 62
        · rw [if_pos hj]
          have hp1 := ends (TE_C hE) hq (by omega)
          obtain ⟨M3, q3, hf3, h3⟩ := mx_operand (sc := sc) (d := d - 1) hE (MP_adv h2 hp1) (by omega)
          have hfr := FT_t hf1 (FT_t (FL_T hf2) (FT_t (FT_u (j := 16) (v := (q : Int) + 1) (by omega)) hf3))
          have hq3 : pq sc d 173 [.inr (.inr 49)] GF M = some (none, GF, M3) := by
            refine pq_e (by omega) (by decide) (Nat.le_of_ble_eq_true rfl) ⟨0 + 1, sg_X12_readComparison_0.trans ?_⟩
            rw [q1, q_c0_s, if_pos e0, q2, q_cI_s, if_neg (fun e => hi (e1.mp e)), ew]
            by_cases j1 : C q = 61
            · rw [if_pos (e2.mpr j1), q3, q_c0_s]
            · rw [if_neg (fun e => j1 (e2.mp e))]
              by_cases j2 : C q = 60
              · rw [if_pos (e3.mpr j2), q3, q_c0_s]
              · rw [if_neg (fun e => j2 (e3.mp e)), if_pos (e4.mpr (by omega)), q3, q_c0_s]
          rcases ho2 : aOpd C (q + 1) with ⟨b2, r⟩
          rw [ho2] at h3
          rcases h3 with ⟨hc, h3⟩ | ⟨hc, h3⟩
          · dsimp only at hc h3
            subst hc
            exact ⟨M3, hq3, hfr, Or.inl ⟨rfl, h3⟩⟩
          · dsimp only at hc h3
            subst hc
            exact ⟨M3, hq3, hfr, Or.inr ⟨rfl, h3⟩⟩
        · rw [if_neg hj]
          obtain ⟨M3, q3, hf3, h3⟩ := mx_wrong (sc := sc) (d := d - 1) hE h2 (by omega)
          refine ⟨M3, pq_e (by omega) (by decide) (Nat.le_of_ble_eq_true rfl) ⟨0 + 1, sg_X12_readComparison_0.trans ?_⟩, FT_t hf1 (FT_t (FL_T hf2) hf3), Or.inr ⟨rfl, h3⟩⟩
          rw [q1, q_c0_s, if_pos e0, q2, q_cI_s, if_neg (fun e => hi (e1.mp e)), if_neg (fun e => hj (Or.inl (e2.mp e))), if_neg (fun e => hj (Or.inr (Or.inl (e3.mp e)))), if_neg (fun e => hj (Or.inr (Or.inr (e4.mp e)))), q3, q_c0_s]
    · have e5 := TE_S hE hq hs
      rw [if_neg (by omega), if_neg (by omega)]
      have q3 := mx_wrongI (sc := sc) (d := d - 1) h2.1 (by omega)
      refine ⟨M2, pq_e (by omega) (by decide) (Nat.le_of_ble_eq_true rfl) ⟨0 + 1, sg_X12_readComparison_0.trans ?_⟩, FT_t hf1 (FL_T hf2), Or.inr ⟨rfl, h2.1⟩⟩
      rw [q1, q_c0_s, if_pos e0, q2, q_cI_s, if_neg (by decide), if_neg (by decide), if_neg (by decide), if_neg (by decide), q3, q_c0_s]
  · dsimp only at hb h1
    subst hb
    dsimp only
    refine ⟨M1, pq_e (by omega) (by decide) (Nat.le_of_ble_eq_true rfl) ⟨0 + 1, sg_X12_readComparison_0.trans ?_⟩, hf1, Or.inr ⟨rfl, h1⟩⟩
    rw [q1, q_c0_s, if_neg (by have := h1.1; omega)]
/-! conditions: a stack of what is open -/
def clo : List Int → List Int
  | [] => []
  | x :: l => if x = 213 then clo l else x :: l
def SK (M : q_M) : List Int → Prop
  | [] => True
  | x :: l => M 61 l.length = x ∧ SK M l
theorem SK_fr {M M' : q_M} (hf : M' 61 = M 61) : ∀ {l : List Int}, SK M l → SK M' l
  | [], _ => trivial
  | x :: l, h => ⟨by rw [hf]; exact h.1, SK_fr hf h.2⟩
theorem SK_up {M : q_M} {v : Int} : ∀ {l : List Int} {j : Nat}, SK M l → l.length ≤ j → SK (q_up M 61 j v) l
  | [], _, _, _ => trivial
  | x :: l, j, h, hj => ⟨(q_up_sn (by simp at hj; omega)).trans h.1, SK_up h.2 (by simp at hj; omega)⟩
theorem SK_clo {M : q_M} : ∀ {l : List Int}, SK M l → SK M (clo l)
  | [], _ => trivial
  | x :: l, h => by
    unfold clo
    split
    · exact SK_clo h.2
    · exact h
theorem clo_len : ∀ {l : List Int}, (clo l).length ≤ l.length
  | [] => Nat.le_refl _
  | x :: l => by
    unfold clo
    split
    · have := clo_len (l := l); simp; omega
    · exact Nat.le_refl _
theorem clo_clo : ∀ {l : List Int}, clo (clo l) = clo l
  | [] => rfl
  | x :: l => by
    by_cases h : x = 213
    · simp only [clo, h, if_true]; exact clo_clo
    · simp only [clo, h, if_false]
theorem mx_closeT {sc : List Int} {orc : q_O} : ∀ (l : List Int) (M : q_M), SK M l → M 49 20 = l.length → l.length ≤ 8 → ∃ F M', pr sc orc 174 F 0 [some (.inr (.inr 49))] [] M = some (none, GF, M') ∧ (∀ a, ¬ a = 49 → M' a = M a) ∧ (∀ j, ¬ j = 20 → M' 49 j = M 49 j) ∧ M' 49 20 = (clo l).length := by
  intro l
  induction l with
  | nil =>
    intro M h h20 hl
    refine ⟨0 + 1, M, sg_X12_closeNots_0.trans ?_, fun _ _ => rfl, fun _ _ => rfl, h20⟩
    rw [h20]; rfl
  | cons x l ih =>
    intro M h h20 hl
    simp only [List.length_cons] at h20 hl
    have ew : q_w (M 49 20 - 1) = (l.length : Int) := by rw [q_wid (by omega) (by omega)]; omega
    by_cases hx : x = 213
    · obtain ⟨F, M', q1, f1, f2, f3⟩ := ih (q_up M 49 20 (l.length : Int)) (SK_fr (q_upf (by decide)) h.2) q_up_s (by omega)
      refine ⟨F + 1, M', sg_X12_closeNots_0.trans ?_, fun a ha => (f1 a ha).trans (q_upf ha), fun j hj => (f2 j hj).trans (q_up_sn hj), ?_⟩
      · rw [ew, Int.toNat_natCast, h.1, if_pos (by omega), if_pos (by omega), if_pos hx, q1]
      · rw [f3]; simp only [clo, hx, if_true]
    · refine ⟨0 + 1, M, sg_X12_closeNots_0.trans ?_, fun _ _ => rfl, fun _ _ => rfl, ?_⟩
      · rw [ew, Int.toNat_natCast, h.1, if_pos (by omega), if_pos (by omega), if_neg hx]
      · simp only [clo, hx, if_false, List.length_cons]; omega
theorem mx_close {sc : List Int} {d : Nat} {M : q_M} {l : List Int} (h : SK M l) (h20 : M 49 20 = l.length) (hl : l.length ≤ 8) (hd : 1 ≤ d) : ∃ M', pq sc d 174 [.inr (.inr 49)] GF M = some (none, GF, M') ∧ (∀ a, ¬ a = 49 → M' a = M a) ∧ (∀ j, ¬ j = 20 → M' 49 j = M 49 j) ∧ M' 49 20 = (clo l).length := by
  obtain ⟨F, M', q1, hh⟩ := mx_closeT (sc := sc) (orc := pq sc (d - 1)) l M h h20 hl
  exact ⟨M', pq_e hd (by decide) (Nat.le_of_ble_eq_true rfl) ⟨F, q1⟩, hh⟩
