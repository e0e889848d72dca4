/-- a thing is opened -/
theorem c_push {sc : List Int} {d : Nat} {M : q_M} {Z : tZ} {n : Nat} {C P : Nat → Int} {S : Nat → Prop} {p t : Nat} {l : List Int} {c : Int} (hE : TE Z n C P S) (h : MC Z n C P S M p t l) (hc : C p = 272 ∨ C p = 40) (hk : kp (C p) = c) (hl : l.length < 4) (hd : 7 ≤ d) : ∃ M', (∀ F, pr sc (pq sc d) 175 (F + 1) 7 [some (.inr (.inr 49)), some (.inl 1), none] [] M = pr sc (pq sc d) 175 F 7 [some (.inr (.inr 49)), some (.inl 1), none] [] M') ∧ FR M M' ∧ MC Z n C P S M' (p + 1) (p + 1) (c :: l) := by
  have hp := h.1.2.2.2.2.2.2.1
  have e0 := h.1.2.2.1
  obtain ⟨M1, x, q1, hf1, hx⟩ := mx_look (sc := sc) (d := d) hE h.1 (by omega)
  rcases hx with ⟨hs, rfl, h1⟩ | ⟨hs, rfl, h1⟩
  · have e20 : M1 49 20 = l.length := (hf1.2 20 (by omega)).trans h.2.1
    have e61 : M1 61 = M 61 := hf1.1 61 (by omega) (by omega)
    have hp1 := ends (TE_C hE) hp (by omega)
    have ew := MP_w hE h1
    have e16 := h1.2.2.2.1
    have hm := MP_adv h1 hp1
    refine ⟨q_up (q_up (q_up M1 61 l.length c) 49 20 ((l.length : Int) + 1)) 49 16 ((p : Int) + 1), fun F => ?_, ?_, ?_, ?_, ?_, ?_⟩
    · refine sg_X12_readCondition_7.trans ?_
      rw [if_pos e0, if_neg (by decide), q1, q_cI_s, ew, e20, Int.toNat_natCast, hk, q_wid (x := (l.length : Int) + 1) (by omega) (by omega)]
      rcases hc with hc | hc
      · have : c = 213 := by rw [← hk, hc]; decide
        rw [if_pos this, if_neg (by omega), if_pos (by omega)]
      · have : c = 40 := by rw [← hk, hc]; decide
        rw [if_neg (by omega), if_pos this, if_neg (by omega), if_pos (by omega)]
    · exact FR_t (FL_R hf1) (FR_t FR_61 (FR_t (FR_u (by omega)) (FR_u (by omega))))
    · refine MP_fr hm (fun a h1 h2 => ?_) ?_ (fun j h1 h2 => ?_)
      · rw [q_upf (by omega), q_upf (by omega), q_upf (by omega), q_upf (by omega)]
      · rw [q_up_sn (by omega), q_up_sn (by omega), q_up_ne (by omega), q_up_sn (by omega)]
      · by_cases e : j = 16
        · subst e; rw [q_up_s, q_up_s]
        · rw [q_up_sn e, q_up_sn (by omega), q_up_ne (by omega), q_up_sn e]
    · rw [q_up_sn (by omega), q_up_s]; simp
    · refine ⟨?_, SK_fr (M := q_up M1 61 l.length c) ?_ (SK_up (SK_fr e61 h.2.2.1) (Nat.le_refl _))⟩
      · rw [q_up_ne (by decide), q_up_ne (by decide), q_up_s]
      · rw [q_upf (by decide), q_upf (by decide)]
    · simp only [List.length_cons]; omega
  · have := TE_S hE hp hs; omega
theorem c_full {sc : List Int} {d : Nat} {M : q_M} {Z : tZ} {n : Nat} {C P : Nat → Int} {S : Nat → Prop} {p t : Nat} {l : List Int} (hE : TE Z n C P S) (h : MC Z n C P S M p t l) (hc : C p = 272 ∨ C p = 40) (hl : l.length = 4) (hd : 7 ≤ d) : ∃ F M', pr sc (pq sc d) 175 F 7 [some (.inr (.inr 49)), some (.inl 1), none] [] M = some (none, GF, M') ∧ FR M M' ∧ IL M' (P p) := by
  have hp := h.1.2.2.2.2.2.2.1
  have hn := TE_n hE
  have e0 := h.1.2.2.1
  obtain ⟨M1, x, q1, hf1, hx⟩ := mx_look (sc := sc) (d := d) hE h.1 (by omega)
  rcases hx with ⟨hs, rfl, h1⟩ | ⟨hs, rfl, h1⟩
  · obtain ⟨M2, q2, hf2, h2, f16⟩ := mx_wrong2 (sc := sc) (d := d) hE h1 (by omega)
    have e20 : M1 49 20 = 4 := by rw [hf1.2 20 (by omega), h.2.1, hl]; rfl
    have f20 : M2 49 20 = 4 := (hf2.2 20 (by omega)).trans e20
    have hw : q_w (M2 49 16 + 1) = M2 49 16 + 1 := by have := h2.2.2; rw [q_wid (by omega) (by omega)]
    have hI : IL (q_up (q_up (q_up M2 61 4 (kp (C p))) 49 20 5) 49 16 (M2 49 16 + 1)) (P p) := by
      refine ⟨?_, ?_, ?_, ?_⟩
      · rw [q_up_sn (by decide), q_up_sn (by decide), q_up_ne (by decide)]; exact h2.1
      · rw [q_up_sn (by decide), q_up_sn (by decide), q_up_ne (by decide)]; exact h2.2.1
      · rw [q_up_s]; have := h2.2.2; omega
      · rw [q_up_s]; have := h2.2.2; omega
    have hend : pr sc (pq sc d) 175 (0 + 1) 7 [some (.inr (.inr 49)), some (.inl 1), none] [] (q_up (q_up (q_up M2 61 4 (kp (C p))) 49 20 5) 49 16 (M2 49 16 + 1)) = some (none, GF, (q_up (q_up (q_up M2 61 4 (kp (C p))) 49 20 5) 49 16 (M2 49 16 + 1))) := by
      refine sg_X12_readCondition_7.trans ?_
      rw [if_neg (fun e => by have := hI.1; omega)]
    have e5 : q_w (4 + 1) = 5 := by decide
    refine ⟨0 + 1 + 1, _, sg_X12_readCondition_7.trans ?_, FR_t (FL_R hf1) (FR_t (FT_R hf2) (FR_t FR_61 (FR_t (FR_u (j := 20) (v := 5) (by omega)) (FR_u (j := 16) (v := M2 49 16 + 1) (by omega))))), hI⟩
    rw [if_pos e0, if_neg (by decide), q1, q_cI_s, e20]
    rcases hc with hc | hc
    · rw [if_pos (by rw [hc]; decide), if_pos rfl, q2, q_c0_s, f20, if_pos (by decide), hw, e5]
      exact hend
    · rw [if_neg (by rw [hc]; decide), if_pos (by rw [hc]; decide), if_pos rfl, q2, q_c0_s, f20, if_pos (by decide), hw, e5]
      exact hend
  · have := TE_S hE hp hs; omega
theorem T0_s {sc : List Int} {d : Nat} {Z : tZ} {n : Nat} {C P : Nat → Int} {S : Nat → Prop} (hE : TE Z n C P S) (hd : 11 ≤ d) {f : Nat} (i0 : T0 sc d Z n C P S f) (i2 : T2 sc d Z n C P S f) : T0 sc d Z n C P S (f + 1) := by
  intro o p t u s M l r hl hr h
  have hp := h.1.2.2.2.2.2.2.1
  have hn := TE_n hE
  have e0 := h.1.2.2.1
  unfold aC at hr
  rw [if_pos rfl] at hr
  by_cases ha : C p = 272
  · rw [if_pos ha] at hr
    by_cases ho : 4 ≤ o
    · rw [if_pos ho] at hr
      cases hr
      obtain ⟨F, M', hh⟩ := c_full (sc := sc) (d := d) hE h (Or.inl ha) (by have := h.2.2.2; omega) (by omega)
      exact Or.inr ⟨rfl, F, M', hh⟩
    · rw [if_neg ho] at hr
      obtain ⟨M1, q1, hf1, h1⟩ := c_push (sc := sc) (d := d) (c := 213) hE h (Or.inl ha) (by rw [ha]; decide) (by omega) (by omega)
      rcases aBd_s hr with ⟨q, st, ot, pt, e1, rfl⟩ | ⟨q, st, ot, pt, e1, e2⟩
      · rcases i0 (o + 1) (p + 1) (p + 1) u s M1 (213 :: l) _ (by simp [hl]) e1 h1 with ⟨hb, -⟩ | ⟨-, F, M', hq, hf, hI⟩
        · cases hb
        · exact Or.inr ⟨rfl, F + 1, M', (q1 F).trans hq, FR_t hf1 hf, hI⟩
      · cases e2
        rcases i0 (o + 1) (p + 1) (p + 1) u s M1 (213 :: l) _ (by simp [hl]) e1 h1 with ⟨-, k, M', t', hq, hf, hc⟩ | ⟨hb, -⟩
        · refine Or.inl ⟨rfl, k + 1, M', t', fun F => (q1 (F + k)).trans (hq F), FR_t hf1 hf, ?_⟩
          exact hc
        · cases hb
  · rw [if_neg ha] at hr
    by_cases hb : C p = 40
    · rw [if_pos hb] at hr
      by_cases ho : 4 ≤ o
      · rw [if_pos ho] at hr
        cases hr
        obtain ⟨F, M', hh⟩ := c_full (sc := sc) (d := d) hE h (Or.inr hb) (by have := h.2.2.2; omega) (by omega)
        exact Or.inr ⟨rfl, F, M', hh⟩
      · rw [if_neg ho] at hr
        obtain ⟨M1, q1, hf1, h1⟩ := c_push (sc := sc) (d := d) (c := 40) hE h (Or.inr hb) (by rw [hb]; decide) (by omega) (by omega)
        rcases aBd_s hr with ⟨q, st, ot, pt, e1, rfl⟩ | ⟨q, st, ot, pt, e1, e2⟩
        · rcases i2 (o + 1) (p + 1) (p + 1) u s M1 (40 :: l) _ (by simp [hl]) rfl e1 h1 with ⟨hb, -⟩ | ⟨-, F, M', hq, hf, hI⟩
          · cases hb
          · exact Or.inr ⟨rfl, F + 1, M', (q1 F).trans hq, FR_t hf1 hf, hI⟩
        · have hfo := (aC_fol _ _ _ _ _ _ _ _ _ _ e1).2.1 rfl
          rcases i2 (o + 1) (p + 1) (p + 1) u s M1 (40 :: l) _ (by simp [hl]) rfl e1 h1 with ⟨-, k, M2, t2, hq2, hf2, h2⟩ | ⟨hb, -⟩
          · dsimp only at h2
            have e2' := h2.1.2.2.1
            have e20 : M2 49 20 = (l.length : Int) + 1 := by rw [h2.2.1]; simp
            have hpos : 0 < M2 49 20 := by omega
            obtain ⟨M3, x3, q3, hf3, hx3⟩ := mx_take (sc := sc) (d := d) (c := 41) (k := 41) hE h2.1 (by unfold kG kR; omega) (by decide) (by omega)
            have e320 : M3 49 20 = (l.length : Int) + 1 := (hf3.2 20 (by omega)).trans e20
            rcases hx3 with ⟨e, rfl, h3⟩ | ⟨e, rfl, ⟨hs, h3⟩ | ⟨hs, h3⟩⟩
            · rw [if_pos e] at e2
              cases e2
              have hw : q_w (M3 49 20 - 1) = (l.length : Int) := by have := h.2.2.2; rw [q_wid (by omega) (by omega)]; omega
              have hsk : SK (q_up M3 49 20 (l.length : Int)) l := SK_fr (M := M2) ((q_upf (by decide)).trans (hf3.1 61 (by omega) (by omega))) h2.2.2.1.2
              obtain ⟨M4, q4, f1, f2, f3⟩ := mx_close (sc := sc) (d := d) hsk q_up_s (by have := h.2.2.2; omega) (by omega)
              refine Or.inl ⟨rfl, k + 1 + 1, M4, q + 1, fun F => ?_, ?_, ?_, f3, ?_, ?_⟩
              · have := q1 (F + 1 + k)
                rw [show F + (k + 1 + 1) = F + 1 + k + 1 by omega, this, hq2 (F + 1)]
                refine sg_X12_readCondition_89.trans ?_
                rw [if_pos e2', if_pos hpos, q3, q_cI_s, if_neg (by decide), hw, q4, q_c0_s]
              · exact FR_t hf1 (FR_t hf2 (FR_t (FT_R hf3) (FR_t (FR_u (j := 20) (v := (l.length : Int)) (by omega)) ⟨fun a h1 h2 => f1 a h2, fun j h1 h2 => f2 j h2⟩)))
              · refine MP_fr h3 (fun a h1 h2 => ?_) ?_ (fun j h1 h2 => ?_)
                · rw [f1 a (by omega), q_upf (by omega)]
                · rw [f2 9 (by omega), q_up_sn (by omega)]
                · rw [f2 j (by omega), q_up_sn (by omega)]
              · exact SK_clo (SK_fr (f1 61 (by omega)) hsk)
              · have := clo_len (l := l); have := h.2.2.2; omega
            · rw [if_neg e] at e2
              cases e2
              obtain ⟨M4, x4, q4, hf4, hx4⟩ := mx_take (sc := sc) (d := d) (c := 271) (k := 212) hE h3 (by unfold kG kR; omega) (by decide) (by omega)
              rcases hx4 with ⟨e4, -, -⟩ | ⟨e4, rfl, ⟨hs4, h4⟩ | ⟨hs4, -⟩⟩
              · exact absurd e4 hfo.1
              · obtain ⟨M5, x5, q5, hf5, hx5⟩ := mx_take (sc := sc) (d := d) (c := 270) (k := 211) hE h4 (by unfold kG kR; omega) (by decide) (by omega)
                rcases hx5 with ⟨e5, -, -⟩ | ⟨e5, rfl, ⟨hs5, h5⟩ | ⟨hs5, -⟩⟩
                · exact absurd e5 hfo.2
                · obtain ⟨M6, q6, hf6, h6⟩ := mx_wrong (sc := sc) (d := d) hE h5 (by omega)
                  have e520 : 0 < M5 49 20 := by rw [hf5.2 20 (by omega), hf4.2 20 (by omega)]; omega
                  refine Or.inr ⟨rfl, 0 + 1 + 1 + 1 + k + 1, M6, ?_, FR_t hf1 (FR_t hf2 (FR_t (FT_R hf3) (FR_t (FT_R hf4) (FR_t (FT_R hf5) (FT_R hf6))))), h6⟩
                  rw [q1 (0 + 1 + 1 + 1 + k), hq2 (0 + 1 + 1 + 1)]
                  refine sg_X12_readCondition_89.trans ?_
                  rw [if_pos e2', if_pos hpos, q3, q_cI_s, if_pos rfl, if_pos h3.2.2.1, q4, q_cI_s, if_pos rfl, q5, q_cI_s, if_pos rfl]
                  refine sg_X12_readCondition_162.trans ?_
                  rw [if_pos h5.2.2.1, if_pos rfl, if_pos e520, q6, q_c0_s]
                  exact c_ill0 h6
                · exact absurd hs5 hs
              · exact absurd hs4 hs
            · rw [if_neg e] at e2
              cases e2
              refine Or.inr ⟨rfl, 0 + 1 + 1 + 1 + k + 1, M3, ?_, FR_t hf1 (FR_t hf2 (FT_R hf3)), h3.1⟩
              rw [q1 (0 + 1 + 1 + 1 + k), hq2 (0 + 1 + 1 + 1)]
              refine sg_X12_readCondition_89.trans ?_
              rw [if_pos e2', if_pos hpos, q3, q_cI_s, if_pos rfl, if_neg (by have := h3.1.1; omega)]
              exact c_ill162 h3.1
          · cases hb
    · rw [if_neg hb] at hr
      cases hr
      obtain ⟨M1, x, q1, hf1, hx⟩ := mx_look (sc := sc) (d := d) hE h.1 (by omega)
      have e20 : M1 49 20 = l.length := (hf1.2 20 (by omega)).trans h.2.1
      have hsk1 : SK M1 l := SK_fr (hf1.1 61 (by omega) (by omega)) h.2.2.1
      rcases hx with ⟨hs, rfl, h1⟩ | ⟨hs, rfl, h1⟩
      · have j1 := kp_i (TE_R hE hp) (b := 272) (k := 213) (by unfold kG kR; omega) (by decide)
        have j2 := kp_i (TE_R hE hp) (b := 40) (k := 40) (by unfold kG kR; omega) (by decide)
        obtain ⟨M2, q2, hf2, h2⟩ := mx_cmp (sc := sc) (d := d) (u := u) hE h1 (by omega)
        have hsk2 : SK M2 l := SK_fr (hf2.1 61 (by omega) (by omega)) hsk1
        obtain ⟨M3, q3, f1, f2, f3⟩ := mx_close (sc := sc) (d := d) hsk2 ((hf2.2 20 (by omega)).trans e20) (by have := h.2.2.2; omega) (by omega)
        have hq : ∀ F, pr sc (pq sc d) 175 (F + 1) 7 [some (.inr (.inr 49)), some (.inl 1), none] [] M = pr sc (pq sc d) 175 F 89 [some (.inr (.inr 49)), none, none] [] M3 := by
          intro F
          refine sg_X12_readCondition_7.trans ?_
          rw [if_pos e0, if_neg (by decide), q1, q_cI_s, if_neg (fun e => ha (j1.mp e)), if_neg (fun e => hb (j2.mp e)), q2, q_c0_s, q3, q_c0_s]
        have hfr : FR M M3 := FR_t (FL_R hf1) (FR_t (FT_R hf2) ⟨fun a h1 h2 => f1 a h2, fun j h1 h2 => f2 j h2⟩)
        rcases h2 with ⟨hb2, h2⟩ | ⟨hb2, h2⟩
        · refine Or.inl ⟨hb2, 1, M3, _, hq, hfr, MP_fr h2 (fun a h1 h2 => f1 a (by omega)) (f2 9 (by omega)) (fun j h1 h2 => f2 j (by omega)), f3, SK_clo (SK_fr (f1 61 (by omega)) hsk2), ?_⟩
          have := clo_len (l := l); have := h.2.2.2; omega
        · have hI : IL M3 (P (aCmp C p u).2.1) := by
            unfold IL at h2 ⊢
            rw [f2 12 (by omega), f2 13 (by omega), f2 16 (by omega)]
            exact h2
          exact Or.inr ⟨hb2, 0 + 1 + 1 + 1 + 1, M3, (hq _).trans (c_ill89 hI), hfr, hI⟩
      · have e5 := TE_S hE hp hs
        have q2 := mx_cmpI (sc := sc) (d := d) h1 (by omega)
        obtain ⟨M3, q3, f1, f2, f3⟩ := mx_close (sc := sc) (d := d) hsk1 e20 (by have := h.2.2.2; omega) (by omega)
        have hI : IL M3 (P p) := by
          have h2 := h1.1
          unfold IL at h2 ⊢
          rw [f2 12 (by omega), f2 13 (by omega), f2 16 (by omega)]
          exact h2
        have ea : aOpd C p = (false, p) := by unfold aOpd aCol; rw [if_neg (by omega), if_neg (by omega)]
        have ec : aCmp C p u = (false, p, [], []) := by unfold aCmp; rw [ea]
        rw [ec]
        refine Or.inr ⟨rfl, 0 + 1 + 1 + 1 + 1, M3, ?_, FR_t (FL_R hf1) ⟨fun a h1 h2 => f1 a h2, fun j h1 h2 => f2 j h2⟩, hI⟩
        refine sg_X12_readCondition_7.trans ?_
        rw [if_pos e0, if_neg (by decide), q1, q_cI_s, if_neg (by decide), if_neg (by decide), q2, q_c0_s, q3, q_c0_s]
        exact c_ill89 hI
