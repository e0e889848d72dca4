theorem mx_first {sc : List Int} {d : Nat} {M : q_M} {Z : tZ} {n : Nat} {C P : Nat → Int} {S : Nat → Prop} {p t : Nat} (hE : TE Z n C P S) (h : MP Z n C P S M p t) (h26 : M 49 26 = 0) (hd : 9 ≤ d) : ∃ M', pq sc d 176 [.inr (.inr 49), .inl 0] GF M = some (none, GF, M') ∧ FI M M' ∧ M' 49 26 = 1 ∧ (((aItem C p).1 = true ∧ MP Z n C P S M' (p + 2) (p + 2) ∧ MI M' C [(p, 0, 0, 0)]) ∨ ((aItem C p).1 = false ∧ IL M' (P (aItem C p).2))) := by
  obtain ⟨M1, q1, hf1, e26, hj, hc⟩ := mx_head (sc := sc) (d := d - 1) (i := 0) (a1 := 0) hE h h26 (by omega) (Or.inl rfl) (by omega)
  have hq : pq sc d 176 [.inr (.inr 49), .inl 0] GF M = some (none, GF, q_up M1 49 26 1) := by
    refine pq_e (by omega) (by decide) (Nat.le_of_ble_eq_true rfl) ⟨0 + 1 + 2, (q1 (0 + 1)).trans (sg_X12_readItem_114.trans ?_)⟩
    rw [e26]
    rfl
  refine ⟨_, hq, FI_t hf1 (FI_us (by omega)), q_up_s, ?_⟩
  rcases hc with ⟨hb, h1, g1, g2, g3⟩ | ⟨hb, h1⟩
  · refine Or.inl ⟨hb, MP_us h1 (by omega), q_up_s, fun i x hx => ?_⟩
    rcases i with _ | i
    · simp at hx; subst hx
      rw [q_up_ne (by decide), q_up_ne (by decide), q_up_ne (by decide)]
      exact ⟨g1, g2, g3, fun h => absurd h (by omega)⟩
    · simp at hx
  · exact Or.inr ⟨hb, IL_us h1 (by omega)⟩
theorem mx_item {sc : List Int} {d : Nat} {M : q_M} {Z : tZ} {n : Nat} {C P : Nat → Int} {S : Nat → Prop} {p t : Nat} {its : List aIt} {a1 : Int} (u s : Nat) (hE : TE Z n C P S) (h : MP Z n C P S M p t) (hI : MI M C its) (h0 : 0 < its.length) (hi : its.length < 4) (ha : a1 = 0 ∨ a1 = 1) (hd : 13 ≤ d) : ∃ M', pq sc d 176 [.inr (.inr 49), .inl a1] GF M = some (none, GF, M') ∧ FI M M' ∧ M' 49 26 = (its.length : Int) + 1 ∧ (((aItem C p).1 = true ∧ C (p + 2) = 263 ∧ (aCo C (p + 3) u s).1 = true ∧ ((∃ t', MP Z n C P S M' (aCo C (p + 3) u s).2.1 t' ∧ MI M' C (its ++ [(p, a1, p + 3, (aCo C (p + 3) u s).2.1)])) ∨ (S (aCo C (p + 3) u s).2.1 ∧ C (aCo C (p + 3) u s).2.1 = 257 ∧ IL M' (P (aCo C (p + 3) u s).2.1)))) ∨ ((aItem C p).1 = true ∧ C (p + 2) = 263 ∧ (aCo C (p + 3) u s).1 = false ∧ IL M' (P (aCo C (p + 3) u s).2.1)) ∨ ((aItem C p).1 = true ∧ ¬ C (p + 2) = 263 ∧ IL M' (P (p + 2))) ∨ ((aItem C p).1 = false ∧ IL M' (P (aItem C p).2))) := by
  have hn := TE_n hE
  obtain ⟨M1, q1, hf1, e26, hj, hc⟩ := mx_head (sc := sc) (d := d - 1) (i := its.length) (a1 := a1) hE h hI.1 hi ha (by omega)
  have hpos : 0 < M1 49 26 := by omega
  have hb1 : 0 ≤ M1 49 26 ∧ M1 49 26 < ((4 : Nat) : Int) := by omega
  have hw : q_w ((its.length : Int) + 1) = (its.length : Int) + 1 := q_wid (by omega) (by omega)
  rcases hc with ⟨hb, h1, g1, g2, g3⟩ | ⟨hb, h1⟩
  · obtain ⟨M2, q2, hf2, h2⟩ := mx_want (sc := sc) (d := d - 1) (c := 263) (k := 204) hE h1 (by unfold kG kR; omega) (by decide) (by omega)
    have f26 : M2 49 26 = its.length := (hf2.2 26 (by omega)).trans e26
    have hb2 : 0 ≤ M2 49 26 ∧ M2 49 26 < ((4 : Nat) : Int) := by omega
    rcases h2 with ⟨hc2, h2⟩ | ⟨hc2, h2⟩
    · have e216 : M2 49 16 = ((p + 3 : Nat) : Int) := h2.2.2.2.1
      obtain ⟨M3, q3, hf3, h3⟩ := mx_cond (sc := sc) (d := d - 1) u s hE (MP_up (k := 67) (j := its.length) (v := ((p + 3 : Nat) : Int)) h2 (by omega)) (by omega)
      have g26 : M3 49 26 = its.length := by rw [hf3.2 26 (by omega) (by omega), q_up_ne (by decide)]; exact f26
      have hb3 : 0 ≤ M3 49 26 ∧ M3 49 26 < ((4 : Nat) : Int) := by omega
      have hq : pq sc d 176 [.inr (.inr 49), .inl a1] GF M = some (none, GF, q_up (q_up M3 68 its.length (M3 49 16)) 49 26 ((its.length : Int) + 1)) := by
        refine pq_e (by omega) (by decide) (Nat.le_of_ble_eq_true rfl) ⟨0 + 1 + 2, (q1 (0 + 1)).trans (sg_X12_readItem_114.trans ?_)⟩
        rw [if_pos hpos, if_pos h1.2.2.1, q2, q_c0_s, if_pos hb2, if_pos h2.2.2.1, f26, Int.toNat_natCast, e216, q3, q_c0_s, if_pos hb3, g26, Int.toNat_natCast, hw]
      have hfr : FI M (q_up (q_up M3 68 its.length (M3 49 16)) 49 26 ((its.length : Int) + 1)) := FI_t hf1 (FI_t (FT_I hf2) (FI_t (FI_up (k := 67) (j := its.length) (v := ((p + 3 : Nat) : Int)) (by omega)) (FI_t (FR_I hf3) (FI_t (FI_up (by omega)) (FI_us (by omega))))))
      have hc2' : C (p + 2) = 263 := hc2
      rcases h3 with ⟨hb3', h3⟩ | ⟨hb3', h3⟩
      · refine ⟨_, hq, hfr, q_up_s, Or.inl ⟨hb, hc2', hb3', ?_⟩⟩
        rcases h3 with ⟨t3, h3⟩ | ⟨s1, s2, s3⟩
        · refine Or.inl ⟨t3, MP_us (MP_up h3 (by omega)) (by omega), MI_push (M := M) hI (fun i hi a h1 h2 => ?_) ?_ q_up_s⟩
          · rw [q_up_ne (by omega)]
            by_cases e : a = 68
            · subst e
              rw [q_up_sn (by omega), hf3.1 68 (by omega) (by omega), q_up_ne (by omega), hf2.1 68 (by omega) (by omega)]; exact hj i (by omega) 68 (by omega) (by omega)
            · rw [q_up_ne e, hf3.1 a (by omega) (by omega)]
              by_cases e7 : a = 67
              · subst e7
                rw [q_up_sn (by omega), hf2.1 67 (by omega) (by omega)]; exact hj i (by omega) 67 (by omega) (by omega)
              · rw [q_up_ne e7, hf2.1 a (by omega) (by omega)]; exact hj i (by omega) a (by omega) (by omega)
          · have e16 := h3.2.2.2.1
            refine ⟨?_, ?_, ?_, fun _ => ⟨?_, ?_⟩⟩
            · rw [q_up_ne (by decide), q_up_ne (by decide), hf3.1 65 (by omega) (by omega), q_up_ne (by decide), hf2.1 65 (by omega) (by omega)]; exact g1
            · rw [q_up_ne (by decide), q_up_ne (by decide), hf3.1 64 (by omega) (by omega), q_up_ne (by decide), hf2.1 64 (by omega) (by omega)]; exact g2
            · rw [q_up_ne (by decide), q_up_ne (by decide), hf3.1 66 (by omega) (by omega), q_up_ne (by decide), hf2.1 66 (by omega) (by omega)]; exact g3
            · rw [q_up_ne (by decide), q_up_ne (by decide), hf3.1 67 (by omega) (by omega), q_up_s]
            · rw [q_up_ne (by decide), q_up_s]; exact e16
        · exact Or.inr ⟨s1, s2, IL_us (IL_up s3 (by omega)) (by omega)⟩
      · exact ⟨_, hq, hfr, q_up_s, Or.inr (Or.inl ⟨hb, hc2', hb3', IL_us (IL_up h3 (by omega)) (by omega)⟩)⟩
    · refine ⟨q_up (q_up (q_up M2 67 its.length (M2 49 16)) 68 its.length (M2 49 16)) 49 26 ((its.length : Int) + 1), pq_e (by omega) (by decide) (Nat.le_of_ble_eq_true rfl) ⟨0 + 1 + 2, (q1 (0 + 1)).trans (sg_X12_readItem_114.trans ?_)⟩, FI_t hf1 (FI_t (FT_I hf2) (FI_t (FI_up (by omega)) (FI_t (FI_up (by omega)) (FI_us (by omega))))), q_up_s, Or.inr (Or.inr (Or.inl ⟨hb, hc2, IL_us (IL_up (IL_up h2 (by omega)) (by omega)) (by omega)⟩))⟩
      rw [if_pos hpos, if_pos h1.2.2.1, q2, q_c0_s, if_pos hb2, if_neg (by have := h2.1; omega), if_pos hb2, f26, Int.toNat_natCast, hw]
  · refine ⟨q_up (q_up (q_up M1 67 its.length (M1 49 16)) 68 its.length (M1 49 16)) 49 26 ((its.length : Int) + 1), pq_e (by omega) (by decide) (Nat.le_of_ble_eq_true rfl) ⟨0 + 1 + 2, (q1 (0 + 1)).trans (sg_X12_readItem_114.trans ?_)⟩, FI_t hf1 (FI_t (FI_up (by omega)) (FI_t (FI_up (by omega)) (FI_us (by omega)))), q_up_s, Or.inr (Or.inr (Or.inr ⟨hb, IL_us (IL_up (IL_up h1 (by omega)) (by omega)) (by omega)⟩))⟩
    rw [if_pos hpos, if_neg (by have := h1.1; omega), if_pos hb1, if_neg (by have := h1.1; omega), if_pos hb1, e26, Int.toNat_natCast, hw]
/-! the items that are joined -/
theorem j_ill {sc : List Int} {d F : Nat} {M : q_M} {x : Int} (h : IL M x) : pr sc (pq sc d) 178 (F + 1) 37 [some (.inr (.inr 49)), some (.inl 1), none] [] M = pr sc (pq sc d) 178 F 110 [some (.inr (.inr 49)), none, none] [] M := by
  refine sg_X12_readQuery_37.trans ?_
  rw [if_neg (by decide), if_neg (by have := h.1; omega)]
theorem j_off {sc : List Int} {d F : Nat} {M : q_M} : pr sc (pq sc d) 178 (F + 1) 37 [some (.inr (.inr 49)), some (.inl 0), none] [] M = pr sc (pq sc d) 178 F 110 [some (.inr (.inr 49)), none, none] [] M := by
  refine sg_X12_readQuery_37.trans ?_
  rw [if_pos rfl]
theorem mx_joinT {sc : List Int} {d : Nat} {Z : tZ} {n : Nat} {C P : Nat → Int} {S : Nat → Prop} (hE : TE Z n C P S) (hd : 13 ≤ d) : ∀ (k p t u s : Nat) (M : q_M) (its : List aIt), its.length + k = 3 → 0 < its.length → MP Z n C P S M p t → MI M C its → ∃ K M', (∀ F, pr sc (pq sc d) 178 (F + K) 37 [some (.inr (.inr 49)), some (.inl 1), none] [] M = pr sc (pq sc d) 178 F 110 [some (.inr (.inr 49)), none, none] [] M') ∧ FI M M' ∧ (0 ≤ M' 49 26 ∧ M' 49 26 ≤ 3) ∧ (((aJ C k its.length p u s).1 = true ∧ ((∃ t', MP Z n C P S M' (aJ C k its.length p u s).2.1 t' ∧ MI M' C (its ++ (aJ C k its.length p u s).2.2.1)) ∨ (S (aJ C k its.length p u s).2.1 ∧ C (aJ C k its.length p u s).2.1 = 257 ∧ IL M' (P (aJ C k its.length p u s).2.1)))) ∨ ((aJ C k its.length p u s).1 = false ∧ IL M' (P (aJ C k its.length p u s).2.1))) := by
  intro k
  induction k with
  | zero =>
    intro p t u s M its hk h0 h hI
    have h26 := hI.1
    refine ⟨0 + 1, M, fun F => sg_X12_readQuery_37.trans ?_, FI_r, by omega, Or.inl ⟨rfl, Or.inl ⟨t, h, by simpa [aJ] using hI⟩⟩⟩
    rw [if_neg (by decide), if_pos h.2.2.1, if_neg (by omega)]
  | succ k ih =>
    intro p t u s M its hk h0 h hI
    have h26 := hI.1
    have hp := h.2.2.2.2.2.2.1
    have hr := TE_R hE hp
    obtain ⟨M1, x, q1, hf1, hx⟩ := mx_look (sc := sc) (d := d) hE h (by omega)
    have e0 := h.2.2.1
    have e3 : M 49 26 < 3 := by omega
    rcases hx with ⟨hs, rfl, h1⟩ | ⟨hs, rfl, h1⟩
    · have hI1 : MI M1 C its := MI_fr hI (fun a h1 h2 => hf1.1 a (by omega) (by omega)) (hf1.2 26 (by omega))
      have j1 := kp_i hr (b := 262) (k := 203) (by unfold kG kR; omega) (by decide)
      obtain ⟨M2, x2, q2, hf2, hx2⟩ := mx_take (sc := sc) (d := d) (c := 262) (k := 203) hE h1 (by unfold kG kR; omega) (by decide) (by omega)
      have hI2 : MI M2 C its := MI_fr hI1 (fun a h1 h2 => hf2.1 a (by omega) (by omega)) (hf2.2 26 (by omega))
      -- what an item that follows makes of it
      have key : ∀ (N : q_M) (a1 : Int), a1 = 0 ∨ a1 = 1 → (C p = 261 ∨ C p = 262) → (if C p = 262 then (1 : Int) else 0) = a1 → FI M N → MP Z n C P S N (p + 1) (p + 1) → MI N C its → (∃ N', pq sc d 176 [.inr (.inr 49), .inl a1] GF N = some (none, GF, N') ∧ ∃ K M', (∀ F, pr sc (pq sc d) 178 (F + K) 37 [some (.inr (.inr 49)), some (.inl 1), none] [] N' = pr sc (pq sc d) 178 F 110 [some (.inr (.inr 49)), none, none] [] M') ∧ FI M M' ∧ (0 ≤ M' 49 26 ∧ M' 49 26 ≤ 3) ∧ (((aJ C (k + 1) its.length p u s).1 = true ∧ ((∃ t', MP Z n C P S M' (aJ C (k + 1) its.length p u s).2.1 t' ∧ MI M' C (its ++ (aJ C (k + 1) its.length p u s).2.2.1)) ∨ (S (aJ C (k + 1) its.length p u s).2.1 ∧ C (aJ C (k + 1) its.length p u s).2.1 = 257 ∧ IL M' (P (aJ C (k + 1) its.length p u s).2.1)))) ∨ ((aJ C (k + 1) its.length p u s).1 = false ∧ IL M' (P (aJ C (k + 1) its.length p u s).2.1)))) := by
        intro N a1 ha hc hl hN hm hIN
        obtain ⟨N', qN, hfN, eN, hcN⟩ := mx_item (sc := sc) (d := d) (a1 := a1) u s hE hm hIN h0 (by omega) ha (by omega)
        refine ⟨N', qN, ?_⟩
        unfold aJ
        rw [if_pos hc, hl]
        rcases hcN with ⟨b1, b2, b3, hh⟩ | ⟨b1, b2, b3, hh⟩ | ⟨b1, b2, hh⟩ | ⟨b1, hh⟩
        · have b2' : C (p + 3) = 263 := b2
          have b3' : (aCo C (p + 4) u s).1 = true := b3
          rw [if_pos b1, if_pos b2', if_pos b3']
          rcases hh with ⟨t', hm', hI'⟩ | ⟨s1, s2, s3⟩
          · obtain ⟨K, M', hK, hf, hb, hc'⟩ := ih _ t' (u + (aCo C (p + 4) u s).2.2.2.1.length) (s + (aCo C (p + 4) u s).2.2.1.length) N' _ (by simp; omega) (by simp) hm' hI'
            refine ⟨K, M', hK, FI_t hN (FI_t hfN hf), hb, ?_⟩
            rw [List.length_append, List.length_singleton] at hc'
            unfold aJc
            rcases hc' with ⟨c1, c2⟩ | ⟨c1, c2⟩
            · refine Or.inl ⟨c1, ?_⟩
              rcases c2 with ⟨t2, m2, i2⟩ | c2
              · refine Or.inl ⟨t2, m2, ?_⟩
                simpa using i2
              · exact Or.inr c2
            · exact Or.inr ⟨c1, c2⟩
          · refine ⟨0 + 1, N', fun F => j_ill s3, FI_t hN hfN, by omega, Or.inl ?_⟩
            have s1' : S (aCo C (p + 4) u s).2.1 := s1
            have s2' : C (aCo C (p + 4) u s).2.1 = 257 := s2
            have ej : ∀ i2 u2 s2, aJ C k i2 (aCo C (p + 4) u s).2.1 u2 s2 = (true, (aCo C (p + 4) u s).2.1, [], [], [], []) := by
              intro i2 u2 s2
              rcases k with _ | k
              · rfl
              · unfold aJ; rw [if_neg (by omega)]
            unfold aJc
            rw [ej]
            exact ⟨rfl, Or.inr ⟨s1', s2', s3⟩⟩
        · have b2' : C (p + 3) = 263 := b2
          have b3' : (aCo C (p + 4) u s).1 = false := b3
          rw [if_pos b1, if_pos b2', if_neg (by rw [b3']; decide)]
          exact ⟨0 + 1, N', fun F => j_ill hh, FI_t hN hfN, by omega, Or.inr ⟨rfl, hh⟩⟩
        · have b2' : ¬ C (p + 3) = 263 := b2
          rw [if_pos b1, if_neg b2']
          exact ⟨0 + 1, N', fun F => j_ill hh, FI_t hN hfN, by omega, Or.inr ⟨rfl, hh⟩⟩
        · rw [if_neg (by rw [b1]; decide)]
          exact ⟨0 + 1, N', fun F => j_ill hh, FI_t hN hfN, by omega, Or.inr ⟨rfl, hh⟩⟩
      rcases hx2 with ⟨e2, rfl, h2⟩ | ⟨e2, rfl, ⟨hs2, h2⟩ | ⟨hs2, -⟩⟩
      · obtain ⟨N', qN, K, M', hK, hrest⟩ := key M2 1 (Or.inr rfl) (Or.inr e2) (if_pos e2) (FI_t (FT_I (FL_T hf1)) (FT_I hf2)) h2 hI2
        refine ⟨K + 1, M', fun F => ?_, hrest⟩
        rw [← hK F]
        refine sg_X12_readQuery_37.trans ?_
        rw [if_neg (by decide), if_pos e0, if_pos e3, q1, q_cI_s, if_pos (j1.mpr e2), q2, q_cI_s, if_neg (by decide), if_neg (by decide), qN, q_c0_s]
        rfl
      · obtain ⟨M3, x3, q3, hf3, hx3⟩ := mx_take (sc := sc) (d := d) (c := 261) (k := 202) hE h2 (by unfold kG kR; omega) (by decide) (by omega)
        have hI3 : MI M3 C its := MI_fr hI2 (fun a h1 h2 => hf3.1 a (by omega) (by omega)) (hf3.2 26 (by omega))
        have hf13 : FI M M3 := FI_t (FT_I (FL_T hf1)) (FI_t (FT_I hf2) (FT_I hf3))
        rcases hx3 with ⟨e4, rfl, h3⟩ | ⟨e4, rfl, ⟨hs3, h3⟩ | ⟨hs3, -⟩⟩
        · obtain ⟨N', qN, K, M', hK, hrest⟩ := key M3 0 (Or.inl rfl) (Or.inl e4) (if_neg e2) hf13 h3 hI3
          refine ⟨K + 1, M', fun F => ?_, hrest⟩
          rw [← hK F]
          refine sg_X12_readQuery_37.trans ?_
          rw [if_neg (by decide), if_pos e0, if_pos e3, q1, q_cI_s, if_neg (fun e => e2 (j1.mp e)), q2, q_cI_s, if_pos rfl, q3, q_cI_s, if_neg (by decide), if_neg (by decide), qN, q_c0_s]
          rfl
        · have h326 := hI3.1
          refine ⟨0 + 1 + 1, M3, fun F => ?_, hf13, by omega, Or.inl ?_⟩
          · refine Eq.trans (sg_X12_readQuery_37.trans ?_) (j_off (sc := sc) (d := d) (F := F) (M := M3))
            rw [if_neg (by decide), if_pos e0, if_pos e3, q1, q_cI_s, if_neg (fun e => e2 (j1.mp e)), q2, q_cI_s, if_pos rfl, q3, q_cI_s, if_pos rfl, if_pos rfl]
          · unfold aJ
            rw [if_neg (by omega)]
            exact ⟨rfl, Or.inl ⟨_, h3, by simpa using hI3⟩⟩
        · exact absurd hs3 hs
      · exact absurd hs2 hs
    · have e5 := TE_S hE hp hs
      have q2 := mx_takeI (sc := sc) (d := d) (k := 203) h1.1 (by omega)
      have q3 := mx_takeI (sc := sc) (d := d) (k := 202) h1.1 (by omega)
      have h126 : M1 49 26 = its.length := (hf1.2 26 (by omega)).trans h26
      refine ⟨0 + 1 + 1, M1, fun F => ?_, FT_I (FL_T hf1), by omega, Or.inl ?_⟩
      · refine Eq.trans (sg_X12_readQuery_37.trans ?_) (j_off (sc := sc) (d := d) (F := F) (M := M1))
        rw [if_neg (by decide), if_pos e0, if_pos e3, q1, q_cI_s, if_neg (by decide), q2, q_cI_s, if_pos rfl, q3, q_cI_s, if_pos rfl, if_pos rfl]
      · unfold aJ
        rw [if_neg (by omega)]
        exact ⟨rfl, Or.inr ⟨hs, e5, h1.1⟩⟩
