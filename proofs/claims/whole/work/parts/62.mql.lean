def FW (M M' : q_M) : Prop := (∀ a, ¬ (58 ≤ a ∧ a ≤ 61) → ¬ a = 69 → ¬ a = 49 → M' a = M a) ∧ (∀ j, ¬ (12 ≤ j ∧ j ≤ 16) → ¬ j = 20 → ¬ (32 ≤ j ∧ j ≤ 34) → M' 49 j = M 49 j)
theorem FW_t {M M' M'' : q_M} (h : FW M M') (h' : FW M' M'') : FW M M'' := ⟨fun a h1 h2 h3 => (h'.1 a h1 h2 h3).trans (h.1 a h1 h2 h3), fun j h1 h2 h3 => (h'.2 j h1 h2 h3).trans (h.2 j h1 h2 h3)⟩
theorem FR_W {M M' : q_M} (h : FR M M') : FW M M' := ⟨fun a h1 h2 h3 => h.1 a h1 h3, fun j h1 h2 _ => h.2 j h1 h2⟩
theorem FG_W {M M' : q_M} (h : FG M M') : FW M M' := ⟨fun a h1 h2 h3 => h.1 a (by omega) h2 h3, fun j h1 _ h3 => h.2 j h1 (by omega)⟩
theorem FW_Q {M M' : q_M} (h : FW M M') : FQ M M' := ⟨fun a h1 h2 => h.1 a (by omega) (by omega) h2, fun j h1 h2 _ _ h5 => h.2 j h1 h2 h5⟩
theorem FW_us {M : q_M} {j : Nat} {v : Int} (hj : 32 ≤ j ∧ j ≤ 34) : FW M (q_up M 49 j v) := ⟨fun a h1 h2 h3 => q_upf (by omega), fun i h1 h2 h3 => q_up_sn (by omega)⟩
def tq (C : Nat → Int) (w : aRes) (g : Bool × Nat × List Nat) : Bool × Nat := if w.1 = true then (if g.1 = true then (if C g.2.1 = 256 then (true, g.2.1) else (false, g.2.1)) else (false, g.2.1)) else (false, w.2.1)
theorem tail_ill {sc : List Int} {d : Nat} {M : q_M} {x : Int} (h : IL M x) (hd : 1 ≤ d) : ∃ M', pr sc (pq sc d) 178 (0 + 1) 110 [some (.inr (.inr 49)), none, none] [] M = some (none, GF, M') ∧ FW M M' ∧ IL M' x := by
  have h2 : IL (q_up (q_up M 49 32 0) 49 33 0) x := IL_us (IL_us h (by omega)) (by omega)
  have q1 := mx_groupI (sc := sc) (d := d) h2 hd
  have h3 := IL_us (j := 34) (v := 0) h2 (by omega)
  refine ⟨_, sg_X12_readQuery_110.trans ?_, FW_t (FW_us (j := 32) (v := 0) (by omega)) (FW_t (FW_us (j := 33) (v := 0) (by omega)) (FW_us (j := 34) (v := 0) (by omega))), h3⟩
  rw [if_neg (by have := h.1; omega), q1, q_c0_s, if_neg (by have := h3.1; omega)]
theorem aGr_257 {C : Nat → Int} {p : Nat} (h : C p = 257) : aGr C p = (true, p, []) := by unfold aGr; rw [if_neg (by omega)]
theorem mx_tail {sc : List Int} {d : Nat} {M : q_M} {Z : tZ} {n : Nat} {C P : Nat → Int} {S : Nat → Prop} {p t : Nat} (u s : Nat) (hE : TE Z n C P S) (h : MP Z n C P S M p t) (hd : 12 ≤ d) : ∃ M', pr sc (pq sc d) 178 (0 + 1) 110 [some (.inr (.inr 49)), none, none] [] M = some (none, GF, M') ∧ FW M M' ∧ (((tq C (aW C p u s) (aGr C (aW C p u s).2.1)).1 = true ∧ M' 49 12 = 0 ∧ MK C P Z.2.2.1 M' ((aGr C (aW C p u s).2.1).2.1 + 1) ∧ MG M' (aGr C (aW C p u s).2.1).2.2 ∧ M' 49 32 = (if C p = 264 then (p : Int) + 1 else 0) ∧ M' 49 33 = (if C p = 264 then ((aW C p u s).2.1 : Int) else 0)) ∨ ((tq C (aW C p u s) (aGr C (aW C p u s).2.1)).1 = false ∧ IL M' (P (tq C (aW C p u s) (aGr C (aW C p u s).2.1)).2))) := by
  have hp := h.2.2.2.2.2.2.1
  obtain ⟨M3, x3, q3, hf3, hx3⟩ := mx_take (sc := sc) (d := d) (c := 264) (k := 205) hE (MP_us (j := 33) (v := 0) (MP_us (j := 32) (v := 0) h (by omega)) (by omega)) (by unfold kG kR; omega) (by decide) (by omega)
  have f3 : FW M M3 := FW_t (FW_us (j := 32) (v := 0) (by omega)) (FW_t (FW_us (j := 33) (v := 0) (by omega)) (FR_W (FT_R hf3)))
  -- from behind the condition on
  have key : ∀ (N : q_M) (t' q : Nat) (w : aRes), w.1 = true → w.2.1 = q → MP Z n C P S N q t' → ∃ N1 N2, pq sc d 177 [.inr (.inr 49)] GF N = some (none, GF, N1) ∧ FG N N1 ∧ (if N1 49 12 = 0 then q_c0 (pq sc d 167 [.inr (.inr 49), .inl 0] GF N1) GF (fun M6 => some (none, GF, M6)) else some (none, GF, N1)) = some ((none : Option q_V), GF, N2) ∧ FT N1 N2 ∧ (((tq C w (aGr C w.2.1)).1 = true ∧ N2 49 12 = 0 ∧ MK C P Z.2.2.1 N2 ((aGr C w.2.1).2.1 + 1) ∧ MG N2 (aGr C w.2.1).2.2) ∨ ((tq C w (aGr C w.2.1)).1 = false ∧ IL N2 (P (tq C w (aGr C w.2.1)).2))) := by
    intro N t' q w hw1 hw2 hN
    obtain ⟨N1, q1, hf1, h1⟩ := mx_group (sc := sc) (d := d) hE hN (by omega)
    rw [hw2]
    unfold tq
    rw [if_pos hw1]
    rcases h1 with ⟨b1, ⟨t2, h1, g1⟩ | ⟨s1, s2, h1⟩⟩ | ⟨b1, h1⟩
    · obtain ⟨N2, q2, hf2, h2⟩ := mx_end (sc := sc) (d := d) hE h1 (by omega)
      refine ⟨N1, N2, q1, hf1, by rw [if_pos h1.2.2.1, q2, q_c0_s], hf2, ?_⟩
      rw [if_pos b1]
      rcases h2 with ⟨e2, h2, k2⟩ | ⟨e2, h2⟩
      · rw [if_pos e2]
        exact Or.inl ⟨rfl, h2, k2, MG_fr g1 (hf2.1 69 (by omega) (by omega)) (hf2.2 34 (by omega))⟩
      · rw [if_neg e2]
        exact Or.inr ⟨rfl, h2⟩
    · refine ⟨N1, N1, q1, hf1, by rw [if_neg (by have := h1.1; omega)], FT_r, Or.inr ?_⟩
      rw [if_pos b1, if_neg (by omega)]
      exact ⟨rfl, h1⟩
    · refine ⟨N1, N1, q1, hf1, by rw [if_neg (by have := h1.1; omega)], FT_r, Or.inr ?_⟩
      rw [if_neg (by rw [b1]; decide)]
      exact ⟨rfl, h1⟩
  have keyI : ∀ (N : q_M) (q : Nat) (w : aRes), w.1 = true → w.2.1 = q → C q = 257 → IL N (P q) → ∃ N1, pq sc d 177 [.inr (.inr 49)] GF N = some (none, GF, N1) ∧ FW N N1 ∧ IL N1 (P q) ∧ tq C w (aGr C w.2.1) = (false, q) := by
    intro N q w hw1 hw2 hq hN
    refine ⟨_, mx_groupI hN (by omega), FW_us (by omega), IL_us hN (by omega), ?_⟩
    unfold tq
    rw [if_pos hw1, hw2, aGr_257 hq, if_pos rfl, if_neg (by show ¬ C q = 256; omega)]
  rcases hx3 with ⟨e, rfl, h3⟩ | ⟨e, rfl, h3⟩
  · have e16 : M3 49 16 = (p : Int) + 1 := h3.2.2.2.1
    obtain ⟨M7, q7, hf7, h7⟩ := mx_cond (sc := sc) (d := d) u s hE (MP_us (j := 32) (v := (p : Int) + 1) h3 (by omega)) (by omega)
    have f7 : FW M M7 := FW_t f3 (FW_t (FW_us (j := 32) (v := (p : Int) + 1) (by omega)) (FR_W hf7))
    have eW : aW C p u s = aCo C (p + 1) u s := by unfold aW; rw [if_pos e]
    have e732 : M7 49 32 = (p : Int) + 1 := by rw [hf7.2 32 (by omega) (by omega), q_up_s]
    rw [eW, if_pos e, if_pos e]
    have st : ∀ (N1 N2 : q_M), pq sc d 177 [.inr (.inr 49)] GF (q_up M7 49 33 (M7 49 16)) = some (none, GF, N1) → (if N1 49 12 = 0 then q_c0 (pq sc d 167 [.inr (.inr 49), .inl 0] GF N1) GF (fun M6 => some (none, GF, M6)) else some (none, GF, N1)) = some ((none : Option q_V), GF, N2) → pr sc (pq sc d) 178 (0 + 1) 110 [some (.inr (.inr 49)), none, none] [] M = some (none, GF, N2) := by
      intro N1 N2 g1 g2
      refine sg_X12_readQuery_110.trans ?_
      rw [if_pos h.2.2.1, q3, q_cI_s, if_neg (by decide), e16, q7, q_c0_s, g1, q_c0_s]
      exact g2
    rcases h7 with ⟨b7, ⟨t7, h7⟩ | ⟨s1, s2, h7⟩⟩ | ⟨b7, h7⟩
    · have e716 := h7.2.2.2.1
      obtain ⟨N1, N2, g1, g2, g3, g4, g5⟩ := key (q_up M7 49 33 (M7 49 16)) t7 _ _ b7 rfl (MP_us h7 (by omega))
      refine ⟨N2, st N1 N2 g1 g3, FW_t f7 (FW_t (FW_us (by omega)) (FW_t (FG_W g2) (FR_W (FT_R g4)))), ?_⟩
      rcases g5 with ⟨a1, a2, a3, a4⟩ | g5
      · refine Or.inl ⟨a1, a2, a3, a4, ?_, ?_⟩
        · rw [g4.2 32 (by omega), g2.2 32 (by omega) (by omega), q_up_sn (by decide)]; exact e732
        · rw [g4.2 33 (by omega), g2.2 33 (by omega) (by omega), q_up_s]; exact e716
      · exact Or.inr g5
    · obtain ⟨N1, g1, g2, g3, g4⟩ := keyI (q_up M7 49 33 (M7 49 16)) _ _ b7 rfl s2 (IL_us h7 (by omega))
      refine ⟨N1, st N1 N1 g1 (by rw [if_neg (by have := g3.1; omega)]), FW_t f7 (FW_t (FW_us (by omega)) g2), Or.inr ?_⟩
      rw [g4]
      exact ⟨rfl, g3⟩
    · have hI : IL (q_up M7 49 33 (M7 49 16)) (P (aCo C (p + 1) u s).2.1) := IL_us h7 (by omega)
      have g3 : IL (q_up (q_up M7 49 33 (M7 49 16)) 49 34 0) (P (aCo C (p + 1) u s).2.1) := IL_us hI (by omega)
      refine ⟨_, st _ _ (mx_groupI hI (by omega)) (by rw [if_neg (by have := g3.1; omega)]), FW_t f7 (FW_t (FW_us (by omega)) (FW_us (by omega))), Or.inr ?_⟩
      unfold tq
      rw [if_neg (by rw [b7]; decide)]
      exact ⟨rfl, g3⟩
  · have eW : aW C p u s = (true, p, [], [], []) := by unfold aW; rw [if_neg e]
    rw [eW, if_neg e, if_neg e]
    have e32 : M3 49 32 = 0 := by rw [hf3.2 32 (by omega), q_up_sn (by decide), q_up_s]
    have e33 : M3 49 33 = 0 := by rw [hf3.2 33 (by omega), q_up_s]
    have st : ∀ (N1 N2 : q_M), pq sc d 177 [.inr (.inr 49)] GF M3 = some (none, GF, N1) → (if N1 49 12 = 0 then q_c0 (pq sc d 167 [.inr (.inr 49), .inl 0] GF N1) GF (fun M6 => some (none, GF, M6)) else some (none, GF, N1)) = some ((none : Option q_V), GF, N2) → pr sc (pq sc d) 178 (0 + 1) 110 [some (.inr (.inr 49)), none, none] [] M = some (none, GF, N2) := by
      intro N1 N2 g1 g2
      refine sg_X12_readQuery_110.trans ?_
      rw [if_pos h.2.2.1, q3, q_cI_s, if_pos rfl, g1, q_c0_s]
      exact g2
    rcases h3 with ⟨hs, h3⟩ | ⟨hs, h3⟩
    · obtain ⟨N1, N2, g1, g2, g3, g4, g5⟩ := key M3 _ p (true, p, [], [], []) rfl rfl h3
      refine ⟨N2, st N1 N2 g1 g3, FW_t f3 (FW_t (FG_W g2) (FR_W (FT_R g4))), ?_⟩
      rcases g5 with ⟨a1, a2, a3, a4⟩ | g5
      · refine Or.inl ⟨a1, a2, a3, a4, ?_, ?_⟩
        · rw [g4.2 32 (by omega), g2.2 32 (by omega) (by omega)]; exact e32
        · rw [g4.2 33 (by omega), g2.2 33 (by omega) (by omega)]; exact e33
      · exact Or.inr g5
    · obtain ⟨N1, g1, g2, g3, g4⟩ := keyI M3 p (true, p, [], [], []) rfl rfl (TE_S hE hp hs) h3.1
      refine ⟨N1, st N1 N1 g1 (by rw [if_neg (by have := g3.1; omega)]), FW_t f3 g2, Or.inr ?_⟩
      rw [g4]
      exact ⟨rfl, g3⟩
def qMi (C : Nat → Int) : List aIt := ((qO C).2.1 + 1, 0, 0, 0) :: (qJ C).2.2.1
/-- the model reads a query -/
theorem mx_query {sc : List Int} {d : Nat} {M : q_M} {Z : tZ} {n : Nat} {C P : Nat → Int} {S : Nat → Prop} (hE : TE Z n C P S) (h : MP Z n C P S M 0 0) (hd : 14 ≤ d) : ∃ M', pq sc d 178 [.inr (.inr 49)] GF M = some (none, GF, M') ∧ FQ M M' ∧ (0 ≤ M' 49 26 ∧ M' 49 26 ≤ 3) ∧ (((aQ C).1 = true ∧ M' 49 12 = 0 ∧ MK C P Z.2.2.1 M' ((aQ C).2 + 1) ∧ MO M' (qO C).2.2.1 ∧ MI M' C (qMi C) ∧ MG M' (qG C).2.2 ∧ M' 49 32 = (if C (qJ C).2.1 = 264 then ((qJ C).2.1 : Int) + 1 else 0) ∧ M' 49 33 = (if C (qJ C).2.1 = 264 then ((qW C).2.1 : Int) else 0)) ∨ ((aQ C).1 = false ∧ IL M' (P (aQ C).2))) := by
  obtain ⟨M1, q1, hf1, h1⟩ := mx_outs (sc := sc) (d := d - 1) 0 hE h (by omega)
  -- ill before the items
  have bad0 : ∀ (x : Int) (N : q_M), IL N x → FQ M N → (0 ≤ N 49 26 ∧ N 49 26 ≤ 3) → (∀ F, pr sc (pq sc (d - 1)) 178 (F + 1) 0 [some (.inr (.inr 49)), none, none] [] M = pr sc (pq sc (d - 1)) 178 F 37 [some (.inr (.inr 49)), some (.inl 1), none] [] N) → ∃ M', pq sc d 178 [.inr (.inr 49)] GF M = some (none, GF, M') ∧ FQ M M' ∧ (0 ≤ M' 49 26 ∧ M' 49 26 ≤ 3) ∧ IL M' x := by
    intro x N hI hf hb hq
    obtain ⟨M', g1, g2, g3⟩ := tail_ill (sc := sc) (d := d - 1) hI (by omega)
    refine ⟨M', pq_e (by omega) (by decide) (Nat.le_of_ble_eq_true rfl) ⟨0 + 1 + 1 + 1, (hq _).trans ((j_ill hI).trans g1)⟩, FQ_t hf (FW_Q g2), ?_, g3⟩
    rw [g2.2 26 (by omega) (by omega) (by omega)]; exact hb
  have fz : ∀ N : q_M, FQ N (q_up N 49 26 0) := fun N => ⟨fun a h1 h2 => q_upf h2, fun j h1 h2 h3 h4 h5 => q_up_sn (by omega)⟩
  have badO : ∀ x : Int, IL M1 x → ∃ M', pq sc d 178 [.inr (.inr 49)] GF M = some (none, GF, M') ∧ FQ M M' ∧ (0 ≤ M' 49 26 ∧ M' 49 26 ≤ 3) ∧ IL M' x := by
    intro x hI
    refine bad0 x (q_up M1 49 26 0) (IL_us hI (by omega)) (FQ_t (FO_Q hf1) (fz M1)) (by rw [q_up_s]; omega) (fun F => sg_X12_readQuery_0.trans ?_)
    rw [q1, q_c0_s, if_neg (by have := hI.1; omega), if_neg (by have := hI.1; omega)]
  unfold aQ
  have eO : aOuts C (0 + 1) 0 = qO C := rfl
  rw [eO] at h1
  rcases h1 with ⟨e0, b1, hw, hO⟩ | ⟨e0, b1, hI⟩ | ⟨e0, hI⟩
  · rw [if_pos e0, if_pos b1]
    rcases hw with ⟨t1, h1⟩ | ⟨s1, s2, hI⟩
    · obtain ⟨M3, q3, hf3, h3⟩ := mx_want (sc := sc) (d := d - 1) (c := 260) (k := 201) hE (MP_us (j := 26) (v := 0) h1 (by omega)) (by unfold kG kR; omega) (by decide) (by omega)
      have f3 : FQ M M3 := FQ_t (FO_Q hf1) (FQ_t (fz M1) (FI_Q (FT_I hf3)))
      have e326 : M3 49 26 = 0 := by rw [hf3.2 26 (by omega), q_up_s]
      have hO3 : MO M3 (qO C).2.2.1 := MO_fr hO ((hf3.1 62 (by omega) (by omega)).trans (q_upf (by decide))) ((hf3.1 63 (by omega) (by omega)).trans (q_upf (by decide))) ((hf3.2 23 (by omega)).trans (q_up_sn (by decide)))
      rcases h3 with ⟨c3, h3⟩ | ⟨c3, hI⟩
      · rw [if_pos c3]
        obtain ⟨M4, q4, hf4, e4, h4⟩ := mx_first (sc := sc) (d := d - 1) hE h3 e326 (by omega)
        have f4 : FQ M M4 := FQ_t f3 (FI_Q hf4)
        have hO4 : MO M4 (qO C).2.2.1 := MO_fr hO3 (hf4.1 62 (by omega) (by omega) (by omega)) (hf4.1 63 (by omega) (by omega) (by omega)) (hf4.2 23 (by omega) (by omega) (by omega))
        have s4 : ∀ F, pr sc (pq sc (d - 1)) 178 (F + 1) 0 [some (.inr (.inr 49)), none, none] [] M = pr sc (pq sc (d - 1)) 178 F 37 [some (.inr (.inr 49)), some (.inl 1), none] [] M4 := by
          intro F
          refine sg_X12_readQuery_0.trans ?_
          rw [q1, q_c0_s, if_pos h1.2.2.1, q3, q_c0_s, if_pos h3.2.2.1, q4, q_c0_s]
        rcases h4 with ⟨b4, h4, hI4⟩ | ⟨b4, hI⟩
        · rw [if_pos b4]
          obtain ⟨K, M5, q5, hf5, hb5, h5⟩ := mx_joinT (sc := sc) (d := d - 1) hE (by omega) 2 _ _ (qO C).2.2.2.length 0 M4 _ rfl (by simp) h4 hI4
          have eJ : aJ C 2 [((qO C).2.1 + 1, (0 : Int), 0, 0)].length ((qO C).2.1 + 1 + 2) (qO C).2.2.2.length 0 = qJ C := rfl
          rw [eJ] at h5
          have hO5 : MO M5 (qO C).2.2.1 := MO_fr hO4 (hf5.1 62 (by omega) (by omega) (by omega)) (hf5.1 63 (by omega) (by omega) (by omega)) (hf5.2 23 (by omega) (by omega) (by omega))
          have f5 : FQ M M5 := FQ_t f4 (FI_Q hf5)
          have fin : ∀ M', pr sc (pq sc (d - 1)) 178 (0 + 1) 110 [some (.inr (.inr 49)), none, none] [] M5 = some (none, GF, M') → pq sc d 178 [.inr (.inr 49)] GF M = some (none, GF, M') := by
            intro M' g
            exact pq_e (by omega) (by decide) (Nat.le_of_ble_eq_true rfl) ⟨0 + 1 + K + 1, (s4 _).trans ((q5 _).trans g)⟩
          rcases h5 with ⟨b5, ⟨t5, h5, hI5⟩ | ⟨s1, s2, hI⟩⟩ | ⟨b5, hI⟩
          · rw [if_pos b5]
            obtain ⟨M6, q6, hf6, h6⟩ := mx_tail (sc := sc) (d := d - 1) (qU C) (qJ C).2.2.2.1.length hE h5 (by omega)
            have eW : aW C (qJ C).2.1 (qU C) (qJ C).2.2.2.1.length = qW C := rfl
            have eG : aGr C (qW C).2.1 = qG C := rfl
            rw [eW, eG] at h6
            refine ⟨M6, fin M6 q6, FQ_t f5 (FW_Q hf6), by rw [hf6.2 26 (by omega) (by omega) (by omega)]; exact hb5, ?_⟩
            unfold tq at h6
            rcases h6 with ⟨a1, a2, a3, a4, a5, a6⟩ | ⟨a1, a2⟩
            · refine Or.inl ?_
              by_cases w1 : (qW C).1 = true
              · rw [if_pos w1] at a1 ⊢
                by_cases g1 : (qG C).1 = true
                · rw [if_pos g1] at a1 ⊢
                  by_cases c1 : C (qG C).2.1 = 256
                  · rw [if_pos c1]
                    exact ⟨rfl, a2, a3, MO_fr hO5 (hf6.1 62 (by omega) (by omega) (by omega)) (hf6.1 63 (by omega) (by omega) (by omega)) (hf6.2 23 (by omega) (by omega) (by omega)), MI_fr hI5 (fun a h1 h2 => hf6.1 a (by omega) (by omega) (by omega)) (hf6.2 26 (by omega) (by omega) (by omega)), a4, a5, a6⟩
                  · rw [if_neg c1] at a1; cases a1
                · rw [if_neg g1] at a1; cases a1
              · rw [if_neg w1] at a1; cases a1
            · exact Or.inr ⟨a1, a2⟩
          · rw [if_pos b5]
            obtain ⟨M', g1, g2, g3⟩ := tail_ill (sc := sc) (d := d - 1) hI (by omega)
            refine ⟨M', fin M' g1, FQ_t f5 (FW_Q g2), by rw [g2.2 26 (by omega) (by omega) (by omega)]; exact hb5, Or.inr ?_⟩
            have eW : qW C = (true, (qJ C).2.1, [], [], []) := by
              show aW C (qJ C).2.1 _ _ = _
              unfold aW; rw [if_neg (by omega)]
            have eG : qG C = (true, (qJ C).2.1, []) := by
              show aGr C (qW C).2.1 = _
              rw [eW]; exact aGr_257 s2
            rw [eW, eG, if_pos rfl, if_pos rfl, if_neg (by show ¬ C (qJ C).2.1 = 256; omega)]
            exact ⟨rfl, g3⟩
          · rw [if_neg (by rw [b5]; decide)]
            obtain ⟨M', g1, g2, g3⟩ := tail_ill (sc := sc) (d := d - 1) hI (by omega)
            exact ⟨M', fin M' g1, FQ_t f5 (FW_Q g2), by rw [g2.2 26 (by omega) (by omega) (by omega)]; exact hb5, Or.inr ⟨rfl, g3⟩⟩
        · rw [if_neg (by rw [b4]; decide)]
          obtain ⟨M', g1, g2, g3, g4⟩ := bad0 _ M4 hI f4 (by omega) s4
          exact ⟨M', g1, g2, g3, Or.inr ⟨rfl, g4⟩⟩
      · rw [if_neg c3]
        obtain ⟨M', g1, g2, g3, g4⟩ := bad0 _ M3 hI f3 (by omega) (fun F => sg_X12_readQuery_0.trans (by rw [q1, q_c0_s, if_pos h1.2.2.1, q3, q_c0_s, if_neg (by have := hI.1; omega)]))
        exact ⟨M', g1, g2, g3, Or.inr ⟨rfl, g4⟩⟩
    · rw [if_neg (by omega)]
      obtain ⟨M', g1, g2, g3, g4⟩ := badO _ hI
      exact ⟨M', g1, g2, g3, Or.inr ⟨rfl, g4⟩⟩
  · rw [if_pos e0, if_neg (by rw [b1]; decide)]
    obtain ⟨M', g1, g2, g3, g4⟩ := badO _ hI
    exact ⟨M', g1, g2, g3, Or.inr ⟨rfl, g4⟩⟩
  · rw [if_neg e0]
    obtain ⟨M', g1, g2, g3, g4⟩ := badO _ hI
    exact ⟨M', g1, g2, g3, Or.inr ⟨rfl, g4⟩⟩
