/-! columns that are ill -/
def cst (C : Nat → Int) (t : Nat) : Prop := C t = 258 ∨ C t = 274
def OT (C : Nat → Int) (ops : List (Nat × Int)) : Prop := ∀ x ∈ ops, cst C x.1 ∨ (119 ≤ C x.1 ∧ C x.1 ≤ 122 ∧ 97 ≤ C (x.1 + 2) ∧ C (x.1 + 2) ≤ 100)
def wof (W C : Nat → Int) (tl : List Nat) (k : Int) : Int := W (C (tl.getD k.toNat 0) - 84).toNat
def bc (W C : Nat → Int) (tl : List Nat) (t : Nat) (L : Int) : Prop := itm C tl (C t) = -1 ∨ L < itm C tl (C t) ∨ ¬ C (t + 2) - 97 < wof W C tl (itm C tl (C t))
def BC (W C P : Nat → Int) (tl : List Nat) (ops : List (Nat × Int)) (i : Nat) (p : Int) : Prop := ∃ x, ops[i]? = some x ∧ ¬ cst C x.1 ∧ bc W C tl x.1 x.2 ∧ p = P x.1
theorem IQ_fr {M M' : q_M} {C P : Nat → Int} {tl : List Nat} (h : IQ M C P tl) (h1 : M' 15 7 = M 15 7) (hf : ∀ a, 33 ≤ a → a ≤ 36 → M' a = M a) : IQ M' C P tl := by
  unfold IQ at h ⊢
  rw [h1, hf 33 (by omega) (by omega), hf 34 (by omega) (by omega), hf 35 (by omega) (by omega), hf 36 (by omega) (by omega)]; exact h
theorem cx_chkCoT {sc : List Int} {d : Nat} {M0 : q_M} {C P N : Nat → Int} {tl : List Nat} {ops : List (Nat × Int)} (h : IQ M0 C P tl) (hT : TI C tl) (hP : PN P) (hO : OA M0 C P N ops) (hl : ops.length ≤ 130) (hOT : OT C ops) (hd : 3 ≤ d) : ∀ (m c : Nat) (M : q_M) (B : Int → Prop), c + m = ops.length → (∀ a, ¬ a = 21 → ¬ a = 42 → M a = M0 a) → IS (M 42 3) B → ∃ F M', pr sc (pq sc d) 12 F 2 [some (.inr (.inr 42)), some (.inl (c : Int)), none] [] M = some (none, GF, M') ∧ (∀ a, ¬ a = 21 → ¬ a = 42 → M' a = M0 a) ∧ (∀ i, i < c → M' 21 i = M 21 i) ∧ (∀ i x, c ≤ i → ops[i]? = some x → (cst C x.1 → M' 21 i = M 21 i) ∧ (¬ cst C x.1 → M' 21 i = itm C tl (C x.1))) ∧ IS (M' 42 3) (fun p => B p ∨ ∃ j, c ≤ j ∧ BC (M0 2) C P tl ops j p) := by
  intro m
  induction m with
  | zero =>
    intro c M B hc hM hB
    have q1 := sp_ocount (sc := sc) (d := d) (M := M) (by omega)
    rw [hM 16 (by decide) (by decide), hO.1] at q1
    refine ⟨0 + 1, M, sg_X1_checkColumns_2.trans ?_, hM, fun i hi => rfl, fun i x hi hx => ?_, IS_c hB (fun p => ⟨Or.inl, fun hh => ?_⟩)⟩
    · rw [q1, q_cI_s, if_neg (by omega)]
    · have := (List.getElem?_eq_some_iff.mp hx).1; omega
    · rcases hh with hh | ⟨j, hj, x, hx, -⟩
      · exact hh
      · have := (List.getElem?_eq_some_iff.mp hx).1; omega
  | succ m ih =>
    intro c M B hc hM hB
    have hc3 : c < 130 := by omega
    have hx : ops[c]? = some ops[c] := List.getElem?_eq_getElem (by omega)
    generalize ops[c] = x at hx
    obtain ⟨o1, o2, o3, o4, -, -, -⟩ := hO.2 c x hx
    have q1 := sp_ocount (sc := sc) (d := d) (M := M) (by omega)
    rw [hM 16 (by decide) (by decide), hO.1] at q1
    have q2 := sp_isColumn (sc := sc) (d := d) (M := M) hc3 (by omega)
    rw [hM 18 (by decide) (by decide), o2] at q2
    have fin : ∀ (N : q_M) (B' : Int → Prop), (∀ a, ¬ a = 21 → ¬ a = 42 → N a = M0 a) → (∀ i, ¬ i = c → N 21 i = M 21 i) → ((cst C x.1 → N 21 c = M 21 c) ∧ (¬ cst C x.1 → N 21 c = itm C tl (C x.1))) → IS (N 42 3) B' → (∀ p, B' p ↔ (B p ∨ BC (M0 2) C P tl ops c p)) → (∀ F, pr sc (pq sc d) 12 (F + 1) 2 [some (.inr (.inr 42)), some (.inl (c : Int)), none] [] M = pr sc (pq sc d) 12 F 2 [some (.inr (.inr 42)), some (.inl ((c + 1 : Nat) : Int)), none] [] N) → ∃ F M', pr sc (pq sc d) 12 F 2 [some (.inr (.inr 42)), some (.inl (c : Int)), none] [] M = some (none, GF, M') ∧ (∀ a, ¬ a = 21 → ¬ a = 42 → M' a = M0 a) ∧ (∀ i, i < c → M' 21 i = M 21 i) ∧ (∀ i x, c ≤ i → ops[i]? = some x → (cst C x.1 → M' 21 i = M 21 i) ∧ (¬ cst C x.1 → M' 21 i = itm C tl (C x.1))) ∧ IS (M' 42 3) (fun p => B p ∨ ∃ j, c ≤ j ∧ BC (M0 2) C P tl ops j p) := by
      intro N B' hN hN1 hN2 hB' hBB hst
      obtain ⟨F, M', q, hf, hlo, hhi, hI⟩ := ih (c + 1) N B' (by omega) hN hB'
      refine ⟨F + 1, M', (hst F).trans q, hf, fun i hi => ?_, fun i y hi hy => ?_, IS_c hI (fun p => ⟨fun hh => ?_, fun hh => ?_⟩)⟩
      · rw [hlo i (by omega), hN1 i (by omega)]
      · by_cases e : i = c
        · subst e
          rw [hx] at hy; cases hy
          rw [hlo i (by omega)]; exact hN2
        · have := hhi i y (by omega) hy
          rw [hN1 i e] at this; exact this
      · rcases hh with hh | ⟨j, hj, hh⟩
        · rcases (hBB p).mp hh with hh | hh
          · exact Or.inl hh
          · exact Or.inr ⟨c, Nat.le_refl _, hh⟩
        · exact Or.inr ⟨j, by omega, hh⟩
      · rcases hh with hh | ⟨j, hj, hh⟩
        · exact Or.inl ((hBB p).mpr (Or.inl hh))
        · by_cases e : j = c
          · subst e; exact Or.inl ((hBB p).mpr (Or.inr hh))
          · exact Or.inr ⟨j, by omega, hh⟩
    have bi : ∀ p, BC (M0 2) C P tl ops c p ↔ (¬ cst C x.1 ∧ bc (M0 2) C tl x.1 x.2 ∧ p = P x.1) := fun p => by
      constructor
      · rintro ⟨y, hy, hh⟩
        rw [hx] at hy; cases hy; exact hh
      · intro hh; exact ⟨x, hx, hh⟩
    by_cases hk : cst C x.1
    · have e18 : opA C x = -1 := by unfold opA; exact if_pos hk
      rw [e18, if_pos rfl] at q2
      refine fin M B hM (fun i hi => rfl) ⟨fun _ => rfl, fun hh => absurd hk hh⟩ hB (fun p => ⟨Or.inl, fun hh => ?_⟩) (fun F => sg_X1_checkColumns_2.trans ?_)
      · rcases hh with hh | hh
        · exact hh
        · exact absurd hk ((bi p).mp hh).1
      · rw [q1, q_cI_s, if_pos (by omega), q2, q_cI_s, if_pos rfl, qw1 (by omega)]
    · obtain ⟨a1, a2, a3, a4⟩ := (hOT x (List.mem_of_getElem? hx)).resolve_left hk
      have e17 : opP C P x = P x.1 := by unfold opP; exact if_neg hk
      have e18 : opA C x = C x.1 := by unfold opA; exact if_neg hk
      have e19 : opL C x = C (x.1 + 2) - 97 := by unfold opL; exact if_neg hk
      have e20 : opI C x = x.2 := by unfold opI; exact if_neg hk
      rw [e18, if_neg (by omega)] at q2
      have hQ : ∀ N : q_M, (∀ a, ¬ a = 21 → ¬ a = 42 → N a = M0 a) → IQ N C P tl := fun N hN => IQ_fr h (by rw [hN 15 (by decide) (by decide)]) (fun a h1 h2 => hN a (by omega) (by omega))
      have q3 := sp_aliasOf (sc := sc) (d := d) (M := M) hc3 (by omega)
      rw [hM 18 (by decide) (by decide), o2, e18] at q3
      have q4 := sp_itemWith (sc := sc) (d := d) (a := C x.1) (hQ M hM) (by omega)
      have q5 := sp_setItem (sc := sc) (d := d) (M := M) (v := itm C tl (C x.1)) hc3 (by omega)
      generalize hN : q_up M 21 c (itm C tl (C x.1)) = N at q5
      have hN0 : ∀ a, ¬ a = 21 → ¬ a = 42 → N a = M0 a := fun a h1 h2 => by rw [← hN, q_upf h1]; exact hM a h1 h2
      have hN1 : ∀ i, ¬ i = c → N 21 i = M 21 i := fun i hi => by rw [← hN, q_up_sn hi]
      have hN2 : N 21 c = itm C tl (C x.1) := by rw [← hN, q_up_s]
      have hN3 : N 42 3 = M 42 3 := by rw [← hN, q_up_ne (by decide)]
      have q6 := sp_placeOf (sc := sc) (d := d) (M := N) hc3 (by omega)
      rw [hN0 17 (by decide) (by decide), o1, e17] at q6
      have q7 := sp_lastItemOf (sc := sc) (d := d) (M := N) hc3 (by omega)
      rw [hN0 20 (by decide) (by decide), o4, e20] at q7
      have q8 := sp_letterOf (sc := sc) (d := d) (M := N) hc3 (by omega)
      rw [hN0 19 (by decide) (by decide), o3, e19] at q8
      have q9 := sp_noteIll (sc := sc) (d := d) (M := N) (a := P x.1) (by omega)
      rw [hN3] at q9
      -- it is ill
      have bad : bc (M0 2) C tl x.1 x.2 → (∀ F, pr sc (pq sc d) 12 (F + 1) 2 [some (.inr (.inr 42)), some (.inl (c : Int)), none] [] M = pr sc (pq sc d) 12 F 2 [some (.inr (.inr 42)), some (.inl ((c + 1 : Nat) : Int)), none] [] (q_up N 42 3 (nIl (M 42 3) (P x.1)))) → ∃ F M', pr sc (pq sc d) 12 F 2 [some (.inr (.inr 42)), some (.inl (c : Int)), none] [] M = some (none, GF, M') ∧ (∀ a, ¬ a = 21 → ¬ a = 42 → M' a = M0 a) ∧ (∀ i, i < c → M' 21 i = M 21 i) ∧ (∀ i x, c ≤ i → ops[i]? = some x → (cst C x.1 → M' 21 i = M 21 i) ∧ (¬ cst C x.1 → M' 21 i = itm C tl (C x.1))) ∧ IS (M' 42 3) (fun p => B p ∨ ∃ j, c ≤ j ∧ BC (M0 2) C P tl ops j p) := by
        intro hbc hst
        refine fin _ _ (fun a h1 h2 => (q_upf h2).trans (hN0 a h1 h2)) (fun i hi => (q_up_ne (by decide)).trans (hN1 i hi)) ⟨fun hh => absurd hh hk, fun _ => (q_up_ne (by decide)).trans hN2⟩ (by rw [q_up_s]; exact IS_n hB (hP x.1)) (fun p => ?_) hst
        rw [bi]
        constructor
        · rintro (hh | hh)
          · exact Or.inl hh
          · exact Or.inr ⟨hk, hbc, hh⟩
        · rintro (hh | ⟨-, -, hh⟩)
          · exact Or.inl hh
          · exact Or.inr hh
      by_cases g1 : itm C tl (C x.1) = -1
      · refine bad (Or.inl g1) (fun F => sg_X1_checkColumns_2.trans ?_)
        rw [q1, q_cI_s, if_pos (by omega), q2, q_cI_s, if_neg (by decide), q3, q_cI_s, q4, q_cI_s, q5, q_c0_s, if_pos g1, q6, q_cI_s, q9, q_c0_s, qw1 (by omega)]
      · by_cases g2 : x.2 < itm C tl (C x.1)
        · refine bad (Or.inr (Or.inl g2)) (fun F => sg_X1_checkColumns_2.trans ?_)
          rw [q1, q_cI_s, if_pos (by omega), q2, q_cI_s, if_neg (by decide), q3, q_cI_s, q4, q_cI_s, q5, q_c0_s, if_neg g1, q7, q_cI_s, if_pos g2, q6, q_cI_s, q9, q_c0_s, qw1 (by omega)]
        · rcases itm_s (C := C) (tl := tl) (a := C x.1) with ⟨k1, -⟩ | ⟨k, t, k1, k2, k3, -⟩
          · exact absurd k1 g1
          · have hkl : k < tl.length := (List.getElem?_eq_some_iff.mp k1).1
            have hk3 : k < 3 := by have := h.2.1; omega
            obtain ⟨t1, t2, t3, t4⟩ := hT t (List.mem_of_getElem? k1)
            have q10 := sp_tableOf (sc := sc) (d := d) (M := N) hk3 (by omega)
            rw [hN0 33 (by decide) (by decide), (h.2.2 k t k1).1, ← k2] at q10
            have q11 := sp_width (sc := sc) (d := d) (M := N) (t := (C t - 84).toNat) (by omega) (by omega)
            rw [hN0 2 (by decide) (by decide), show (((C t - 84).toNat : Nat) : Int) = C t - 84 by omega] at q11
            have ewof : wof (M0 2) C tl (itm C tl (C x.1)) = M0 2 (C t - 84).toNat := by
              unfold wof
              rw [k2, Int.toNat_natCast, List.getD_eq_getElem?_getD, k1]; rfl
            by_cases g3 : C (x.1 + 2) - 97 < M0 2 (C t - 84).toNat
            · refine fin N B hN0 hN1 ⟨fun hh => absurd hh hk, fun _ => hN2⟩ (by rw [hN3]; exact hB) (fun p => ⟨Or.inl, fun hh => ?_⟩) (fun F => sg_X1_checkColumns_2.trans ?_)
              · rcases hh with hh | hh
                · exact hh
                · rcases ((bi p).mp hh).2.1 with hh | hh | hh
                  · exact absurd hh g1
                  · exact absurd hh g2
                  · rw [ewof] at hh; exact absurd g3 hh
              · rw [q1, q_cI_s, if_pos (by omega), q2, q_cI_s, if_neg (by decide), q3, q_cI_s, q4, q_cI_s, q5, q_c0_s, if_neg g1, q7, q_cI_s, if_neg g2, q8, q_cI_s, q10, q_cI_s, q11, q_cI_s, if_pos g3, qw1 (by omega)]
            · refine bad (Or.inr (Or.inr (by rw [ewof]; exact g3))) (fun F => sg_X1_checkColumns_2.trans ?_)
              rw [q1, q_cI_s, if_pos (by omega), q2, q_cI_s, if_neg (by decide), q3, q_cI_s, q4, q_cI_s, q5, q_c0_s, if_neg g1, q7, q_cI_s, if_neg g2, q8, q_cI_s, q10, q_cI_s, q11, q_cI_s, if_neg g3, q6, q_cI_s, q9, q_c0_s, qw1 (by omega)]
