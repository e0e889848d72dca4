theorem mx_look {sc : List Int} {d : Nat} {M : q_M} {Z : tZ} {n : Nat} {C P : Nat → Int} {S : Nat → Prop} {p t : Nat} (hE : TE Z n C P S) (h : MP Z n C P S M p t) (hd : 5 ≤ d) : ∃ M' x, pq sc d 164 [.inr (.inr 49)] GF M = some (some (.inl x), GF, M') ∧ FL M M' ∧ ((¬ S p ∧ x = kp (C p) ∧ MP Z n C P S M' p (p + 1)) ∨ (S p ∧ x = 0 ∧ IT M' (P p))) := by
  have hn := TE_n hE
  obtain ⟨h1, h2, h3, h4, h5, h6, h7, h8, h9⟩ := h
  by_cases ht : t = p + 1
  · subst ht
    refine ⟨M, kp (C p), pq_e (by omega) (by decide) (Nat.le_of_ble_eq_true rfl) ⟨0 + 1, sg_X12_look_0.trans ?_⟩, FL_r, Or.inl ⟨(h9 p (by omega)).1, rfl, h1, h2, h3, h4, h5, Or.inr rfl, h7, h8, h9⟩⟩
    rw [if_pos (by omega), if_pos (by omega), if_pos (by omega), h4, Int.toNat_natCast, (h9 p (by omega)).2.1]
  · have ht : t = p := by omega
    subst ht
    obtain ⟨T, len, N, E⟩ := Z
    obtain ⟨z1, z2, z3, z4, z5, z6, z7, z8, z9, z10, z11, z12⟩ := hE
    dsimp only at *
    have hx := h8 h7
    have hxl := z12 t h7
    have hT : TX T len M := ⟨h1.1, h2, z3, z5⟩
    obtain ⟨K, M1, q1, f1, f2, f3⟩ := lk_skip (sc := sc) (d := d - 1) (by omega) 200 (E t) M hT hx hxl (by omega)
    have hP := z6 t h7
    have hsk := skp_le (T := T) (len := len) 200 (E t) hxl
    generalize hy : skp T len 200 (E t) = y at *
    have hT1 : TX T len M1 := ⟨TQ_e (f1 57 (by decide)) hT.1, (f2 9 (by decide)).trans hT.2.1, hT.2.2⟩
    have e15 : M1 49 15 = t := (f2 15 (by decide)).trans h5
    have e16 : M1 49 16 = t := (f2 16 (by decide)).trans h4
    have e12 : M1 49 12 = 0 := (f2 12 (by decide)).trans h3
    have hb : 0 ≤ M1 49 15 ∧ M1 49 15 < ((132 : Nat) : Int) := by omega
    generalize hA : q_up M1 59 t (y : Int) = A at *
    have hTA : TX T len A := by rw [← hA]; exact TX_up hT1 (by decide)
    have A49 : ∀ j, A 49 j = M1 49 j := fun j => by rw [← hA, q_up_ne (by decide)]
    have Ao : ∀ a, ¬ a = 59 → A a = M1 a := fun a ha => by rw [← hA, q_upf ha]
    have A59 : A 59 t = y := by rw [← hA, q_up_s]
    have A59i : ∀ i, ¬ i = t → A 59 i = M 59 i := fun i hi => by rw [← hA, q_up_sn hi, f1 59 (by decide)]
    have hc32 : ¬ atv T len y = 32 := by
      unfold atv
      split
      · next hh => exact hsk.2.2 (by omega) hh
      · decide
    -- to 139
    have s1 : ∃ sg : Int, (sg = if atv T len y = 40 ∨ atv T len y = 41 ∨ atv T len y = 44 ∨ atv T len y = 46 ∨ atv T len y = 61 ∨ atv T len y = 60 ∨ atv T len y = 62 then 1 else 0) ∧ ∀ F, pr sc (pq sc (d - 1)) 164 (F + 1 + K + 1) 0 [some (.inr (.inr 49)), none, none] [] M = pr sc (pq sc (d - 1)) 164 F 139 [some (.inr (.inr 49)), some (.inl (atv T len y)), some (.inl sg)] [] A := by
      refine ⟨_, rfl, fun F => ?_⟩
      refine sg_X12_look_0.trans ?_
      rw [if_neg (by omega), if_pos h3]
      refine (q1 (F + 1)).trans (sg_X12_look_43.trans ?_)
      rw [f3, sp_at hT1 (by omega), q_cI_s, if_neg hc32, if_pos hb, f3, e15, Int.toNat_natCast, hA, sp_at hTA (by omega), q_cI_s]
      generalize atv T len y = c
      by_cases g1 : c = 40
      · rw [if_pos g1, if_pos (by omega)]
      · rw [if_neg g1]
        by_cases g2 : c = 41
        · rw [if_pos g2, if_pos (by omega)]
        · rw [if_neg g2]
          by_cases g3 : c = 44
          · rw [if_pos g3, if_pos (by omega)]
          · rw [if_neg g3]
            by_cases g4 : c = 46
            · rw [if_pos g4, if_pos (by omega)]
            · rw [if_neg g4]
              by_cases g5 : c = 61
              · rw [if_pos g5, if_pos (by omega)]
              · rw [if_neg g5]
                by_cases g6 : c = 60
                · rw [if_pos g6, if_pos (by omega)]
                · rw [if_neg g6]
                  by_cases g7 : c = 62
                  · rw [if_pos g7, if_pos (by omega)]
                  · rw [if_neg g7, if_neg (by omega)]
    obtain ⟨sg, hsg, s1⟩ := s1
    -- what is left at the end
    have fin : ∀ M2 : q_M, (pr sc (pq sc (d - 1)) 164 (0 + 1 + 1) 139 [some (.inr (.inr 49)), some (.inl (atv T len y)), some (.inl sg)] [] A = pr sc (pq sc (d - 1)) 164 (0 + 1) 259 [some (.inr (.inr 49)), none, none] [] M2) → (∀ a, ¬ (58 ≤ a ∧ a ≤ 60) → ¬ a = 49 → M2 a = M a) → (∀ j, ¬ (12 ≤ j ∧ j ≤ 14) → M2 49 j = M 49 j) → M2 49 12 = 0 → (t + 1 < n → M2 49 14 = E (t + 1)) → (∀ i, ¬ i = t → M2 58 i = M 58 i ∧ M2 59 i = M 59 i ∧ M2 60 i = M 60 i) → M2 58 t = kp (C t) → M2 59 t = y → (C t = 258 → M2 60 t = N t) → ¬ S t → ∃ M' x, pq sc d 164 [.inr (.inr 49)] GF M = some (some (.inl x), GF, M') ∧ FL M M' ∧ ((¬ S t ∧ x = kp (C t) ∧ MP (T, len, N, E) n C P S M' t (t + 1)) ∨ (S t ∧ x = 0 ∧ IT M' (P t))) := by
      intro M2 g1 g2 g3 g4 g5 g6 g7 g8 g9 g10
      have i15 : M2 49 15 = t := (g3 15 (by omega)).trans h5
      have i16 : M2 49 16 = t := (g3 16 (by omega)).trans h4
      refine ⟨q_up M2 49 15 ((t : Int) + 1), kp (C t), pq_e (by omega) (by decide) (Nat.le_of_ble_eq_true rfl) ⟨0 + 1 + 1 + 1 + K + 1, (s1 (0 + 1 + 1)).trans (g1.trans (sg_X12_look_259.trans ?_))⟩, ⟨fun a ha hb => (q_upf hb).trans (g2 a ha hb), fun j hj => (q_up_sn (by omega)).trans (g3 j (by omega))⟩, Or.inl ⟨g10, rfl, ⟨?_, ?_⟩, ?_, ?_, ?_, ?_, Or.inr rfl, h7, fun hh => ?_, fun i hi => ?_⟩⟩
      · rw [if_pos g4, if_pos (by omega), i16, Int.toNat_natCast, g7, i15, q_wid (by omega) (by omega)]
      · rw [q_upf (by decide), g2 57 (by decide) (by decide)]; exact h1.1
      · rw [q_upf (by decide), g2 50 (by decide) (by decide)]; exact h1.2
      · rw [q_up_sn (by decide), g3 9 (by decide)]; exact h2
      · rw [q_up_sn (by decide)]; exact g4
      · rw [q_up_sn (by decide)]; exact i16
      · rw [q_up_s]; omega
      · rw [q_up_sn (by decide)]; exact g5 hh
      · rw [q_up_ne (by decide), q_up_ne (by decide), q_up_ne (by decide)]
        by_cases ei : i = t
        · subst ei
          exact ⟨g10, g7, g8.trans hP.symm, g9⟩
        · obtain ⟨a1, a2, a3⟩ := g6 i ei
          rw [a1, a2, a3]
          exact h9 i (by omega)
    have finI : ∀ M2 : q_M, (pr sc (pq sc (d - 1)) 164 (0 + 1 + 1) 139 [some (.inr (.inr 49)), some (.inl (atv T len y)), some (.inl sg)] [] A = pr sc (pq sc (d - 1)) 164 (0 + 1) 259 [some (.inr (.inr 49)), none, none] [] M2) → (∀ a, ¬ (58 ≤ a ∧ a ≤ 60) → ¬ a = 49 → M2 a = M a) → (∀ j, ¬ (12 ≤ j ∧ j ≤ 14) → M2 49 j = M 49 j) → M2 49 12 = 1 → M2 49 13 = y → S t → ∃ M' x, pq sc d 164 [.inr (.inr 49)] GF M = some (some (.inl x), GF, M') ∧ FL M M' ∧ ((¬ S t ∧ x = kp (C t) ∧ MP (T, len, N, E) n C P S M' t (t + 1)) ∨ (S t ∧ x = 0 ∧ IT M' (P t))) := by
      intro M2 g1 g2 g3 g4 g5 g6
      have i15 : M2 49 15 = t := (g3 15 (by omega)).trans h5
      have i16 : M2 49 16 = t := (g3 16 (by omega)).trans h4
      refine ⟨M2, 0, pq_e (by omega) (by decide) (Nat.le_of_ble_eq_true rfl) ⟨0 + 1 + 1 + 1 + K + 1, (s1 (0 + 1 + 1)).trans (g1.trans (sg_X12_look_259.trans ?_))⟩, ⟨g2, fun j hj => g3 j (by omega)⟩, Or.inr ⟨g6, rfl, ⟨g4, g5.trans hP.symm, by omega, by omega⟩, by omega⟩⟩
      rw [if_neg (by omega)]
    have Am : ∀ a, ¬ a = 49 → ¬ a = 59 → A a = M a := fun a ha hb => (Ao a hb).trans (f1 a ha)
    have Aj : ∀ j, ¬ j = 14 → A 49 j = M 49 j := fun j hj => (A49 j).trans (f2 j hj)
    have A14 : A 49 14 = y := (A49 14).trans f3
    have A15 : A 49 15 = t := (Aj 15 (by decide)).trans h5
    have A12 : A 49 12 = 0 := (Aj 12 (by decide)).trans h3
    have hbA : 0 ≤ A 49 15 ∧ A 49 15 < ((132 : Nat) : Int) := by omega
    rcases Nat.lt_or_ge y len with hyl | hyl
    · have htn : t + 1 < n := by
        rcases Nat.lt_or_ge (t + 1) n with hh | hh
        · exact hh
        · have e : t = n - 1 := by omega
          rw [← e, hy] at z8
          omega
      have hz := z7 t htn
      rw [hy] at hz
      obtain ⟨-, hC, hN, hEn, hS⟩ := hz
      have ea : atv T len y = T y := by unfold atv; rw [if_pos hyl]
      have hr := z5 y hyl
      rw [ea] at hc32 hsg fin finI
      have hS' : S t ↔ (¬ (97 ≤ T y ∧ T y ≤ 122) ∧ C t = 257) := by rw [hS, hC]; rfl
      have qsm := sp_isSmall (sc := sc) (d := d - 1) (M := A) (a := T y) (by omega)
      have qdg := sp_isDigit (sc := sc) (d := d - 1) (M := A) (a := T y) (by omega)
      by_cases k1 : 97 ≤ T y ∧ T y ≤ 122
      · rw [if_pos k1] at qsm
        have hWA : WD (A 50) := by rw [Am 50 (by decide) (by decide)]; exact h1.2
        obtain ⟨M3, q3, g1, g2, g3, -⟩ := mx_word (sc := sc) (d := d - 1) hTA hWA A14 hyl k1 (by omega)
        refine fin (q_up M3 58 t (kp (tkC T len y))) ?_ (fun a ha hb => ?_) (fun j hj => ?_) ?_ (fun _ => ?_) (fun i hi => ?_) ?_ ?_ (fun hh => ?_) (fun hh => (hS'.mp hh).1 k1)
        · refine sg_X12_look_139.trans ?_
          rw [if_neg (by omega), qsm, q_cI_s, if_neg (by decide), q3, q_cI_s, if_pos hbA, A15, Int.toNat_natCast]
        · rw [q_upf (by omega), g1 a hb, Am a hb (by omega)]
        · rw [q_up_ne (by decide), g2 j (by omega), Aj j (by omega)]
        · rw [q_up_ne (by decide), g2 12 (by decide)]; exact A12
        · rw [q_up_ne (by decide), g3, hEn]
        · refine ⟨?_, ?_, ?_⟩
          · rw [q_up_sn hi, g1 58 (by decide), Am 58 (by decide) (by decide)]
          · rw [q_up_ne (by decide), g1 59 (by decide), A59i i hi]
          · rw [q_up_ne (by decide), g1 60 (by decide), Am 60 (by decide) (by decide)]
        · rw [q_up_s, hC]
        · rw [q_up_ne (by decide), g1 59 (by decide)]; exact A59
        · exfalso
          rw [hC] at hh
          unfold tkC at hh
          rw [if_pos k1] at hh
          split at hh
          · omega
          · unfold wk at hh
            rcases wki_s (w := wrd T y (wen T len 200 y)) wds 259 with ⟨m1, -⟩ | ⟨i', m1, m2, -, -⟩
            · omega
            · omega
      · rw [if_neg k1] at qsm
        by_cases k2 : T y = 45 ∨ (48 ≤ T y ∧ T y ≤ 57)
        · obtain ⟨M3, q3, g1, g2, g3, g4, -, g5⟩ := mx_num (sc := sc) (d := d - 1) hTA A14 hyl k2 A12 A15 (by omega) (by omega)
          have hst : pr sc (pq sc (d - 1)) 164 (0 + 1 + 1) 139 [some (.inr (.inr 49)), some (.inl (T y)), some (.inl sg)] [] A = pr sc (pq sc (d - 1)) 164 (0 + 1) 259 [some (.inr (.inr 49)), none, none] [] (q_up M3 58 t 1) := by
            refine sg_X12_look_139.trans ?_
            rw [if_neg (by omega), qsm, q_cI_s, if_pos rfl]
            by_cases k3 : T y = 45
            · rw [if_pos k3, A14, q3, q_cI_s, if_pos hbA, A15, Int.toNat_natCast]
            · rw [if_pos (show 48 ≤ T y ∧ T y ≤ 57 by omega)] at qdg
              rw [if_neg k3, qdg, q_cI_s, if_neg (by decide), A14, q3, q_cI_s, if_pos hbA, A15, Int.toNat_natCast]
          have eC : C t = if nbg T y < nen T len y ∧ nen T len y ≤ nbg T y + 6 then 258 else 257 := by rw [hC]; unfold tkC; rw [if_neg k1, if_pos k2]
          have eE : tkE T len y = nen T len y := by unfold tkE; rw [if_neg k1, if_pos k2]
          rcases g5 with ⟨k4, k5, k6⟩ | ⟨k4, k5, k6⟩
          · rw [if_pos k4] at eC
            refine fin (q_up M3 58 t 1) hst (fun a ha hb => ?_) (fun j hj => ?_) ?_ (fun _ => ?_) (fun i hi => ?_) ?_ ?_ (fun hh => ?_) (fun hh => by have := (hS'.mp hh).2; omega)
            · rw [q_upf (by omega), g1 a hb (by omega), Am a hb (by omega)]
            · rw [q_up_ne (by decide), g3 j (by omega), Aj j (by omega)]
            · rw [q_up_ne (by decide)]; exact k5
            · rw [q_up_ne (by decide), g4, hEn, eE]
            · refine ⟨?_, ?_, ?_⟩
              · rw [q_up_sn hi, g1 58 (by decide) (by decide), Am 58 (by decide) (by decide)]
              · rw [q_up_ne (by decide), g1 59 (by decide) (by decide), A59i i hi]
              · rw [q_up_ne (by decide), g2 i hi, Am 60 (by decide) (by decide)]
            · rw [q_up_s, eC]; decide
            · rw [q_up_ne (by decide), g1 59 (by decide) (by decide)]; exact A59
            · rw [q_up_ne (by decide), k6, hN hh]
          · rw [if_neg k4] at eC
            refine finI (q_up M3 58 t 1) hst (fun a ha hb => ?_) (fun j hj => ?_) ?_ ?_ (hS'.mpr ⟨k1, eC⟩)
            · rw [q_upf (by omega), g1 a hb (by omega), Am a hb (by omega)]
            · rw [q_up_ne (by decide), g3 j (by omega), Aj j (by omega)]
            · rw [q_up_ne (by decide)]; exact k5
            · rw [q_up_ne (by decide)]; exact k6
        · rw [if_neg (show ¬ (48 ≤ T y ∧ T y ≤ 57) by omega)] at qdg
          have eC : C t = if (65 ≤ T y ∧ T y ≤ 90) ∨ T y = 40 ∨ T y = 41 ∨ T y = 44 ∨ T y = 46 ∨ T y = 61 ∨ T y = 60 ∨ T y = 62 then T y else 257 := by rw [hC]; unfold tkC; rw [if_neg k1, if_neg k2]
          have eE : tkE T len y = y + 1 := by unfold tkE; rw [if_neg k1, if_neg k2]
          by_cases k3 : (65 ≤ T y ∧ T y ≤ 90) ∨ T y = 40 ∨ T y = 41 ∨ T y = 44 ∨ T y = 46 ∨ T y = 61 ∨ T y = 60 ∨ T y = 62
          · rw [if_pos k3] at eC
            have ek : kp (T y) = T y := by
              unfold kp
              rw [if_neg (by omega), if_neg (by omega), if_neg (by omega), if_neg (by omega), if_neg (by omega), if_neg (by omega)]
            refine fin (q_up (q_up A 58 t (T y)) 49 14 ((y : Int) + 1)) ?_ (fun a ha hb => ?_) (fun j hj => ?_) ?_ (fun _ => ?_) (fun i hi => ?_) ?_ ?_ (fun hh => by omega) (fun hh => by have := (hS'.mp hh).2; omega)
            · refine sg_X12_look_139.trans ?_
              rw [if_neg (by omega), qsm, q_cI_s, if_pos rfl, if_neg (by omega), qdg, q_cI_s, if_pos rfl, A14, q_wid (by omega) (by omega), A15, Int.toNat_natCast]
              by_cases k5 : sg = 0
              · rw [if_pos k5]
                have k6 : 65 ≤ T y ∧ T y ≤ 90 := by
                  rcases k3 with k | k
                  · exact k
                  · rw [if_pos k] at hsg; omega
                rw [if_neg (by omega), if_neg (by omega), if_pos (by omega)]
              · rw [if_neg k5, if_pos (by omega)]
            · rw [q_upf hb, q_upf (by omega), Am a hb (by omega)]
            · rw [q_up_sn (by omega), q_up_ne (by decide), Aj j (by omega)]
            · rw [q_up_sn (by decide), q_up_ne (by decide)]; exact A12
            · rw [q_up_s, hEn, eE]; omega
            · refine ⟨?_, ?_, ?_⟩
              · rw [q_up_ne (by decide), q_up_sn hi, Am 58 (by decide) (by decide)]
              · rw [q_up_ne (by decide), q_up_ne (by decide), A59i i hi]
              · rw [q_up_ne (by decide), q_up_ne (by decide), Am 60 (by decide) (by decide)]
            · rw [q_up_ne (by decide), q_up_s, eC, ek]
            · rw [q_up_ne (by decide), q_up_ne (by decide)]; exact A59
          · rw [if_neg k3] at eC
            have hsg0 : sg = 0 := by rw [hsg, if_neg (by omega)]
            have qst := mx_stop0 (sc := sc) (d := d - 1) (x := (y : Int)) A12 (by omega)
            refine finI (q_up (q_up A 49 13 (y : Int)) 49 12 1) ?_ (fun a ha hb => ?_) (fun j hj => ?_) q_up_s ?_ (hS'.mpr ⟨k1, eC⟩)
            · refine sg_X12_look_139.trans ?_
              rw [if_neg (by omega), qsm, q_cI_s, if_pos rfl, if_neg (by omega), qdg, q_cI_s, if_pos rfl, A14, if_pos hsg0]
              by_cases k5 : T y < 65
              · rw [if_pos k5, qst, q_c0_s]
              · rw [if_neg k5, if_pos (by omega), qst, q_c0_s]
            · rw [q_upf hb, q_upf hb, Am a hb (by omega)]
            · rw [q_up_sn (by omega), q_up_sn (by omega), Aj j (by omega)]
            · rw [q_up_sn (by decide), q_up_s]
    · have htn : t = n - 1 := by
        rcases Nat.lt_or_ge (t + 1) n with hh | hh
        · have := (z7 t hh).1
          rw [hy] at this
          omega
        · omega
      have eC : C t = 256 := by rw [htn]; exact z9
      have hS : ¬ S t := by rw [htn]; exact z10
      have ea : atv T len y = 0 := by unfold atv; rw [if_neg (by omega)]
      rw [ea] at fin
      refine fin (q_up A 58 t 0) ?_ (fun a ha hb => ?_) (fun j hj => ?_) ?_ (fun hh => by omega) (fun i hi => ?_) ?_ ?_ (fun hh => by omega) hS
      · refine sg_X12_look_139.trans ?_
        rw [if_pos rfl, if_pos hbA, A15, Int.toNat_natCast]
      · rw [q_upf (by omega), Am a hb (by omega)]
      · rw [q_up_ne (by decide), Aj j (by omega)]
      · rw [q_up_ne (by decide)]; exact A12
      · refine ⟨?_, ?_, ?_⟩
        · rw [q_up_sn hi, Am 58 (by decide) (by decide)]
        · rw [q_up_ne (by decide), A59i i hi]
        · rw [q_up_ne (by decide), Am 60 (by decide) (by decide)]
      · rw [q_up_s, eC]; decide
      · rw [q_up_ne (by decide)]; exact A59
