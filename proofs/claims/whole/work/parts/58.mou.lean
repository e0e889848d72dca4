/-! the model reads outs -/
theorem MP_up {Z : tZ} {n : Nat} {C P : Nat → Int} {S : Nat → Prop} {M : q_M} {p t k j : Nat} {v : Int} (h : MP Z n C P S M p t) (hk : ¬ k = 49 ∧ ¬ k = 50 ∧ ¬ (57 ≤ k ∧ k ≤ 60)) : MP Z n C P S (q_up M k j v) p t := MP_fr h (fun a h1 h2 => q_upf (by omega)) (q_up_ne (by omega)) (fun i h1 h2 => q_up_ne (by omega))
theorem MP_us {Z : tZ} {n : Nat} {C P : Nat → Int} {S : Nat → Prop} {M : q_M} {p t j : Nat} {v : Int} (h : MP Z n C P S M p t) (hk : ¬ j = 9 ∧ ¬ (12 ≤ j ∧ j ≤ 16)) : MP Z n C P S (q_up M 49 j v) p t := MP_fr h (fun a h1 h2 => q_upf (by omega)) (q_up_sn (by omega)) (fun i h1 h2 => q_up_sn (by omega))
theorem IL_up {M : q_M} {x : Int} {k j : Nat} {v : Int} (h : IL M x) (hk : ¬ k = 49) : IL (q_up M k j v) x := by
  unfold IL at h ⊢
  rw [q_up_ne (by omega), q_up_ne (by omega), q_up_ne (by omega)]; exact h
theorem IL_us {M : q_M} {x : Int} {j : Nat} {v : Int} (h : IL M x) (hk : ¬ (12 ≤ j ∧ j ≤ 16)) : IL (q_up M 49 j v) x := by
  unfold IL at h ⊢
  rw [q_up_sn (by omega), q_up_sn (by omega), q_up_sn (by omega)]; exact h
theorem IT_up {M : q_M} {x : Int} {k j : Nat} {v : Int} (h : IT M x) (hk : ¬ k = 49) : IT (q_up M k j v) x := ⟨IL_up h.1 hk, by rw [q_up_ne (by omega), q_up_ne (by omega)]; exact h.2⟩
/-- a query's frame -/
def FQ (M M' : q_M) : Prop := (∀ a, ¬ (58 ≤ a ∧ a ≤ 69) → ¬ a = 49 → M' a = M a) ∧ (∀ j, ¬ (12 ≤ j ∧ j ≤ 16) → ¬ j = 20 → ¬ j = 23 → ¬ j = 26 → ¬ (32 ≤ j ∧ j ≤ 34) → M' 49 j = M 49 j)
theorem FQ_r {M : q_M} : FQ M M := ⟨fun _ _ _ => rfl, fun _ _ _ _ _ _ => rfl⟩
theorem FQ_t {M M' M'' : q_M} (h : FQ M M') (h' : FQ M' M'') : FQ M M'' := ⟨fun a h1 h2 => (h'.1 a h1 h2).trans (h.1 a h1 h2), fun j h1 h2 h3 h4 h5 => (h'.2 j h1 h2 h3 h4 h5).trans (h.2 j h1 h2 h3 h4 h5)⟩
/-- the frame of outs -/
def FO (M M' : q_M) : Prop := (∀ a, ¬ (58 ≤ a ∧ a ≤ 63) → ¬ a = 49 → M' a = M a) ∧ (∀ j, ¬ (12 ≤ j ∧ j ≤ 16) → ¬ j = 23 → M' 49 j = M 49 j)
theorem FO_r {M : q_M} : FO M M := ⟨fun _ _ _ => rfl, fun _ _ _ => rfl⟩
theorem FO_t {M M' M'' : q_M} (h : FO M M') (h' : FO M' M'') : FO M M'' := ⟨fun a h1 h2 => (h'.1 a h1 h2).trans (h.1 a h1 h2), fun j h1 h2 => (h'.2 j h1 h2).trans (h.2 j h1 h2)⟩
theorem FT_O {M M' : q_M} (h : FT M M') : FO M M' := ⟨fun a h1 h2 => h.1 a (by omega) h2, fun j h1 _ => h.2 j h1⟩
theorem FO_Q {M M' : q_M} (h : FO M M') : FQ M M' := ⟨fun a h1 h2 => h.1 a (by omega) h2, fun j h1 _ h3 _ _ => h.2 j h1 h3⟩
theorem FO_up {M : q_M} {k j : Nat} {v : Int} (hk : k = 62 ∨ k = 63) : FO M (q_up M k j v) := ⟨fun a h1 h2 => q_upf (by omega), fun i h1 h2 => q_up_ne (by omega)⟩
theorem FO_us {M : q_M} {j : Nat} {v : Int} (hk : (12 ≤ j ∧ j ≤ 16) ∨ j = 23) : FO M (q_up M 49 j v) := ⟨fun a h1 h2 => q_upf (by omega), fun i h1 h2 => q_up_sn (by omega)⟩
def mko (k : Int) : Int := if k = 275 then 0 else k - 59
def MO (M : q_M) (ous : List aOu) : Prop := M 49 23 = ous.length ∧ ∀ i x, ous[i]? = some x → M 62 i = mko x.1 ∧ M 63 i = x.2.2
theorem MO_fr {M M' : q_M} {ous : List aOu} (h : MO M ous) (h1 : M' 62 = M 62) (h2 : M' 63 = M 63) (h3 : M' 49 23 = M 49 23) : MO M' ous := by
  unfold MO at h ⊢
  rw [h1, h2, h3]; exact h
theorem kp_ag {c : Int} (h : kR c) : (207 ≤ kp c ∧ kp c < 207 + 4) ↔ (266 ≤ c ∧ c ≤ 269) := by
  unfold kp; unfold kR at h
  repeat' split
  all_goals omega
/-- what a read out leaves: the arrays and the count -/
theorem MO_push {M M' : q_M} {ous : List aOu} {x : aOu} (h : MO M ous) (h1 : ∀ i, i < ous.length → M' 62 i = M 62 i ∧ M' 63 i = M 63 i) (h2 : M' 62 ous.length = mko x.1 ∧ M' 63 ous.length = x.2.2) (h3 : M' 49 23 = (ous.length : Int) + 1) : MO M' (ous ++ [x]) := by
  refine ⟨by rw [h3]; simp, fun i y hy => ?_⟩
  rcases l_app hy with ⟨hi, hy⟩ | ⟨rfl, rfl⟩
  · rw [(h1 i hi).1, (h1 i hi).2]; exact h.2 i y hy
  · exact h2
theorem mx_out {sc : List Int} {d : Nat} {M : q_M} {Z : tZ} {n : Nat} {C P : Nat → Int} {S : Nat → Prop} {p t : Nat} {ous : List aOu} (u : Nat) (hE : TE Z n C P S) (h : MP Z n C P S M p t) (hO : MO M ous) (ho : ous.length < 5) (hd : 9 ≤ d) : ∃ M', pq sc d 170 [.inr (.inr 49)] GF M = some (none, GF, M') ∧ FO M M' ∧ (((aOut C p u).1 = true ∧ MP Z n C P S M' (aOut C p u).2.1 (aOut C p u).2.1 ∧ MO M' (ous ++ [(aOut C p u).2.2.1])) ∨ ((aOut C p u).1 = false ∧ IL M' (P (aOut C p u).2.1))) := by
  have hp := h.2.2.2.2.2.2.1
  have hr := TE_R hE hp
  have hn := TE_n hE
  obtain ⟨M1, x, q1, hf1, hx⟩ := mx_look (sc := sc) (d := d - 1) hE h (by omega)
  have e23 : M1 49 23 = ous.length := (hf1.2 23 (by omega)).trans hO.1
  have e16 : M1 49 16 = p := (hf1.2 16 (by omega)).trans h.2.2.2.1
  have hO1 : MO M1 ous := MO_fr hO (hf1.1 62 (by omega) (by omega)) (hf1.1 63 (by omega) (by omega)) (hf1.2 23 (by omega))
  generalize hA : q_up (q_up M1 63 ous.length (p : Int)) 62 ous.length 0 = A at *
  have fA : FO M1 A := by rw [← hA]; exact FO_t (FO_up (by omega)) (FO_up (by omega))
  have A23 : A 49 23 = ous.length := by rw [← hA, q_up_ne (by decide), q_up_ne (by decide)]; exact e23
  have Aw : q_w (A 49 23 + 1) = (ous.length : Int) + 1 := by rw [A23, q_wid (by omega) (by omega)]
  have Ai : ∀ i, i < ous.length → A 62 i = M1 62 i ∧ A 63 i = M1 63 i := by
    intro i hi
    rw [← hA]
    exact ⟨by rw [q_up_sn (by omega), q_up_ne (by decide)], by rw [q_up_ne (by decide), q_up_sn (by omega)]⟩
  have A63 : A 63 ous.length = p := by rw [← hA, q_up_ne (by decide), q_up_s]
  have A62 : A 62 ous.length = 0 := by rw [← hA, q_up_s]
  have hb : 0 ≤ M1 49 23 ∧ M1 49 23 < ((5 : Nat) : Int) := by omega
  have hbA : 0 ≤ A 49 23 ∧ A 49 23 < ((5 : Nat) : Int) := by omega
  unfold aOut
  rcases hx with ⟨hs, rfl, h1⟩ | ⟨hs, rfl, h1⟩
  · have hMA : MP Z n C P S A p (p + 1) := by rw [← hA]; exact MP_up (MP_up h1 (by omega)) (by omega)
    have q2 := sp_isIn (sc := sc) (d := d - 1) (M := A) (a := kp (C p)) (b := 207) (by omega) (by omega) (by omega)
    by_cases hg : 266 ≤ C p ∧ C p ≤ 269
    · rw [if_pos ((kp_ag hr).mpr hg)] at q2
      have ek : kp (C p) = C p - 59 := by unfold kp; rw [if_neg (by omega), if_neg (by omega), if_pos (by omega)]
      have hp1 := ends (TE_C hE) hp (by omega)
      have ew := MP_w hE hMA
      generalize hB : q_up (q_up A 62 ous.length (C p - 59)) 49 16 ((p : Int) + 1) = B at *
      have hMB : MP Z n C P S B (p + 1) (p + 1) := by
        have := MP_adv (MP_up (k := 62) (j := ous.length) (v := C p - 59) hMA (by omega)) hp1
        rw [hB] at this; exact this
      have fB : FO A B := by rw [← hB]; exact FO_t (FO_up (by omega)) (FO_us (by omega))
      have B23 : B 49 23 = ous.length := by rw [← hB, q_up_sn (by decide), q_up_ne (by decide)]; exact A23
      have B62 : B 62 ous.length = C p - 59 := by rw [← hB, q_up_ne (by decide), q_up_s]
      have B63 : B 63 ous.length = p := by rw [← hB, q_up_ne (by decide), q_up_ne (by decide)]; exact A63
      have Bi : ∀ i, i < ous.length → B 62 i = M1 62 i ∧ B 63 i = M1 63 i := by
        intro i hi
        rw [← hB]
        exact ⟨by rw [q_up_ne (by decide), q_up_sn (by omega)]; exact (Ai i hi).1, by rw [q_up_ne (by decide), q_up_ne (by decide)]; exact (Ai i hi).2⟩
      have hfB : FO M B := FO_t (FT_O (FL_T hf1)) (FO_t fA fB)
      by_cases hc : C p = 266
      · rw [if_pos hc]
        refine ⟨q_up B 49 23 ((ous.length : Int) + 1), pq_e (by omega) (by decide) (Nat.le_of_ble_eq_true rfl) ⟨0 + 1, sg_X12_readOut_0.trans ?_⟩, FO_t hfB (FO_us (by omega)), Or.inl ⟨rfl, MP_us hMB (by omega), MO_push (M := M1) hO1 (fun i hi => ?_) ?_ q_up_s⟩⟩
        · rw [q1, q_cI_s, if_pos hb, if_pos hb, e16, e23, Int.toNat_natCast, hA, q2, q_cI_s, if_neg (by decide), if_pos hbA, if_pos (by rw [hc]; decide), ew, ek, A23, Int.toNat_natCast, hB, q_wid (by omega) (by omega)]
        · rw [q_up_ne (by decide), q_up_ne (by decide)]; exact Bi i hi
        · rw [q_up_ne (by decide), q_up_ne (by decide), B62, B63, hc]; exact ⟨by show (266 : Int) - 59 = mko 266; decide, rfl⟩
      · rw [if_neg hc, if_pos (by omega)]
        obtain ⟨M6, q6, hf6, h6⟩ := mx_want (sc := sc) (d := d - 1) (c := 40) (k := 40) hE hMB (by unfold kG kR; omega) (by decide) (by omega)
        have e623 : M6 49 23 = ous.length := (hf6.2 23 (by omega)).trans B23
        have hb6 : 0 ≤ M6 49 23 ∧ M6 49 23 < ((5 : Nat) : Int) := by omega
        have w6 : q_w (M6 49 23 + 1) = (ous.length : Int) + 1 := by rw [e623, q_wid (by omega) (by omega)]
        have hkc : ¬ kp (C p) = 207 := by rw [ek]; omega
        rcases h6 with ⟨hc6, h6⟩ | ⟨hc6, h6⟩
        · rw [if_pos hc6]
          have e616 : M6 49 16 = ((p + 2 : Nat) : Int) := h6.2.2.2.1
          generalize hD : q_up M6 63 ous.length ((p + 2 : Nat) : Int) = D at *
          have hMD : MP Z n C P S D (p + 2) (p + 2) := by rw [← hD]; exact MP_up h6 (by omega)
          have fD : FO M6 D := by rw [← hD]; exact FO_up (by omega)
          have D23 : D 49 23 = ous.length := by rw [← hD, q_up_ne (by decide)]; exact e623
          have D62 : D 62 ous.length = C p - 59 := by rw [← hD, q_up_ne (by decide), hf6.1 62 (by omega) (by omega)]; exact B62
          have D63 : D 63 ous.length = ((p + 2 : Nat) : Int) := by rw [← hD, q_up_s]
          have Di : ∀ i, i < ous.length → D 62 i = M1 62 i ∧ D 63 i = M1 63 i := by
            intro i hi
            rw [← hD]
            exact ⟨by rw [q_up_ne (by decide), hf6.1 62 (by omega) (by omega)]; exact (Bi i hi).1, by rw [q_up_sn (by omega), hf6.1 63 (by omega) (by omega)]; exact (Bi i hi).2⟩
          have hfD : FO M D := FO_t hfB (FO_t (FT_O hf6) fD)
          obtain ⟨M8, q8, hf8, h8⟩ := mx_column (sc := sc) (d := d - 1) hE hMD (by omega)
          have w8 : q_w (M8 49 23 + 1) = (ous.length : Int) + 1 := by rw [hf8.2 23 (by omega), D23, q_wid (by omega) (by omega)]
          rcases h8 with ⟨hb8, h8⟩ | ⟨hb8, h8⟩
          · rw [if_pos hb8]
            obtain ⟨M9, q9, hf9, h9⟩ := mx_want (sc := sc) (d := d - 1) (c := 41) (k := 41) hE h8 (by unfold kG kR; omega) (by decide) (by omega)
            have w9 : q_w (M9 49 23 + 1) = (ous.length : Int) + 1 := by rw [hf9.2 23 (by omega), hf8.2 23 (by omega), D23, q_wid (by omega) (by omega)]
            have hq : pq sc d 170 [.inr (.inr 49)] GF M = some (none, GF, q_up M9 49 23 ((ous.length : Int) + 1)) := by
              refine pq_e (by omega) (by decide) (Nat.le_of_ble_eq_true rfl) ⟨0 + 1, sg_X12_readOut_0.trans ?_⟩
              rw [q1, q_cI_s, if_pos hb, if_pos hb, e16, e23, Int.toNat_natCast, hA, q2, q_cI_s, if_neg (by decide), if_pos hbA, if_neg hkc, ew, ek, A23, Int.toNat_natCast, hB, q6, q_c0_s, if_pos hb6, if_pos h6.2.2.1, e623, Int.toNat_natCast, e616, hD, q8, q_c0_s, if_pos h8.2.2.1, q9, q_c0_s, w9]
            have hfr := FO_t hfD (FO_t (FT_O hf8) (FO_t (FT_O hf9) (FO_us (j := 23) (v := (ous.length : Int) + 1) (by omega))))
            rcases h9 with ⟨hc9, h9⟩ | ⟨hc9, h9⟩
            · rw [if_pos hc9]
              refine ⟨_, hq, hfr, Or.inl ⟨rfl, MP_us h9 (by omega), MO_push (M := M1) hO1 (fun i hi => ?_) ?_ q_up_s⟩⟩
              · rw [q_up_ne (by decide), q_up_ne (by decide), hf9.1 62 (by omega) (by omega), hf9.1 63 (by omega) (by omega), hf8.1 62 (by omega) (by omega), hf8.1 63 (by omega) (by omega)]; exact Di i hi
              · rw [q_up_ne (by decide), q_up_ne (by decide), hf9.1 62 (by omega) (by omega), hf9.1 63 (by omega) (by omega), hf8.1 62 (by omega) (by omega), hf8.1 63 (by omega) (by omega), D62, D63]
                exact ⟨by show C p - 59 = mko (C p); unfold mko; rw [if_neg (by omega)], rfl⟩
            · rw [if_neg hc9]
              exact ⟨_, hq, hfr, Or.inr ⟨rfl, IL_us h9 (by omega)⟩⟩
          · rw [if_neg (by rw [hb8]; decide)]
            refine ⟨q_up M8 49 23 ((ous.length : Int) + 1), pq_e (by omega) (by decide) (Nat.le_of_ble_eq_true rfl) ⟨0 + 1, sg_X12_readOut_0.trans ?_⟩, FO_t hfD (FO_t (FT_O hf8) (FO_us (by omega))), Or.inr ⟨rfl, IL_us h8 (by omega)⟩⟩
            rw [q1, q_cI_s, if_pos hb, if_pos hb, e16, e23, Int.toNat_natCast, hA, q2, q_cI_s, if_neg (by decide), if_pos hbA, if_neg hkc, ew, ek, A23, Int.toNat_natCast, hB, q6, q_c0_s, if_pos hb6, if_pos h6.2.2.1, e623, Int.toNat_natCast, e616, hD, q8, q_c0_s, if_neg (by have := h8.1; omega), w8]
        · rw [if_neg hc6]
          refine ⟨q_up (q_up M6 63 ous.length (M6 49 16)) 49 23 ((ous.length : Int) + 1), pq_e (by omega) (by decide) (Nat.le_of_ble_eq_true rfl) ⟨0 + 1, sg_X12_readOut_0.trans ?_⟩, FO_t hfB (FO_t (FT_O hf6) (FO_t (FO_up (by omega)) (FO_us (by omega)))), Or.inr ⟨rfl, IL_us (IL_up h6 (by omega)) (by omega)⟩⟩
          rw [q1, q_cI_s, if_pos hb, if_pos hb, e16, e23, Int.toNat_natCast, hA, q2, q_cI_s, if_neg (by decide), if_pos hbA, if_neg hkc, ew, ek, A23, Int.toNat_natCast, hB, q6, q_c0_s, if_pos hb6, if_neg (by have := h6.1; omega), if_neg (by have := h6.1; omega), w6, e623, Int.toNat_natCast]
    · rw [if_neg (fun e => hg ((kp_ag hr).mp e))] at q2
      rw [if_neg (by omega), if_neg (by omega)]
      obtain ⟨M8, q8, hf8, h8⟩ := mx_column (sc := sc) (d := d - 1) hE hMA (by omega)
      have w8 : q_w (M8 49 23 + 1) = (ous.length : Int) + 1 := by rw [hf8.2 23 (by omega), A23, q_wid (by omega) (by omega)]
      have hq : pq sc d 170 [.inr (.inr 49)] GF M = some (none, GF, q_up M8 49 23 ((ous.length : Int) + 1)) := by
        refine pq_e (by omega) (by decide) (Nat.le_of_ble_eq_true rfl) ⟨0 + 1, sg_X12_readOut_0.trans ?_⟩
        rw [q1, q_cI_s, if_pos hb, if_pos hb, e16, e23, Int.toNat_natCast, hA, q2, q_cI_s, if_pos rfl, q8, q_c0_s, w8]
      have hfr : FO M (q_up M8 49 23 ((ous.length : Int) + 1)) := FO_t (FT_O (FL_T hf1)) (FO_t fA (FO_t (FT_O hf8) (FO_us (by omega))))
      rcases h8 with ⟨hb8, h8⟩ | ⟨hb8, h8⟩
      · refine ⟨_, hq, hfr, Or.inl ⟨hb8, MP_us h8 (by omega), MO_push (M := M1) hO1 (fun i hi => ?_) ?_ q_up_s⟩⟩
        · rw [q_up_ne (by decide), q_up_ne (by decide), hf8.1 62 (by omega) (by omega), hf8.1 63 (by omega) (by omega)]; exact Ai i hi
        · rw [q_up_ne (by decide), q_up_ne (by decide), hf8.1 62 (by omega) (by omega), hf8.1 63 (by omega) (by omega), A62, A63]
          exact ⟨by show (0 : Int) = mko 275; decide, rfl⟩
      · exact ⟨_, hq, hfr, Or.inr ⟨hb8, IL_us h8 (by omega)⟩⟩
  · have e5 := TE_S hE hp hs
    rw [if_neg (by omega), if_neg (by omega)]
    have ea : aCol C p = (false, p) := by unfold aCol; rw [if_neg (by omega)]
    rw [ea]
    have hIA : IT A (P p) := by rw [← hA]; exact IT_up (IT_up h1 (by omega)) (by omega)
    have q2 := sp_isIn (sc := sc) (d := d - 1) (M := A) (a := 0) (b := 207) (by omega) (by omega) (by omega)
    rw [if_neg (by omega)] at q2
    have q8 := mx_columnI (sc := sc) (d := d - 1) hIA (by omega)
    refine ⟨q_up A 49 23 ((ous.length : Int) + 1), pq_e (by omega) (by decide) (Nat.le_of_ble_eq_true rfl) ⟨0 + 1, sg_X12_readOut_0.trans ?_⟩, FO_t (FT_O (FL_T hf1)) (FO_t fA (FO_us (by omega))), Or.inr ⟨rfl, IL_us hIA.1 (by omega)⟩⟩
    rw [q1, q_cI_s, if_pos hb, if_pos hb, e16, e23, Int.toNat_natCast, hA, q2, q_cI_s, if_pos rfl, q8, q_c0_s, Aw]
