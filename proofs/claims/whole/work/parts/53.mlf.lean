/-! the model's parser: leaves -/
def FT (M M' : q_M) : Prop := (∀ a, ¬ (58 ≤ a ∧ a ≤ 60) → ¬ a = 49 → M' a = M a) ∧ (∀ j, ¬ (12 ≤ j ∧ j ≤ 16) → M' 49 j = M 49 j)
theorem FT_r {M : q_M} : FT M M := ⟨fun _ _ _ => rfl, fun _ _ => rfl⟩
theorem FT_t {M M' M'' : q_M} (h : FT M M') (h' : FT M' M'') : FT M M'' := ⟨fun a h1 h2 => (h'.1 a h1 h2).trans (h.1 a h1 h2), fun j h1 => (h'.2 j h1).trans (h.2 j h1)⟩
theorem FL_T {M M' : q_M} (h : FL M M') : FT M M' := ⟨fun a h1 h2 => h.1 a (by omega) h2, fun j h1 => h.2 j (by omega)⟩
theorem FT_R {M M' : q_M} (h : FT M M') : FR M M' := ⟨fun a h1 h2 => h.1 a (by omega) h2, fun j h1 _ => h.2 j h1⟩
theorem FT_u {M : q_M} {j : Nat} {v : Int} (hj : 12 ≤ j ∧ j ≤ 16) : FT M (q_up M 49 j v) := ⟨fun a _ h2 => q_upf h2, fun k h1 => q_up_sn (by omega)⟩
theorem sp_isIn {sc : List Int} {d : Nat} {M : q_M} {a b : Int} (hb : 0 ≤ b) (hb2 : b ≤ 1000) (hd : 1 ≤ d) : pq sc d 168 [.inl a, .inl b, .inl 4] GF M = some (some (.inl (if b ≤ a ∧ a < b + 4 then 1 else 0)), GF, M) := by
  refine pq_e (by omega) (by decide) (Nat.le_of_ble_eq_true rfl) ⟨0 + 1, sg_X12_isIn_0.trans ?_⟩
  rw [q_wid (by omega) (by omega)]
  by_cases h1 : a < b
  · rw [if_pos h1, if_neg (by omega)]
  · by_cases h2 : a < b + 4
    · rw [if_neg h1, if_pos h2, if_pos (by omega)]
    · rw [if_neg h1, if_neg h2, if_neg (by omega)]
theorem mx_lookI {sc : List Int} {d : Nat} {M : q_M} {x : Int} (h : IL M x) (hd : 1 ≤ d) : ∃ y, pq sc d 164 [.inr (.inr 49)] GF M = some (some (.inl y), GF, M) ∧ (M 49 15 ≤ M 49 16 → y = 0) := by
  obtain ⟨h1, h2, h3, h4⟩ := h
  by_cases hl : M 49 16 < M 49 15
  · refine ⟨M 58 (M 49 16).toNat, pq_e (by omega) (by decide) (Nat.le_of_ble_eq_true rfl) ⟨0 + 1, sg_X12_look_0.trans ?_⟩, fun hh => by omega⟩
    rw [if_pos hl, if_pos hl, if_pos (by omega)]
  · refine ⟨0, pq_e (by omega) (by decide) (Nat.le_of_ble_eq_true rfl) ⟨0 + 1, sg_X12_look_0.trans ?_⟩, fun _ => rfl⟩
    rw [if_neg hl, if_neg (by omega), if_neg hl]
theorem mx_stop {sc : List Int} {d : Nat} {M : q_M} {x : Int} (h : M 49 12 = 0) (hd : 1 ≤ d) : pq sc d 161 [.inr (.inr 49), .inl x] GF M = some (none, GF, q_up (q_up M 49 13 x) 49 12 1) := by
  refine pq_e (by omega) (by decide) (Nat.le_of_ble_eq_true rfl) ⟨0 + 1, sg_X12_stop_0.trans ?_⟩
  rw [if_pos h]
theorem mx_wrongI {sc : List Int} {d : Nat} {M : q_M} {x : Int} (h : IL M x) (hd : 2 ≤ d) : pq sc d 165 [.inr (.inr 49)] GF M = some (none, GF, M) := by
  obtain ⟨y, q1, -⟩ := mx_lookI (sc := sc) (d := d - 1) h (by omega)
  refine pq_e (by omega) (by decide) (Nat.le_of_ble_eq_true rfl) ⟨0 + 1, sg_X12_wrong_0.trans ?_⟩
  rw [q1, q_cI_s, if_neg (by have := h.1; omega)]
theorem mx_takeI {sc : List Int} {d : Nat} {M : q_M} {x k : Int} (h : IL M x) (hd : 2 ≤ d) : pq sc d 166 [.inr (.inr 49), .inl k] GF M = some (some (.inl 0), GF, M) := by
  obtain ⟨y, q1, -⟩ := mx_lookI (sc := sc) (d := d - 1) h (by omega)
  refine pq_e (by omega) (by decide) (Nat.le_of_ble_eq_true rfl) ⟨0 + 1, sg_X12_take_0.trans ?_⟩
  rw [q1, q_cI_s]
  by_cases e : y = k
  · rw [if_pos e, if_neg (by have := h.1; omega)]
  · rw [if_neg e]
theorem mx_wrong2 {sc : List Int} {d : Nat} {M : q_M} {Z : tZ} {n : Nat} {C P : Nat → Int} {S : Nat → Prop} {p t : Nat} (hE : TE Z n C P S) (h : MP Z n C P S M p t) (hd : 6 ≤ d) : ∃ M', pq sc d 165 [.inr (.inr 49)] GF M = some (none, GF, M') ∧ FT M M' ∧ IL M' (P p) ∧ M' 49 16 = p := by
  obtain ⟨M1, x, q1, hf, hc⟩ := mx_look (sc := sc) (d := d - 1) hE h (by omega)
  have hn := TE_n hE
  rcases hc with ⟨hs, rfl, h1⟩ | ⟨hs, rfl, h1⟩
  · have h16 := h1.2.2.2.1
    have hp := h1.2.2.2.2.2.2.1
    refine ⟨q_up (q_up M1 49 13 (P p)) 49 12 1, pq_e (by omega) (by decide) (Nat.le_of_ble_eq_true rfl) ⟨0 + 1, sg_X12_wrong_0.trans ?_⟩, FT_t (FL_T hf) (FT_t (FT_u (by omega)) (FT_u (by omega))), ⟨q_up_s, (q_up_sn (by decide)).trans q_up_s, ?_, ?_⟩, ?_⟩
    · rw [q1, q_cI_s, if_pos h1.2.2.1, if_pos (by omega), h16, Int.toNat_natCast, (h1.2.2.2.2.2.2.2.2 p (by omega)).2.2.1, mx_stop h1.2.2.1 (by omega), q_c0_s]
    · rw [q_up_sn (by decide), q_up_sn (by decide)]; omega
    · rw [q_up_sn (by decide), q_up_sn (by decide)]; omega
    · rw [q_up_sn (by decide), q_up_sn (by decide)]; omega
  · refine ⟨M1, pq_e (by omega) (by decide) (Nat.le_of_ble_eq_true rfl) ⟨0 + 1, sg_X12_wrong_0.trans ?_⟩, FL_T hf, h1.1, (hf.2 16 (by omega)).trans h.2.2.2.1⟩
    rw [q1, q_cI_s, if_neg (by have := h1.1.1; omega)]
theorem mx_wrong {sc : List Int} {d : Nat} {M : q_M} {Z : tZ} {n : Nat} {C P : Nat → Int} {S : Nat → Prop} {p t : Nat} (hE : TE Z n C P S) (h : MP Z n C P S M p t) (hd : 6 ≤ d) : ∃ M', pq sc d 165 [.inr (.inr 49)] GF M = some (none, GF, M') ∧ FT M M' ∧ IL M' (P p) := by
  obtain ⟨M', q, hf, h1, -⟩ := mx_wrong2 (sc := sc) (d := d) hE h hd
  exact ⟨M', q, hf, h1⟩
/-- a kind that can be taken -/
def kG (c : Int) : Prop := kR c ∧ ¬ c = 257 ∧ ¬ (101 ≤ c ∧ c ≤ 118) ∧ ¬ c = 256
theorem MP_w {Z : tZ} {n : Nat} {C P : Nat → Int} {S : Nat → Prop} {M : q_M} {p t : Nat} (hE : TE Z n C P S) (h : MP Z n C P S M p t) : q_w (M 49 16 + 1) = (p : Int) + 1 := by
  have := h.2.2.2.1
  have := h.2.2.2.2.2.2.1
  have := TE_n hE
  rw [q_wid (by omega) (by omega)]; omega
theorem mx_take {sc : List Int} {d : Nat} {M : q_M} {Z : tZ} {n : Nat} {C P : Nat → Int} {S : Nat → Prop} {p t : Nat} {c k : Int} (hE : TE Z n C P S) (h : MP Z n C P S M p t) (hc : kG c) (hk : kp c = k) (hd : 6 ≤ d) : ∃ M' x, pq sc d 166 [.inr (.inr 49), .inl k] GF M = some (some (.inl x), GF, M') ∧ FT M M' ∧ ((C p = c ∧ x = 1 ∧ MP Z n C P S M' (p + 1) (p + 1)) ∨ (¬ C p = c ∧ x = 0 ∧ ((¬ S p ∧ MP Z n C P S M' p (p + 1)) ∨ (S p ∧ IT M' (P p))))) := by
  obtain ⟨M1, x, q1, hf, hx⟩ := mx_look (sc := sc) (d := d - 1) hE h (by omega)
  have hp := h.2.2.2.2.2.2.1
  have hr := TE_R hE hp
  subst hk
  rcases hx with ⟨hs, rfl, h1⟩ | ⟨hs, rfl, h1⟩
  · by_cases e : C p = c
    · refine ⟨q_up M1 49 16 ((p : Int) + 1), 1, pq_e (by omega) (by decide) (Nat.le_of_ble_eq_true rfl) ⟨0 + 1, sg_X12_take_0.trans ?_⟩, FT_t (FL_T hf) (FT_u (by omega)), Or.inl ⟨e, rfl, MP_adv h1 (ends (TE_C hE) hp (by have := hc.2.2.2; omega))⟩⟩
      rw [q1, q_cI_s, if_pos (by rw [e]), if_pos h1.2.2.1, MP_w hE h1]
    · refine ⟨M1, 0, pq_e (by omega) (by decide) (Nat.le_of_ble_eq_true rfl) ⟨0 + 1, sg_X12_take_0.trans ?_⟩, FL_T hf, Or.inr ⟨e, rfl, Or.inl ⟨hs, h1⟩⟩⟩
      rw [q1, q_cI_s, if_neg (fun e2 => e (kp_ne hr hc.1 hc.2.1 hc.2.2.1 e2))]
  · have e := TE_S hE hp hs
    refine ⟨M1, 0, pq_e (by omega) (by decide) (Nat.le_of_ble_eq_true rfl) ⟨0 + 1, sg_X12_take_0.trans ?_⟩, FL_T hf, Or.inr ⟨by rw [e]; exact fun e2 => hc.2.1 e2.symm, rfl, Or.inr ⟨hs, h1⟩⟩⟩
    rw [q1, q_cI_s]
    by_cases e : 0 = kp c
    · rw [if_pos e, if_neg (by have := h1.1.1; omega)]
    · rw [if_neg e]
theorem mx_want {sc : List Int} {d : Nat} {M : q_M} {Z : tZ} {n : Nat} {C P : Nat → Int} {S : Nat → Prop} {p t : Nat} {c k : Int} (hE : TE Z n C P S) (h : MP Z n C P S M p t) (hc : kG c) (hk : kp c = k) (hd : 7 ≤ d) : ∃ M', pq sc d 167 [.inr (.inr 49), .inl k] GF M = some (none, GF, M') ∧ FT M M' ∧ ((C p = c ∧ MP Z n C P S M' (p + 1) (p + 1)) ∨ (¬ C p = c ∧ IL M' (P p))) := by
  obtain ⟨M1, x, q1, hf, hx⟩ := mx_take (sc := sc) (d := d - 1) hE h hc hk (by omega)
  rcases hx with ⟨e, rfl, h1⟩ | ⟨e, rfl, ⟨hs, h1⟩ | ⟨hs, h1⟩⟩
  · refine ⟨M1, pq_e (by omega) (by decide) (Nat.le_of_ble_eq_true rfl) ⟨0 + 1, sg_X12_want_0.trans ?_⟩, hf, Or.inl ⟨e, h1⟩⟩
    simp only [q_cI_s, q_c0_s, i10, i00, if_true, if_false, q1]
  · obtain ⟨M2, q2, hf2, h2⟩ := mx_wrong (sc := sc) (d := d - 1) hE h1 (by omega)
    refine ⟨M2, pq_e (by omega) (by decide) (Nat.le_of_ble_eq_true rfl) ⟨0 + 1, sg_X12_want_0.trans ?_⟩, FT_t hf hf2, Or.inr ⟨e, h2⟩⟩
    simp only [q_cI_s, q_c0_s, i10, i00, if_true, if_false, q1, q2]
  · have q2 := mx_wrongI (sc := sc) (d := d - 1) h1.1 (by omega)
    refine ⟨M1, pq_e (by omega) (by decide) (Nat.le_of_ble_eq_true rfl) ⟨0 + 1, sg_X12_want_0.trans ?_⟩, hf, Or.inr ⟨e, h1.1⟩⟩
    simp only [q_cI_s, q_c0_s, i10, i00, if_true, if_false, q1, q2]
theorem kp_al {c : Int} (h : kR c) : (220 ≤ kp c ∧ kp c < 220 + 4) ↔ (119 ≤ c ∧ c ≤ 122) := by
  unfold kp; unfold kR at h
  repeat' split
  all_goals omega
theorem kp_co {c : Int} (h : kR c) : (230 ≤ kp c ∧ kp c < 230 + 4) ↔ (97 ≤ c ∧ c ≤ 100) := by
  unfold kp; unfold kR at h
  repeat' split
  all_goals omega
theorem mx_columnI {sc : List Int} {d : Nat} {M : q_M} {x : Int} (h : IT M x) (hd : 3 ≤ d) : pq sc d 169 [.inr (.inr 49)] GF M = some (none, GF, M) := by
  obtain ⟨y, q1, hy⟩ := mx_lookI (sc := sc) (d := d - 1) h.1 (by omega)
  have hy := hy h.2
  subst hy
  have q2 := sp_isIn (sc := sc) (d := d - 1) (M := M) (a := 0) (b := 220) (by omega) (by omega) (by omega)
  have q3 := mx_wrongI (sc := sc) (d := d - 1) h.1 (by omega)
  have h1 : ¬ M 49 12 = 0 := by have := h.1.1; omega
  refine pq_e (by omega) (by decide) (Nat.le_of_ble_eq_true rfl) ⟨0 + 1, sg_X12_readColumn_0.trans ?_⟩
  rw [if_neg (by omega)] at q2
  simp only [q_cI_s, q_c0_s, i10, i00, if_true, if_false, q1, q2, q3, h1]
theorem mx_column {sc : List Int} {d : Nat} {M : q_M} {Z : tZ} {n : Nat} {C P : Nat → Int} {S : Nat → Prop} {p t : Nat} (hE : TE Z n C P S) (h : MP Z n C P S M p t) (hd : 8 ≤ d) : ∃ M', pq sc d 169 [.inr (.inr 49)] GF M = some (none, GF, M') ∧ FT M M' ∧ (((aCol C p).1 = true ∧ MP Z n C P S M' (aCol C p).2 (aCol C p).2) ∨ ((aCol C p).1 = false ∧ IL M' (P (aCol C p).2))) := by
  obtain ⟨M1, x, q1, hf1, hx⟩ := mx_look (sc := sc) (d := d - 1) hE h (by omega)
  have hp := h.2.2.2.2.2.2.1
  have hr := TE_R hE hp
  have hn := TE_n hE
  unfold aCol
  rcases hx with ⟨hs, rfl, h1⟩ | ⟨hs, rfl, h1⟩
  · have q2 := sp_isIn (sc := sc) (d := d - 1) (M := M1) (a := kp (C p)) (b := 220) (by omega) (by omega) (by omega)
    by_cases ha : 119 ≤ C p ∧ C p ≤ 122
    · rw [if_pos ha]
      rw [if_pos ((kp_al hr).mpr ha)] at q2
      have hp1 := ends (TE_C hE) hp (by omega)
      have e0 := h1.2.2.1
      have ew := MP_w hE h1
      have h2 := MP_adv h1 hp1
      obtain ⟨M3, q3, hf3, h3⟩ := mx_want (sc := sc) (d := d - 1) (c := 46) (k := 46) hE h2 (by unfold kG kR; omega) (by decide) (by omega)
      rcases h3 with ⟨hb, h3⟩ | ⟨hb, h3⟩
      · rw [if_pos hb]
        have hp2 := h3.2.2.2.2.2.2.1
        obtain ⟨M4, x4, q4, hf4, hx4⟩ := mx_look (sc := sc) (d := d - 1) hE h3 (by omega)
        have e3 := h3.2.2.1
        rcases hx4 with ⟨hs4, rfl, h4⟩ | ⟨hs4, rfl, h4⟩
        · have q5 := sp_isIn (sc := sc) (d := d - 1) (M := M4) (a := kp (C (p + 1 + 1))) (b := 230) (by omega) (by omega) (by omega)
          by_cases hc : 97 ≤ C (p + 2) ∧ C (p + 2) ≤ 100
          · rw [if_pos hc]
            rw [if_pos ((kp_co (TE_R hE hp2)).mpr hc)] at q5
            have hp3 := ends (TE_C hE) hp2 (by have : 97 ≤ C (p + 1 + 1) ∧ C (p + 1 + 1) ≤ 100 := hc; omega)
            have ew4 := MP_w hE h4
            refine ⟨_, pq_e (by omega) (by decide) (Nat.le_of_ble_eq_true rfl) ⟨0 + 1, sg_X12_readColumn_0.trans ?_⟩, ?_, Or.inl ⟨rfl, MP_adv h4 hp3⟩⟩
            · simp only [q_cI_s, q_c0_s, i10, i00, if_true, if_false, q1, q2, e0, ew, q3, e3, q4, q5, ew4]
            · exact FT_t (FL_T hf1) (FT_t (FT_u (by omega)) (FT_t hf3 (FT_t (FL_T hf4) (FT_u (by omega)))))
          · rw [if_neg hc]
            rw [if_neg (fun e => hc ((kp_co (TE_R hE hp2)).mp e))] at q5
            obtain ⟨M6, q6, hf6, h6⟩ := mx_wrong (sc := sc) (d := d - 1) hE h4 (by omega)
            refine ⟨M6, pq_e (by omega) (by decide) (Nat.le_of_ble_eq_true rfl) ⟨0 + 1, sg_X12_readColumn_0.trans ?_⟩, FT_t (FL_T hf1) (FT_t (FT_u (by omega)) (FT_t hf3 (FT_t (FL_T hf4) hf6))), Or.inr ⟨rfl, h6⟩⟩
            simp only [q_cI_s, q_c0_s, i10, i00, if_true, if_false, q1, q2, e0, ew, q3, e3, q4, q5, q6]
        · have e5 : C (p + 2) = 257 := TE_S hE hp2 hs4
          rw [if_neg (by omega)]
          have q5 := sp_isIn (sc := sc) (d := d - 1) (M := M4) (a := 0) (b := 230) (by omega) (by omega) (by omega)
          rw [if_neg (by omega)] at q5
          have q6 := mx_wrongI (sc := sc) (d := d - 1) h4.1 (by omega)
          refine ⟨M4, pq_e (by omega) (by decide) (Nat.le_of_ble_eq_true rfl) ⟨0 + 1, sg_X12_readColumn_0.trans ?_⟩, FT_t (FL_T hf1) (FT_t (FT_u (by omega)) (FT_t hf3 (FL_T hf4))), Or.inr ⟨rfl, h4.1⟩⟩
          simp only [q_cI_s, q_c0_s, i10, i00, if_true, if_false, q1, q2, e0, ew, q3, e3, q4, q5, q6]
      · rw [if_neg hb]
        have e3 : ¬ M3 49 12 = 0 := by have := h3.1; omega
        refine ⟨M3, pq_e (by omega) (by decide) (Nat.le_of_ble_eq_true rfl) ⟨0 + 1, sg_X12_readColumn_0.trans ?_⟩, FT_t (FL_T hf1) (FT_t (FT_u (by omega)) hf3), Or.inr ⟨rfl, h3⟩⟩
        simp only [q_cI_s, q_c0_s, i10, i00, if_true, if_false, q1, q2, e0, ew, q3, e3]
    · rw [if_neg ha]
      rw [if_neg (fun e => ha ((kp_al hr).mp e))] at q2
      obtain ⟨M3, q3, hf3, h3⟩ := mx_wrong (sc := sc) (d := d - 1) hE h1 (by omega)
      have e3 : ¬ M3 49 12 = 0 := by have := h3.1; omega
      refine ⟨M3, pq_e (by omega) (by decide) (Nat.le_of_ble_eq_true rfl) ⟨0 + 1, sg_X12_readColumn_0.trans ?_⟩, FT_t (FL_T hf1) hf3, Or.inr ⟨rfl, h3⟩⟩
      simp only [q_cI_s, q_c0_s, i10, i00, if_true, if_false, q1, q2, q3, e3]
  · have e5 := TE_S hE hp hs
    rw [if_neg (by omega)]
    have q2 := sp_isIn (sc := sc) (d := d - 1) (M := M1) (a := 0) (b := 220) (by omega) (by omega) (by omega)
    rw [if_neg (by omega)] at q2
    have q3 := mx_wrongI (sc := sc) (d := d - 1) h1.1 (by omega)
    have e3 : ¬ M1 49 12 = 0 := by have := h1.1.1; omega
    refine ⟨M1, pq_e (by omega) (by decide) (Nat.le_of_ble_eq_true rfl) ⟨0 + 1, sg_X12_readColumn_0.trans ?_⟩, FL_T hf1, Or.inr ⟨rfl, h1.1⟩⟩
    simp only [q_cI_s, q_c0_s, i10, i00, if_true, if_false, q1, q2, q3, e3]
