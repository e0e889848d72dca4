/-! groups, and the end -/
def FG (M M' : q_M) : Prop := (∀ a, ¬ (58 ≤ a ∧ a ≤ 60) → ¬ a = 69 → ¬ a = 49 → M' a = M a) ∧ (∀ j, ¬ (12 ≤ j ∧ j ≤ 16) → ¬ j = 34 → M' 49 j = M 49 j)
theorem FG_r {M : q_M} : FG M M := ⟨fun _ _ _ _ => rfl, fun _ _ _ => rfl⟩
theorem FG_t {M M' M'' : q_M} (h : FG M M') (h' : FG M' M'') : FG M M'' := ⟨fun a h1 h2 h3 => (h'.1 a h1 h2 h3).trans (h.1 a h1 h2 h3), fun j h1 h2 => (h'.2 j h1 h2).trans (h.2 j h1 h2)⟩
theorem FT_G {M M' : q_M} (h : FT M M') : FG M M' := ⟨fun a h1 h2 h3 => h.1 a h1 h3, fun j h1 _ => h.2 j h1⟩
theorem FG_Q {M M' : q_M} (h : FG M M') : FQ M M' := ⟨fun a h1 h2 => h.1 a (by omega) (by omega) h2, fun j h1 _ _ _ h5 => h.2 j h1 (by omega)⟩
theorem FG_up {M : q_M} {j : Nat} {v : Int} : FG M (q_up M 69 j v) := ⟨fun a h1 h2 h3 => q_upf (by omega), fun i h1 h2 => q_up_ne (by omega)⟩
theorem FG_us {M : q_M} {v : Int} : FG M (q_up M 49 34 v) := ⟨fun a h1 h2 h3 => q_upf (by omega), fun i h1 h2 => q_up_sn (by omega)⟩
def MG (M : q_M) (gts : List Nat) : Prop := M 49 34 = gts.length ∧ ∀ (i x : Nat), gts[i]? = some x → M 69 i = x
theorem MG_fr {M M' : q_M} {gts : List Nat} (h : MG M gts) (h1 : M' 69 = M 69) (h3 : M' 49 34 = M 49 34) : MG M' gts := by
  unfold MG at h ⊢
  rw [h1, h3]; exact h
theorem g_off {sc : List Int} {d : Nat} {M : q_M} : pr sc (pq sc d) 177 (0 + 1) 25 [some (.inr (.inr 49)), some (.inl 0)] [] M = some (none, GF, M) := by
  refine sg_X12_readGroup_25.trans ?_
  rw [if_pos rfl]
theorem mx_groupT {sc : List Int} {d : Nat} {Z : tZ} {n : Nat} {C P : Nat → Int} {S : Nat → Prop} (hE : TE Z n C P S) (hd : 9 ≤ d) : ∀ (k p t : Nat) (M : q_M) (gts : List Nat), gts.length + k = 2 → MP Z n C P S M p t → MG M gts → ∃ F M', pr sc (pq sc d) 177 F 25 [some (.inr (.inr 49)), some (.inl 1)] [] M = some (none, GF, M') ∧ FG M M' ∧ (((aG C (k + 1) p).1 = true ∧ ((∃ t', MP Z n C P S M' (aG C (k + 1) p).2.1 t' ∧ MG M' (gts ++ (aG C (k + 1) p).2.2)) ∨ (S (aG C (k + 1) p).2.1 ∧ C (aG C (k + 1) p).2.1 = 257 ∧ IL M' (P (aG C (k + 1) p).2.1)))) ∨ ((aG C (k + 1) p).1 = false ∧ IL M' (P (aG C (k + 1) p).2.1))) := by
  intro k
  induction k with
  | zero =>
    intro p t M gts hk h hG
    have h34 := hG.1
    have e16 := h.2.2.2.1
    have hb : 0 ≤ M 49 34 ∧ M 49 34 < ((4 : Nat) : Int) := by omega
    obtain ⟨M1, q1, hf1, h1⟩ := mx_column (sc := sc) (d := d) hE (MP_up (k := 69) (j := gts.length) (v := (p : Int)) h (by omega)) (by omega)
    have f34 : M1 49 34 = gts.length := by rw [hf1.2 34 (by omega), q_up_ne (by decide)]; exact h34
    have hw : q_w (M1 49 34 + 1) = (gts.length : Int) + 1 := by rw [f34, q_wid (by omega) (by omega)]
    have hfr : FG M (q_up M1 49 34 ((gts.length : Int) + 1)) := FG_t FG_up (FG_t (FT_G hf1) FG_us)
    unfold aG
    rcases h1 with ⟨hb1, h1⟩ | ⟨hb1, h1⟩
    · rw [if_pos hb1, if_pos rfl]
      refine ⟨0 + 1 + 1, _, sg_X12_readGroup_25.trans ?_, hfr, Or.inl ⟨rfl, Or.inl ⟨_, MP_us h1 (by omega), by rw [q_up_s]; simp, fun i x hx => ?_⟩⟩⟩
      · rw [if_neg (by decide), if_pos h.2.2.1, if_pos hb, e16, h34, Int.toNat_natCast, q1, q_c0_s, if_pos h1.2.2.1, hw, if_neg (by omega), g_off]
      · rw [q_up_ne (by decide), hf1.1 69 (by omega) (by omega)]
        rcases l_app hx with ⟨hi, hx⟩ | ⟨rfl, rfl⟩
        · rw [q_up_sn (by omega)]; exact hG.2 i x hx
        · rw [q_up_s]
    · rw [if_neg (by rw [hb1]; decide)]
      refine ⟨0 + 1 + 1, _, sg_X12_readGroup_25.trans ?_, hfr, Or.inr ⟨rfl, IL_us h1 (by omega)⟩⟩
      rw [if_neg (by decide), if_pos h.2.2.1, if_pos hb, e16, h34, Int.toNat_natCast, q1, q_c0_s, if_neg (by have := h1.1; omega), hw, g_off]
  | succ k ih =>
    intro p t M gts hk h hG
    have h34 := hG.1
    have e16 := h.2.2.2.1
    have hb : 0 ≤ M 49 34 ∧ M 49 34 < ((4 : Nat) : Int) := by omega
    obtain ⟨M1, q1, hf1, h1⟩ := mx_column (sc := sc) (d := d) hE (MP_up (k := 69) (j := gts.length) (v := (p : Int)) h (by omega)) (by omega)
    have f34 : M1 49 34 = gts.length := by rw [hf1.2 34 (by omega), q_up_ne (by decide)]; exact h34
    have hw : q_w (M1 49 34 + 1) = (gts.length : Int) + 1 := by rw [f34, q_wid (by omega) (by omega)]
    have hfr : FG M (q_up M1 49 34 ((gts.length : Int) + 1)) := FG_t FG_up (FG_t (FT_G hf1) FG_us)
    unfold aG
    rcases h1 with ⟨hb1, h1⟩ | ⟨hb1, h1⟩
    · rw [if_pos hb1, if_neg (by omega)]
      have hG1 : MG (q_up M1 49 34 ((gts.length : Int) + 1)) (gts ++ [p]) := by
        refine ⟨by rw [q_up_s]; simp, fun i x hx => ?_⟩
        rw [q_up_ne (by decide), hf1.1 69 (by omega) (by omega)]
        rcases l_app hx with ⟨hi, hx⟩ | ⟨rfl, rfl⟩
        · rw [q_up_sn (by omega)]; exact hG.2 i x hx
        · rw [q_up_s]
      obtain ⟨M2, x2, q2, hf2, hx2⟩ := mx_take (sc := sc) (d := d) (c := 44) (k := 44) hE (MP_us (j := 34) (v := (gts.length : Int) + 1) h1 (by omega)) (by unfold kG kR; omega) (by decide) (by omega)
      have hG2 : MG M2 (gts ++ [p]) := MG_fr hG1 (hf2.1 69 (by omega) (by omega)) (hf2.2 34 (by omega))
      have s1 : ∀ F, pr sc (pq sc d) 177 (F + 1) 25 [some (.inr (.inr 49)), some (.inl 1)] [] M = if x2 = 0 then pr sc (pq sc d) 177 F 25 [some (.inr (.inr 49)), some (.inl 0)] [] M2 else pr sc (pq sc d) 177 F 25 [some (.inr (.inr 49)), some (.inl 1)] [] M2 := by
        intro F
        refine sg_X12_readGroup_25.trans ?_
        rw [if_neg (by decide), if_pos h.2.2.1, if_pos hb, e16, h34, Int.toNat_natCast, q1, q_c0_s, if_pos h1.2.2.1, hw, if_pos (by omega), q2, q_cI_s]
      rcases hx2 with ⟨e2, rfl, h2⟩ | ⟨e2, rfl, h2⟩
      · rw [if_pos e2]
        obtain ⟨F, M3, q3, hf3, h3⟩ := ih _ _ M2 _ (by simp; omega) h2 hG2
        refine ⟨F + 1, M3, ?_, FG_t hfr (FG_t (FT_G hf2) hf3), ?_⟩
        · rw [s1, if_neg (by decide), q3]
        · rcases h3 with ⟨b3, h3⟩ | ⟨b3, h3⟩
          · refine Or.inl ⟨b3, ?_⟩
            rcases h3 with ⟨t', h3, g3⟩ | h3
            · exact Or.inl ⟨t', h3, by simpa using g3⟩
            · exact Or.inr h3
          · exact Or.inr ⟨b3, h3⟩
      · rw [if_neg e2]
        refine ⟨0 + 1 + 1, M2, by rw [s1, if_pos rfl, g_off], FG_t hfr (FT_G hf2), Or.inl ⟨rfl, ?_⟩⟩
        rcases h2 with ⟨hs, h2⟩ | ⟨hs, h2⟩
        · exact Or.inl ⟨_, h2, hG2⟩
        · exact Or.inr ⟨hs, TE_S hE h1.2.2.2.2.2.2.1 hs, h2.1⟩
    · rw [if_neg (by rw [hb1]; decide)]
      refine ⟨0 + 1 + 1, _, sg_X12_readGroup_25.trans ?_, hfr, Or.inr ⟨rfl, IL_us h1 (by omega)⟩⟩
      rw [if_neg (by decide), if_pos h.2.2.1, if_pos hb, e16, h34, Int.toNat_natCast, q1, q_c0_s, if_neg (by have := h1.1; omega), hw, g_off]
theorem mx_group {sc : List Int} {d : Nat} {M : q_M} {Z : tZ} {n : Nat} {C P : Nat → Int} {S : Nat → Prop} {p t : Nat} (hE : TE Z n C P S) (h : MP Z n C P S M p t) (hd : 10 ≤ d) : ∃ M', pq sc d 177 [.inr (.inr 49)] GF M = some (none, GF, M') ∧ FG M M' ∧ (((aGr C p).1 = true ∧ ((∃ t', MP Z n C P S M' (aGr C p).2.1 t' ∧ MG M' (aGr C p).2.2) ∨ (S (aGr C p).2.1 ∧ C (aGr C p).2.1 = 257 ∧ IL M' (P (aGr C p).2.1)))) ∨ ((aGr C p).1 = false ∧ IL M' (P (aGr C p).2.1))) := by
  obtain ⟨M2, x2, q2, hf2, hx2⟩ := mx_take (sc := sc) (d := d - 1) (c := 265) (k := 206) hE (MP_us (j := 34) (v := 0) h (by omega)) (by unfold kG kR; omega) (by decide) (by omega)
  have hG2 : MG M2 [] := ⟨by rw [hf2.2 34 (by omega), q_up_s]; rfl, fun i x hx => by simp at hx⟩
  unfold aGr
  rcases hx2 with ⟨e2, rfl, h2⟩ | ⟨e2, rfl, h2⟩
  · rw [if_pos e2]
    obtain ⟨F, M3, q3, hf3, h3⟩ := mx_groupT (sc := sc) (d := d - 1) hE (by omega) 2 _ _ M2 [] (by simp) h2 hG2
    refine ⟨M3, pq_e (by omega) (by decide) (Nat.le_of_ble_eq_true rfl) ⟨F + 1, sg_X12_readGroup_0.trans ?_⟩, FG_t FG_us (FG_t (FT_G hf2) hf3), by simpa using h3⟩
    rw [if_pos h.2.2.1, q2, q_cI_s, if_neg (by decide), q3]
  · rw [if_neg e2]
    refine ⟨M2, pq_e (by omega) (by decide) (Nat.le_of_ble_eq_true rfl) ⟨0 + 1, sg_X12_readGroup_0.trans ?_⟩, FG_t FG_us (FT_G hf2), Or.inl ⟨rfl, ?_⟩⟩
    · rw [if_pos h.2.2.1, q2, q_cI_s, if_pos rfl]
    · rcases h2 with ⟨hs, h2⟩ | ⟨hs, h2⟩
      · exact Or.inl ⟨_, h2, hG2⟩
      · exact Or.inr ⟨hs, TE_S hE h.2.2.2.2.2.2.1 hs, h2.1⟩
theorem mx_groupI {sc : List Int} {d : Nat} {M : q_M} {x : Int} (h : IL M x) (hd : 1 ≤ d) : pq sc d 177 [.inr (.inr 49)] GF M = some (none, GF, q_up M 49 34 0) := by
  refine pq_e (by omega) (by decide) (Nat.le_of_ble_eq_true rfl) ⟨0 + 1, sg_X12_readGroup_0.trans ?_⟩
  rw [if_neg (by have := h.1; omega)]
/-- tokens of the model, up to p -/
def MK (C P N : Nat → Int) (M : q_M) (p : Nat) : Prop := ∀ i, i < p → M 58 i = kp (C i) ∧ M 59 i = P i ∧ (C i = 258 → M 60 i = N i)
theorem mx_end {sc : List Int} {d : Nat} {M : q_M} {Z : tZ} {n : Nat} {C P : Nat → Int} {S : Nat → Prop} {p t : Nat} (hE : TE Z n C P S) (h : MP Z n C P S M p t) (hd : 7 ≤ d) : ∃ M', pq sc d 167 [.inr (.inr 49), .inl 0] GF M = some (none, GF, M') ∧ FT M M' ∧ ((C p = 256 ∧ M' 49 12 = 0 ∧ MK C P Z.2.2.1 M' (p + 1)) ∨ (¬ C p = 256 ∧ IL M' (P p))) := by
  have hp := h.2.2.2.2.2.2.1
  have hr := TE_R hE hp
  obtain ⟨M1, x, q1, hf1, hx⟩ := mx_look (sc := sc) (d := d - 2) hE h (by omega)
  have hd2 : d - 2 = d - 1 - 1 := by omega
  rw [hd2] at q1
  rcases hx with ⟨hs, rfl, h1⟩ | ⟨hs, rfl, h1⟩
  · by_cases e : C p = 256
    · have e0 : kp (C p) = 0 := by rw [e]; decide
      have q2 : pq sc (d - 1) 166 [.inr (.inr 49), .inl 0] GF M = some (some (.inl 1), GF, q_up M1 49 16 ((p : Int) + 1)) := by
        refine pq_e (by omega) (by decide) (Nat.le_of_ble_eq_true rfl) ⟨0 + 1, sg_X12_take_0.trans ?_⟩
        rw [q1, q_cI_s, if_pos e0, if_pos h1.2.2.1, MP_w hE h1]
      refine ⟨_, pq_e (by omega) (by decide) (Nat.le_of_ble_eq_true rfl) ⟨0 + 1, sg_X12_want_0.trans ?_⟩, FT_t (FL_T hf1) (FT_u (j := 16) (v := (p : Int) + 1) (by omega)), Or.inl ⟨e, (q_up_sn (by decide)).trans h1.2.2.1, fun i hi => ?_⟩⟩
      · rw [q2, q_cI_s, if_neg (by decide)]
      · rw [q_up_ne (by decide), q_up_ne (by decide), q_up_ne (by decide)]
        exact (h1.2.2.2.2.2.2.2.2 i hi).2
    · have e0 : ¬ kp (C p) = 0 := fun e0 => e (kp_ne hr (by unfold kR; omega) (by decide) (by omega) (e0.trans (by decide)))
      have q2 : pq sc (d - 1) 166 [.inr (.inr 49), .inl 0] GF M = some (some (.inl 0), GF, M1) := by
        refine pq_e (by omega) (by decide) (Nat.le_of_ble_eq_true rfl) ⟨0 + 1, sg_X12_take_0.trans ?_⟩
        rw [q1, q_cI_s, if_neg e0]
      obtain ⟨M3, q3, hf3, h3⟩ := mx_wrong (sc := sc) (d := d - 1) hE h1 (by omega)
      refine ⟨M3, pq_e (by omega) (by decide) (Nat.le_of_ble_eq_true rfl) ⟨0 + 1, sg_X12_want_0.trans ?_⟩, FT_t (FL_T hf1) hf3, Or.inr ⟨e, h3⟩⟩
      rw [q2, q_cI_s, if_pos rfl, q3, q_c0_s]
  · have e5 := TE_S hE hp hs
    have q2 : pq sc (d - 1) 166 [.inr (.inr 49), .inl 0] GF M = some (some (.inl 0), GF, M1) := by
      refine pq_e (by omega) (by decide) (Nat.le_of_ble_eq_true rfl) ⟨0 + 1, sg_X12_take_0.trans ?_⟩
      rw [q1, q_cI_s, if_pos rfl, if_neg (by have := h1.1.1; omega)]
    have q3 := mx_wrongI (sc := sc) (d := d - 1) h1.1 (by omega)
    refine ⟨M1, pq_e (by omega) (by decide) (Nat.le_of_ble_eq_true rfl) ⟨0 + 1, sg_X12_want_0.trans ?_⟩, FL_T hf1, Or.inr ⟨by omega, h1.1⟩⟩
    rw [q2, q_cI_s, if_pos rfl, q3, q_c0_s]
