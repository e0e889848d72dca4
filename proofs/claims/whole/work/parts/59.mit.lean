theorem mx_outsT {sc : List Int} {d : Nat} {Z : tZ} {n : Nat} {C P : Nat → Int} {S : Nat → Prop} (hE : TE Z n C P S) (hd : 9 ≤ d) : ∀ (k p t u : Nat) (M : q_M) (ous : List aOu), ous.length + k = 4 → MP Z n C P S M p t → MO M ous → ∃ F M', pr sc (pq sc d) 171 F 23 [some (.inr (.inr 49))] [] M = some (none, GF, M') ∧ FO M M' ∧ (((aOs C k p u).1 = true ∧ WA Z n C P S M' (aOs C k p u).2.1 ∧ MO M' (ous ++ (aOs C k p u).2.2.1)) ∨ ((aOs C k p u).1 = false ∧ IL M' (P (aOs C k p u).2.1))) := by
  intro k
  induction k with
  | zero =>
    intro p t u M ous hk h hO
    refine ⟨0 + 1, M, sg_X12_readOuts_23.trans ?_, FO_r, Or.inl ⟨rfl, Or.inl ⟨t, h⟩, by simpa [aOs] using hO⟩⟩
    rw [if_pos h.2.2.1, if_neg (by have := hO.1; omega)]
  | succ k ih =>
    intro p t u M ous hk h hO
    have hlt : M 49 23 < 4 := by have := hO.1; omega
    obtain ⟨M1, x1, q1, hf1, hx1⟩ := mx_take (sc := sc) (d := d) (c := 44) (k := 44) hE h (by unfold kG kR; omega) (by decide) (by omega)
    have hO1 : MO M1 ous := MO_fr hO (hf1.1 62 (by omega) (by omega)) (hf1.1 63 (by omega) (by omega)) (hf1.2 23 (by omega))
    unfold aOs
    rcases hx1 with ⟨e, rfl, h1⟩ | ⟨e, rfl, h1⟩
    · rw [if_pos e]
      obtain ⟨M2, q2, hf2, h2⟩ := mx_out (sc := sc) (d := d) u hE h1 hO1 (by omega) (by omega)
      rcases h2 with ⟨hb, h2, hO2⟩ | ⟨hb, h2⟩
      · rw [if_pos hb]
        obtain ⟨F, M3, q3, hf3, h3⟩ := ih _ _ (u + (aOut C (p + 1) u).2.2.2.length) M2 _ (by simp; omega) h2 hO2
        refine ⟨F + 1, M3, sg_X12_readOuts_23.trans ?_, FO_t (FT_O hf1) (FO_t hf2 hf3), ?_⟩
        · rw [if_pos h.2.2.1, if_pos hlt, q1, q_cI_s, if_neg (by decide), q2, q_c0_s, q3]
        · rcases h3 with ⟨b3, h3, hO3⟩ | ⟨b3, h3⟩
          · exact Or.inl ⟨b3, h3, by simpa using hO3⟩
          · exact Or.inr ⟨b3, h3⟩
      · rw [if_neg (by rw [hb]; decide)]
        refine ⟨0 + 1 + 1, M2, sg_X12_readOuts_23.trans ?_, FO_t (FT_O hf1) hf2, Or.inr ⟨rfl, h2⟩⟩
        rw [if_pos h.2.2.1, if_pos hlt, q1, q_cI_s, if_neg (by decide), q2, q_c0_s]
        refine sg_X12_readOuts_23.trans ?_
        rw [if_neg (by have := h2.1; omega)]
    · rw [if_neg e]
      have hq : pr sc (pq sc d) 171 (0 + 1) 23 [some (.inr (.inr 49))] [] M = some (none, GF, M1) := by
        refine sg_X12_readOuts_23.trans ?_
        rw [if_pos h.2.2.1, if_pos hlt, q1, q_cI_s, if_pos rfl]
      refine ⟨0 + 1, M1, hq, FT_O hf1, Or.inl ⟨rfl, ?_, by simpa using hO1⟩⟩
      rcases h1 with ⟨hs, h1⟩ | ⟨hs, h1⟩
      · exact Or.inl ⟨_, h1⟩
      · exact Or.inr ⟨hs, TE_S hE h.2.2.2.2.2.2.1 hs, h1.1⟩
theorem mx_outs {sc : List Int} {d : Nat} {M : q_M} {Z : tZ} {n : Nat} {C P : Nat → Int} {S : Nat → Prop} {p t : Nat} (u : Nat) (hE : TE Z n C P S) (h : MP Z n C P S M p t) (hd : 10 ≤ d) : ∃ M', pq sc d 171 [.inr (.inr 49)] GF M = some (none, GF, M') ∧ FO M M' ∧ ((C p = 259 ∧ (aOuts C (p + 1) u).1 = true ∧ WA Z n C P S M' (aOuts C (p + 1) u).2.1 ∧ MO M' (aOuts C (p + 1) u).2.2.1) ∨ (C p = 259 ∧ (aOuts C (p + 1) u).1 = false ∧ IL M' (P (aOuts C (p + 1) u).2.1)) ∨ (¬ C p = 259 ∧ IL M' (P p))) := by
  obtain ⟨M1, q1, hf1, h1⟩ := mx_want (sc := sc) (d := d - 1) (c := 259) (k := 200) hE (MP_us (j := 23) (v := 0) h (by omega)) (by unfold kG kR; omega) (by decide) (by omega)
  have hfa : FO M M1 := FO_t (FO_us (j := 23) (v := 0) (by omega)) (FT_O hf1)
  have hO1 : MO M1 [] := ⟨by rw [hf1.2 23 (by omega), q_up_s]; rfl, fun i x hx => by simp at hx⟩
  unfold aOuts
  rcases h1 with ⟨e, h1⟩ | ⟨e, h1⟩
  · obtain ⟨M2, q2, hf2, h2⟩ := mx_out (sc := sc) (d := d - 1) u hE h1 hO1 (by simp) (by omega)
    rcases h2 with ⟨hb, h2, hO2⟩ | ⟨hb, h2⟩
    · rw [if_pos hb]
      obtain ⟨F, M3, q3, hf3, h3⟩ := mx_outsT (sc := sc) (d := d - 1) hE (by omega) 3 _ _ (u + (aOut C (p + 1) u).2.2.2.length) M2 _ (by simp) h2 hO2
      refine ⟨M3, pq_e (by omega) (by decide) (Nat.le_of_ble_eq_true rfl) ⟨F + 1, sg_X12_readOuts_0.trans ?_⟩, FO_t hfa (FO_t hf2 hf3), ?_⟩
      · rw [q1, q_c0_s, if_pos h1.2.2.1, q2, q_c0_s, q3]
      · rcases h3 with ⟨b3, h3, hO3⟩ | ⟨b3, h3⟩
        · exact Or.inl ⟨e, b3, h3, by simpa using hO3⟩
        · exact Or.inr (Or.inl ⟨e, b3, h3⟩)
    · rw [if_neg (by rw [hb]; decide)]
      refine ⟨M2, pq_e (by omega) (by decide) (Nat.le_of_ble_eq_true rfl) ⟨0 + 1 + 1, sg_X12_readOuts_0.trans ?_⟩, FO_t hfa hf2, Or.inr (Or.inl ⟨e, rfl, h2⟩)⟩
      rw [q1, q_c0_s, if_pos h1.2.2.1, q2, q_c0_s]
      refine sg_X12_readOuts_23.trans ?_
      rw [if_neg (by have := h2.1; omega)]
  · refine ⟨M1, pq_e (by omega) (by decide) (Nat.le_of_ble_eq_true rfl) ⟨0 + 1 + 1, sg_X12_readOuts_0.trans ?_⟩, hfa, Or.inr (Or.inr ⟨e, h1⟩)⟩
    rw [q1, q_c0_s, if_neg (by have := h1.1; omega)]
    refine sg_X12_readOuts_23.trans ?_
    rw [if_neg (by have := h1.1; omega)]
/-! items -/
def FI (M M' : q_M) : Prop := (∀ a, ¬ (58 ≤ a ∧ a ≤ 61) → ¬ (64 ≤ a ∧ a ≤ 68) → ¬ a = 49 → M' a = M a) ∧ (∀ j, ¬ (12 ≤ j ∧ j ≤ 16) → ¬ j = 20 → ¬ j = 26 → M' 49 j = M 49 j)
theorem FI_r {M : q_M} : FI M M := ⟨fun _ _ _ _ => rfl, fun _ _ _ _ => rfl⟩
theorem FI_t {M M' M'' : q_M} (h : FI M M') (h' : FI M' M'') : FI M M'' := ⟨fun a h1 h2 h3 => (h'.1 a h1 h2 h3).trans (h.1 a h1 h2 h3), fun j h1 h2 h3 => (h'.2 j h1 h2 h3).trans (h.2 j h1 h2 h3)⟩
theorem FR_I {M M' : q_M} (h : FR M M') : FI M M' := ⟨fun a h1 h2 h3 => h.1 a h1 h3, fun j h1 h2 _ => h.2 j h1 h2⟩
theorem FT_I {M M' : q_M} (h : FT M M') : FI M M' := FR_I (FT_R h)
theorem FI_Q {M M' : q_M} (h : FI M M') : FQ M M' := ⟨fun a h1 h2 => h.1 a (by omega) (by omega) h2, fun j h1 h2 _ h4 _ => h.2 j h1 h2 h4⟩
theorem FI_up {M : q_M} {k j : Nat} {v : Int} (hk : 64 ≤ k ∧ k ≤ 68) : FI M (q_up M k j v) := ⟨fun a h1 h2 h3 => q_upf (by omega), fun i h1 h2 h3 => q_up_ne (by omega)⟩
theorem FI_us {M : q_M} {j : Nat} {v : Int} (hk : (12 ≤ j ∧ j ≤ 16) ∨ j = 20 ∨ j = 26) : FI M (q_up M 49 j v) := ⟨fun a h1 h2 h3 => q_upf (by omega), fun i h1 h2 h3 => q_up_sn (by omega)⟩
abbrev aIt : Type := Nat × Int × Nat × Nat
def MI (M : q_M) (C : Nat → Int) (its : List aIt) : Prop := M 49 26 = its.length ∧ ∀ i x, its[i]? = some x → M 65 i = x.1 ∧ M 64 i = C x.1 - 84 ∧ M 66 i = x.2.1 ∧ (0 < i → M 67 i = x.2.2.1 ∧ M 68 i = x.2.2.2)
theorem MI_fr {M M' : q_M} {C : Nat → Int} {its : List aIt} (h : MI M C its) (hf : ∀ a, 64 ≤ a → a ≤ 68 → M' a = M a) (h3 : M' 49 26 = M 49 26) : MI M' C its := by
  unfold MI at h ⊢
  rw [hf 64 (by omega) (by omega), hf 65 (by omega) (by omega), hf 66 (by omega) (by omega), hf 67 (by omega) (by omega), hf 68 (by omega) (by omega), h3]; exact h
theorem MI_push {M M' : q_M} {C : Nat → Int} {its : List aIt} {x : aIt} (h : MI M C its) (h1 : ∀ i, i < its.length → ∀ a, 64 ≤ a → a ≤ 68 → M' a i = M a i) (h2 : M' 65 its.length = x.1 ∧ M' 64 its.length = C x.1 - 84 ∧ M' 66 its.length = x.2.1 ∧ (0 < its.length → M' 67 its.length = x.2.2.1 ∧ M' 68 its.length = x.2.2.2)) (h3 : M' 49 26 = (its.length : Int) + 1) : MI M' C (its ++ [x]) := by
  refine ⟨by rw [h3]; simp, fun i y hy => ?_⟩
  rcases l_app hy with ⟨hi, hy⟩ | ⟨rfl, rfl⟩
  · have := h1 i hi
    rw [this 64 (by omega) (by omega), this 65 (by omega) (by omega), this 66 (by omega) (by omega), this 67 (by omega) (by omega), this 68 (by omega) (by omega)]; exact h.2 i y hy
  · exact h2
theorem kp_tb {c : Int} (h : kR c) : (kp c = 84 ∨ kp c = 85 ∨ kp c = 86) ↔ (84 ≤ c ∧ c ≤ 86) := by
  unfold kp; unfold kR at h
  repeat' split
  all_goals omega
/-- the head of an item: from its beginning to behind the alias -/
theorem mx_head {sc : List Int} {d : Nat} {M : q_M} {Z : tZ} {n : Nat} {C P : Nat → Int} {S : Nat → Prop} {p t : Nat} {i : Nat} {a1 : Int} (hE : TE Z n C P S) (h : MP Z n C P S M p t) (h26 : M 49 26 = i) (hi : i < 4) (ha : a1 = 0 ∨ a1 = 1) (hd : 8 ≤ d) : ∃ M', (∀ F, pr sc (pq sc d) 176 (F + 2) 0 [some (.inr (.inr 49)), some (.inl a1), none] [] M = pr sc (pq sc d) 176 F 114 [some (.inr (.inr 49)), none, none] [] M') ∧ FI M M' ∧ M' 49 26 = i ∧ (∀ j, ¬ j = i → ∀ a, 64 ≤ a → a ≤ 68 → M' a j = M a j) ∧ (((aItem C p).1 = true ∧ MP Z n C P S M' (p + 2) (p + 2) ∧ M' 65 i = p ∧ M' 64 i = C p - 84 ∧ M' 66 i = a1) ∨ ((aItem C p).1 = false ∧ IL M' (P (aItem C p).2))) := by
  have hp := h.2.2.2.2.2.2.1
  have hr := TE_R hE hp
  have hn := TE_n hE
  obtain ⟨M1, x, q1, hf1, hx⟩ := mx_look (sc := sc) (d := d) hE h (by omega)
  have e26 : M1 49 26 = i := (hf1.2 26 (by omega)).trans h26
  have e16 : M1 49 16 = p := (hf1.2 16 (by omega)).trans h.2.2.2.1
  have hb : 0 ≤ M1 49 26 ∧ M1 49 26 < ((4 : Nat) : Int) := by omega
  have hc1 : (1 : Nat) = 0 ∨ ((1 : Nat) = 1 ∧ (a1 = 0 ∨ a1 = 1)) ∨ ((1 : Nat) = 2 ∧ 0 ≤ a1 ∧ a1 < 65536) := Or.inr (Or.inl ⟨rfl, ha⟩)
  have hfx : ∀ a, 64 ≤ a → a ≤ 68 → M1 a = M a := fun a h1 h2 => hf1.1 a (by omega) (by omega)
  generalize hA : q_up (q_up (q_up M1 65 i (p : Int)) 64 i (q_w (x - 84))) 66 i a1 = A at *
  have fA : FI M1 A := by rw [← hA]; exact FI_t (FI_up (by omega)) (FI_t (FI_up (by omega)) (FI_up (by omega)))
  have A26 : A 49 26 = i := by rw [← hA, q_up_ne (by decide), q_up_ne (by decide), q_up_ne (by decide)]; exact e26
  have Aj : ∀ j, ¬ j = i → ∀ a, 64 ≤ a → a ≤ 68 → A a j = M a j := by
    intro j hj a h1 h2
    rw [← hA, ← hfx a h1 h2]
    have u1 : ∀ (N : q_M) (k : Nat) (v : Int), q_up N k i v a j = N a j := by
      intro N k v
      by_cases e : a = k
      · subst e; exact q_up_sn hj
      · exact q_up_ne e
    rw [u1, u1, u1]
  have A65 : A 65 i = p := by rw [← hA, q_up_ne (by decide), q_up_ne (by decide), q_up_s]
  have A64 : A 64 i = q_w (x - 84) := by rw [← hA, q_up_ne (by decide), q_up_s]
  have A66 : A 66 i = a1 := by rw [← hA, q_up_s]
  unfold aItem
  rcases hx with ⟨hs, rfl, h1⟩ | ⟨hs, rfl, h1⟩
  · have hMA : MP Z n C P S A p (p + 1) := by rw [← hA]; exact MP_up (MP_up (MP_up h1 (by omega)) (by omega)) (by omega)
    by_cases hc : 84 ≤ C p ∧ C p ≤ 86
    · rw [if_pos hc]
      have hp1 := ends (TE_C hE) hp (by omega)
      have ew := MP_w hE hMA
      have ew1 : q_w (M1 49 16 + 1) = (p : Int) + 1 := by rw [e16, q_wid (by omega) (by omega)]
      have ek : kp (C p) = C p := by
        unfold kp
        rw [if_neg (by omega), if_neg (by omega), if_neg (by omega), if_neg (by omega), if_neg (by omega), if_neg (by omega)]
      have ekw : q_w (kp (C p) - 84) = C p - 84 := by rw [ek, q_wid (by omega) (by omega)]
      have hMB := MP_adv hMA hp1
      have s1 : ∀ F, pr sc (pq sc d) 176 (F + 1) 0 [some (.inr (.inr 49)), some (.inl a1), none] [] M = pr sc (pq sc d) 176 F 76 [some (.inr (.inr 49)), none, none] [] (q_up A 49 16 ((p : Int) + 1)) := by
        intro F
        refine sg_X12_readItem_0.trans ?_
        rw [q1, q_cI_s, if_pos hb, if_pos hb, if_pos hb, if_pos hc1, e26, Int.toNat_natCast, ew1, e16, hA]
        rcases (show kp (C p) = 84 ∨ kp (C p) = 85 ∨ kp (C p) = 86 from (kp_tb hr).mpr hc) with e | e | e
        · rw [if_pos e]
        · rw [if_neg (by omega), if_pos e]
        · rw [if_neg (by omega), if_neg (by omega), if_pos e]
      obtain ⟨M2, x2, q2, hf2, hx2⟩ := mx_look (sc := sc) (d := d) hE hMB (by omega)
      have hfB : FI M (q_up A 49 16 ((p : Int) + 1)) := FI_t (FT_I (FL_T hf1)) (FI_t fA (FI_us (by omega)))
      have g26 : ∀ N : q_M, FT M2 N → N 49 26 = i := fun N hN => by rw [hN.2 26 (by omega), hf2.2 26 (by omega), q_up_sn (by decide)]; exact A26
      have gj : ∀ N : q_M, FT M2 N → ∀ j, ¬ j = i → ∀ a, 64 ≤ a → a ≤ 68 → N a j = M a j := fun N hN j hj a h1 h2 => by rw [hN.1 a (by omega) (by omega), hf2.1 a (by omega) (by omega), q_upf (by omega)]; exact Aj j hj a h1 h2
      have gi : ∀ N : q_M, FT M2 N → N 65 i = p ∧ N 64 i = C p - 84 ∧ N 66 i = a1 := fun N hN => by
        rw [hN.1 65 (by omega) (by omega), hN.1 64 (by omega) (by omega), hN.1 66 (by omega) (by omega), hf2.1 65 (by omega) (by omega), hf2.1 64 (by omega) (by omega), hf2.1 66 (by omega) (by omega), q_upf (by omega), q_upf (by omega), q_upf (by omega), A65, A64, A66, ekw]
        exact ⟨rfl, rfl, rfl⟩
      rcases hx2 with ⟨hs2, rfl, h2⟩ | ⟨hs2, rfl, h2⟩
      · have q3 := sp_isIn (sc := sc) (d := d) (M := M2) (a := kp (C (p + 1))) (b := 220) (by omega) (by omega) (by omega)
        by_cases hg : 119 ≤ C (p + 1) ∧ C (p + 1) ≤ 122
        · rw [if_pos hg]
          rw [if_pos ((kp_al (TE_R hE hp1)).mpr hg)] at q3
          have hp2 := ends (TE_C hE) hp1 (by omega)
          have ew2 := MP_w hE h2
          have hf3 : FT M2 (q_up M2 49 16 (((p + 1 : Nat) : Int) + 1)) := FT_u (by omega)
          refine ⟨_, fun F => (s1 (F + 1)).trans (sg_X12_readItem_76.trans ?_), FI_t hfB (FI_t (FT_I (FL_T hf2)) (FT_I hf3)), g26 _ hf3, gj _ hf3, Or.inl ⟨rfl, MP_adv h2 hp2, gi _ hf3⟩⟩
          rw [if_pos hMB.2.2.1, q2, q_cI_s, q3, q_cI_s, if_neg (by decide), ew2]
        · rw [if_neg hg]
          rw [if_neg (fun e => hg ((kp_al (TE_R hE hp1)).mp e))] at q3
          obtain ⟨M4, q4, hf4, h4⟩ := mx_wrong (sc := sc) (d := d) hE h2 (by omega)
          refine ⟨M4, fun F => (s1 (F + 1)).trans (sg_X12_readItem_76.trans ?_), FI_t hfB (FI_t (FT_I (FL_T hf2)) (FT_I hf4)), g26 _ hf4, gj _ hf4, Or.inr ⟨rfl, h4⟩⟩
          rw [if_pos hMB.2.2.1, q2, q_cI_s, q3, q_cI_s, if_pos rfl, q4, q_c0_s]
      · have e5 := TE_S hE hp1 hs2
        rw [if_neg (by omega)]
        have q3 := sp_isIn (sc := sc) (d := d) (M := M2) (a := 0) (b := 220) (by omega) (by omega) (by omega)
        rw [if_neg (by omega)] at q3
        have q4 := mx_wrongI (sc := sc) (d := d) h2.1 (by omega)
        refine ⟨M2, fun F => (s1 (F + 1)).trans (sg_X12_readItem_76.trans ?_), FI_t hfB (FT_I (FL_T hf2)), g26 _ FT_r, gj _ FT_r, Or.inr ⟨rfl, h2.1⟩⟩
        rw [if_pos hMB.2.2.1, q2, q_cI_s, q3, q_cI_s, if_pos rfl, q4, q_c0_s]
    · rw [if_neg hc]
      obtain ⟨M4, q4, hf4, h4⟩ := mx_wrong (sc := sc) (d := d) hE hMA (by omega)
      have q5 := mx_wrongI (sc := sc) (d := d) h4 (by omega)
      have hk := fun e => hc ((kp_tb hr).mp e)
      refine ⟨M4, fun F => ?_, FI_t (FT_I (FL_T hf1)) (FI_t fA (FT_I hf4)), ?_, ?_, Or.inr ⟨rfl, h4⟩⟩
      · have s1 : pr sc (pq sc d) 176 (F + 1 + 1) 0 [some (.inr (.inr 49)), some (.inl a1), none] [] M = pr sc (pq sc d) 176 (F + 1) 76 [some (.inr (.inr 49)), none, none] [] M4 := by
          refine sg_X12_readItem_0.trans ?_
          rw [q1, q_cI_s, if_pos hb, if_pos hb, if_pos hb, if_pos hc1, e26, Int.toNat_natCast, e16, hA, if_neg (fun e => hk (Or.inl e)), if_neg (fun e => hk (Or.inr (Or.inl e))), if_neg (fun e => hk (Or.inr (Or.inr e))), q4, q_c0_s]
        refine s1.trans (sg_X12_readItem_76.trans ?_)
        rw [if_neg (by have := h4.1; omega), q5, q_c0_s]
      · rw [hf4.2 26 (by omega)]; exact A26
      · intro j hj a h1 h2
        rw [hf4.1 a (by omega) (by omega)]; exact Aj j hj a h1 h2
  · have e5 := TE_S hE hp hs
    rw [if_neg (by omega)]
    have hIA : IL A (P p) := by rw [← hA]; exact IL_up (IL_up (IL_up h1.1 (by omega)) (by omega)) (by omega)
    have q4 := mx_wrongI (sc := sc) (d := d) hIA (by omega)
    refine ⟨A, fun F => ?_, FI_t (FT_I (FL_T hf1)) fA, A26, Aj, Or.inr ⟨rfl, hIA⟩⟩
    have s1 : pr sc (pq sc d) 176 (F + 1 + 1) 0 [some (.inr (.inr 49)), some (.inl a1), none] [] M = pr sc (pq sc d) 176 (F + 1) 76 [some (.inr (.inr 49)), none, none] [] A := by
      refine sg_X12_readItem_0.trans ?_
      rw [q1, q_cI_s, if_pos hb, if_pos hb, if_pos hb, if_pos hc1, e26, Int.toNat_natCast, e16, hA, if_neg (by decide), if_neg (by decide), if_neg (by decide), q4, q_c0_s]
    refine s1.trans (sg_X12_readItem_76.trans ?_)
    rw [if_neg (by have := hIA.1; omega), q4, q_c0_s]
