/-! the model finds the parts of where -/
theorem cmp_tok {C : Nat → Int} {p u : Nat} (h : (aCmp C p u).1 = true) : p + 3 ≤ (aCmp C p u).2.1 ∧ ∀ t, p ≤ t → t < (aCmp C p u).2.1 → ¬ C t = 40 ∧ ¬ C t = 41 ∧ ¬ C t = 270 ∧ ¬ C t = 271 := by
  have opd : ∀ {a r : Nat}, aOpd C a = (true, r) → a < r ∧ ∀ t, a ≤ t → t < r → ¬ C t = 40 ∧ ¬ C t = 41 ∧ ¬ C t = 270 ∧ ¬ C t = 271 := by
    intro a r ha
    unfold aOpd at ha
    split at ha
    · next hc =>
      cases ha
      refine ⟨by omega, fun t h1 h2 => ?_⟩
      have : t = a := by omega
      subst this; omega
    · obtain ⟨c, e, e46⟩ := aCol_ct (C := C) (p := a) (by rw [ha])
      rw [ha] at c e
      dsimp only at c e
      subst e
      refine ⟨by omega, fun t h1 h2 => ?_⟩
      rcases (show t = a ∨ t = a + 1 ∨ t = a + 2 by omega) with rfl | rfl | rfl
      · have := c.1; have := c.2.1; omega
      · omega
      · have := c.2.2.1; have := c.2.2.2.1; omega
  unfold aCmp at h ⊢
  rcases h1 : aOpd C p with ⟨b, q⟩
  rw [h1] at h
  rcases b with _ | _
  · simp at h
  · obtain ⟨l1, t1⟩ := opd h1
    dsimp only at h ⊢
    by_cases hc : C q = 273
    · rw [if_pos hc] at h ⊢
      by_cases hd : C (q + 1) = 274
      · rw [if_pos hd]
        refine ⟨by dsimp only; omega, fun t a1 a2 => ?_⟩
        dsimp only at a2
        rcases Nat.lt_or_ge t q with hh | hh
        · exact t1 t a1 hh
        · rcases (show t = q ∨ t = q + 1 by omega) with rfl | rfl <;> omega
      · rw [if_neg hd] at h; simp at h
    · rw [if_neg hc] at h ⊢
      by_cases hd : C q = 61 ∨ C q = 60 ∨ C q = 62
      · rw [if_pos hd] at h ⊢
        rcases h2 : aOpd C (q + 1) with ⟨b, r⟩
        rw [h2] at h
        rcases b with _ | _
        · simp at h
        · obtain ⟨l2, t2⟩ := opd h2
          refine ⟨by dsimp only; omega, fun t a1 a2 => ?_⟩
          dsimp only at a2
          rcases Nat.lt_or_ge t q with hh | hh
          · exact t1 t a1 hh
          · by_cases e : t = q
            · subst e; omega
            · exact t2 t (by omega) a2
      · rw [if_neg hd] at h; simp at h
theorem aC_min {C : Nat → Int} : ∀ (f md o p u s q : Nat) (st : List (Int × Int × Int)) (ot : List Nat) (pt : List (Nat × Nat)), aC C f md o p u s = some (true, q, st, ot, pt) → md < 3 → p + 3 ≤ q := by
  intro f
  induction f with
  | zero => intro md o p u s q st ot pt h; cases h
  | succ f ih =>
    intro md o p u s q st ot pt h hm
    unfold aC at h
    split at h
    · split at h
      · split at h
        · cases h
        · rcases aBd_s h with ⟨q1, st1, ot1, pt1, e1, e2⟩ | ⟨q1, st1, ot1, pt1, e1, e2⟩
          · cases e2
          · cases e2
            have := ih _ _ _ _ _ _ _ _ _ e1 (by omega); omega
      · split at h
        · split at h
          · cases h
          · rcases aBd_s h with ⟨q1, st1, ot1, pt1, e1, e2⟩ | ⟨q1, st1, ot1, pt1, e1, e2⟩
            · cases e2
            · split at e2
              · cases e2
                have := ih _ _ _ _ _ _ _ _ _ e1 (by omega); omega
              · cases e2
        · simp only [Option.some.injEq, Prod.mk.injEq] at h
          have := (cmp_tok h.1).1
          omega
    · split at h
      · rcases aBd_s h with ⟨q1, st1, ot1, pt1, e1, e2⟩ | ⟨q1, st1, ot1, pt1, e1, e2⟩
        · cases e2
        · rcases aBd_s e2 with ⟨q3, st3, ot3, pt3, e3, e4⟩ | ⟨q3, st3, ot3, pt3, e3, e4⟩
          · cases e4
          · cases e4
            have := ih _ _ _ _ _ _ _ _ _ e1 (by omega)
            have := aC_len _ _ _ _ _ _ _ _ _ _ e3
            omega
      · split at h
        · rcases aBd_s h with ⟨q1, st1, ot1, pt1, e1, e2⟩ | ⟨q1, st1, ot1, pt1, e1, e2⟩
          · cases e2
          · rcases aBd_s e2 with ⟨q3, st3, ot3, pt3, e3, e4⟩ | ⟨q3, st3, ot3, pt3, e3, e4⟩
            · cases e4
            · simp only [Option.some.injEq, Prod.mk.injEq, true_and] at e4
              have := ih _ _ _ _ _ _ _ _ _ e1 (by omega)
              have := aC_len _ _ _ _ _ _ _ _ _ _ e3
              omega
        · omega
/-- the tokens of where -/
def WT (M : q_M) (C : Nat → Int) (e : Nat) : Prop := M 49 33 = e ∧ e ≤ 131 ∧ (∀ t, t < e → M 58 t = kp (C t)) ∧ (∀ t, t < e → kR (C t))
theorem WT_k {M : q_M} {C : Nat → Int} {e t : Nat} {b k : Int} (h : WT M C e) (ht : t < e) (hb : kG b) (hk : kp b = k) : M 58 t = k ↔ C t = b := by rw [h.2.2.1 t ht]; exact kp_i (h.2.2.2 t ht) hb hk
theorem k40 : kG 40 := by unfold kG kR; omega
theorem k41 : kG 41 := by unfold kG kR; omega
theorem k270 : kG 270 := by unfold kG kR; omega
theorem k271 : kG 271 := by unfold kG kR; omega
theorem s26_o {sc : List Int} {orc : q_O} {M : q_M} {C : Nat → Int} {e δ t F : Nat} {b : Int} (h : WT M C e) (ht : t < e) (hb : b = 0 ∨ b = 1) (h1 : ¬ C t = 40) (h2 : ¬ C t = 41) (h3 : ¬ C t = 270 ∨ 0 < δ) : pr sc orc 187 (F + 1) 26 [some (.inr (.inr 49)), some (.inl b), some (.inl (δ : Nat)), some (.inl (t : Int)), none] [] M = pr sc orc 187 F 26 [some (.inr (.inr 49)), some (.inl b), some (.inl (δ : Nat)), some (.inl ((t + 1 : Nat) : Int)), none] [] M := by
  have he := h.2.1
  refine sg_X12_findParts_26.trans ?_
  rw [h.1, if_pos (by omega), if_pos (by omega), Int.toNat_natCast, if_neg (fun hh => h1 ((WT_k h ht k40 (by decide)).mp hh)), if_pos (by omega), if_neg (fun hh => h2 ((WT_k h ht k41 (by decide)).mp hh)), qw1 (by omega)]
  rcases hb with rfl | rfl
  · rw [if_pos rfl]
  · rw [if_neg (by decide)]
    by_cases g : 0 < δ
    · rw [if_pos (by omega)]
    · rw [if_neg (by omega), if_pos (by omega), if_neg (fun hh => by have := (WT_k h ht k270 (by decide)).mp hh; omega)]
theorem s26_l {sc : List Int} {orc : q_O} {M : q_M} {C : Nat → Int} {e δ t F : Nat} {b : Int} (h : WT M C e) (ht : t < e) (hδ : δ < 1000) (hb : b = 0 ∨ b = 1) (h1 : C t = 40) : pr sc orc 187 (F + 1) 26 [some (.inr (.inr 49)), some (.inl b), some (.inl (δ : Nat)), some (.inl (t : Int)), none] [] M = pr sc orc 187 F 26 [some (.inr (.inr 49)), some (.inl b), some (.inl ((δ + 1) : Nat)), some (.inl ((t + 1 : Nat) : Int)), none] [] M := by
  have he := h.2.1
  refine sg_X12_findParts_26.trans ?_
  rw [h.1, if_pos (by omega), if_pos (by omega), Int.toNat_natCast, if_pos ((WT_k h ht k40 (by decide)).mpr h1), qw1 (i := t) (by omega), qw1 (i := δ) (by omega)]
  rcases hb with rfl | rfl
  · rw [if_pos rfl]
  · rw [if_neg (by decide), if_pos (by omega)]
theorem s26_r {sc : List Int} {orc : q_O} {M : q_M} {C : Nat → Int} {e δ t F : Nat} {b : Int} (h : WT M C e) (ht : t < e) (hδ : δ < 1000) (hb : b = 0 ∨ b = 1) (h1 : C t = 41) : pr sc orc 187 (F + 1) 26 [some (.inr (.inr 49)), some (.inl b), some (.inl ((δ + 1) : Nat)), some (.inl (t : Int)), none] [] M = pr sc orc 187 F 26 [some (.inr (.inr 49)), some (.inl b), some (.inl (δ : Nat)), some (.inl ((t + 1 : Nat) : Int)), none] [] M := by
  have he := h.2.1
  refine sg_X12_findParts_26.trans ?_
  rw [h.1, if_pos (by omega), if_pos (by omega), Int.toNat_natCast, if_neg (fun hh => by have := (WT_k h ht k40 (by decide)).mp hh; omega), if_pos (by omega), if_pos ((WT_k h ht k41 (by decide)).mpr h1), qw1 (i := t) (by omega), qwn (x := ((δ + 1 : Nat) : Int) - 1) (n := δ) (by omega) (by omega)]
  rcases hb with rfl | rfl
  · rw [if_pos rfl]
  · rw [if_neg (by decide)]
    by_cases g : 0 < δ
    · rw [if_pos (by omega)]
    · rw [if_neg (by omega), if_pos (by omega), if_neg (fun hh => by have := (WT_k h ht k270 (by decide)).mp hh; omega)]
theorem s26_or {sc : List Int} {orc : q_O} {M : q_M} {C : Nat → Int} {e t F : Nat} {b : Int} (h : WT M C e) (ht : t < e) (hb : b = 0 ∨ b = 1) (h1 : C t = 270) : pr sc orc 187 (F + 1) 26 [some (.inr (.inr 49)), some (.inl b), some (.inl 0), some (.inl (t : Int)), none] [] M = pr sc orc 187 F 26 [some (.inr (.inr 49)), some (.inl 0), some (.inl 0), some (.inl ((t + 1 : Nat) : Int)), none] [] M := by
  have he := h.2.1
  refine sg_X12_findParts_26.trans ?_
  rw [h.1, if_pos (by omega), if_pos (by omega), Int.toNat_natCast, if_neg (fun hh => by have := (WT_k h ht k40 (by decide)).mp hh; omega), if_pos (by omega), if_neg (fun hh => by have := (WT_k h ht k41 (by decide)).mp hh; omega), qw1 (by omega)]
  rcases hb with rfl | rfl
  · rw [if_pos rfl]
  · rw [if_neg (by decide), if_neg (by decide), if_pos (by omega), if_pos ((WT_k h ht k270 (by decide)).mpr h1)]
theorem r26_o {sc : List Int} {orc : q_O} {M : q_M} {C : Nat → Int} {e δ : Nat} {b : Int} (h : WT M C e) (hb : b = 0 ∨ b = 1) : ∀ (m t : Nat), t + m ≤ e → (∀ j, t ≤ j → j < t + m → ¬ C j = 40 ∧ ¬ C j = 41 ∧ ¬ C j = 270) → ∀ F, pr sc orc 187 (F + m) 26 [some (.inr (.inr 49)), some (.inl b), some (.inl (δ : Nat)), some (.inl (t : Int)), none] [] M = pr sc orc 187 F 26 [some (.inr (.inr 49)), some (.inl b), some (.inl (δ : Nat)), some (.inl ((t + m : Nat) : Int)), none] [] M := by
  intro m
  induction m with
  | zero => intro t _ _ F; rfl
  | succ m ih =>
    intro t he hj F
    obtain ⟨a1, a2, a3⟩ := hj t (Nat.le_refl _) (by omega)
    rw [show F + (m + 1) = (F + m) + 1 by omega, s26_o h (by omega) hb a1 a2 (Or.inl a3), ih (t + 1) (by omega) (fun j b1 b2 => hj j (by omega) (by omega)) F, show t + 1 + m = t + (m + 1) by omega]
theorem Y1 {sc : List Int} {orc : q_O} {M : q_M} {C : Nat → Int} {e : Nat} (h : WT M C e) : ∀ (f md o p u s r : Nat) (st : List (Int × Int × Int)) (ot : List Nat) (pt : List (Nat × Nat)) (δ : Nat) (b : Int), aC C f md o p u s = some (true, r, st, ot, pt) → r ≤ e → (b = 0 ∨ b = 1) → δ + f < 1000 → md ≤ 4 → (md = 2 ∨ md = 4 → 0 < δ) → ∃ K, ∀ F, pr sc orc 187 (F + K) 26 [some (.inr (.inr 49)), some (.inl b), some (.inl (δ : Nat)), some (.inl (p : Int)), none] [] M = pr sc orc 187 F 26 [some (.inr (.inr 49)), some (.inl b), some (.inl (δ : Nat)), some (.inl (r : Int)), none] [] M := by
  intro f
  induction f with
  | zero => intro md o p u s r st ot pt δ b h; cases h
  | succ f ih =>
    intro md o p u s r st ot pt δ b hr hre hb hδ hmd hpos
    have hl := aC_len _ _ _ _ _ _ _ _ _ _ hr
    unfold aC at hr
    split at hr
    · next hm =>
      have hl0 := hl.2.2.2.1 (by omega)
      split at hr
      · next c1 =>
        split at hr
        · cases hr
        · rcases aBd_s hr with ⟨q1, st1, ot1, pt1, e1, e2⟩ | ⟨q1, st1, ot1, pt1, e1, e2⟩
          · cases e2
          · cases e2
            obtain ⟨K, k⟩ := ih _ _ _ _ _ _ _ _ _ δ b e1 hre hb (by omega) (by omega) (by omega)
            exact ⟨K + 1, fun F => (s26_o h (by omega) hb (by omega) (by omega) (Or.inl (by omega))).trans (k F)⟩
      · split at hr
        · next c1 c2 =>
          split at hr
          · cases hr
          · rcases aBd_s hr with ⟨q1, st1, ot1, pt1, e1, e2⟩ | ⟨q1, st1, ot1, pt1, e1, e2⟩
            · cases e2
            · split at e2
              · next c3 =>
                cases e2
                obtain ⟨K, k⟩ := ih _ _ _ _ _ _ _ _ _ (δ + 1) b e1 (by omega) hb (by omega) (by omega) (by omega)
                refine ⟨1 + K + 1, fun F => ?_⟩
                rw [show F + (1 + K + 1) = (F + 1 + K) + 1 by omega, s26_l h (by omega) (by omega) hb c2, k (F + 1), s26_r h (by omega) (by omega) hb c3]
              · cases e2
        · simp only [Option.some.injEq, Prod.mk.injEq] at hr
          obtain ⟨h1, h2, -⟩ := hr
          have ht := (cmp_tok h1).2
          rw [h2] at ht
          refine ⟨r - p, fun F => ?_⟩
          have := r26_o (sc := sc) (orc := orc) (δ := δ) h hb (r - p) p (by omega) (fun j a1 a2 => by have := ht j a1 (by omega); exact ⟨this.1, this.2.1, this.2.2.1⟩) F
          rw [show p + (r - p) = r by omega] at this
          exact this
    · next hm0 =>
      split at hr
      · rcases aBd_s hr with ⟨q1, st1, ot1, pt1, e1, e2⟩ | ⟨q1, st1, ot1, pt1, e1, e2⟩
        · cases e2
        · rcases aBd_s e2 with ⟨q3, st3, ot3, pt3, e3, e4⟩ | ⟨q3, st3, ot3, pt3, e3, e4⟩
          · cases e4
          · cases e4
            have l3 := aC_len _ _ _ _ _ _ _ _ _ _ e3
            obtain ⟨K, k⟩ := ih _ _ _ _ _ _ _ _ _ δ b e1 (by omega) hb (by omega) (by omega) (by omega)
            obtain ⟨K3, k3⟩ := ih _ _ _ _ _ _ _ _ _ δ b e3 hre hb (by omega) (by omega) (by omega)
            exact ⟨K3 + K, fun F => by rw [show F + (K3 + K) = F + K3 + K by omega, k (F + K3), k3 F]⟩
      · next hm1 =>
        split at hr
        · next hm2 =>
          have hδ0 := hpos (Or.inl hm2)
          rcases aBd_s hr with ⟨q1, st1, ot1, pt1, e1, e2⟩ | ⟨q1, st1, ot1, pt1, e1, e2⟩
          · cases e2
          · rcases aBd_s e2 with ⟨q3, st3, ot3, pt3, e3, e4⟩ | ⟨q3, st3, ot3, pt3, e3, e4⟩
            · cases e4
            · simp only [Option.some.injEq, Prod.mk.injEq, true_and] at e4
              obtain ⟨f1, -⟩ := e4
              subst f1
              have l3 := aC_len _ _ _ _ _ _ _ _ _ _ e3
              obtain ⟨K, k⟩ := ih _ _ _ _ _ _ _ _ _ δ b e1 (by omega) hb (by omega) (by omega) (by omega)
              obtain ⟨K3, k3⟩ := ih _ _ _ _ _ _ _ _ _ δ b e3 hre hb (by omega) (by omega) (by omega)
              exact ⟨K3 + K, fun F => by rw [show F + (K3 + K) = F + K3 + K by omega, k (F + K3), k3 F]⟩
        · next hm2 =>
          split at hr
          · split at hr
            · next c1 =>
              rcases aBd_s hr with ⟨q1, st1, ot1, pt1, e1, e2⟩ | ⟨q1, st1, ot1, pt1, e1, e2⟩
              · cases e2
              · rcases aBd_s e2 with ⟨q3, st3, ot3, pt3, e3, e4⟩ | ⟨q3, st3, ot3, pt3, e3, e4⟩
                · cases e4
                · cases e4
                  have l1 := aC_len _ _ _ _ _ _ _ _ _ _ e1
                  have l3 := aC_len _ _ _ _ _ _ _ _ _ _ e3
                  obtain ⟨K, k⟩ := ih _ _ _ _ _ _ _ _ _ δ b e1 (by omega) hb (by omega) (by omega) (by omega)
                  obtain ⟨K3, k3⟩ := ih _ _ _ _ _ _ _ _ _ δ b e3 hre hb (by omega) (by omega) (by omega)
                  exact ⟨K3 + K + 1, fun F => by rw [show F + (K3 + K + 1) = F + K3 + K + 1 by omega, s26_o h (by omega) hb (by omega) (by omega) (Or.inl (by omega)), k (F + K3), k3 F]⟩
            · cases hr
              exact ⟨0, fun F => rfl⟩
          · next hm3 =>
            have hδ0 := hpos (Or.inr (by omega))
            split at hr
            · next c1 =>
              rcases aBd_s hr with ⟨q1, st1, ot1, pt1, e1, e2⟩ | ⟨q1, st1, ot1, pt1, e1, e2⟩
              · cases e2
              · rcases aBd_s e2 with ⟨q3, st3, ot3, pt3, e3, e4⟩ | ⟨q3, st3, ot3, pt3, e3, e4⟩
                · cases e4
                · cases e4
                  have l1 := aC_len _ _ _ _ _ _ _ _ _ _ e1
                  have l3 := aC_len _ _ _ _ _ _ _ _ _ _ e3
                  obtain ⟨K, k⟩ := ih _ _ _ _ _ _ _ _ _ δ b e1 (by omega) hb (by omega) (by omega) (by omega)
                  obtain ⟨K3, k3⟩ := ih _ _ _ _ _ _ _ _ _ δ b e3 hre hb (by omega) (by omega) (by omega)
                  exact ⟨K3 + K + 1, fun F => by rw [show F + (K3 + K + 1) = F + K3 + K + 1 by omega, s26_o h (by omega) hb (by omega) (by omega) (Or.inr hδ0), k (F + K3), k3 F]⟩
            · cases hr
              exact ⟨0, fun F => rfl⟩
/-- behind an 'or' of the top level -/
theorem Y1o {sc : List Int} {orc : q_O} {M : q_M} {C : Nat → Int} {e : Nat} (h : WT M C e) : ∀ (f p u s r : Nat) (st : List (Int × Int × Int)) (ot : List Nat) (pt : List (Nat × Nat)) (b : Int), aC C f 4 0 p u s = some (true, r, st, ot, pt) → r ≤ e → (b = 0 ∨ b = 1) → f < 1000 → ∃ K, ∀ F, pr sc orc 187 (F + K) 26 [some (.inr (.inr 49)), some (.inl b), some (.inl 0), some (.inl (p : Int)), none] [] M = pr sc orc 187 F 26 [some (.inr (.inr 49)), some (.inl (if r = p then b else 0)), some (.inl 0), some (.inl (r : Int)), none] [] M := by
  intro f
  induction f with
  | zero => intro p u s r st ot pt b h; cases h
  | succ f ih =>
    intro p u s r st ot pt b hr hre hb hf
    unfold aC at hr
    rw [if_neg (by decide), if_neg (by decide), if_neg (by decide), if_neg (by decide)] at hr
    split at hr
    · next c1 =>
      rcases aBd_s hr with ⟨q1, st1, ot1, pt1, e1, e2⟩ | ⟨q1, st1, ot1, pt1, e1, e2⟩
      · cases e2
      · rcases aBd_s e2 with ⟨q3, st3, ot3, pt3, e3, e4⟩ | ⟨q3, st3, ot3, pt3, e3, e4⟩
        · cases e4
        · cases e4
          have l1 := (aC_len _ _ _ _ _ _ _ _ _ _ e1).2.2.2.1 (by omega)
          have l3 := aC_len _ _ _ _ _ _ _ _ _ _ e3
          obtain ⟨K, k⟩ := Y1 (sc := sc) (orc := orc) h _ _ _ _ _ _ _ _ _ _ 0 0 e1 (by omega) (Or.inl rfl) (by omega) (by omega) (by omega)
          obtain ⟨K3, k3⟩ := ih _ _ _ _ _ _ _ 0 e3 hre (Or.inl rfl) (by omega)
          refine ⟨K3 + K + 1, fun F => ?_⟩
          rw [show F + (K3 + K + 1) = F + K3 + K + 1 by omega, s26_or h (by omega) hb c1]
          refine Eq.trans (k (F + K3)) ?_
          refine Eq.trans (k3 F) ?_
          rw [if_neg (show ¬ r = p by omega)]
          split <;> rfl
    · cases hr
      exact ⟨0, fun F => by rw [if_pos rfl]; rfl⟩
