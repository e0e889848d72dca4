/-! the second loop -/
theorem s13_o {sc : List Int} {d : Nat} {M : q_M} {C : Nat → Int} {e δ t F : Nat} {g : Int} (h : WT M C e) (ht : t < e) (h1 : ¬ C t = 40) (h2 : ¬ C t = 41) (h3 : ¬ C t = 271 ∨ 0 < δ) : pr sc (pq sc d) 187 (F + 1) 113 [some (.inr (.inr 49)), some (.inl 1), some (.inl (δ : Nat)), some (.inl g), some (.inl (t : Int))] [] M = pr sc (pq sc d) 187 F 113 [some (.inr (.inr 49)), some (.inl 1), some (.inl (δ : Nat)), some (.inl g), some (.inl ((t + 1 : Nat) : Int))] [] M := by
  have he := h.2.1
  refine sg_X12_findParts_113.trans ?_
  rw [h.1, if_pos (by omega), if_neg (by decide), if_pos (by omega), Int.toNat_natCast, if_neg (fun hh => h1 ((WT_k h ht k40 (by decide)).mp hh)), if_pos (by omega), if_neg (fun hh => h2 ((WT_k h ht k41 (by decide)).mp hh)), qw1 (by omega)]
  by_cases g : 0 < δ
  · rw [if_neg (by omega)]
  · rw [if_pos (by omega), if_pos (by omega), if_neg (fun hh => by have := (WT_k h ht k271 (by decide)).mp hh; omega)]
theorem s13_l {sc : List Int} {d : Nat} {M : q_M} {C : Nat → Int} {e δ t F : Nat} {g : Int} (h : WT M C e) (ht : t < e) (hδ : δ < 1000) (h1 : C t = 40) : pr sc (pq sc d) 187 (F + 1) 113 [some (.inr (.inr 49)), some (.inl 1), some (.inl (δ : Nat)), some (.inl g), some (.inl (t : Int))] [] M = pr sc (pq sc d) 187 F 113 [some (.inr (.inr 49)), some (.inl 1), some (.inl ((δ + 1) : Nat)), some (.inl g), some (.inl ((t + 1 : Nat) : Int))] [] M := by
  have he := h.2.1
  refine sg_X12_findParts_113.trans ?_
  rw [h.1, if_pos (by omega), if_neg (by decide), if_pos (by omega), Int.toNat_natCast, if_pos ((WT_k h ht k40 (by decide)).mpr h1), qw1 (i := δ) (by omega), qw1 (i := t) (by omega), if_neg (by omega)]
theorem s13_r {sc : List Int} {d : Nat} {M : q_M} {C : Nat → Int} {e δ t F : Nat} {g : Int} (h : WT M C e) (ht : t < e) (hδ : δ < 1000) (h1 : C t = 41) : pr sc (pq sc d) 187 (F + 1) 113 [some (.inr (.inr 49)), some (.inl 1), some (.inl ((δ + 1) : Nat)), some (.inl g), some (.inl (t : Int))] [] M = pr sc (pq sc d) 187 F 113 [some (.inr (.inr 49)), some (.inl 1), some (.inl (δ : Nat)), some (.inl g), some (.inl ((t + 1 : Nat) : Int))] [] M := by
  have he := h.2.1
  refine sg_X12_findParts_113.trans ?_
  rw [h.1, if_pos (by omega), if_neg (by decide), if_pos (by omega), Int.toNat_natCast, if_neg (fun hh => by have := (WT_k h ht k40 (by decide)).mp hh; omega), if_pos (by omega), if_pos ((WT_k h ht k41 (by decide)).mpr h1), qw1 (i := t) (by omega), qwn (x := ((δ + 1 : Nat) : Int) - 1) (n := δ) (by omega) (by omega)]
  by_cases g : 0 < δ
  · rw [if_neg (by omega)]
  · rw [if_pos (by omega), if_pos (by omega), if_neg (fun hh => by have := (WT_k h ht k271 (by decide)).mp hh; omega)]
theorem r13_o {sc : List Int} {d : Nat} {M : q_M} {C : Nat → Int} {e δ : Nat} {g : Int} (h : WT M C e) : ∀ (m t : Nat), t + m ≤ e → (∀ j, t ≤ j → j < t + m → ¬ C j = 40 ∧ ¬ C j = 41 ∧ ¬ C j = 271) → ∀ F, pr sc (pq sc d) 187 (F + m) 113 [some (.inr (.inr 49)), some (.inl 1), some (.inl (δ : Nat)), some (.inl g), some (.inl (t : Int))] [] M = pr sc (pq sc d) 187 F 113 [some (.inr (.inr 49)), some (.inl 1), some (.inl (δ : Nat)), some (.inl g), some (.inl ((t + m : Nat) : Int))] [] M := by
  intro m
  induction m with
  | zero => intro t _ _ F; rfl
  | succ m ih =>
    intro t he hj F
    obtain ⟨a1, a2, a3⟩ := hj t (Nat.le_refl _) (by omega)
    rw [show F + (m + 1) = (F + m) + 1 by omega, s13_o h (by omega) a1 a2 (Or.inl a3), ih (t + 1) (by omega) (fun j b1 b2 => hj j (by omega) (by omega)) F, show t + 1 + m = t + (m + 1) by omega]
theorem Y2 {sc : List Int} {d : Nat} {M : q_M} {C : Nat → Int} {e : Nat} {g : Int} (h : WT M C e) : ∀ (f md o p u s r : Nat) (st : List (Int × Int × Int)) (ot : List Nat) (pt : List (Nat × Nat)) (δ : Nat), aC C f md o p u s = some (true, r, st, ot, pt) → r ≤ e → δ + f < 1000 → md ≤ 4 → (0 < md → 0 < δ) → ∃ K, ∀ F, pr sc (pq sc d) 187 (F + K) 113 [some (.inr (.inr 49)), some (.inl 1), some (.inl (δ : Nat)), some (.inl g), some (.inl (p : Int))] [] M = pr sc (pq sc d) 187 F 113 [some (.inr (.inr 49)), some (.inl 1), some (.inl (δ : Nat)), some (.inl g), some (.inl (r : Int))] [] M := by
  intro f
  induction f with
  | zero => intro md o p u s r st ot pt δ h; cases h
  | succ f ih =>
    intro md o p u s r st ot pt δ hr hre hδ hmd hpos
    have hl := aC_len _ _ _ _ _ _ _ _ _ _ hr
    unfold aC at hr
    split at hr
    · next hm =>
      have hl0 := hl.2.2.2.1 (by omega)
      split at hr
      · next c1 =>
        split at hr
        · cases hr
        · rcases aBd_s hr with ⟨q1, st1, ot1, pt1, e1, e2⟩ | ⟨q1, st1, ot1, pt1, e1, e2⟩
          · cases e2
          · cases e2
            obtain ⟨K, k⟩ := ih _ _ _ _ _ _ _ _ _ δ e1 hre (by omega) (by omega) (by omega)
            exact ⟨K + 1, fun F => (s13_o h (by omega) (by omega) (by omega) (Or.inl (by omega))).trans (k F)⟩
      · split at hr
        · next c1 c2 =>
          split at hr
          · cases hr
          · rcases aBd_s hr with ⟨q1, st1, ot1, pt1, e1, e2⟩ | ⟨q1, st1, ot1, pt1, e1, e2⟩
            · cases e2
            · split at e2
              · next c3 =>
                cases e2
                obtain ⟨K, k⟩ := ih _ _ _ _ _ _ _ _ _ (δ + 1) e1 (by omega) (by omega) (by omega) (by omega)
                refine ⟨1 + K + 1, fun F => ?_⟩
                rw [show F + (1 + K + 1) = (F + 1 + K) + 1 by omega, s13_l h (by omega) (by omega) c2, k (F + 1), s13_r h (by omega) (by omega) c3]
              · cases e2
        · simp only [Option.some.injEq, Prod.mk.injEq] at hr
          obtain ⟨h1, h2, -⟩ := hr
          have ht := (cmp_tok h1).2
          rw [h2] at ht
          refine ⟨r - p, fun F => ?_⟩
          have := r13_o (sc := sc) (d := d) (δ := δ) (g := g) h (r - p) p (by omega) (fun j a1 a2 => by have := ht j a1 (by omega); exact ⟨this.1, this.2.1, this.2.2.2⟩) F
          rw [show p + (r - p) = r by omega] at this
          exact this
    · next hm0 =>
      have hδ0 := hpos (by omega)
      split at hr
      · rcases aBd_s hr with ⟨q1, st1, ot1, pt1, e1, e2⟩ | ⟨q1, st1, ot1, pt1, e1, e2⟩
        · cases e2
        · rcases aBd_s e2 with ⟨q3, st3, ot3, pt3, e3, e4⟩ | ⟨q3, st3, ot3, pt3, e3, e4⟩
          · cases e4
          · cases e4
            have l3 := aC_len _ _ _ _ _ _ _ _ _ _ e3
            obtain ⟨K, k⟩ := ih _ _ _ _ _ _ _ _ _ δ e1 (by omega) (by omega) (by omega) (by omega)
            obtain ⟨K3, k3⟩ := ih _ _ _ _ _ _ _ _ _ δ e3 hre (by omega) (by omega) (by omega)
            exact ⟨K3 + K, fun F => by rw [show F + (K3 + K) = F + K3 + K by omega, k (F + K3), k3 F]⟩
      · next hm1 =>
        split at hr
        · next hm2 =>
          rcases aBd_s hr with ⟨q1, st1, ot1, pt1, e1, e2⟩ | ⟨q1, st1, ot1, pt1, e1, e2⟩
          · cases e2
          · rcases aBd_s e2 with ⟨q3, st3, ot3, pt3, e3, e4⟩ | ⟨q3, st3, ot3, pt3, e3, e4⟩
            · cases e4
            · simp only [Option.some.injEq, Prod.mk.injEq, true_and] at e4
              obtain ⟨f1, -⟩ := e4
              subst f1
              have l3 := aC_len _ _ _ _ _ _ _ _ _ _ e3
              obtain ⟨K, k⟩ := ih _ _ _ _ _ _ _ _ _ δ e1 (by omega) (by omega) (by omega) (by omega)
              obtain ⟨K3, k3⟩ := ih _ _ _ _ _ _ _ _ _ δ e3 hre (by omega) (by omega) (by omega)
              exact ⟨K3 + K, fun F => by rw [show F + (K3 + K) = F + K3 + K by omega, k (F + K3), k3 F]⟩
        · next hm2 =>
          split at hr
          · split at hr
            · next c1 =>
              rcases aBd_s hr with ⟨q1, st1, ot1, pt1, e1, e2⟩ | ⟨q1, st1, ot1, pt1, e1, e2⟩
              · cases e2
              · rcases aBd_s e2 with ⟨q3, st3, ot3, pt3, e3, e4⟩ | ⟨q3, st3, ot3, pt3, e3, e4⟩
                · cases e4
                · cases e4
                  have l1 := aC_len _ _ _ _ _ _ _ _ _ _ e1
                  have l3 := aC_len _ _ _ _ _ _ _ _ _ _ e3
                  obtain ⟨K, k⟩ := ih _ _ _ _ _ _ _ _ _ δ e1 (by omega) (by omega) (by omega) (by omega)
                  obtain ⟨K3, k3⟩ := ih _ _ _ _ _ _ _ _ _ δ e3 hre (by omega) (by omega) (by omega)
                  exact ⟨K3 + K + 1, fun F => by rw [show F + (K3 + K + 1) = F + K3 + K + 1 by omega, s13_o h (by omega) (by omega) (by omega) (Or.inr hδ0), k (F + K3), k3 F]⟩
            · cases hr
              exact ⟨0, fun F => rfl⟩
          · next hm3 =>
            split at hr
            · next c1 =>
              rcases aBd_s hr with ⟨q1, st1, ot1, pt1, e1, e2⟩ | ⟨q1, st1, ot1, pt1, e1, e2⟩
              · cases e2
              · rcases aBd_s e2 with ⟨q3, st3, ot3, pt3, e3, e4⟩ | ⟨q3, st3, ot3, pt3, e3, e4⟩
                · cases e4
                · cases e4
                  have l1 := aC_len _ _ _ _ _ _ _ _ _ _ e1
                  have l3 := aC_len _ _ _ _ _ _ _ _ _ _ e3
                  obtain ⟨K, k⟩ := ih _ _ _ _ _ _ _ _ _ δ e1 (by omega) (by omega) (by omega) (by omega)
                  obtain ⟨K3, k3⟩ := ih _ _ _ _ _ _ _ _ _ δ e3 hre (by omega) (by omega) (by omega)
                  exact ⟨K3 + K + 1, fun F => by rw [show F + (K3 + K + 1) = F + K3 + K + 1 by omega, s13_o h (by omega) (by omega) (by omega) (Or.inr hδ0), k (F + K3), k3 F]⟩
            · cases hr
              exact ⟨0, fun F => rfl⟩
/-! the item of a part -/
def MX (m : Int) (S : Int → Prop) : Prop := 0 ≤ m ∧ (∀ k, S k → k ≤ m) ∧ (m = 0 ∨ S m)
theorem MX_u {m m' : Int} {S S' : Int → Prop} (h : MX m S) (h' : MX m' S') (e : ∀ k, 1 ≤ k → (S k ↔ S' k)) : m = m' := by
  obtain ⟨h1, h2, h3⟩ := h
  obtain ⟨k1, k2, k3⟩ := h'
  rcases h3 with h3 | h3 <;> rcases k3 with k3 | k3
  · omega
  · by_cases z : 1 ≤ m'
    · have := h2 _ ((e m' z).mpr k3); omega
    · omega
  · by_cases z : 1 ≤ m
    · have := k2 _ ((e m z).mp h3); omega
    · omega
  · by_cases z : 1 ≤ m
    · have a1 := k2 _ ((e m z).mp h3)
      by_cases z' : 1 ≤ m'
      · have := h2 _ ((e m' z').mpr k3); omega
      · omega
    · by_cases z' : 1 ≤ m'
      · have := h2 _ ((e m' z').mpr k3); omega
      · omega
theorem MX_n {m k : Int} {S : Int → Prop} (h : MX m S) : MX (max m k) (fun x => S x ∨ x = k) := by
  obtain ⟨h1, h2, h3⟩ := h
  refine ⟨by omega, fun x hx => ?_, ?_⟩
  · rcases hx with hx | hx
    · have := h2 x hx; omega
    · omega
  · by_cases z : m ≤ k
    · exact Or.inr (Or.inr (by omega))
    · rw [show max m k = m by omega]
      rcases h3 with h3 | h3
      · exact Or.inl h3
      · exact Or.inr (Or.inl h3)
theorem MX_c {m : Int} {S S' : Int → Prop} (h : MX m S) (e : ∀ k, S k ↔ S' k) : MX m S' := ⟨h.1, fun k hk => h.2.1 k ((e k).mpr hk), by
  rcases h.2.2 with h3 | h3
  · exact Or.inl h3
  · exact Or.inr ((e m).mp h3)⟩
/-- items of the aliases between a and b -/
def SI (C : Nat → Int) (tl : List Nat) (a b : Nat) (k : Int) : Prop := ∃ t, a ≤ t ∧ t < b ∧ 119 ≤ C t ∧ C t ≤ 122 ∧ k = itm C tl (C t)
theorem mp_addT {sc : List Int} {d : Nat} {M0 : q_M} {C P N : Nat → Int} {q : Nat} {its : List aIt} {ous : List aOu} {gts : List Nat} {wf wt : Nat} {a b n : Nat} (h : SM M0 C P N q its ous gts wf wt) (hT : TIq C q (its.map (·.1))) (hk : ∀ i, i < b → kR (C i)) (hb : b ≤ q) (hn : n < 40) (h36 : M0 49 36 = n) (hd : 1 ≤ d) : ∀ (m t : Nat) (M : q_M), t + m = b → a ≤ t → (∀ x, ¬ x = 72 → M x = M0 x) → (∀ i, ¬ i = n → M 72 i = M0 72 i) → MX (M 72 n) (SI C (its.map (·.1)) a t) → ∃ F M', pr sc (pq sc d) 186 F 32 [some (.inr (.inr 49)), none, some (.inl (b : Int)), some (.inl (t : Int)), none] [] M = some (none, GF, q_up M' 49 36 ((n : Int) + 1)) ∧ (∀ x, ¬ x = 72 → M' x = M0 x) ∧ (∀ i, ¬ i = n → M' 72 i = M0 72 i) ∧ MX (M' 72 n) (SI C (its.map (·.1)) a b) := by
  have hq := h.2.1
  intro m
  induction m with
  | zero =>
    intro t M ht ha hM hM2 hX
    refine ⟨0 + 1, M, sg_X12_addPart_32.trans ?_, hM, hM2, by rw [← show t = b by omega]; exact hX⟩
    rw [if_neg (by omega), hM 49 (by decide), h36, q_wid (by omega) (by omega)]
  | succ m ih =>
    intro t M ht ha hM hM2 hX
    have k58 : M 58 t = kp (C t) := by rw [hM 58 (by decide)]; exact (h.1 t (by omega)).1
    have hS : SM M C P N q its ous gts wf wt := by
      obtain ⟨h1, h2, h3, h4, h5, h6, h7⟩ := h
      refine ⟨?_, h2, MI_fr h3 (fun x _ _ => hM x (by omega)) (by rw [hM 49 (by decide)]), MO_fr h4 (hM 62 (by decide)) (hM 63 (by decide)) (by rw [hM 49 (by decide)]), MG_fr h5 (hM 69 (by decide)) (by rw [hM 49 (by decide)]), by rw [hM 49 (by decide)]; exact h6, by rw [hM 49 (by decide)]; exact h7⟩
      unfold MK at h1 ⊢
      rw [hM 58 (by decide), hM 59 (by decide), hM 60 (by decide)]; exact h1
    have e36 : M 49 36 = n := by rw [hM 49 (by decide)]; exact h36
    have q1 := sp_isIn (sc := sc) (d := d) (M := M) (a := kp (C t)) (b := 220) (by omega) (by omega) (by omega)
    by_cases g : 119 ≤ C t ∧ C t ≤ 122
    · rw [if_pos ((kp_al (hk t (by omega))).mpr g)] at q1
      have q2 := mk_itemOf (sc := sc) (d := d) hS hT g (by omega) (by omega)
      generalize hkk : itm C (its.map (·.1)) (C t) = k at q2
      have hX' := MX_n (k := k) hX
      have hXe : MX (max (M 72 n) k) (SI C (its.map (·.1)) a (t + 1)) := MX_c hX' (fun x => by
        unfold SI
        constructor
        · rintro (⟨u, h1, h2, h3⟩ | h1)
          · exact ⟨u, h1, by omega, h3⟩
          · exact ⟨t, ha, by omega, g.1, g.2, by rw [hkk]; exact h1⟩
        · rintro ⟨u, h1, h2, h3, h4, h5⟩
          by_cases e : u = t
          · subst e; exact Or.inr (by rw [← hkk]; exact h5)
          · exact Or.inl ⟨u, h1, by omega, h3, h4, h5⟩)
      obtain ⟨F, M', q3, r1, r2, r3⟩ := ih (t + 1) (q_up M 72 n (max (M 72 n) k)) (by omega) (by omega) (fun x hx => (q_upf hx).trans (hM x hx)) (fun i hi => (q_up_sn hi).trans (hM2 i hi)) (by rw [q_up_s]; exact hXe)
      refine ⟨F + 1, M', sg_X12_addPart_32.trans ?_, r1, r2, r3⟩
      rw [if_pos (by omega), if_pos (by omega), Int.toNat_natCast, k58, q1, q_cI_s, if_neg (by decide), q2, q_cI_s, e36, if_pos (by omega), Int.toNat_natCast, qw1 (by omega)]
      by_cases z : M 72 n < k
      · rw [if_pos z, if_pos (by omega), ← q3, show max (M 72 n) k = k by omega]
      · rw [if_neg z, if_pos (by omega), if_pos (by omega), ← q3, show max (M 72 n) k = M 72 n by omega]
    · rw [if_neg (fun e => g ((kp_al (hk t (by omega))).mp e))] at q1
      obtain ⟨F, M', q3, r1, r2, r3⟩ := ih (t + 1) M (by omega) (by omega) hM hM2 (MX_c hX (fun x => by
        unfold SI
        constructor
        · rintro ⟨u, h1, h2, h3⟩; exact ⟨u, h1, by omega, h3⟩
        · rintro ⟨u, h1, h2, h3, h4, h5⟩
          by_cases e : u = t
          · subst e; exact absurd ⟨h3, h4⟩ g
          · exact ⟨u, h1, by omega, h3, h4, h5⟩))
      refine ⟨F + 1, M', sg_X12_addPart_32.trans ?_, r1, r2, r3⟩
      rw [if_pos (by omega), if_pos (by omega), Int.toNat_natCast, k58, q1, q_cI_s, if_pos rfl, qw1 (by omega), q3]
/-- what finding parts changes -/
def FF (M M' : q_M) : Prop := (∀ a, ¬ (70 ≤ a ∧ a ≤ 72) → ¬ a = 49 → M' a = M a) ∧ (∀ j, ¬ j = 36 → M' 49 j = M 49 j)
theorem FF_r {M : q_M} : FF M M := ⟨fun _ _ _ => rfl, fun _ _ => rfl⟩
theorem FF_t {M M' M'' : q_M} (h : FF M M') (h' : FF M' M'') : FF M M'' := ⟨fun a h1 h2 => (h'.1 a h1 h2).trans (h.1 a h1 h2), fun j h1 => (h'.2 j h1).trans (h.2 j h1)⟩
theorem SM_ff {M M' : q_M} {C P N : Nat → Int} {q : Nat} {its : List aIt} {ous : List aOu} {gts : List Nat} {wf wt : Nat} (h : SM M C P N q its ous gts wf wt) (hf : FF M M') : SM M' C P N q its ous gts wf wt := by
  obtain ⟨h1, h2, h3, h4, h5, h6, h7⟩ := h
  refine ⟨?_, h2, MI_fr h3 (fun a _ _ => hf.1 a (by omega) (by omega)) (hf.2 26 (by decide)), MO_fr h4 (hf.1 62 (by decide) (by decide)) (hf.1 63 (by decide) (by decide)) (hf.2 23 (by decide)), MG_fr h5 (hf.1 69 (by decide) (by decide)) (hf.2 34 (by decide)), by rw [hf.2 32 (by decide)]; exact h6, by rw [hf.2 33 (by decide)]; exact h7⟩
  unfold MK at h1 ⊢
  rw [hf.1 58 (by decide) (by decide), hf.1 59 (by decide) (by decide), hf.1 60 (by decide) (by decide)]; exact h1
/-- the parts of the model -/
def PM (M : q_M) (C : Nat → Int) (tl : List Nat) (l : List (Nat × Nat)) : Prop := M 49 36 = l.length ∧ ∀ (i : Nat) x, l[i]? = some x → M 70 i = x.1 ∧ M 71 i = x.2 ∧ MX (M 72 i) (SI C tl x.1 x.2)
theorem mp_add {sc : List Int} {d : Nat} {M : q_M} {C P N : Nat → Int} {q : Nat} {its : List aIt} {ous : List aOu} {gts : List Nat} {wf wt : Nat} {a b : Nat} {l : List (Nat × Nat)} (h : SM M C P N q its ous gts wf wt) (hT : TIq C q (its.map (·.1))) (hk : ∀ i, i < b → kR (C i)) (hab : a ≤ b) (hb : b ≤ q) (hl : l.length < 40) (hP : PM M C (its.map (·.1)) l) (hd : 2 ≤ d) : ∃ M', pq sc d 186 [.inr (.inr 49), .inl (a : Int), .inl (b : Int)] GF M = some (none, GF, M') ∧ FF M M' ∧ PM M' C (its.map (·.1)) (l ++ [(a, b)]) := by
  have h36 := hP.1
  generalize hA : q_up (q_up (q_up M 70 l.length (a : Int)) 71 l.length (b : Int)) 72 l.length 0 = A
  have fA : FF M A := by rw [← hA]; exact ⟨fun x h1 h2 => by rw [q_upf (by omega), q_upf (by omega), q_upf (by omega)], fun j _ => by rw [q_up_ne (by decide), q_up_ne (by decide), q_up_ne (by decide)]⟩
  have A36 : A 49 36 = l.length := by rw [← hA, q_up_ne (by decide), q_up_ne (by decide), q_up_ne (by decide)]; exact h36
  have A72 : A 72 l.length = 0 := by rw [← hA, q_up_s]
  obtain ⟨F, M', q1, r1, r2, r3⟩ := mp_addT (sc := sc) (d := d - 1) (a := a) (b := b) (SM_ff h fA) hT hk hb hl A36 (by omega) (b - a) a A (by omega) (Nat.le_refl _) (fun _ _ => rfl) (fun _ _ => rfl) (by rw [A72]; exact ⟨Int.le_refl _, fun k ⟨t, h1, h2, _⟩ => by omega, Or.inl rfl⟩)
  have hb' : 0 ≤ M 49 36 ∧ M 49 36 < ((40 : Nat) : Int) := by omega
  refine ⟨q_up M' 49 36 ((l.length : Int) + 1), (pq_e (by omega) (by decide) (Nat.le_of_ble_eq_true rfl) ⟨F + 1, sg_X12_addPart_0.trans ?_⟩), ⟨fun x h1 h2 => ?_, fun j hj => ?_⟩, by rw [q_up_s]; simp, fun i x hx => ?_⟩
  · rw [if_pos hb', if_pos hb', if_pos hb', h36, Int.toNat_natCast, hA]; exact q1
  · rw [q_upf h2, r1 x (by omega), fA.1 x h1 h2]
  · rw [q_up_sn hj, r1 49 (by decide), fA.2 j hj]
  · rw [q_up_ne (by decide), q_up_ne (by decide), q_up_ne (by decide), r1 70 (by decide), r1 71 (by decide)]
    rcases l_app hx with ⟨hi, hx⟩ | ⟨rfl, rfl⟩
    · rw [r2 i (by omega), ← hA, q_up_ne (by decide), q_up_ne (by decide), q_up_sn (by omega), q_up_ne (by decide), q_up_sn (by omega), q_up_ne (by decide), q_up_sn (by omega), q_up_ne (by decide), q_up_ne (by decide)]
      exact hP.2 i x hx
    · refine ⟨?_, ?_, r3⟩
      · rw [← hA, q_up_ne (by decide), q_up_ne (by decide), q_up_s]
      · rw [← hA, q_up_ne (by decide), q_up_s]
