def AD (M : q_M) (k : Nat) (c : Int) (y : Nat) (v : Int) : q_M := q_up (q_up (q_up (q_up M 12 k c) 13 k (y : Int)) 14 k v) 11 3 ((k : Int) + 1)
theorem sc_num {sc : List Int} {d : Nat} {M : q_M} {T : Nat → Int} {len y k : Nat} (h : TXc T len M) (hl : y < len) (hc : T y = 45 ∨ (48 ≤ T y ∧ T y ≤ 57)) (h3 : M 11 3 = k) (hk : k < 131) (hd : 2 ≤ d) : ∃ v, (nbg T y < nen T len y ∧ nen T len y ≤ nbg T y + 6 → v = tkN T len y) ∧ pq sc d 111 [.inr (.inr 9), .inl (y : Int), .inr (.inr 11)] GF M = some (some (.inl (nen T len y : Int)), GF, AD M k (if nbg T y < nen T len y ∧ nen T len y ≤ nbg T y + 6 then 258 else 257) y v) := by
  have hl2 := h.2.2.1
  have hnb : y ≤ nbg T y ∧ nbg T y ≤ len := by unfold nbg; split <;> omega
  have qc := sp_codeAt (sc := sc) (d := d - 1) h hl (by omega)
  obtain ⟨K, v', hv', q⟩ := sc_numT (sc := sc) (d := d - 1) (b := nbg T y) (b1 := (y : Int)) (b3 := if T y = 45 then 1 else 0) h (by omega) 200 (nbg T y) 0 (Nat.le_refl _) hnb.2 (by omega) (fun i h1 h2 => by omega) (fun _ => by rw [Nat.sub_self]; rfl)
  have en : den T len 200 (nbg T y) = nen T len y := rfl
  rw [en] at hv'
  rw [en] at q
  have s0 : ∀ F, pr sc (pq sc (d - 1)) 111 (F + 1) 0 [some (.inr (.inr 9)), some (.inl (y : Int)), some (.inr (.inr 11)), none, none, none, none, none] [] M = pr sc (pq sc (d - 1)) 111 F 40 [some (.inr (.inr 9)), some (.inl (y : Int)), some (.inr (.inr 11)), some (.inl (if T y = 45 then 1 else 0)), some (.inl (nbg T y : Int)), some (.inl (nbg T y : Int)), some (.inl 0), some (.inl (nbg T y : Int))] [] M := by
    intro F
    refine sg_X8_readNumeral_0.trans ?_
    rw [qc, q_cI_s]
    unfold nbg
    by_cases e : T y = 45
    · rw [if_pos e, if_neg (by decide), if_pos e, if_pos e, q_wid (by omega) (by omega), n1]
    · rw [if_neg e, if_pos rfl, if_neg e, if_neg e]
  have hN : nbg T y < nen T len y ∧ nen T len y ≤ nbg T y + 6 → tkN T len y = (if T y = 45 then -v' else v') ∧ 0 ≤ v' ∧ v' < 1000000 := by
    intro hg
    have hv := hv' hg.2
    have hdn := den_le (T := T) (len := len) 200 (nbg T y) hnb.2
    rw [en] at hdn
    have hvb := dv_b (T := T) (b := nbg T y) (nen T len y - nbg T y) (fun i a1 a2 => hdn.2.2.1 i a1 (by omega))
    have hv6 := p10 (k := nen T len y - nbg T y) (by omega)
    have hdd := dva_dv (T := T) (len := len) (b := nbg T y) 200 (nbg T y) 0 (Nat.le_refl _) (by rw [Nat.sub_self]; rfl)
    rw [en, ← hv] at hdd
    refine ⟨?_, by omega, by omega⟩
    unfold tkN
    by_cases e : T y = 45
    · have eb : nbg T y = y + 1 := by unfold nbg; rw [if_pos e]
      rw [eb] at hdd
      rw [if_pos e, if_pos e, hdd]
    · have eb : nbg T y = y := by unfold nbg; rw [if_neg e]
      rw [eb] at hdd
      rw [if_neg e, if_neg e, hdd]
  refine ⟨if T y = 45 then q_w (-v') else v', fun hg => ?_, pq_e (by omega) (by decide) (Nat.le_of_ble_eq_true rfl) ⟨(0 + 1) + K + 1 + 1, (s0 _).trans ((q (0 + 1)).trans (sg_X8_readNumeral_114.trans ?_))⟩⟩
  · obtain ⟨h1, h2, h3⟩ := hN hg
    rw [h1]
    split
    · exact q_wid (by omega) (by omega)
    · rfl
  · by_cases hg : nbg T y < nen T len y ∧ nen T len y ≤ nbg T y + 6
    · rw [if_pos hg, if_neg (by decide)]
      by_cases e : T y = 45
      · rw [if_pos e, if_neg (by decide), sc_add h3 hk (by omega), q_c0_s, if_pos e, if_pos hg]; rfl
      · rw [if_neg e, if_pos rfl, sc_add h3 hk (by omega), q_c0_s, if_neg e, if_pos hg]; rfl
    · rw [if_neg hg, if_pos rfl]
      by_cases e : T y = 45
      · rw [if_pos e, if_neg (by decide), sc_add h3 hk (by omega), q_c0_s, if_pos e, if_neg hg]; rfl
      · rw [if_neg e, if_pos rfl, sc_add h3 hk (by omega), q_c0_s, if_neg e, if_neg hg]; rfl
theorem sc_token {sc : List Int} {d : Nat} {M : q_M} {T : Nat → Int} {len y k : Nat} (h : TXc T len M) (hl : y < len) (h3 : M 11 3 = k) (hk : k < 131) (hd : 9 ≤ d) : ∃ v, (tkC T len y = 258 → v = tkN T len y) ∧ pq sc d 109 [.inr (.inr 9), .inl (y : Int), .inr (.inr 11)] GF M = some (some (.inl (tkE T len y : Int)), GF, AD M k (tkC T len y) y v) := by
  have hl2 := h.2.2.1
  have hr := h.2.2.2 y hl
  have qc := sp_codeAt (sc := sc) (d := d - 1) h hl (by omega)
  have qsm := sc_isSmall (sc := sc) (d := d - 1) (M := M) (a := T y) (by omega)
  have qdg := sc_isDigit (sc := sc) (d := d - 1) (M := M) (a := T y) (by omega)
  have qcp := sc_isCapital (sc := sc) (d := d - 1) (M := M) (a := T y) (by omega)
  have qsg := sc_isSign (sc := sc) (d := d - 1) (M := M) (a := T y) (by omega) (by omega) (by omega)
  have ew : q_w ((y : Int) + 1) = (y : Int) + 1 := q_wid (by omega) (by omega)
  unfold tkC tkE
  by_cases k1 : 97 ≤ T y ∧ T y ≤ 122
  · rw [if_pos k1] at qsm
    rw [if_pos k1, if_pos k1]
    have hw := wen_le (T := T) (len := len) 200 y (by omega)
    have qe := sc_end (sc := sc) (d := d - 1) h (show y ≤ len by omega) (by omega)
    refine ⟨0, fun hh => ?_, pq_e (by omega) (by decide) (Nat.le_of_ble_eq_true rfl) ⟨0 + 1, sg_X8_readToken_0.trans ?_⟩⟩
    · exfalso
      split at hh
      · omega
      · unfold wk at hh
        rcases wki_s (w := wrd T y (wen T len 200 y)) wds 259 with ⟨m1, -⟩ | ⟨i', m1, m2, -, -⟩
        · omega
        · omega
    · rw [qc, q_cI_s, qsm, q_cI_s, if_neg (by decide), qe, q_cI_s, ew]
      by_cases e : wen T len 200 y = y + 1
      · rw [if_pos (by omega), if_pos e, sc_add h3 hk (by omega), q_c0_s]; rfl
      · rw [if_neg (by omega), if_neg e, sp_wordKind h hw.1 hw.2.1 (by omega), q_cI_s, sc_add h3 hk (by omega), q_c0_s]; rfl
  · rw [if_neg k1] at qsm
    rw [if_neg k1, if_neg k1]
    by_cases k2 : T y = 45 ∨ (48 ≤ T y ∧ T y ≤ 57)
    · rw [if_pos k2, if_pos k2]
      obtain ⟨v, hv, q⟩ := sc_num (sc := sc) (d := d - 1) h hl k2 h3 hk (by omega)
      refine ⟨v, fun hh => ?_, pq_e (by omega) (by decide) (Nat.le_of_ble_eq_true rfl) ⟨0 + 1, sg_X8_readToken_0.trans ?_⟩⟩
      · by_cases hg : nbg T y < nen T len y ∧ nen T len y ≤ nbg T y + 6
        · exact hv hg
        · rw [if_neg hg] at hh; omega
      · rw [qc, q_cI_s, qsm, q_cI_s, if_pos rfl]
        by_cases k3 : T y = 45
        · rw [if_pos k3, q, q_cI_s]
        · rw [if_pos (show 48 ≤ T y ∧ T y ≤ 57 by omega)] at qdg
          rw [if_neg k3, qdg, q_cI_s, if_neg (by decide), q, q_cI_s]
    · rw [if_neg k2, if_neg k2]
      rw [if_neg (show ¬ (48 ≤ T y ∧ T y ≤ 57) by omega)] at qdg
      refine ⟨0, fun hh => ?_, pq_e (by omega) (by decide) (Nat.le_of_ble_eq_true rfl) ⟨0 + 1, sg_X8_readToken_0.trans ?_⟩⟩
      · exfalso
        split at hh <;> omega
      · rw [qc, q_cI_s, qsm, q_cI_s, if_pos rfl, if_neg (by omega), qdg, q_cI_s, if_pos rfl, qcp, q_cI_s, ew]
        by_cases k3 : 65 ≤ T y ∧ T y ≤ 90
        · rw [if_pos k3, if_neg (by decide), if_pos (Or.inl k3), sc_add h3 hk (by omega), q_c0_s]; rfl
        · rw [if_neg k3, if_pos rfl, qsg, q_cI_s]
          by_cases k4 : T y = 40 ∨ T y = 41 ∨ T y = 44 ∨ T y = 46 ∨ T y = 61 ∨ T y = 60 ∨ T y = 62
          · rw [if_pos k4, if_neg (by decide), if_pos (Or.inr k4), sc_add h3 hk (by omega), q_c0_s]; rfl
          · rw [if_neg k4, if_pos rfl, if_neg (fun hh => by rcases hh with hh | hh; exact k3 hh; exact k4 hh), sc_add h3 hk (by omega), q_c0_s]; rfl
/-! all tokens -/
def eS (T : Nat → Int) (len : Nat) : Nat → Nat
  | 0 => 0
  | i + 1 => tkE T len (skp T len 200 (eS T len i))
theorem tkE_le {T : Nat → Int} {len y : Nat} (hl : y < len) (h2 : len ≤ 130) : y + 1 ≤ tkE T len y ∧ tkE T len y ≤ len := by
  unfold tkE
  split
  · next k1 =>
    have hw := wen_le (T := T) (len := len) 200 y (by omega)
    refine ⟨?_, hw.2.1⟩
    rcases Nat.lt_or_ge y (wen T len 200 y) with h | h
    · exact h
    · have e : wen T len 200 y = y := by omega
      have := hw.2.2.2 (by omega)
      rw [e] at this
      exact absurd ⟨hl, k1⟩ this
  · split
    · next k1 k2 =>
      have hnb : y ≤ nbg T y ∧ nbg T y ≤ len := by unfold nbg; split <;> omega
      have hw := den_le (T := T) (len := len) 200 (nbg T y) hnb.2
      have en : den T len 200 (nbg T y) = nen T len y := rfl
      rw [en] at hw
      refine ⟨?_, hw.2.1⟩
      by_cases e : T y = 45
      · have : nbg T y = y + 1 := by unfold nbg; rw [if_pos e]
        omega
      · have eb : nbg T y = y := by unfold nbg; rw [if_neg e]
        rw [eb] at hw
        rcases Nat.lt_or_ge y (nen T len y) with h | h
        · exact h
        · have e : nen T len y = y := by omega
          have := hw.2.2.2 (by omega)
          rw [e] at this
          exact absurd ⟨hl, by omega⟩ this
    · omega
theorem tkC_r {T : Nat → Int} {len y : Nat} (hr : 32 ≤ T y ∧ T y ≤ 126) (h32 : ¬ T y = 32) : kR (tkC T len y) := by
  unfold tkC kR
  split
  · split
    · omega
    · unfold wk
      rcases wki_s (w := wrd T y (wen T len 200 y)) wds 259 with ⟨m1, -⟩ | ⟨i', m1, m2, -, -⟩
      · omega
      · have : wds.length = 16 := rfl
        omega
  · split
    · split <;> omega
    · split <;> omega
def TP (T : Nat → Int) (len : Nat) (M : q_M) (k : Nat) : Prop := M 11 3 = k ∧ M 11 4 = 0 ∧ eS T len k ≤ len ∧ k ≤ eS T len k ∧ ∀ i, i < k → skp T len 200 (eS T len i) < len ∧ eS T len i ≤ len ∧ M 12 i = tkC T len (skp T len 200 (eS T len i)) ∧ M 13 i = (skp T len 200 (eS T len i) : Int) ∧ (M 12 i = 258 → M 14 i = tkN T len (skp T len 200 (eS T len i)))
theorem skp_all {T : Nat → Int} {len : Nat} : ∀ (f x y : Nat), x ≤ y → y ≤ len → (∀ i, x ≤ i → i < y → T i = 32) → (y < len → ¬ T y = 32) → len < x + f → skp T len f x = y := by
  intro f
  induction f with
  | zero => intro x y h1 h2 h3 h4 h5; omega
  | succ f ih =>
    intro x y h1 h2 h3 h4 h5
    unfold skp
    by_cases e : x = y
    · subst e
      rw [if_neg (fun hh => h4 hh.1 hh.2)]
    · rw [if_pos ⟨by omega, h3 x (Nat.le_refl _) (by omega)⟩]
      exact ih (x + 1) y (by omega) h2 (fun i a1 a2 => h3 i (by omega) a2) h4 (by omega)
theorem AD_o {M : q_M} {k y : Nat} {c v : Int} {a : Nat} (h : ¬ (11 ≤ a ∧ a ≤ 14)) : AD M k c y v a = M a := by
  unfold AD
  rw [q_upf (by omega), q_upf (by omega), q_upf (by omega), q_upf (by omega)]
theorem sc_splitT {sc : List Int} {d : Nat} {T : Nat → Int} {len : Nat} (hd : 9 ≤ d) : ∀ (m x k : Nat) (M : q_M), x + m = len → TXc T len M → TP T len M k → (∀ i, eS T len k ≤ i → i < x → T i = 32) → ∃ F M' n, pr sc (pq sc d) 107 F 8 [some (.inr (.inr 9)), some (.inr (.inr 11)), some (.inl (eS T len k : Int)), some (.inl (x : Int))] [] M = some (none, GF, M') ∧ (∀ a, ¬ (11 ≤ a ∧ a ≤ 14) → M' a = M a) ∧ M' 11 3 = ((n + 1 : Nat) : Int) ∧ M' 11 4 = 0 ∧ M' 12 n = 256 ∧ M' 13 n = (len : Int) ∧ skp T len 200 (eS T len n) = len ∧ eS T len n ≤ len ∧ n ≤ len ∧ ∀ i, i < n → skp T len 200 (eS T len i) < len ∧ eS T len i ≤ len ∧ M' 12 i = tkC T len (skp T len 200 (eS T len i)) ∧ M' 13 i = (skp T len 200 (eS T len i) : Int) ∧ (M' 12 i = 258 → M' 14 i = tkN T len (skp T len 200 (eS T len i))) := by
  intro m
  induction m with
  | zero =>
    intro x k M hx h hP hb
    have hl := h.2.2.1
    have h2 := h.2.1
    have hk : k ≤ len := by have := hP.2.2.1; have := hP.2.2.2.1; omega
    have q1 := sc_add (sc := sc) (d := d) (a1 := 256) (a2 := (len : Int)) (a3 := 0) hP.1 (by omega) (by omega)
    have eA : q_up (q_up (q_up (q_up M 12 k 256) 13 k (len : Int)) 14 k 0) 11 3 ((k : Int) + 1) = AD M k 256 len 0 := rfl
    rw [eA] at q1
    refine ⟨0 + 1, AD M k 256 len 0, k, sg_X8_splitInto_8.trans ?_, fun a ha => AD_o ha, ?_, ?_, ?_, ?_, ?_, hP.2.2.1, hk, fun i hi => ?_⟩
    · rw [if_neg (by omega), h2, q1, q_c0_s]
    · unfold AD; rw [q_up_s]; omega
    · unfold AD; rw [q_up_sn (by decide), q_up_ne (by decide), q_up_ne (by decide), q_up_ne (by decide)]; exact hP.2.1
    · unfold AD; rw [q_up_ne (by decide), q_up_ne (by decide), q_up_ne (by decide), q_up_s]
    · unfold AD; rw [q_up_ne (by decide), q_up_ne (by decide), q_up_s]
    · exact skp_all 200 _ len hP.2.2.1 (Nat.le_refl _) (fun i a1 a2 => hb i a1 (by omega)) (fun hh => by omega) (by omega)
    · unfold AD
      rw [q_up_ne (by decide), q_up_ne (by decide), q_up_ne (by decide), q_up_sn (by omega), q_up_ne (by decide), q_up_ne (by decide), q_up_sn (by omega), q_up_ne (by decide), q_up_ne (by decide), q_up_sn (by omega), q_up_ne (by decide), q_up_ne (by decide)]
      exact hP.2.2.2.2 i hi
  | succ m ih =>
    intro x k M hx h hP hb
    have hl := h.2.2.1
    have h2 := h.2.1
    have hk : k ≤ len := by have := hP.2.2.1; have := hP.2.2.2.1; omega
    have ew : q_w ((x : Int) + 1) = ((x + 1 : Nat) : Int) := by rw [q_wid (by omega) (by omega)]; omega
    by_cases e1 : x < eS T len k
    · obtain ⟨F, M', n, q, hr⟩ := ih (x + 1) k M (by omega) h hP (fun i a1 a2 => by omega)
      refine ⟨F + 1, M', n, sg_X8_splitInto_8.trans ?_, hr⟩
      rw [if_pos (by omega), if_pos (by omega), ew, q]
    · have qc := sp_codeAt (sc := sc) (d := d) h (show x < len by omega) (by omega)
      by_cases e2 : T x = 32
      · obtain ⟨F, M', n, q, hr⟩ := ih (x + 1) k M (by omega) h hP (fun i a1 a2 => by
          by_cases e : i = x
          · subst e; exact e2
          · exact hb i a1 (by omega))
        refine ⟨F + 1, M', n, sg_X8_splitInto_8.trans ?_, hr⟩
        rw [if_pos (by omega), if_neg (by omega), qc, q_cI_s, if_pos e2, ew, q]
      · have es : skp T len 200 (eS T len k) = x := skp_all 200 _ x (by omega) (by omega) hb (fun _ => e2) (by omega)
        have eE : eS T len (k + 1) = tkE T len x := by show tkE T len (skp T len 200 (eS T len k)) = _; rw [es]
        obtain ⟨v, hv, q1⟩ := sc_token (sc := sc) (d := d) (k := k) h (show x < len by omega) hP.1 (by omega) (by omega)
        have hk2 := hP.2.2.2.1
        have hE := tkE_le (T := T) (len := len) (show x < len by omega) hl
        have hP' : TP T len (AD M k (tkC T len x) x v) (k + 1) := by
          refine ⟨?_, ?_, by omega, by omega, fun i hi => ?_⟩
          · unfold AD; rw [q_up_s]; omega
          · unfold AD; rw [q_up_sn (by decide), q_up_ne (by decide), q_up_ne (by decide), q_up_ne (by decide)]; exact hP.2.1
          · by_cases ei : i = k
            · subst ei
              unfold AD
              rw [q_up_ne (by decide), q_up_ne (by decide), q_up_ne (by decide), q_up_s, q_up_ne (by decide), q_up_ne (by decide), q_up_s, q_up_ne (by decide), q_up_s, es]
              exact ⟨by omega, hP.2.2.1, rfl, rfl, hv⟩
            · unfold AD
              rw [q_up_ne (by decide), q_up_ne (by decide), q_up_ne (by decide), q_up_sn ei, q_up_ne (by decide), q_up_ne (by decide), q_up_sn ei, q_up_ne (by decide), q_up_ne (by decide), q_up_sn ei, q_up_ne (by decide), q_up_ne (by decide)]
              exact hP.2.2.2.2 i (by omega)
        have h' : TXc T len (AD M k (tkC T len x) x v) := ⟨(AD_o (by omega)).trans h.1, by rw [AD_o (by omega)]; exact h.2.1, h.2.2⟩
        obtain ⟨F, M', n, q, hf, hr⟩ := ih (x + 1) (k + 1) _ (by omega) h' hP' (fun i a1 a2 => by omega)
        rw [eE] at q
        refine ⟨F + 1, M', n, sg_X8_splitInto_8.trans ?_, fun a ha => (hf a ha).trans (AD_o ha), hr⟩
        rw [if_pos (by omega), if_neg (by omega), qc, q_cI_s, if_neg e2, q1, q_cI_s, ew, q]
/-- the class splits the text -/
theorem sc_split {sc : List Int} {d : Nat} {M : q_M} {T : Nat → Int} {len : Nat} (h : TXc T len M) (hd : 10 ≤ d) : ∃ M' n C P N S, pq sc d 107 [.inr (.inr 9), .inr (.inr 11)] GF M = some (none, GF, M') ∧ (∀ a, ¬ (11 ≤ a ∧ a ≤ 14) → M' a = M a) ∧ TK M' n C P N 0 ∧ TE (T, len, N, eS T len) n C P S := by
  have q0 : pq sc (d - 1) 119 [.inr (.inr 11)] GF M = some (none, GF, q_up (q_up M 11 3 0) 11 4 0) := pq_e (by omega) (by decide) (Nat.le_of_ble_eq_true rfl) ⟨0 + 1, sg_X9_clear_0⟩
  have hM : ∀ a, ¬ a = 11 → q_up (q_up M 11 3 0) 11 4 0 a = M a := fun a ha => by rw [q_upf ha, q_upf ha]
  have h' : TXc T len (q_up (q_up M 11 3 0) 11 4 0) := ⟨(hM 10 (by decide)).trans h.1, by rw [hM 9 (by decide)]; exact h.2.1, h.2.2⟩
  obtain ⟨F, M', n, q, hf, r1, r2, r3, r4, r5, r6, r7, r8⟩ := sc_splitT (sc := sc) (d := d - 1) (by omega) len 0 0 _ (by omega) h' ⟨by rw [q_up_sn (by decide), q_up_s]; rfl, q_up_s, Nat.zero_le _, Nat.le_refl _, fun i hi => by omega⟩ (fun i a1 a2 => by omega)
  have hl := h.2.2.1
  refine ⟨M', n + 1, M' 12, M' 13, M' 14, fun i => i + 1 < n + 1 ∧ tkS T len (skp T len 200 (eS T len i)), pq_e (by omega) (by decide) (Nat.le_of_ble_eq_true rfl) ⟨F + 1, sg_X8_splitInto_0.trans ?_⟩, fun a ha => (hf a ha).trans (hM a (by omega)), ⟨r1, r2, by omega, by omega, rfl, rfl, rfl⟩, ?_⟩
  · rw [q0, q_c0_s]
    exact q
  · refine ⟨rfl, by omega, hl, by show n + 1 ≤ len + 1; omega, h.2.2.2, fun i hi => ?_, fun i hi => ?_, r5, r3, fun hh => by have := hh.1; omega, fun i hi => ?_, fun i hi => ?_⟩
    · by_cases e : i = n
      · subst e; rw [r4]; show (len : Int) = (skp T len 200 (eS T len i) : Int); rw [r5]
      · exact (r8 i (by omega)).2.2.2.1
    · obtain ⟨a1, a2, a3, a4, a5⟩ := r8 i (by omega)
      exact ⟨a1, a3, a5, rfl, fun hh => hh.2, fun hh => ⟨hi, hh⟩⟩
    · by_cases e : i = n
      · subst e; rw [r3]; unfold kR; omega
      · obtain ⟨a1, a2, a3, a4, a5⟩ := r8 i (by omega)
        rw [a3]
        have hsk := skp_le (T := T) (len := len) 200 (eS T len i) a2
        exact tkC_r (h.2.2.2 _ a1) (hsk.2.2 (by omega) a1)
    · by_cases e : i = n
      · subst e; exact r6
      · exact (r8 i (by omega)).2.1
