/-! numerals -/
def dv (T : Nat → Int) (b : Nat) : Nat → Int
  | 0 => 0
  | k + 1 => 10 * dv T b k + (T (b + k) - 48)
theorem den_le {T : Nat → Int} {len : Nat} : ∀ (f x : Nat), x ≤ len → x ≤ den T len f x ∧ den T len f x ≤ len ∧ (∀ i, x ≤ i → i < den T len f x → 48 ≤ T i ∧ T i ≤ 57) ∧ (len < x + f → ¬ (den T len f x < len ∧ 48 ≤ T (den T len f x) ∧ T (den T len f x) ≤ 57)) := by
  intro f
  induction f with
  | zero => intro x h; exact ⟨Nat.le_refl _, h, fun i h1 h2 => absurd h2 (by unfold den; omega), fun h1 => by omega⟩
  | succ f ih =>
    intro x h
    unfold den
    split
    · next hc =>
      have := ih (x + 1) (by omega)
      refine ⟨by omega, this.2.1, fun i h1 h2 => ?_, fun h1 => this.2.2.2 (by omega)⟩
      by_cases e : i = x
      · subst e; exact hc.2
      · exact this.2.2.1 i (by omega) h2
    · next hc => exact ⟨Nat.le_refl _, h, fun i h1 h2 => by omega, fun _ => hc⟩
theorem dv_b {T : Nat → Int} {b : Nat} : ∀ k : Nat, (∀ i, b ≤ i → i < b + k → 48 ≤ T i ∧ T i ≤ 57) → 0 ≤ dv T b k ∧ dv T b k < 10 ^ k := by
  intro k
  induction k with
  | zero => intro _; exact ⟨Int.le_refl _, by show (0 : Int) < 1; decide⟩
  | succ k ih =>
    intro h
    have h1 := ih (fun i a1 a2 => h i a1 (by omega))
    have h2 := h (b + k) (by omega) (by omega)
    show 0 ≤ 10 * dv T b k + (T (b + k) - 48) ∧ 10 * dv T b k + (T (b + k) - 48) < 10 ^ (k + 1)
    rw [Int.pow_succ]
    omega
theorem dva_dv {T : Nat → Int} {len b : Nat} : ∀ (f x : Nat) (v : Int), b ≤ x → v = dv T b (x - b) → dva T len f x v = dv T b (den T len f x - b) := by
  intro f
  induction f with
  | zero => intro x v hb hv; exact hv
  | succ f ih =>
    intro x v hb hv
    unfold dva den
    split
    · refine ih (x + 1) _ (by omega) ?_
      rw [show x + 1 - b = (x - b) + 1 by omega]
      show _ = 10 * dv T b (x - b) + (T (b + (x - b)) - 48)
      rw [hv, show b + (x - b) = x by omega]
    · exact hv
theorem p10 {k : Nat} (h : k ≤ 6) : (10 : Int) ^ k ≤ 1000000 := by
  rcases (show k = 0 ∨ k = 1 ∨ k = 2 ∨ k = 3 ∨ k = 4 ∨ k = 5 ∨ k = 6 by omega) with e | e | e | e | e | e | e <;> rw [e] <;> decide
theorem lk_dig {sc : List Int} {d : Nat} {T : Nat → Int} {len b : Nat} {b1 b2 : Int} (hd : 1 ≤ d) : ∀ (f x : Nat) (v : Int) (M : q_M), TX T len M → M 49 14 = x → b ≤ x → x ≤ len → len < x + f → (∀ i, b ≤ i → i < x → 48 ≤ T i ∧ T i ≤ 57) → (x ≤ b + 6 → v = dv T b (x - b)) → ∃ K M' v', (∀ F, pr sc (pq sc d) 163 (F + K) 38 [some (.inr (.inr 49)), some (.inl b1), some (.inl b2), some (.inl v), some (.inl ((x - b : Nat) : Int))] [] M = pr sc (pq sc d) 163 F 38 [some (.inr (.inr 49)), some (.inl b1), some (.inl b2), some (.inl v'), some (.inl ((den T len f x - b : Nat) : Int))] [] M') ∧ (∀ a, ¬ a = 49 → M' a = M a) ∧ (∀ j, ¬ j = 14 → M' 49 j = M 49 j) ∧ M' 49 14 = den T len f x ∧ (den T len f x ≤ b + 6 → v' = dv T b (den T len f x - b)) := by
  intro f
  induction f with
  | zero => intro x v M h hx h0 hl h1; omega
  | succ f ih =>
    intro x v M h hx h0 hl h1 hlt hv
    unfold den
    have hl2 := h.2.2.1
    by_cases e : x < len ∧ 48 ≤ T x ∧ T x ≤ 57
    · rw [if_pos e]
      have ea : atv T len x = T x := by unfold atv; rw [if_pos e.1]
      have hlt' : ∀ i, b ≤ i → i < x + 1 → 48 ≤ T i ∧ T i ≤ 57 := by
        intro i h1 h2
        by_cases ei : i = x
        · subst ei; exact e.2
        · exact hlt i h1 (by omega)
      have hx1 : (q_up M 49 14 ((x : Int) + 1)) 49 14 = ((x + 1 : Nat) : Int) := by rw [q_up_s]; omega
      by_cases h6 : x < b + 6
      · have hv0 := hv (by omega)
        have b0 := dv_b (T := T) (b := b) (x - b) (fun i a1 a2 => hlt i a1 (by omega))
        have b3 := p10 (k := x - b) (by omega)
        have hv1 : 10 * v + T x - 48 = dv T b (x + 1 - b) := by
          rw [show x + 1 - b = (x - b) + 1 by omega]
          show _ = 10 * dv T b (x - b) + (T (b + (x - b)) - 48)
          rw [hv0, show b + (x - b) = x by omega]; omega
        obtain ⟨K, M', v', q, f1, f2, f3, f4⟩ := ih (x + 1) (10 * v + T x - 48) (q_up M 49 14 ((x : Int) + 1)) (TX_us h (by omega)) hx1 (by omega) (by omega) (by omega) hlt' (fun _ => hv1)
        refine ⟨K + 1, M', v', fun F => ?_, fun a ha => (f1 a ha).trans (q_upf ha), fun j hj => (f2 j hj).trans (q_up_sn hj), f3, f4⟩
        rw [← q F]
        refine sg_X12_readNumeral_38.trans ?_
        rw [hx, sp_at h hd, q_cI_s, sp_isDigit hd, q_cI_s, ea, if_pos e.2, if_neg (by decide), if_pos (by omega), hx, sp_at h hd, q_cI_s, ea, q_wid (x := 10 * v) (by omega) (by omega), q_wid (x := 10 * v + T x) (by omega) (by omega), q_wid (x := 10 * v + T x - 48) (by omega) (by omega), hx, q_wid (x := (x : Int) + 1) (by omega) (by omega), q_wid (x := ((x - b : Nat) : Int) + 1) (by omega) (by omega), show ((x - b : Nat) : Int) + 1 = ((x + 1 - b : Nat) : Int) by omega]
        rfl
      · obtain ⟨K, M', v', q, f1, f2, f3, f4⟩ := ih (x + 1) v (q_up M 49 14 ((x : Int) + 1)) (TX_us h (by omega)) hx1 (by omega) (by omega) (by omega) hlt' (fun h => by omega)
        refine ⟨K + 1, M', v', fun F => ?_, fun a ha => (f1 a ha).trans (q_upf ha), fun j hj => (f2 j hj).trans (q_up_sn hj), f3, f4⟩
        rw [← q F]
        refine sg_X12_readNumeral_38.trans ?_
        rw [hx, sp_at h hd, q_cI_s, sp_isDigit hd, q_cI_s, ea, if_pos e.2, if_neg (by decide), if_neg (by omega), hx, q_wid (x := (x : Int) + 1) (by omega) (by omega), q_wid (x := ((x - b : Nat) : Int) + 1) (by omega) (by omega), show ((x - b : Nat) : Int) + 1 = ((x + 1 - b : Nat) : Int) by omega]
        rfl
    · rw [if_neg e]
      exact ⟨0, M, v, fun F => rfl, fun _ _ => rfl, fun _ _ => rfl, hx, hv⟩
theorem mx_stop0 {sc : List Int} {d : Nat} {M : q_M} {x : Int} (h : M 49 12 = 0) (hd : 1 ≤ d) : pq sc d 161 [.inr (.inr 49), .inl x] GF M = some (none, GF, q_up (q_up M 49 13 x) 49 12 1) := by
  refine pq_e (by omega) (by decide) (Nat.le_of_ble_eq_true rfl) ⟨0 + 1, sg_X12_stop_0.trans ?_⟩
  rw [if_pos h]
theorem mx_num {sc : List Int} {d : Nat} {M : q_M} {T : Nat → Int} {len y p : Nat} (h : TX T len M) (hy : M 49 14 = y) (hl : y < len) (hc : T y = 45 ∨ (48 ≤ T y ∧ T y ≤ 57)) (h12 : M 49 12 = 0) (h15 : M 49 15 = p) (hp : p < 132) (hd : 2 ≤ d) : ∃ M', pq sc d 163 [.inr (.inr 49), .inl (y : Int)] GF M = some (some (.inl 1), GF, M') ∧ (∀ a, ¬ a = 49 → ¬ a = 60 → M' a = M a) ∧ (∀ i, ¬ i = p → M' 60 i = M 60 i) ∧ (∀ j, ¬ (12 ≤ j ∧ j ≤ 14) → M' 49 j = M 49 j) ∧ M' 49 14 = nen T len y ∧ nen T len y ≤ len ∧ (((nbg T y < nen T len y ∧ nen T len y ≤ nbg T y + 6) ∧ M' 49 12 = 0 ∧ M' 60 p = tkN T len y) ∨ (¬ (nbg T y < nen T len y ∧ nen T len y ≤ nbg T y + 6) ∧ M' 49 12 = 1 ∧ M' 49 13 = y)) := by
  have hl2 := h.2.2.1
  have ea : atv T len y = T y := by unfold atv; rw [if_pos hl]
  -- to the loop
  have s0 : ∃ (M0 : q_M) (b2 : Int), (b2 = if T y = 45 then 1 else 0) ∧ (∀ F, pr sc (pq sc (d - 1)) 163 (F + 1) 0 [some (.inr (.inr 49)), some (.inl (y : Int)), none, none, none] [] M = pr sc (pq sc (d - 1)) 163 F 38 [some (.inr (.inr 49)), some (.inl (y : Int)), some (.inl b2), some (.inl 0), some (.inl 0)] [] M0) ∧ (∀ a, ¬ a = 49 → M0 a = M a) ∧ (∀ j, ¬ j = 14 → M0 49 j = M 49 j) ∧ M0 49 14 = nbg T y := by
    by_cases e : T y = 45
    · refine ⟨q_up M 49 14 ((y : Int) + 1), 1, by rw [if_pos e], fun F => sg_X12_readNumeral_0.trans ?_, fun a ha => q_upf ha, fun j hj => q_up_sn hj, ?_⟩
      · rw [hy, sp_at h (by omega), q_cI_s, ea, if_pos e, if_neg (by decide), hy, q_wid (by omega) (by omega)]
      · rw [q_up_s]; unfold nbg; rw [if_pos e]; omega
    · refine ⟨M, 0, by rw [if_neg e], fun F => sg_X12_readNumeral_0.trans ?_, fun a ha => rfl, fun j hj => rfl, ?_⟩
      · rw [hy, sp_at h (by omega), q_cI_s, ea, if_neg e, if_pos rfl]
      · unfold nbg; rw [if_neg e]; exact hy
  obtain ⟨M0, b2, hb2, q0, g1, g2, g3⟩ := s0
  have hT0 : TX T len M0 := ⟨TQ_e (g1 57 (by decide)) h.1, (g2 9 (by decide)).trans h.2.1, h.2.2⟩
  have hnb : y ≤ nbg T y ∧ nbg T y ≤ len := by unfold nbg; split <;> omega
  obtain ⟨K, M1, v', q1, f1, f2, f3, f4⟩ := lk_dig (sc := sc) (d := d - 1) (b := nbg T y) (b1 := (y : Int)) (b2 := b2) (by omega) 200 (nbg T y) 0 M0 hT0 g3 (Nat.le_refl _) hnb.2 (by omega) (fun i h1 h2 => by omega) (fun _ => by rw [Nat.sub_self]; rfl)
  have en : den T len 200 (nbg T y) = nen T len y := rfl
  have hdn := den_le (T := T) (len := len) 200 (nbg T y) hnb.2
  rw [en] at q1 f3 f4 hdn
  rw [Nat.sub_self, Int.natCast_zero] at q1
  have hT1 : TX T len M1 := ⟨TQ_e (f1 57 (by decide)) hT0.1, (f2 9 (by decide)).trans hT0.2.1, hT0.2.2⟩
  have hend : ¬ (48 ≤ atv T len (nen T len y) ∧ atv T len (nen T len y) ≤ 57) := by
    unfold atv
    split
    · next hh => exact fun hh2 => hdn.2.2.2 (by omega) ⟨hh, hh2⟩
    · omega
  have qat := sp_at (sc := sc) (d := d - 1) (x := nen T len y) hT1 (by omega)
  have qdg := sp_isDigit (sc := sc) (d := d - 1) (M := M1) (a := atv T len (nen T len y)) (by omega)
  rw [if_neg hend] at qdg
  have e112 : M1 49 12 = 0 := by rw [f2 12 (by decide), g2 12 (by decide)]; exact h12
  have e115 : M1 49 15 = p := by rw [f2 15 (by decide), g2 15 (by decide)]; exact h15
  have qst := mx_stop0 (sc := sc) (d := d - 1) (x := (y : Int)) e112 (by omega)
  have hs : ∀ F, pr sc (pq sc (d - 1)) 163 (F + 1 + K + 1) 0 [some (.inr (.inr 49)), some (.inl (y : Int)), none, none, none] [] M = pr sc (pq sc (d - 1)) 163 (F + 1) 38 [some (.inr (.inr 49)), some (.inl (y : Int)), some (.inl b2), some (.inl v'), some (.inl ((nen T len y - nbg T y : Nat) : Int))] [] M1 := fun F => (q0 _).trans (q1 (F + 1))
  have hz : ∀ (N : q_M) (v : Int), N 49 15 = p → (0 ≤ N 49 15 ∧ N 49 15 < ((132 : Nat) : Int)) := fun N v hh => by omega
  by_cases hg : nbg T y < nen T len y ∧ nen T len y ≤ nbg T y + 6
  · have hv := f4 hg.2
    have hvb := dv_b (T := T) (b := nbg T y) (nen T len y - nbg T y) (fun i a1 a2 => hdn.2.2.1 i a1 (by omega))
    have hv6 := p10 (k := nen T len y - nbg T y) (by omega)
    have hN : tkN T len y = if b2 = 0 then v' else -v' := by
      unfold tkN
      have hdd := dva_dv (T := T) (len := len) (b := nbg T y) 200 (nbg T y) 0 (Nat.le_refl _) (by rw [Nat.sub_self]; rfl)
      rw [en, ← hv] at hdd
      by_cases e : T y = 45
      · have eb : nbg T y = y + 1 := by unfold nbg; rw [if_pos e]
        rw [eb] at hdd
        rw [if_pos e, hdd, hb2, if_pos e, if_neg (by decide)]
      · have eb : nbg T y = y := by unfold nbg; rw [if_neg e]
        rw [eb] at hdd
        rw [if_neg e, hdd, hb2, if_neg e, if_pos rfl]
    refine ⟨q_up M1 60 p (tkN T len y), pq_e (by omega) (by decide) (Nat.le_of_ble_eq_true rfl) ⟨0 + 1 + K + 1, (hs 0).trans (sg_X12_readNumeral_38.trans ?_)⟩, fun a h1 h2 => ?_, fun i hi => ?_, fun j hj => ?_, ?_, hdn.2.1, Or.inl ⟨hg, ?_, q_up_s⟩⟩
    · rw [f3, qat, q_cI_s, qdg, q_cI_s, if_pos rfl, if_neg (by omega), if_neg (by omega), hN]
      by_cases e : b2 = 0
      · rw [if_pos e, if_pos e, if_pos (hz M1 0 e115), e115, Int.toNat_natCast]
      · rw [if_neg e, if_neg e, q_wid (by omega) (by omega), if_pos (hz M1 0 e115), e115, Int.toNat_natCast]
    · rw [q_upf h2, f1 a h1, g1 a h1]
    · rw [q_up_sn hi, f1 60 (by decide), g1 60 (by decide)]
    · rw [q_up_ne (by decide), f2 j (by omega), g2 j (by omega)]
    · rw [q_up_ne (by decide), f3]
    · rw [q_up_ne (by decide)]; exact e112
  · refine ⟨q_up (q_up (q_up M1 49 13 (y : Int)) 49 12 1) 60 p (if b2 = 0 then v' else q_w (-v')), pq_e (by omega) (by decide) (Nat.le_of_ble_eq_true rfl) ⟨0 + 1 + K + 1, (hs 0).trans (sg_X12_readNumeral_38.trans ?_)⟩, fun a h1 h2 => ?_, fun i hi => ?_, fun j hj => ?_, ?_, hdn.2.1, Or.inr ⟨hg, ?_, ?_⟩⟩
    · have hz1 : (q_up (q_up M1 49 13 (y : Int)) 49 12 1) 49 15 = p := by rw [q_up_sn (by decide), q_up_sn (by decide)]; exact e115
      have hz2 : ∀ (X : Option (Option q_V × q_G × q_M)), X = some (none, GF, q_up (q_up M1 49 13 (y : Int)) 49 12 1) → q_c0 X GF (fun M5 => if b2 = 0 then (if 0 ≤ M5 49 15 ∧ M5 49 15 < ((132 : Nat) : Int) then some (some (Sum.inl (1 : Int)), GF, (q_up M5 60 ((M5 49 15 : Int).toNat) v')) else none) else (if 0 ≤ M5 49 15 ∧ M5 49 15 < ((132 : Nat) : Int) then some (some (Sum.inl (1 : Int)), GF, (q_up M5 60 ((M5 49 15 : Int).toNat) (q_w (-v')))) else none)) = some (some (Sum.inl (1 : Int) : q_V), GF, q_up (q_up (q_up M1 49 13 (y : Int)) 49 12 1) 60 p (if b2 = 0 then v' else q_w (-v'))) := by
        intro X hX
        rw [hX, q_c0_s, hz1, Int.toNat_natCast]
        by_cases e : b2 = 0
        · rw [if_pos e, if_pos e, if_pos (by omega)]
        · rw [if_neg e, if_neg e, if_pos (by omega)]
      rw [f3, qat, q_cI_s, qdg, q_cI_s, if_pos rfl]
      by_cases hz0 : ((nen T len y - nbg T y : Nat) : Int) = 0
      · rw [if_pos hz0]
        exact hz2 _ qst
      · rw [if_neg hz0, if_pos (by omega)]
        exact hz2 _ qst
    · rw [q_upf h2, q_upf h1, q_upf h1, f1 a h1, g1 a h1]
    · rw [q_up_sn hi, q_upf (by decide), q_upf (by decide), f1 60 (by decide), g1 60 (by decide)]
    · rw [q_up_ne (by decide), q_up_sn (by omega), q_up_sn (by omega), f2 j (by omega), g2 j (by omega)]
    · rw [q_up_ne (by decide), q_up_sn (by decide), q_up_sn (by decide), f3]
    · rw [q_up_ne (by decide), q_up_s]
    · rw [q_up_ne (by decide), q_up_sn (by decide), q_up_s]
