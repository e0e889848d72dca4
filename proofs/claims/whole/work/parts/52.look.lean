/-! the model's look -/
def atv (T : Nat → Int) (len x : Nat) : Int := if x < len then T x else 0
def TX (T : Nat → Int) (len : Nat) (M : q_M) : Prop := TQ (M 57) T ∧ M 49 9 = len ∧ len ≤ 130 ∧ ∀ i, i < len → 32 ≤ T i ∧ T i ≤ 126
theorem TX_us {T : Nat → Int} {len : Nat} {M : q_M} {j : Nat} {v : Int} (h : TX T len M) (hj : ¬ j = 9) : TX T len (q_up M 49 j v) := ⟨TQ_e (q_upf (by decide)) h.1, (q_up_sn (by omega)).trans h.2.1, h.2.2⟩
theorem TX_up {T : Nat → Int} {len : Nat} {M : q_M} {k j : Nat} {v : Int} (h : TX T len M) (hj : ¬ k = 49 ∧ ¬ k = 57) : TX T len (q_up M k j v) := ⟨TQ_e (q_upf (by omega)) h.1, (q_up_ne (by omega)).trans h.2.1, h.2.2⟩
theorem sp_at {sc : List Int} {d : Nat} {M : q_M} {T : Nat → Int} {len x : Nat} (h : TX T len M) (hd : 1 ≤ d) : pq sc d 158 [.inr (.inr 49), .inl (x : Int)] GF M = some (some (.inl (atv T len x)), GF, M) := by
  obtain ⟨h1, h2, h3, h4⟩ := h
  refine pq_e (by omega) (by decide) (Nat.le_of_ble_eq_true rfl) ⟨0 + 1, sg_X12_at_0.trans ?_⟩
  unfold atv
  by_cases e : x < len
  · have := h4 x e
    rw [h2, Int.toNat_natCast, h1 x (by omega), if_pos (by omega), if_pos (by omega), if_pos (by omega), if_pos e]
  · rw [h2, if_neg (by omega), if_pos (by decide), if_neg e]
theorem sp_isSmall {sc : List Int} {d : Nat} {M : q_M} {a : Int} (hd : 1 ≤ d) : pq sc d 159 [.inl a] GF M = some (some (.inl (if 97 ≤ a ∧ a ≤ 122 then 1 else 0)), GF, M) := by
  refine pq_e (by omega) (by decide) (Nat.le_of_ble_eq_true rfl) ⟨0 + 1, sg_X12_isSmall_0.trans ?_⟩
  by_cases h1 : a < 97
  · rw [if_pos h1, if_neg (by omega)]
  · by_cases h2 : 122 < a
    · rw [if_neg h1, if_pos h2, if_neg (by omega)]
    · rw [if_neg h1, if_neg h2, if_pos (by omega)]
theorem sp_isDigit {sc : List Int} {d : Nat} {M : q_M} {a : Int} (hd : 1 ≤ d) : pq sc d 160 [.inl a] GF M = some (some (.inl (if 48 ≤ a ∧ a ≤ 57 then 1 else 0)), GF, M) := by
  refine pq_e (by omega) (by decide) (Nat.le_of_ble_eq_true rfl) ⟨0 + 1, sg_X12_isDigit_0.trans ?_⟩
  by_cases h1 : a < 48
  · rw [if_pos h1, if_neg (by omega)]
  · by_cases h2 : 57 < a
    · rw [if_neg h1, if_pos h2, if_neg (by omega)]
    · rw [if_neg h1, if_neg h2, if_pos (by omega)]
/-! skipping -/
theorem skp_le {T : Nat → Int} {len : Nat} : ∀ (f x : Nat), x ≤ len → x ≤ skp T len f x ∧ skp T len f x ≤ len ∧ (len < x + f → skp T len f x < len → ¬ T (skp T len f x) = 32) := by
  intro f
  induction f with
  | zero => intro x h; exact ⟨Nat.le_refl _, h, fun h1 => by omega⟩
  | succ f ih =>
    intro x h
    unfold skp
    split
    · next hc =>
      have := ih (x + 1) (by omega)
      exact ⟨by omega, this.2.1, fun h1 h2 => this.2.2 (by omega) h2⟩
    · next hc => exact ⟨Nat.le_refl _, h, fun _ h2 h3 => hc ⟨h2, h3⟩⟩
theorem lk_skip {sc : List Int} {d : Nat} {T : Nat → Int} {len : Nat} (hd : 1 ≤ d) : ∀ (f x : Nat) (M : q_M), TX T len M → M 49 14 = x → x ≤ len → len < x + f → ∃ K M', (∀ F, pr sc (pq sc d) 164 (F + K) 43 [some (.inr (.inr 49)), none, none] [] M = pr sc (pq sc d) 164 F 43 [some (.inr (.inr 49)), none, none] [] M') ∧ (∀ a, ¬ a = 49 → M' a = M a) ∧ (∀ j, ¬ j = 14 → M' 49 j = M 49 j) ∧ M' 49 14 = skp T len f x := by
  intro f
  induction f with
  | zero => intro x M h hx hl h1; omega
  | succ f ih =>
    intro x M h hx hl h1
    unfold skp
    by_cases e : x < len ∧ T x = 32
    · rw [if_pos e]
      have hl2 := h.2.2.1
      obtain ⟨K, M', q, f1, f2, f3⟩ := ih (x + 1) (q_up M 49 14 ((x : Int) + 1)) (TX_us h (by omega)) (by rw [q_up_s]; omega) (by omega) (by omega)
      refine ⟨K + 1, M', fun F => ?_, fun a ha => (f1 a ha).trans (q_upf ha), fun j hj => (f2 j hj).trans (q_up_sn hj), f3⟩
      rw [← q F]
      refine sg_X12_look_43.trans ?_
      rw [hx, sp_at h hd, q_cI_s, if_pos (by unfold atv; rw [if_pos e.1]; exact e.2), hx, q_wid (by omega) (by omega)]
      rfl
    · rw [if_neg e]
      exact ⟨0, M, fun F => rfl, fun _ _ => rfl, fun _ _ => rfl, hx⟩
/-! words -/
def hR : List Int → Int
  | [] => 0
  | c :: l => hR l * 32 + (c - 96)
def lts (l : List Int) : Prop := ∀ c ∈ l, 97 ≤ c ∧ c ≤ 122
theorem hR_pos : ∀ {l : List Int}, lts l → 0 ≤ hR l
  | [], _ => Int.le_refl _
  | c :: l, h => by
    have h1 := hR_pos (l := l) (fun x hx => h x (List.mem_cons_of_mem _ hx))
    have h2 := h c List.mem_cons_self
    show 0 ≤ hR l * 32 + (c - 96)
    omega
theorem hR_lt : ∀ {l : List Int}, lts l → hR l < 32 ^ l.length
  | [], _ => by decide
  | c :: l, h => by
    have h1 := hR_lt (l := l) (fun x hx => h x (List.mem_cons_of_mem _ hx))
    have h2 := h c List.mem_cons_self
    show hR l * 32 + (c - 96) < 32 ^ (l.length + 1)
    rw [Int.pow_succ]
    omega
theorem hR_inj : ∀ {l l' : List Int}, lts l → lts l' → hR l = hR l' → l = l'
  | [], [], _, _, _ => rfl
  | [], c :: l', _, h', e => by
    have h1 := hR_pos (l := l') (fun x hx => h' x (List.mem_cons_of_mem _ hx))
    have h2 := h' c List.mem_cons_self
    have e' : (0 : Int) = hR l' * 32 + (c - 96) := e
    omega
  | c :: l, [], h, _, e => by
    have h1 := hR_pos (l := l) (fun x hx => h x (List.mem_cons_of_mem _ hx))
    have h2 := h c List.mem_cons_self
    have e' : hR l * 32 + (c - 96) = (0 : Int) := e
    omega
  | c :: l, c' :: l', h, h', e => by
    have h2 := h c List.mem_cons_self
    have h3 := h' c' List.mem_cons_self
    have e' : hR l * 32 + (c - 96) = hR l' * 32 + (c' - 96) := e
    have ec : c = c' := by omega
    have el := hR_inj (l := l) (l' := l') (fun x hx => h x (List.mem_cons_of_mem _ hx)) (fun x hx => h' x (List.mem_cons_of_mem _ hx)) (by omega)
    rw [ec, el]
theorem wen_le {T : Nat → Int} {len : Nat} : ∀ (f x : Nat), x ≤ len → x ≤ wen T len f x ∧ wen T len f x ≤ len ∧ (∀ i, x ≤ i → i < wen T len f x → 97 ≤ T i ∧ T i ≤ 122) ∧ (len < x + f → ¬ (wen T len f x < len ∧ 97 ≤ T (wen T len f x) ∧ T (wen T len f x) ≤ 122)) := by
  intro f
  induction f with
  | zero => intro x h; exact ⟨Nat.le_refl _, h, fun i h1 h2 => absurd h2 (by unfold wen; omega), fun h1 => by omega⟩
  | succ f ih =>
    intro x h
    unfold wen
    split
    · next hc =>
      have := ih (x + 1) (by omega)
      refine ⟨by omega, this.2.1, fun i h1 h2 => ?_, fun h1 => this.2.2.2 (by omega)⟩
      by_cases e : i = x
      · subst e; exact hc.2
      · exact this.2.2.1 i (by omega) h2
    · next hc => exact ⟨Nat.le_refl _, h, fun i h1 h2 => by omega, fun _ => hc⟩
theorem wrd_s {T : Nat → Int} {a e : Nat} (h : a ≤ e) : wrd T a (e + 1) = wrd T a e ++ [T e] := by
  unfold wrd
  rw [show e + 1 - a = (e - a) + 1 by omega, List.range_succ, List.map_append, List.map_singleton, show a + (e - a) = e by omega]
theorem wrd_len {T : Nat → Int} {a e : Nat} : (wrd T a e).length = e - a := by simp [wrd]
theorem wrd_lts {T : Nat → Int} {a e : Nat} (h : ∀ i, a ≤ i → i < e → 97 ≤ T i ∧ T i ≤ 122) : lts (wrd T a e) := by
  intro c hc
  simp only [wrd, List.mem_map, List.mem_range] at hc
  obtain ⟨i, hi, rfl⟩ := hc
  exact h _ (by omega) (by omega)
/-- the loop over letters -/
theorem lk_word {sc : List Int} {d : Nat} {T : Nat → Int} {len y : Nat} (hd : 1 ≤ d) : ∀ (f x : Nat) (w : Int) (M : q_M), TX T len M → M 49 14 = x → y ≤ x → x ≤ len → len < x + f → (∀ i, y ≤ i → i < x → 97 ≤ T i ∧ T i ≤ 122) → (x ≤ y + 6 → w = hR (wrd T y x).reverse) → ∃ K M' w', (∀ F, pr sc (pq sc d) 162 (F + K) 4 [some (.inr (.inr 49)), some (.inl ((x - y : Nat) : Int)), some (.inl w), none] [] M = pr sc (pq sc d) 162 F 4 [some (.inr (.inr 49)), some (.inl ((wen T len f x - y : Nat) : Int)), some (.inl w'), none] [] M') ∧ (∀ a, ¬ a = 49 → M' a = M a) ∧ (∀ j, ¬ j = 14 → M' 49 j = M 49 j) ∧ M' 49 14 = wen T len f x ∧ (wen T len f x ≤ y + 6 → w' = hR (wrd T y (wen T len f x)).reverse) := by
  intro f
  induction f with
  | zero => intro x w M h hx h0 hl h1; omega
  | succ f ih =>
    intro x w M h hx h0 hl h1 hlt hw
    unfold wen
    have hl2 := h.2.2.1
    by_cases e : x < len ∧ 97 ≤ T x ∧ T x ≤ 122
    · rw [if_pos e]
      have ea : atv T len x = T x := by unfold atv; rw [if_pos e.1]
      have hlt' : ∀ i, y ≤ i → i < x + 1 → 97 ≤ T i ∧ T i ≤ 122 := by
        intro i h1 h2
        by_cases ei : i = x
        · subst ei; exact e.2
        · exact hlt i h1 (by omega)
      have hx1 : (q_up M 49 14 ((x : Int) + 1)) 49 14 = ((x + 1 : Nat) : Int) := by rw [q_up_s]; omega
      by_cases h6 : x < y + 6
      · have hw0 := hw (by omega)
        have hls := wrd_lts hlt
        have b0 := hR_pos (l := (wrd T y x).reverse) (fun c hc => hls c (List.mem_reverse.mp hc))
        have b1 := hR_lt (l := (wrd T y x).reverse) (fun c hc => hls c (List.mem_reverse.mp hc))
        rw [List.length_reverse, wrd_len] at b1
        have b2 : (32 : Int) ^ (x - y) ≤ 32 ^ 5 := by
          rcases (show x - y = 0 ∨ x - y = 1 ∨ x - y = 2 ∨ x - y = 3 ∨ x - y = 4 ∨ x - y = 5 by omega) with e | e | e | e | e | e <;> rw [e] <;> decide
        have b3 : (32 : Int) ^ 5 = 33554432 := by decide
        have hw1 : w * 32 + T x - 96 = hR (wrd T y (x + 1)).reverse := by
          rw [wrd_s h0, List.reverse_append]
          show _ = hR ((wrd T y x).reverse) * 32 + (T x - 96)
          rw [hw0]; omega
        obtain ⟨K, M', w', q, f1, f2, f3, f4⟩ := ih (x + 1) (w * 32 + T x - 96) (q_up M 49 14 ((x : Int) + 1)) (TX_us h (by omega)) hx1 (by omega) (by omega) (by omega) hlt' (fun _ => hw1)
        refine ⟨K + 1, M', w', fun F => ?_, fun a ha => (f1 a ha).trans (q_upf ha), fun j hj => (f2 j hj).trans (q_up_sn hj), f3, f4⟩
        rw [← q F]
        refine sg_X12_readWord_4.trans ?_
        rw [hx, sp_at h hd, q_cI_s, sp_isSmall hd, q_cI_s, ea, if_pos e.2, if_neg (by decide), if_pos (by omega), hx, sp_at h hd, q_cI_s, ea, q_wid (x := w * 32) (by omega) (by omega), q_wid (x := w * 32 + T x) (by omega) (by omega), q_wid (x := w * 32 + T x - 96) (by omega) (by omega), hx, q_wid (x := (x : Int) + 1) (by omega) (by omega), q_wid (x := ((x - y : Nat) : Int) + 1) (by omega) (by omega), show ((x - y : Nat) : Int) + 1 = ((x + 1 - y : Nat) : Int) by omega]
        rfl
      · obtain ⟨K, M', w', q, f1, f2, f3, f4⟩ := ih (x + 1) 0 (q_up M 49 14 ((x : Int) + 1)) (TX_us h (by omega)) hx1 (by omega) (by omega) (by omega) hlt' (fun h => by omega)
        refine ⟨K + 1, M', w', fun F => ?_, fun a ha => (f1 a ha).trans (q_upf ha), fun j hj => (f2 j hj).trans (q_up_sn hj), f3, f4⟩
        rw [← q F]
        refine sg_X12_readWord_4.trans ?_
        rw [hx, sp_at h hd, q_cI_s, sp_isSmall hd, q_cI_s, ea, if_pos e.2, if_neg (by decide), if_neg (by omega), hx, q_wid (x := (x : Int) + 1) (by omega) (by omega), q_wid (x := ((x - y : Nat) : Int) + 1) (by omega) (by omega), show ((x - y : Nat) : Int) + 1 = ((x + 1 - y : Nat) : Int) by omega]
        rfl
    · rw [if_neg e]
      exact ⟨0, M, w, fun F => rfl, fun _ _ => rfl, fun _ _ => rfl, hx, hw⟩
