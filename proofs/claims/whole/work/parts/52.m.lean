/-! the number of a word -/
def wkm (b : Int) : Nat → Nat → Int
  | 0, _ => 240
  | m + 1, k => if wv.getD k 0 = b then 200 + (k : Int) else wkm b m (k + 1)
theorem wv_h : ∀ k : Nat, k < 16 → wv.getD k 0 = hR ((wds.getD k []).reverse) := by decide
theorem wds_l : ∀ k : Nat, k < 16 → (∀ c ∈ wds.getD k [], 97 ≤ c ∧ c ≤ 122) ∧ (wds.getD k []).length ≤ 6 ∧ 2 ≤ (wds.getD k []).length := by decide
theorem wki_s {w : List Int} : ∀ (l : List (List Int)) (k : Int), (wki w l k = 257 ∧ ∀ i, i < l.length → ¬ w = l.getD i []) ∨ (∃ i, i < l.length ∧ wki w l k = k + i ∧ w = l.getD i [] ∧ ∀ j, j < i → ¬ w = l.getD j [])
  | [], k => Or.inl ⟨rfl, fun i hi => by simp at hi⟩
  | x :: l, k => by
    by_cases h : w = x
    · refine Or.inr ⟨0, by simp, ?_, by simpa using h, fun j hj => by omega⟩
      show (if w = x then k else _) = _
      rw [if_pos h]; simp
    · have e : wki w (x :: l) k = wki w l (k + 1) := by
        show (if w = x then k else wki w l (k + 1)) = _
        rw [if_neg h]
      rw [e]
      rcases wki_s (w := w) l (k + 1) with ⟨h1, h2⟩ | ⟨i, h1, h2, h3, h4⟩
      · refine Or.inl ⟨h1, fun i hi => ?_⟩
        rcases i with _ | i
        · simpa using h
        · simpa using h2 i (by simpa using hi)
      · refine Or.inr ⟨i + 1, by simpa using h1, by rw [h2]; omega, by simpa using h3, fun j hj => ?_⟩
        rcases j with _ | j
        · simpa using h
        · simpa using h4 j (by omega)
theorem lk_find {sc : List Int} {orc : q_O} {M : q_M} {b1 b2 : Int} (hW : WD (M 50)) : ∀ (m k : Nat), k + m = 16 → ∃ F, pr sc orc 162 F 101 [some (.inr (.inr 49)), some (.inl b1), some (.inl b2), some (.inl (k : Int))] [] M = some (some (.inl (if b1 < 7 then wkm b2 m k else 240)), GF, M) := by
  intro m
  induction m with
  | zero =>
    intro k hk
    refine ⟨0 + 1, sg_X12_readWord_101.trans ?_⟩
    rw [if_neg (by omega)]
    unfold wkm
    split <;> rfl
  | succ m ih =>
    intro k hk
    obtain ⟨F, q⟩ := ih (k + 1) (by omega)
    rw [n1] at q
    refine ⟨F + 1, sg_X12_readWord_101.trans ?_⟩
    have ew : q_w ((k : Int) + 1) = (k : Int) + 1 := q_wid (by omega) (by omega)
    rw [if_pos (by omega), ew]
    by_cases h7 : b1 < 7
    · rw [if_pos h7] at q ⊢
      rw [if_pos h7, if_pos (by omega), Int.toNat_natCast, hW k (by omega)]
      unfold wkm
      by_cases e : wv.getD k 0 = b2
      · rw [if_pos e, if_pos e, q_wid (by omega) (by omega)]
      · rw [if_neg e, if_neg e, q]
    · rw [if_neg h7] at q ⊢
      rw [if_neg h7, q]
theorem wkm_s {b : Int} : ∀ (m k : Nat), (wkm b m k = 240 ∧ ∀ i, k ≤ i → i < k + m → ¬ wv.getD i 0 = b) ∨ (∃ i, k ≤ i ∧ i < k + m ∧ wkm b m k = 200 + i ∧ wv.getD i 0 = b ∧ ∀ j, k ≤ j → j < i → ¬ wv.getD j 0 = b) := by
  intro m
  induction m with
  | zero => intro k; exact Or.inl ⟨rfl, fun i h1 h2 => by omega⟩
  | succ m ih =>
    intro k
    unfold wkm
    by_cases e : wv.getD k 0 = b
    · rw [if_pos e]
      exact Or.inr ⟨k, Nat.le_refl _, by omega, rfl, e, fun j h1 h2 => by omega⟩
    · rw [if_neg e]
      rcases ih (k + 1) with ⟨h1, h2⟩ | ⟨i, h1, h2, h3, h4, h5⟩
      · refine Or.inl ⟨h1, fun i hi hi2 => ?_⟩
        by_cases ei : i = k
        · subst ei; exact e
        · exact h2 i (by omega) (by omega)
      · refine Or.inr ⟨i, by omega, by omega, h3, h4, fun j hj hj2 => ?_⟩
        by_cases ei : j = k
        · subst ei; exact e
        · exact h5 j (by omega) hj2
/-- what is found is the word -/
theorem wk_eq {T : Nat → Int} {y e : Nat} (h2 : y + 2 ≤ e) (hl : ∀ i, y ≤ i → i < e → 97 ≤ T i ∧ T i ≤ 122) {b : Int} (hb : e ≤ y + 6 → b = hR (wrd T y e).reverse) : (if ((e - y : Nat) : Int) < 7 then wkm b 16 0 else 240) = kp (wk T y e) := by
  have hls := wrd_lts hl
  have hlen : wds.length = 16 := rfl
  unfold wk
  by_cases h7 : e ≤ y + 6
  · rw [if_pos (by omega)]
    have hbb := hb h7
    have key : ∀ i, i < 16 → (wv.getD i 0 = b ↔ wrd T y e = wds.getD i []) := by
      intro i hi
      have a1 := wv_h i hi
      have a2 := (wds_l i hi).1
      rw [a1, hbb]
      constructor
      · intro h
        have := hR_inj (fun c hc => a2 c (List.mem_reverse.mp hc)) (fun c hc => hls c (List.mem_reverse.mp hc)) h
        exact (List.reverse_inj.mp this).symm
      · intro h; rw [h]
    rcases wkm_s (b := b) 16 0 with ⟨k1, k2⟩ | ⟨i, k1, k2, k3, k4, k5⟩
    · rcases wki_s (w := wrd T y e) wds 259 with ⟨m1, m2⟩ | ⟨i', m1, m2, m3, m4⟩
      · rw [k1, m1]; decide
      · exact absurd ((key i' (by omega)).mpr m3) (k2 i' (by omega) (by omega))
    · rcases wki_s (w := wrd T y e) wds 259 with ⟨m1, m2⟩ | ⟨i', m1, m2, m3, m4⟩
      · exact absurd ((key i (by omega)).mp k4) (m2 i (by omega))
      · have ei : i = i' := by
          rcases Nat.lt_trichotomy i i' with h | h | h
          · exact absurd ((key i (by omega)).mp k4) (m4 i h)
          · exact h
          · exact absurd ((key i' (by omega)).mpr m3) (k5 i' (by omega) h)
        subst ei
        rw [k3, m2]
        unfold kp
        rw [if_neg (by omega), if_neg (by omega), if_pos (by omega)]
        omega
  · rw [if_neg (by omega)]
    rcases wki_s (w := wrd T y e) wds 259 with ⟨m1, m2⟩ | ⟨i', m1, m2, m3, m4⟩
    · rw [m1]; decide
    · have a2 := (wds_l i' (by omega)).2.1
      rw [← m3, wrd_len] at a2
      omega
/-- one letter alone -/
theorem wk_one {c b : Int} (hc : 97 ≤ c ∧ c ≤ 122) (hb : b = c - 96) (h1 : ¬ 23 ≤ b) (h2 : 4 < b) : wkm b 16 0 = kp c := by
  have e : kp c = 240 := by
    unfold kp
    rw [if_neg (by omega), if_neg (by omega), if_neg (by omega), if_neg (by omega), if_neg (by omega), if_pos (by omega)]
  rw [e]
  rcases wkm_s (b := b) 16 0 with ⟨k1, k2⟩ | ⟨i, k1, k2, k3, k4, k5⟩
  · exact k1
  · have : ∀ k : Nat, k < 16 → 100 < wv.getD k 0 := by decide
    have := this i (by omega)
    omega
theorem mx_word {sc : List Int} {d : Nat} {M : q_M} {T : Nat → Int} {len y : Nat} (h : TX T len M) (hW : WD (M 50)) (hy : M 49 14 = y) (hl : y < len) (hc : 97 ≤ T y ∧ T y ≤ 122) (hd : 2 ≤ d) : ∃ M', pq sc d 162 [.inr (.inr 49)] GF M = some (some (.inl (kp (tkC T len y))), GF, M') ∧ (∀ a, ¬ a = 49 → M' a = M a) ∧ (∀ j, ¬ j = 14 → M' 49 j = M 49 j) ∧ M' 49 14 = tkE T len y ∧ tkE T len y ≤ len := by
  have hl2 := h.2.2.1
  obtain ⟨K, M', w', q, f1, f2, f3, f4⟩ := lk_word (sc := sc) (d := d - 1) (y := y) (by omega) 200 y 0 M h hy (Nat.le_refl _) (by omega) (by omega) (fun i h1 h2 => by omega) (fun _ => by simp [wrd, hR])
  have hw := wen_le (T := T) (len := len) 200 y (by omega)
  have hgt : y < wen T len 200 y := by
    rcases Nat.lt_or_ge y (wen T len 200 y) with h | h
    · exact h
    · have e : wen T len 200 y = y := by omega
      have := hw.2.2.2 (by omega)
      rw [e] at this
      exact absurd ⟨hl, hc⟩ this
  have eE : tkE T len y = wen T len 200 y := by unfold tkE; rw [if_pos hc]
  have eC : tkC T len y = if wen T len 200 y = y + 1 then T y else wk T y (wen T len 200 y) := by unfold tkC; rw [if_pos hc]
  rw [eE, eC]
  have hT' : TX T len M' := ⟨TQ_e (f1 57 (by decide)) h.1, (f2 9 (by decide)).trans h.2.1, h.2.2⟩
  have hW' : WD (M' 50) := by rw [f1 50 (by decide)]; exact hW
  have hend : ¬ (97 ≤ atv T len (wen T len 200 y) ∧ atv T len (wen T len 200 y) ≤ 122) := by
    unfold atv
    split
    · next hh => exact fun hh2 => hw.2.2.2 (by omega) ⟨hh, hh2⟩
    · omega
  rw [Nat.sub_self, Int.natCast_zero] at q
  have hs : ∀ F, pr sc (pq sc (d - 1)) 162 (F + 1 + K + 1) 0 [some (.inr (.inr 49)), none, none, none] [] M = pr sc (pq sc (d - 1)) 162 (F + 1) 4 [some (.inr (.inr 49)), some (.inl ((wen T len 200 y - y : Nat) : Int)), some (.inl w'), none] [] M' := fun F => sg_X12_readWord_0.trans (q (F + 1))
  obtain ⟨F0, q0⟩ := lk_find (sc := sc) (orc := pq sc (d - 1)) (M := M') (b1 := ((wen T len 200 y - y : Nat) : Int)) (b2 := w') hW' 16 0 rfl
  rw [Int.natCast_zero] at q0
  have qat := sp_at (sc := sc) (d := d - 1) (x := wen T len 200 y) hT' (by omega)
  have qsm := sp_isSmall (sc := sc) (d := d - 1) (M := M') (a := atv T len (wen T len 200 y)) (by omega)
  rw [if_neg hend] at qsm
  refine ⟨M', pq_e (by omega) (by decide) (Nat.le_of_ble_eq_true rfl) ⟨F0 + 1 + K + 1, (hs F0).trans (sg_X12_readWord_4.trans ?_)⟩, f1, f2, f3, hw.2.1⟩
  rw [f3, qat, q_cI_s, qsm, q_cI_s, if_pos rfl]
  by_cases e1 : wen T len 200 y = y + 1
  · have hwv : w' = T y - 96 := by
      rw [f4 (by omega), e1, wrd_s (Nat.le_refl _)]
      simp [wrd, hR]
    have eb : ((wen T len 200 y - y : Nat) : Int) = 1 := by omega
    rw [if_pos e1, eb, if_pos rfl, if_pos rfl]
    rw [eb] at q0
    by_cases g1 : w' < 23
    · rw [if_pos g1]
      by_cases g2 : 4 < w'
      · rw [if_pos g2, q0, if_pos (by decide), wk_one hc hwv (by omega) g2]
      · rw [if_neg g2, q_wid (x := 230 + w') (by omega) (by omega), q_wid (by omega) (by omega)]
        unfold kp
        rw [if_neg (by omega), if_neg (by omega), if_neg (by omega), if_neg (by omega), if_pos (by omega), show 230 + w' - 1 = T y + 133 by omega]
    · rw [if_neg g1, q_wid (x := 220 + w') (by omega) (by omega), q_wid (by omega) (by omega)]
      unfold kp
      rw [if_neg (by omega), if_neg (by omega), if_neg (by omega), if_pos (by omega), show 220 + w' - 23 = T y + 101 by omega]
  · rw [if_neg e1, if_neg (by omega), if_neg (by omega), q0, wk_eq (by omega) hw.2.2.1 f4]
