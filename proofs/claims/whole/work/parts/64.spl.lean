/-! the class's tokens -/
theorem sc_isSmall {sc : List Int} {d : Nat} {M : q_M} {a : Int} (hd : 1 ≤ d) : pq sc d 114 [.inl a] GF M = some (some (.inl (if 97 ≤ a ∧ a ≤ 122 then 1 else 0)), GF, M) := by
  refine pq_e (by omega) (by decide) (Nat.le_of_ble_eq_true rfl) ⟨0 + 1, sg_X8_isSmall_0.trans ?_⟩
  by_cases h1 : a < 97
  · rw [if_pos h1, if_neg (by omega)]
  · by_cases h2 : 122 < a
    · rw [if_neg h1, if_pos h2, if_neg (by omega)]
    · rw [if_neg h1, if_neg h2, if_pos (by omega)]
theorem sc_isCapital {sc : List Int} {d : Nat} {M : q_M} {a : Int} (hd : 1 ≤ d) : pq sc d 115 [.inl a] GF M = some (some (.inl (if 65 ≤ a ∧ a ≤ 90 then 1 else 0)), GF, M) := by
  refine pq_e (by omega) (by decide) (Nat.le_of_ble_eq_true rfl) ⟨0 + 1, sg_X8_isCapital_0.trans ?_⟩
  by_cases h1 : a < 65
  · rw [if_pos h1, if_neg (by omega)]
  · by_cases h2 : 90 < a
    · rw [if_neg h1, if_pos h2, if_neg (by omega)]
    · rw [if_neg h1, if_neg h2, if_pos (by omega)]
theorem sc_isDigit {sc : List Int} {d : Nat} {M : q_M} {a : Int} (hd : 1 ≤ d) : pq sc d 116 [.inl a] GF M = some (some (.inl (if 48 ≤ a ∧ a ≤ 57 then 1 else 0)), GF, M) := by
  refine pq_e (by omega) (by decide) (Nat.le_of_ble_eq_true rfl) ⟨0 + 1, sg_X8_isDigit_0.trans ?_⟩
  by_cases h1 : a < 48
  · rw [if_pos h1, if_neg (by omega)]
  · by_cases h2 : 57 < a
    · rw [if_neg h1, if_pos h2, if_neg (by omega)]
    · rw [if_neg h1, if_neg h2, if_pos (by omega)]
theorem sgT {sc : List Int} {orc : q_O} {M : q_M} {c : Int} : ∀ (m i : Nat), i + m = 7 → ∃ F x, pr sc orc 223 F 7 [some (.inr (.inr 2018)), none, none, some (.inl 7), some (.inl c), some (.inl (i : Int))] [] M = some (some (.inl x), GF, M) ∧ ((0 ≤ x ∧ ∃ j, i ≤ j ∧ j < 7 ∧ ([40, 41, 44, 46, 61, 60, 62] : List Int).getD j 0 = c) ∨ (x = -1 ∧ ∀ j, i ≤ j → j < 7 → ¬ ([40, 41, 44, 46, 61, 60, 62] : List Int).getD j 0 = c)) := by
  intro m
  induction m with
  | zero =>
    intro i hi
    refine ⟨0 + 1, -1, sg_J1_indexOfChar_4cfef_7_s18.trans ?_, Or.inr ⟨rfl, fun j h1 h2 => by omega⟩⟩
    rw [if_neg (by omega)]
  | succ m ih =>
    intro i hi
    by_cases g : ([40, 41, 44, 46, 61, 60, 62] : List Int).getD i 0 = c
    · refine ⟨0 + 1, i, sg_J1_indexOfChar_4cfef_7_s18.trans ?_, Or.inl ⟨by omega, i, Nat.le_refl _, by omega, g⟩⟩
      rw [if_pos (by omega), if_pos (by omega), Int.toNat_natCast, if_pos g]
    · obtain ⟨F, x, q, hx⟩ := ih (i + 1) (by omega)
      rw [n1] at q
      refine ⟨F + 1, x, sg_J1_indexOfChar_4cfef_7_s18.trans ?_, ?_⟩
      · rw [if_pos (by omega), if_pos (by omega), Int.toNat_natCast, if_neg g, q_wid (by omega) (by omega), q]
      · rcases hx with ⟨h1, j, h2, h3, h4⟩ | ⟨h1, h2⟩
        · exact Or.inl ⟨h1, j, by omega, h3, h4⟩
        · refine Or.inr ⟨h1, fun j h3 h4 => ?_⟩
          by_cases e : j = i
          · subst e; exact g
          · exact h2 j (by omega) h4
theorem sgl {c : Int} : (∃ j, 0 ≤ j ∧ j < 7 ∧ ([40, 41, 44, 46, 61, 60, 62] : List Int).getD j 0 = c) ↔ (c = 40 ∨ c = 41 ∨ c = 44 ∨ c = 46 ∨ c = 61 ∨ c = 60 ∨ c = 62) := by
  constructor
  · rintro ⟨j, -, hj, rfl⟩
    rcases (show j = 0 ∨ j = 1 ∨ j = 2 ∨ j = 3 ∨ j = 4 ∨ j = 5 ∨ j = 6 by omega) with rfl | rfl | rfl | rfl | rfl | rfl | rfl <;> decide
  · rintro (rfl | rfl | rfl | rfl | rfl | rfl | rfl)
    · exact ⟨0, by omega, by omega, rfl⟩
    · exact ⟨1, by omega, by omega, rfl⟩
    · exact ⟨2, by omega, by omega, rfl⟩
    · exact ⟨3, by omega, by omega, rfl⟩
    · exact ⟨4, by omega, by omega, rfl⟩
    · exact ⟨5, by omega, by omega, rfl⟩
    · exact ⟨6, by omega, by omega, rfl⟩
theorem sc_isSign {sc : List Int} {d : Nat} {M : q_M} {a : Int} (h0 : 0 ≤ a) (h1 : a ≤ 126) (hd : 6 ≤ d) : pq sc d 117 [.inl a] GF M = some (some (.inl (if a = 40 ∨ a = 41 ∨ a = 44 ∨ a = 46 ∨ a = 61 ∨ a = 60 ∨ a = 62 then 1 else 0)), GF, M) := by
  have cd : ∀ (d : Nat), 1 ≤ d → pq sc d 215 [.inr (.inr 1018)] GF M = some (some (.inl 0), GF, M) := fun d hd => pq_e hd (by decide) (Nat.le_of_ble_eq_true rfl) ⟨0 + 1, sg_J0_coder_7d493_0_s18.trans (if_neg (by decide))⟩
  have il : ∀ (d : Nat), 1 ≤ d → pq sc d 217 [.inr (.inr 1018)] GF M = some (some (.inl 1), GF, M) := fun d hd => pq_e hd (by decide) (Nat.le_of_ble_eq_true rfl) ⟨0 + 1, sg_J0_isLatin1_aae02_0_s18.trans ((if_neg (by decide)).trans (if_pos rfl))⟩
  have ln : ∀ (d : Nat), 2 ≤ d → pq sc d 214 [.inr (.inr 1018)] GF M = some (some (.inl 7), GF, M) := fun d hd => by
    refine pq_e (by omega) (by decide) (Nat.le_of_ble_eq_true rfl) ⟨0 + 1, sg_J0_length_8abf5_0_s18.trans ?_⟩
    rw [cd (d - 1) (by omega), q_cI_s, if_pos rfl]
    rfl
  have ce : ∀ (d : Nat), 1 ≤ d → pq sc d 221 [.inl a] GF M = some (some (.inl 1), GF, M) := fun d hd => by
    refine pq_e (by omega) (by decide) (Nat.le_of_ble_eq_true rfl) ⟨0 + 1, sg_J1_canEncode_9a6ad_0.trans ?_⟩
    rw [if_neg (by omega), if_neg (by omega)]
  have mx : ∀ (d : Nat), 1 ≤ d → pq sc d 225 [.inl 0, .inl 0] GF M = some (some (.inl 0), GF, M) := fun d hd => by
    refine pq_e (by omega) (by decide) (Nat.le_of_ble_eq_true rfl) ⟨0 + 1, sg_J9_max_7cf53_0.trans ?_⟩
    rw [if_neg (by decide)]
  have mn : ∀ (d : Nat), 1 ≤ d → pq sc d 227 [.inl 7, .inl ((7 : Nat) : Int)] GF M = some (some (.inl 7), GF, M) := fun d hd => by
    refine pq_e (by omega) (by decide) (Nat.le_of_ble_eq_true rfl) ⟨0 + 1, sg_J9_min_7cf53_0.trans ?_⟩
    rw [if_neg (by decide)]
  obtain ⟨F, x, q, hx⟩ := sgT (sc := sc) (orc := pq sc (d - 5)) (M := M) (c := a) 7 0 rfl
  rw [Int.natCast_zero] at q
  have q1 : pq sc (d - 1 - 1 - 1 - 1) 223 [.inr (.inr 2018), .inl a, .inl 0, .inl 7] GF M = some (some (.inl x), GF, M) := by
    refine pq_e (by omega) (by decide) (Nat.le_of_ble_eq_true rfl) ⟨F + 1, sg_J1_indexOfChar_4cfef_0_s18.trans ?_⟩
    rw [if_pos (by omega), show d - 1 - 1 - 1 - 1 - 1 = d - 5 by omega]
    exact q
  have q2 : pq sc (d - 1 - 1 - 1) 222 [.inr (.inr 2018), .inl a, .inl 0, .inl 7] GF M = some (some (.inl x), GF, M) := by
    refine pq_e (by omega) (by decide) (Nat.le_of_ble_eq_true rfl) ⟨0 + 1, sg_J1_indexOf_4cfef_0_s18.trans ?_⟩
    rw [ce _ (by omega), q_cI_s, if_neg (by decide), mx _ (by omega), q_cI_s, mn _ (by omega), q_cI_s, if_pos (by decide), q1, q_cI_s]
  have q3 : pq sc (d - 1 - 1) 219 [.inr (.inr 1018), .inl a, .inl 0] GF M = some (some (.inl x), GF, M) := by
    refine pq_e (by omega) (by decide) (Nat.le_of_ble_eq_true rfl) ⟨0 + 1, sg_J0_indexOf_7cf53_0_s18.trans ?_⟩
    rw [il _ (by omega), q_cI_s, if_neg (by decide), ln _ (by omega), q_cI_s, q2, q_cI_s]
  have q4 : pq sc (d - 1) 218 [.inr (.inr 1018), .inl a] GF M = some (some (.inl x), GF, M) := by
    refine pq_e (by omega) (by decide) (Nat.le_of_ble_eq_true rfl) ⟨0 + 1, sg_J0_indexOf_0f7a4_0_s18.trans ?_⟩
    rw [q3, q_cI_s]
  refine pq_e (by omega) (by decide) (Nat.le_of_ble_eq_true rfl) ⟨0 + 1, sg_X8_isSign_0.trans ?_⟩
  rw [q4, q_cI_s]
  rcases hx with ⟨h1, h2⟩ | ⟨h1, h2⟩
  · rw [if_neg (by omega), if_pos (sgl.mp h2)]
  · rw [if_pos (by omega), if_neg (fun g => by obtain ⟨j, k1, k2, k3⟩ := sgl.mpr g; exact h2 j k1 k2 k3)]
theorem sc_endT {sc : List Int} {d : Nat} {M : q_M} {T : Nat → Int} {len : Nat} (h : TXc T len M) (hd : 1 ≤ d) : ∀ (f x : Nat), x ≤ len → len < x + f → ∃ F, pr sc (pq sc d) 110 F 4 [some (.inr (.inr 9)), none, some (.inl (x : Int)), some (.inl (x : Int))] [] M = some (some (.inl (wen T len f x : Int)), GF, M) := by
  have hl := h.2.2.1
  have h2 := h.2.1
  intro f
  induction f with
  | zero => intro x h1 h2; omega
  | succ f ih =>
    intro x h1 h3
    unfold wen
    by_cases e : x < len
    · have qs := sc_isSmall (sc := sc) (d := d) (M := M) (a := T x) hd
      by_cases g : 97 ≤ T x ∧ T x ≤ 122
      · rw [if_pos ⟨e, g⟩]
        rw [if_pos g] at qs
        obtain ⟨F, q⟩ := ih (x + 1) (by omega) (by omega)
        rw [n1] at q
        refine ⟨F + 1, sg_X8_endOfWord_4.trans ?_⟩
        rw [if_pos (by omega), sp_codeAt h e hd, q_cI_s, qs, q_cI_s, if_neg (by decide), q_wid (by omega) (by omega), q]
      · rw [if_neg (fun hh => g hh.2)]
        rw [if_neg g] at qs
        refine ⟨0 + 1, sg_X8_endOfWord_4.trans ?_⟩
        rw [if_pos (by omega), sp_codeAt h e hd, q_cI_s, qs, q_cI_s, if_pos rfl]
    · rw [if_neg (fun hh => e hh.1)]
      refine ⟨0 + 1, sg_X8_endOfWord_4.trans ?_⟩
      rw [if_neg (by omega)]
theorem sc_end {sc : List Int} {d : Nat} {M : q_M} {T : Nat → Int} {len x : Nat} (h : TXc T len M) (hx : x ≤ len) (hd : 2 ≤ d) : pq sc d 110 [.inr (.inr 9), .inl (x : Int)] GF M = some (some (.inl (wen T len 200 x : Int)), GF, M) := by
  obtain ⟨F, q⟩ := sc_endT (sc := sc) (d := d - 1) h (by omega) 200 x hx (by have := h.2.2.1; omega)
  refine pq_e (by omega) (by decide) (Nat.le_of_ble_eq_true rfl) ⟨F + 1, sg_X8_endOfWord_0.trans ?_⟩
  exact q
/-- a token is added -/
theorem sc_add {sc : List Int} {d : Nat} {M : q_M} {k : Nat} {a1 a2 a3 : Int} (h : M 11 3 = k) (hk : k < 131) (hd : 1 ≤ d) : pq sc d 120 [.inr (.inr 11), .inl a1, .inl a2, .inl a3] GF M = some (none, GF, q_up (q_up (q_up (q_up M 12 k a1) 13 k a2) 14 k a3) 11 3 ((k : Int) + 1)) := by
  refine pq_e (by omega) (by decide) (Nat.le_of_ble_eq_true rfl) ⟨0 + 1, sg_X9_add_0.trans ?_⟩
  rw [if_neg (by omega), if_pos (by omega), if_pos (by omega), if_pos (by omega), if_pos (by omega), h, Int.toNat_natCast, q_wid (by omega) (by omega)]
theorem sc_numT {sc : List Int} {d : Nat} {M : q_M} {T : Nat → Int} {len b : Nat} {b1 b3 : Int} (h : TXc T len M) (hd : 1 ≤ d) : ∀ (f x : Nat) (v : Int), b ≤ x → x ≤ len → len < x + f → (∀ i, b ≤ i → i < x → 48 ≤ T i ∧ T i ≤ 57) → (x ≤ b + 6 → v = dv T b (x - b)) → ∃ K v', (den T len f x ≤ b + 6 → v' = dv T b (den T len f x - b)) ∧ ∀ F, pr sc (pq sc d) 111 (F + K + 1) 40 [some (.inr (.inr 9)), some (.inl b1), some (.inr (.inr 11)), some (.inl b3), some (.inl (b : Int)), some (.inl (x : Int)), some (.inl v), some (.inl (x : Int))] [] M = pr sc (pq sc d) 111 F 114 [none, some (.inl b1), some (.inr (.inr 11)), some (.inl b3), none, some (.inl (den T len f x : Int)), some (.inl v'), some (.inl (if b < den T len f x ∧ den T len f x ≤ b + 6 then 1 else 0))] [] M := by
  have hl := h.2.2.1
  have h2 := h.2.1
  intro f
  induction f with
  | zero => intro x v h1 h2 h3; omega
  | succ f ih =>
    intro x v h0 h1 h3 hlt hv
    have stop : (∀ F, pr sc (pq sc d) 111 (F + 0 + 1) 40 [some (.inr (.inr 9)), some (.inl b1), some (.inr (.inr 11)), some (.inl b3), some (.inl (b : Int)), some (.inl (x : Int)), some (.inl v), some (.inl (x : Int))] [] M = if (b : Int) < (x : Int) then (if 6 < (q_w ((x : Int) - (b : Int))) then pr sc (pq sc d) 111 F 114 [none, some (.inl b1), some (.inr (.inr 11)), some (.inl b3), none, some (.inl (x : Int)), some (.inl v), some (.inl 0)] [] M else pr sc (pq sc d) 111 F 114 [none, some (.inl b1), some (.inr (.inr 11)), some (.inl b3), none, some (.inl (x : Int)), some (.inl v), some (.inl 1)] [] M) else pr sc (pq sc d) 111 F 114 [none, some (.inl b1), some (.inr (.inr 11)), some (.inl b3), none, some (.inl (x : Int)), some (.inl v), some (.inl 0)] [] M) → ∃ K v', (x ≤ b + 6 → v' = dv T b (x - b)) ∧ ∀ F, pr sc (pq sc d) 111 (F + K + 1) 40 [some (.inr (.inr 9)), some (.inl b1), some (.inr (.inr 11)), some (.inl b3), some (.inl (b : Int)), some (.inl (x : Int)), some (.inl v), some (.inl (x : Int))] [] M = pr sc (pq sc d) 111 F 114 [none, some (.inl b1), some (.inr (.inr 11)), some (.inl b3), none, some (.inl (x : Int)), some (.inl v'), some (.inl (if b < x ∧ x ≤ b + 6 then 1 else 0))] [] M := by
      intro hs
      refine ⟨0, v, hv, fun F => ?_⟩
      rw [hs F]
      have ew : q_w ((x : Int) - (b : Int)) = (x : Int) - (b : Int) := q_wid (by omega) (by omega)
      rw [ew]
      by_cases g1 : b < x
      · rw [if_pos (by omega)]
        by_cases g2 : x ≤ b + 6
        · rw [if_neg (by omega), if_pos ⟨g1, g2⟩]
        · rw [if_pos (by omega), if_neg (fun hh => g2 hh.2)]
      · rw [if_neg (by omega), if_neg (fun hh => g1 hh.1)]
    unfold den
    by_cases e : x < len
    · have qs := sc_isDigit (sc := sc) (d := d) (M := M) (a := T x) hd
      have qc := sp_codeAt (sc := sc) (d := d) h e hd
      by_cases g : 48 ≤ T x ∧ T x ≤ 57
      · rw [if_pos ⟨e, g⟩]
        rw [if_pos g] at qs
        have hlt' : ∀ i, b ≤ i → i < x + 1 → 48 ≤ T i ∧ T i ≤ 57 := by
          intro i h1 h2
          by_cases ei : i = x
          · subst ei; exact g
          · exact hlt i h1 (by omega)
        have hv1 : x + 1 ≤ b + 6 → q_w (q_w (v * 10) + (q_w (T x - 48))) = dv T b (x + 1 - b) := by
          intro h6
          have hv0 := hv (by omega)
          have b0 := dv_b (T := T) (b := b) (x - b) (fun i a1 a2 => hlt i a1 (by omega))
          have b3 := p10 (k := x - b) (by omega)
          rw [show x + 1 - b = (x - b) + 1 by omega]
          show _ = 10 * dv T b (x - b) + (T (b + (x - b)) - 48)
          rw [← hv0] at b0 ⊢
          rw [show b + (x - b) = x by omega, q_wid (x := v * 10) (by omega) (by omega), q_wid (x := T x - 48) (by omega) (by omega), q_wid (by omega) (by omega)]
          omega
        obtain ⟨K, v', hv', q⟩ := ih (x + 1) _ (by omega) (by omega) (by omega) hlt' hv1
        refine ⟨K + 1, v', hv', fun F => ?_⟩
        rw [← q F, show F + (K + 1) + 1 = (F + K + 1) + 1 by omega, n1]
        refine sg_X8_readNumeral_40.trans ?_
        rw [if_pos (by omega), qc, q_cI_s, qs, q_cI_s, if_neg (by decide), qc, q_cI_s, q_wid (x := (x : Int) + 1) (by omega) (by omega)]
      · rw [if_neg (fun hh => g hh.2)]
        rw [if_neg g] at qs
        refine stop (fun F => sg_X8_readNumeral_40.trans ?_)
        rw [if_pos (by omega), qc, q_cI_s, qs, q_cI_s, if_pos rfl]
    · rw [if_neg (fun hh => e hh.1)]
      refine stop (fun F => sg_X8_readNumeral_40.trans ?_)
      rw [if_neg (by omega)]
