/-! whether all parts of an item are true -/
theorem cx_allT {sc : List Int} {d : Nat} {M0 : q_M} {n : Nat} {V : Nat → Int} {k w : Int} (hn : M0 24 9 = n) (hn2 : n ≤ 130) (hV : ∀ (M : q_M) (i : Nat), (∀ a, ¬ a = 32 → M a = M0 a) → i < n → M0 30 i = k → M0 31 i = w → ∃ M', pq sc d 91 [.inr (.inr 24), .inl (M0 28 i), .inl (M0 29 i)] GF M = some (some (.inl (V i)), GF, M') ∧ ∀ a, ¬ a = 32 → M' a = M0 a) : ∀ (m i : Nat) (M : q_M), i + m = n → (∀ a, ¬ a = 32 → M a = M0 a) → ∃ F M' x, pr sc (pq sc d) 90 F 2 [some (.inr (.inr 24)), some (.inl k), some (.inl w), some (.inl (i : Int))] [] M = some (some (.inl x), GF, M') ∧ (∀ a, ¬ a = 32 → M' a = M0 a) ∧ ((x = 1 ∧ ∀ j, i ≤ j → j < n → M0 30 j = k → M0 31 j = w → V j = 2) ∨ (x = 0 ∧ ¬ ∀ j, i ≤ j → j < n → M0 30 j = k → M0 31 j = w → V j = 2)) := by
  intro m
  induction m with
  | zero =>
    intro i M hi hM
    refine ⟨0 + 1, M, 1, sg_X6_allTrue_2.trans ?_, hM, Or.inl ⟨rfl, fun j h1 h2 => by omega⟩⟩
    rw [hM 24 (by decide), hn, if_neg (by omega)]
  | succ m ih =>
    intro i M hi hM
    have next : ∀ (N : q_M), (∀ a, ¬ a = 32 → N a = M0 a) → (M0 30 i = k → M0 31 i = w → V i = 2) → (∀ F, pr sc (pq sc d) 90 (F + 1) 2 [some (.inr (.inr 24)), some (.inl k), some (.inl w), some (.inl (i : Int))] [] M = pr sc (pq sc d) 90 F 2 [some (.inr (.inr 24)), some (.inl k), some (.inl w), some (.inl ((i + 1 : Nat) : Int))] [] N) → ∃ F M' x, pr sc (pq sc d) 90 F 2 [some (.inr (.inr 24)), some (.inl k), some (.inl w), some (.inl (i : Int))] [] M = some (some (.inl x), GF, M') ∧ (∀ a, ¬ a = 32 → M' a = M0 a) ∧ ((x = 1 ∧ ∀ j, i ≤ j → j < n → M0 30 j = k → M0 31 j = w → V j = 2) ∨ (x = 0 ∧ ¬ ∀ j, i ≤ j → j < n → M0 30 j = k → M0 31 j = w → V j = 2)) := by
      intro N hN hv hst
      obtain ⟨F, M', x, q1, r1, r2⟩ := ih (i + 1) N (by omega) hN
      refine ⟨F + 1, M', x, (hst F).trans q1, r1, ?_⟩
      rcases r2 with ⟨e, r2⟩ | ⟨e, r2⟩
      · refine Or.inl ⟨e, fun j h1 h2 h3 h4 => ?_⟩
        by_cases z : j = i
        · subst z; exact hv h3 h4
        · exact r2 j (by omega) h2 h3 h4
      · exact Or.inr ⟨e, fun hh => r2 (fun j h1 h2 h3 h4 => hh j (by omega) h2 h3 h4)⟩
    by_cases g1 : M0 30 i = k
    · by_cases g2 : M0 31 i = w
      · obtain ⟨M1, q1, f1⟩ := hV M i hM (by omega) g1 g2
        by_cases g3 : V i = 2
        · refine next M1 f1 (fun _ _ => g3) (fun F => sg_X6_allTrue_2.trans ?_)
          rw [hM 24 (by decide), hn, if_pos (by omega), if_pos (by omega), if_pos (by omega), Int.toNat_natCast, hM 30 (by decide), if_pos g1, if_pos (by omega), hM 31 (by decide), if_pos g2, if_pos (by omega), if_pos (by omega), hM 28 (by decide), hM 29 (by decide), q1, q_cI_s, if_pos g3, qw1 (by omega)]
        · refine ⟨0 + 1, M1, 0, sg_X6_allTrue_2.trans ?_, f1, Or.inr ⟨rfl, fun hh => g3 (hh i (Nat.le_refl _) (by omega) g1 g2)⟩⟩
          rw [hM 24 (by decide), hn, if_pos (by omega), if_pos (by omega), if_pos (by omega), Int.toNat_natCast, hM 30 (by decide), if_pos g1, if_pos (by omega), hM 31 (by decide), if_pos g2, if_pos (by omega), if_pos (by omega), hM 28 (by decide), hM 29 (by decide), q1, q_cI_s, if_neg g3]
      · refine next M hM (fun _ h => absurd h g2) (fun F => sg_X6_allTrue_2.trans ?_)
        rw [hM 24 (by decide), hn, if_pos (by omega), if_pos (by omega), if_pos (by omega), Int.toNat_natCast, hM 30 (by decide), if_pos g1, if_pos (by omega), hM 31 (by decide), if_neg g2, qw1 (by omega)]
    · refine next M hM (fun h _ => absurd h g1) (fun F => sg_X6_allTrue_2.trans ?_)
      rw [hM 24 (by decide), hn, if_pos (by omega), if_pos (by omega), if_pos (by omega), Int.toNat_natCast, hM 30 (by decide), if_neg g1, qw1 (by omega)]
theorem cx_allTrue {sc : List Int} {d : Nat} {M : q_M} {n : Nat} {V : Nat → Int} {k w : Int} (hn : M 24 9 = n) (hn2 : n ≤ 130) (hV : ∀ (M' : q_M) (i : Nat), (∀ a, ¬ a = 32 → M' a = M a) → i < n → M 30 i = k → M 31 i = w → ∃ M'', pq sc (d - 1) 91 [.inr (.inr 24), .inl (M 28 i), .inl (M 29 i)] GF M' = some (some (.inl (V i)), GF, M'') ∧ ∀ a, ¬ a = 32 → M'' a = M a) (hd : 1 ≤ d) : ∃ M' x, pq sc d 90 [.inr (.inr 24), .inl k, .inl w] GF M = some (some (.inl x), GF, M') ∧ (∀ a, ¬ a = 32 → M' a = M a) ∧ ((x = 1 ∧ ∀ j, j < n → M 30 j = k → M 31 j = w → V j = 2) ∨ (x = 0 ∧ ¬ ∀ j, j < n → M 30 j = k → M 31 j = w → V j = 2)) := by
  obtain ⟨F, M', x, q1, r1, r2⟩ := cx_allT (sc := sc) (d := d - 1) hn hn2 hV n 0 M (by omega) (fun _ _ => rfl)
  refine ⟨M', x, (pq_e (by omega) (by decide) (Nat.le_of_ble_eq_true rfl) ⟨F + 1, sg_X6_allTrue_0.trans ?_⟩), r1, ?_⟩
  · exact q1
  · rcases r2 with ⟨e, r2⟩ | ⟨e, r2⟩
    · exact Or.inl ⟨e, fun j h2 => r2 j (Nat.zero_le _) h2⟩
    · exact Or.inr ⟨e, fun hh => r2 (fun j _ h2 => hh j h2)⟩
theorem mx_passT {sc : List Int} {d : Nat} {M0 : q_M} {n : Nat} {V : Nat → Int} {k : Int} (hn : M0 49 36 = n) (hn2 : n ≤ 40) (hVr : ∀ i, 0 ≤ V i ∧ V i ≤ 2) (hV : ∀ (M : q_M) (i : Nat), FE M0 M → i < n → M0 72 i = k → ∃ M', pq sc d 196 [.inr (.inr 49), .inl (M0 70 i), .inl (M0 71 i)] GF M = some (some (.inl (mu (V i))), GF, M') ∧ FE M0 M') : ∀ (m i : Nat) (M : q_M) (b : Int), i + m = n → FE M0 M → (b = 0 ∨ b = 1) → ∃ F M' x, pr sc (pq sc d) 197 F 4 [some (.inr (.inr 49)), some (.inl k), some (.inl b), some (.inl (i : Int))] [] M = some (some (.inl x), GF, M') ∧ FE M0 M' ∧ ((x = 1 ∧ b = 1 ∧ ∀ j, i ≤ j → j < n → M0 72 j = k → V j = 2) ∨ (x = 0 ∧ ¬ (b = 1 ∧ ∀ j, i ≤ j → j < n → M0 72 j = k → V j = 2))) := by
  intro m
  induction m with
  | zero =>
    intro i M b hi hM hb
    refine ⟨0 + 1, M, b, sg_X12_passes_4.trans ?_, hM, ?_⟩
    · rw [hM.2 36 (by decide) (by decide) (by decide), hn, if_neg (by omega), if_pos hb]
    · rcases hb with rfl | rfl
      · exact Or.inr ⟨rfl, fun hh => by have := hh.1; omega⟩
      · exact Or.inl ⟨rfl, rfl, fun j h1 h2 => by omega⟩
  | succ m ih =>
    intro i M b hi hM hb
    have e36 : M 49 36 = n := by rw [hM.2 36 (by decide) (by decide) (by decide)]; exact hn
    have e70 : M 70 = M0 70 := hM.1 70 (by decide) (by decide)
    have e71 : M 71 = M0 71 := hM.1 71 (by decide) (by decide)
    have e72 : M 72 = M0 72 := hM.1 72 (by decide) (by decide)
    have next : ∀ (N : q_M) (b' : Int), FE M0 N → (b' = 0 ∨ b' = 1) → (b' = 1 ↔ (b = 1 ∧ (M0 72 i = k → V i = 2))) → (∀ F, pr sc (pq sc d) 197 (F + 1) 4 [some (.inr (.inr 49)), some (.inl k), some (.inl b), some (.inl (i : Int))] [] M = pr sc (pq sc d) 197 F 4 [some (.inr (.inr 49)), some (.inl k), some (.inl b'), some (.inl ((i + 1 : Nat) : Int))] [] N) → ∃ F M' x, pr sc (pq sc d) 197 F 4 [some (.inr (.inr 49)), some (.inl k), some (.inl b), some (.inl (i : Int))] [] M = some (some (.inl x), GF, M') ∧ FE M0 M' ∧ ((x = 1 ∧ b = 1 ∧ ∀ j, i ≤ j → j < n → M0 72 j = k → V j = 2) ∨ (x = 0 ∧ ¬ (b = 1 ∧ ∀ j, i ≤ j → j < n → M0 72 j = k → V j = 2))) := by
      intro N b' hN hb' hv hst
      obtain ⟨F, M', x, q1, r1, r2⟩ := ih (i + 1) N b' (by omega) hN hb'
      refine ⟨F + 1, M', x, (hst F).trans q1, r1, ?_⟩
      have hiff : (b' = 1 ∧ ∀ j, i + 1 ≤ j → j < n → M0 72 j = k → V j = 2) ↔ (b = 1 ∧ ∀ j, i ≤ j → j < n → M0 72 j = k → V j = 2) := by
        rw [hv]
        constructor
        · rintro ⟨⟨h1, h2⟩, h3⟩
          refine ⟨h1, fun j a1 a2 a3 => ?_⟩
          by_cases z : j = i
          · subst z; exact h2 a3
          · exact h3 j (by omega) a2 a3
        · rintro ⟨h1, h2⟩
          exact ⟨⟨h1, fun h => h2 i (Nat.le_refl _) (by omega) h⟩, fun j a1 a2 a3 => h2 j (by omega) a2 a3⟩
      rw [← hiff]
      exact r2
    by_cases g1 : M0 72 i = k
    · rcases hb with rfl | rfl
      · refine next M 0 hM (Or.inl rfl) (by omega) (fun F => sg_X12_passes_4.trans ?_)
        rw [e36, if_pos (by omega), if_pos (by omega), Int.toNat_natCast, e72, if_pos g1, if_pos rfl, qw1 (by omega)]
      · obtain ⟨M1, q1, f1⟩ := hV M i hM (by omega) g1
        have hm := (mu_r (hVr i)).2.1
        by_cases g3 : V i = 2
        · refine next M1 1 f1 (Or.inr rfl) ⟨fun _ => ⟨rfl, fun _ => g3⟩, fun _ => rfl⟩ (fun F => sg_X12_passes_4.trans ?_)
          rw [e36, if_pos (by omega), if_pos (by omega), Int.toNat_natCast, e72, if_pos g1, if_neg (by decide), if_pos (by omega), if_pos (by omega), e70, e71, q1, q_cI_s, if_pos (hm.mpr g3), qw1 (by omega)]
        · refine next M1 0 f1 (Or.inl rfl) ⟨fun h => by omega, fun h => absurd (h.2 g1) g3⟩ (fun F => sg_X12_passes_4.trans ?_)
          rw [e36, if_pos (by omega), if_pos (by omega), Int.toNat_natCast, e72, if_pos g1, if_neg (by decide), if_pos (by omega), if_pos (by omega), e70, e71, q1, q_cI_s, if_neg (fun h => g3 (hm.mp h)), qw1 (by omega)]
    · refine next M b hM hb ⟨fun h => ⟨h, fun h2 => absurd h2 g1⟩, fun h => h.1⟩ (fun F => sg_X12_passes_4.trans ?_)
      rw [e36, if_pos (by omega), if_pos (by omega), Int.toNat_natCast, e72, if_neg g1, qw1 (by omega)]
theorem mx_passes {sc : List Int} {d : Nat} {M : q_M} {n : Nat} {V : Nat → Int} {k : Int} (hn : M 49 36 = n) (hn2 : n ≤ 40) (hVr : ∀ i, 0 ≤ V i ∧ V i ≤ 2) (hV : ∀ (M' : q_M) (i : Nat), FE M M' → i < n → M 72 i = k → ∃ M'', pq sc (d - 1) 196 [.inr (.inr 49), .inl (M 70 i), .inl (M 71 i)] GF M' = some (some (.inl (mu (V i))), GF, M'') ∧ FE M M'') (hd : 1 ≤ d) : ∃ M' x, pq sc d 197 [.inr (.inr 49), .inl k] GF M = some (some (.inl x), GF, M') ∧ FE M M' ∧ ((x = 1 ∧ ∀ j, j < n → M 72 j = k → V j = 2) ∨ (x = 0 ∧ ¬ ∀ j, j < n → M 72 j = k → V j = 2)) := by
  obtain ⟨F, M', x, q1, r1, r2⟩ := mx_passT (sc := sc) (d := d - 1) hn hn2 hVr hV n 0 M 1 (by omega) FE_r (Or.inr rfl)
  refine ⟨M', x, (pq_e (by omega) (by decide) (Nat.le_of_ble_eq_true rfl) ⟨F + 1, sg_X12_passes_0.trans ?_⟩), r1, ?_⟩
  · exact q1
  · rcases r2 with ⟨e, -, r2⟩ | ⟨e, r2⟩
    · exact Or.inl ⟨e, fun j h2 => r2 j (Nat.zero_le _) h2⟩
    · exact Or.inr ⟨e, fun hh => r2 ⟨rfl, fun j _ h2 => hh j h2⟩⟩
