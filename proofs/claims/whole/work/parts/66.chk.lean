/-! the least of the places that are ill -/
theorem qw1 {i : Nat} (h : i < 2000) : q_w ((i : Int) + 1) = ((i + 1 : Nat) : Int) := by rw [q_wid (by omega) (by omega)]; omega
def IS (x : Int) (B : Int → Prop) : Prop := (x = -1 ∧ ∀ p, ¬ B p) ∨ (0 ≤ x ∧ B x ∧ ∀ p, B p → x ≤ p)
def nIl (x a : Int) : Int := if x = -1 then a else if a < x then a else x
theorem IS_u {x y : Int} {B : Int → Prop} (h : IS x B) (h' : IS y B) : x = y := by
  rcases h with ⟨h1, h2⟩ | ⟨h1, h2, h3⟩ <;> rcases h' with ⟨k1, k2⟩ | ⟨k1, k2, k3⟩
  · omega
  · exact absurd k2 (h2 _)
  · exact absurd h2 (k2 _)
  · have := h3 _ k2; have := k3 _ h2; omega
theorem IS_c {x : Int} {B B' : Int → Prop} (h : IS x B) (e : ∀ p, B p ↔ B' p) : IS x B' := by
  rcases h with ⟨h1, h2⟩ | ⟨h1, h2, h3⟩
  · exact Or.inl ⟨h1, fun p hp => h2 p ((e p).mpr hp)⟩
  · exact Or.inr ⟨h1, (e x).mp h2, fun p hp => h3 p ((e p).mpr hp)⟩
theorem IS_n {x a : Int} {B : Int → Prop} (h : IS x B) (ha : 0 ≤ a) : IS (nIl x a) (fun p => B p ∨ p = a) := by
  unfold nIl
  rcases h with ⟨h1, h2⟩ | ⟨h1, h2, h3⟩
  · rw [if_pos h1]
    exact Or.inr ⟨ha, Or.inr rfl, fun p hp => by rcases hp with hp | hp; exact absurd hp (h2 p); omega⟩
  · rw [if_neg (by omega)]
    by_cases g : a < x
    · rw [if_pos g]
      exact Or.inr ⟨ha, Or.inr rfl, fun p hp => by rcases hp with hp | hp; have := h3 p hp; omega; omega⟩
    · rw [if_neg g]
      exact Or.inr ⟨h1, Or.inl h2, fun p hp => by rcases hp with hp | hp; exact h3 p hp; omega⟩
theorem q_up_id {M : q_M} {k j : Nat} : q_up M k j (M k j) = M := by
  funext a b
  unfold q_up
  split
  · next h =>
    split
    · next h2 => rw [h, h2]
    · rfl
  · rfl
theorem sp_noteIll {sc : List Int} {d : Nat} {M : q_M} {a : Int} (hd : 1 ≤ d) : pq sc d 10 [.inr (.inr 42), .inl a] GF M = some (none, GF, q_up M 42 3 (nIl (M 42 3) a)) := by
  refine (pq_e (by omega) (by decide) (Nat.le_of_ble_eq_true rfl) ⟨0 + 1, sg_X1_noteIll_0.trans ?_⟩)
  unfold nIl
  by_cases h1 : M 42 3 = -1
  · rw [if_pos h1, if_pos h1]
  · rw [if_neg h1, if_neg h1]
    by_cases h2 : a < M 42 3
    · rw [if_pos h2, if_pos h2]
    · rw [if_neg h2, if_neg h2, q_up_id]
/-- the first item with an alias -/
def iw : List Int → Int → Int → Int
  | [], _, _ => -1
  | x :: l, a, k => if x = a then k else iw l a (k + 1)
theorem iw_s {a : Int} : ∀ (l : List Int) (k : Int), (iw l a k = -1 ∧ ∀ i : Nat, i < l.length → ¬ l.getD i 0 = a) ∨ (∃ i : Nat, i < l.length ∧ iw l a k = k + i ∧ l.getD i 0 = a ∧ ∀ j : Nat, j < i → ¬ l.getD j 0 = a)
  | [], k => Or.inl ⟨rfl, fun i hi => by simp at hi⟩
  | x :: l, k => by
    by_cases h : x = a
    · refine Or.inr ⟨0, by simp, ?_, by simpa using h, fun j hj => by omega⟩
      show (if x = a then k else _) = _
      rw [if_pos h]; simp
    · have e : iw (x :: l) a k = iw l a (k + 1) := by
        show (if x = a then k else iw l a (k + 1)) = _
        rw [if_neg h]
      rw [e]
      rcases iw_s (a := a) l (k + 1) with ⟨h1, h2⟩ | ⟨i, h1, h2, h3, h4⟩
      · refine Or.inl ⟨h1, fun i hi => ?_⟩
        rcases i with _ | i
        · simpa using h
        · simpa using h2 i (by simpa using hi)
      · refine Or.inr ⟨i + 1, by simpa using h1, by rw [h2]; omega, by simpa using h3, fun j hj => ?_⟩
        rcases j with _ | j
        · simpa using h
        · simpa using h4 j (by omega)
/-- the aliases of items -/
def als (C : Nat → Int) (tl : List Nat) : List Int := tl.map (fun t => C (t + 1))
def itm (C : Nat → Int) (tl : List Nat) (a : Int) : Int := iw (als C tl) a 0
theorem itm_s {C : Nat → Int} {tl : List Nat} {a : Int} : (itm C tl a = -1 ∧ ∀ (i t : Nat), tl[i]? = some t → ¬ C (t + 1) = a) ∨ (∃ i t : Nat, tl[i]? = some t ∧ itm C tl a = i ∧ C (t + 1) = a ∧ ∀ (j t' : Nat), j < i → tl[j]? = some t' → ¬ C (t' + 1) = a) := by
  have hg : ∀ (j t : Nat), tl[j]? = some t → (als C tl).getD j 0 = C (t + 1) := by
    intro j t h
    unfold als
    rw [List.getD_eq_getElem?_getD, List.getElem?_map, h]; rfl
  rcases iw_s (a := a) (als C tl) 0 with ⟨h1, h2⟩ | ⟨i, h1, h2, h3, h4⟩
  · refine Or.inl ⟨h1, fun i t ht => ?_⟩
    have hi : i < tl.length := (List.getElem?_eq_some_iff.mp ht).1
    rw [← hg i t ht]
    exact h2 i (by unfold als; simpa using hi)
  · have hi : i < tl.length := by unfold als at h1; simpa using h1
    have ht : tl[i]? = some tl[i] := List.getElem?_eq_getElem hi
    refine Or.inr ⟨i, tl[i], ht, by show iw _ _ _ = _; rw [h2]; omega, by rw [← hg i _ ht]; exact h3, fun j t' hj ht' => ?_⟩
    rw [← hg j t' ht']
    exact h4 j hj
/-- the items of the class, by their tokens -/
def IQ (M : q_M) (C P : Nat → Int) (tl : List Nat) : Prop := M 15 7 = tl.length ∧ tl.length ≤ 3 ∧ ∀ (i t : Nat), tl[i]? = some t → M 33 i = C t - 84 ∧ M 34 i = P t ∧ M 35 i = C (t + 1) ∧ M 36 i = P (t + 1)
theorem sp_itemWithT {sc : List Int} {orc : q_O} {M : q_M} {C P : Nat → Int} {tl : List Nat} {a : Int} (h : IQ M C P tl) : ∀ (l : List Nat) (i : Nat), (∀ j, tl[i + j]? = l[j]?) → i + l.length = tl.length → ∃ F, pr sc orc 73 F 2 [some (.inr (.inr 15)), some (.inl a), some (.inl (i : Int))] [] M = some (some (.inl (iw (als C l) a i)), GF, M) := by
  intro l
  induction l with
  | nil =>
    intro i hj hi
    refine ⟨0 + 1, sg_X5_itemWith_2.trans ?_⟩
    rw [h.1, if_neg (by simp at hi; omega)]
    rfl
  | cons t l ih =>
    intro i hj hi
    simp only [List.length_cons] at hi
    have ht : tl[i]? = some t := by have := hj 0; simpa using this
    have hl3 := h.2.1
    obtain ⟨F, q⟩ := ih (i + 1) (fun j => by have := hj (j + 1); rw [show i + (j + 1) = i + 1 + j by omega] at this; simpa using this) (by omega)
    rw [n1] at q
    have e35 := (h.2.2 i t ht).2.2.1
    by_cases g : C (t + 1) = a
    · refine ⟨0 + 1, sg_X5_itemWith_2.trans ?_⟩
      rw [h.1, if_pos (by omega), if_pos (by omega), if_pos (by omega), Int.toNat_natCast, e35, if_pos g]
      show _ = some (some (Sum.inl (if C (t + 1) = a then (i : Int) else _)), GF, M)
      rw [if_pos g]
    · refine ⟨F + 1, sg_X5_itemWith_2.trans ?_⟩
      rw [h.1, if_pos (by omega), if_pos (by omega), if_pos (by omega), Int.toNat_natCast, e35, if_neg g, q_wid (by omega) (by omega), q]
      show _ = some (some (Sum.inl (if C (t + 1) = a then (i : Int) else iw (als C l) a ((i : Int) + 1))), GF, M)
      rw [if_neg g]
theorem sp_itemWith {sc : List Int} {d : Nat} {M : q_M} {C P : Nat → Int} {tl : List Nat} {a : Int} (h : IQ M C P tl) (hd : 1 ≤ d) : pq sc d 73 [.inr (.inr 15), .inl a] GF M = some (some (.inl (itm C tl a)), GF, M) := by
  obtain ⟨F, q⟩ := sp_itemWithT (sc := sc) (orc := pq sc (d - 1)) (a := a) h tl 0 (fun j => by rw [Nat.zero_add]) (by omega)
  refine (pq_e (by omega) (by decide) (Nat.le_of_ble_eq_true rfl) ⟨F + 1, sg_X5_itemWith_0.trans ?_⟩)
  exact q
theorem sp_width {sc : List Int} {d : Nat} {M : q_M} {t : Nat} (ht : t < 3) (hd : 1 ≤ d) : pq sc d 96 [.inr (.inr 1), .inl (t : Int)] GF M = some (some (.inl (M 2 t)), GF, M) := by
  refine (pq_e (by omega) (by decide) (Nat.le_of_ble_eq_true rfl) ⟨0 + 1, sg_X7_width_0.trans ?_⟩)
  rw [if_neg (by omega), if_pos (by omega), if_pos (by omega), Int.toNat_natCast]
/-- tokens of items -/
def TI (C : Nat → Int) (tl : List Nat) : Prop := ∀ t ∈ tl, 84 ≤ C t ∧ C t ≤ 86 ∧ 119 ≤ C (t + 1) ∧ C (t + 1) ≤ 122
def PN (P : Nat → Int) : Prop := ∀ i, 0 ≤ P i
/-- items that are ill -/
def BI (W : Nat → Int) (C P : Nat → Int) (tl : List Nat) (i : Nat) (p : Int) : Prop := ∃ t, tl[i]? = some t ∧ ((W (C t - 84).toNat = 0 ∧ p = P t) ∨ (¬ itm C tl (C (t + 1)) = i ∧ p = P (t + 1)))
theorem cx_chkItT {sc : List Int} {d : Nat} {M0 : q_M} {C P : Nat → Int} {tl : List Nat} (h : IQ M0 C P tl) (hT : TI C tl) (hP : PN P) (hd : 3 ≤ d) : ∀ (m i : Nat) (M : q_M) (B : Int → Prop), i + m = tl.length → (∀ a, ¬ a = 42 → M a = M0 a) → IS (M 42 3) B → ∃ F M', pr sc (pq sc d) 11 F 2 [some (.inr (.inr 42)), some (.inl (i : Int))] [] M = some (none, GF, M') ∧ (∀ a, ¬ a = 42 → M' a = M0 a) ∧ IS (M' 42 3) (fun p => B p ∨ ∃ j, i ≤ j ∧ BI (M0 2) C P tl j p) := by
  intro m
  induction m with
  | zero =>
    intro i M B hi hM hB
    have q1 := sp_itemCount (sc := sc) (d := d) (M := M) (by omega)
    rw [hM 15 (by decide), h.1] at q1
    refine ⟨0 + 1, M, sg_X1_checkItems_2.trans ?_, hM, IS_c hB (fun p => ⟨Or.inl, fun hh => ?_⟩)⟩
    · rw [q1, q_cI_s, if_neg (by omega)]
    · rcases hh with hh | ⟨j, hj, t, ht, -⟩
      · exact hh
      · have := (List.getElem?_eq_some_iff.mp ht).1; omega
  | succ m ih =>
    intro i M B hi hM hB
    have hi3 : i < 3 := by have := h.2.1; omega
    have ht : tl[i]? = some tl[i] := List.getElem?_eq_getElem (by omega)
    generalize tl[i] = t at ht
    obtain ⟨e1, e2, e3, e4⟩ := h.2.2 i t ht
    obtain ⟨t1, t2, t3, t4⟩ := hT t (List.mem_of_getElem? ht)
    have hQ : ∀ N : q_M, (∀ a, ¬ a = 42 → N a = M0 a) → IQ N C P tl := fun N hN => by
      refine ⟨by rw [hN 15 (by decide)]; exact h.1, h.2.1, fun j t' hj => ?_⟩
      rw [hN 33 (by decide), hN 34 (by decide), hN 35 (by decide), hN 36 (by decide)]; exact h.2.2 j t' hj
    have q1 : ∀ N : q_M, (∀ a, ¬ a = 42 → N a = M0 a) → pq sc d 67 [.inr (.inr 15)] GF N = some (some (.inl (tl.length : Int)), GF, N) := fun N hN => by
      have q1 := sp_itemCount (sc := sc) (d := d) (M := N) (by omega)
      rw [hN 15 (by decide), h.1] at q1; exact q1
    have q2 : ∀ N : q_M, (∀ a, ¬ a = 42 → N a = M0 a) → pq sc d 68 [.inr (.inr 15), .inl (i : Int)] GF N = some (some (.inl (C t - 84)), GF, N) := fun N hN => by
      have q1 := sp_tableOf (sc := sc) (d := d) (M := N) hi3 (by omega)
      rw [hN 33 (by decide), e1] at q1; exact q1
    have q3 : ∀ N : q_M, (∀ a, ¬ a = 42 → N a = M0 a) → pq sc d 96 [.inr (.inr 1), .inl (C t - 84)] GF N = some (some (.inl (M0 2 (C t - 84).toNat)), GF, N) := fun N hN => by
      have q1 := sp_width (sc := sc) (d := d) (M := N) (t := (C t - 84).toNat) (by omega) (by omega)
      rw [hN 2 (by decide), show (((C t - 84).toNat : Nat) : Int) = C t - 84 by omega] at q1; exact q1
    have q4 : ∀ N : q_M, (∀ a, ¬ a = 42 → N a = M0 a) → pq sc d 69 [.inr (.inr 15), .inl (i : Int)] GF N = some (some (.inl (P t)), GF, N) := fun N hN => by
      have q1 := sp_tablePlaceOf (sc := sc) (d := d) (M := N) hi3 (by omega)
      rw [hN 34 (by decide), e2] at q1; exact q1
    have q5 : ∀ N : q_M, (∀ a, ¬ a = 42 → N a = M0 a) → pq sc d 70 [.inr (.inr 15), .inl (i : Int)] GF N = some (some (.inl (C (t + 1))), GF, N) := fun N hN => by
      have q1 := sp_qaliasOf (sc := sc) (d := d) (M := N) hi3 (by omega)
      rw [hN 35 (by decide), e3] at q1; exact q1
    have q6 : ∀ N : q_M, (∀ a, ¬ a = 42 → N a = M0 a) → pq sc d 73 [.inr (.inr 15), .inl (C (t + 1))] GF N = some (some (.inl (itm C tl (C (t + 1)))), GF, N) := fun N hN => sp_itemWith (hQ N hN) (by omega)
    have q7 : ∀ N : q_M, (∀ a, ¬ a = 42 → N a = M0 a) → pq sc d 71 [.inr (.inr 15), .inl (i : Int)] GF N = some (some (.inl (P (t + 1))), GF, N) := fun N hN => by
      have q1 := sp_aliasPlaceOf (sc := sc) (d := d) (M := N) hi3 (by omega)
      rw [hN 36 (by decide), e4] at q1; exact q1
    have hup : ∀ (N : q_M) (v : Int), (∀ a, ¬ a = 42 → N a = M0 a) → (∀ a, ¬ a = 42 → q_up N 42 3 v a = M0 a) := fun N v hN a ha => (q_upf ha).trans (hN a ha)
    -- the rest, from a memory where the item is noted
    have fin : ∀ (N : q_M) (B' : Int → Prop), (∀ a, ¬ a = 42 → N a = M0 a) → IS (N 42 3) B' → (∀ p, B' p ↔ (B p ∨ BI (M0 2) C P tl i p)) → (∀ F, pr sc (pq sc d) 11 (F + 1) 2 [some (.inr (.inr 42)), some (.inl (i : Int))] [] M = pr sc (pq sc d) 11 F 2 [some (.inr (.inr 42)), some (.inl ((i + 1 : Nat) : Int))] [] N) → ∃ F M', pr sc (pq sc d) 11 F 2 [some (.inr (.inr 42)), some (.inl (i : Int))] [] M = some (none, GF, M') ∧ (∀ a, ¬ a = 42 → M' a = M0 a) ∧ IS (M' 42 3) (fun p => B p ∨ ∃ j, i ≤ j ∧ BI (M0 2) C P tl j p) := by
      intro N B' hN hB' hBB hst
      obtain ⟨F, M', q, hf, hI⟩ := ih (i + 1) N B' (by omega) hN hB'
      refine ⟨F + 1, M', (hst F).trans q, hf, IS_c hI (fun p => ⟨fun hh => ?_, fun hh => ?_⟩)⟩
      · rcases hh with hh | ⟨j, hj, hh⟩
        · rcases (hBB p).mp hh with hh | hh
          · exact Or.inl hh
          · exact Or.inr ⟨i, Nat.le_refl _, hh⟩
        · exact Or.inr ⟨j, by omega, hh⟩
      · rcases hh with hh | ⟨j, hj, hh⟩
        · exact Or.inl ((hBB p).mpr (Or.inl hh))
        · by_cases e : j = i
          · subst e; exact Or.inl ((hBB p).mpr (Or.inr hh))
          · exact Or.inr ⟨j, by omega, hh⟩
    have bi : ∀ p, BI (M0 2) C P tl i p ↔ ((M0 2 (C t - 84).toNat = 0 ∧ p = P t) ∨ (¬ itm C tl (C (t + 1)) = i ∧ p = P (t + 1))) := fun p => by
      constructor
      · rintro ⟨t', ht', hh⟩
        rw [ht] at ht'; cases ht'; exact hh
      · intro hh; exact ⟨t, ht, hh⟩
    by_cases g1 : M0 2 (C t - 84).toNat = 0
    · have hM1 := hup M (nIl (M 42 3) (P t)) hM
      have hB1 := IS_n hB (hP t)
      by_cases g2 : itm C tl (C (t + 1)) = i
      · refine fin _ _ hM1 (by rw [q_up_s]; exact hB1) (fun p => ?_) (fun F => sg_X1_checkItems_2.trans ?_)
        · rw [bi]
          constructor
          · rintro (hh | hh)
            · exact Or.inl hh
            · exact Or.inr (Or.inl ⟨g1, hh⟩)
          · rintro (hh | ⟨-, hh⟩ | ⟨hh, -⟩)
            · exact Or.inl hh
            · exact Or.inr hh
            · exact absurd g2 hh
        · rw [q1 M hM, q_cI_s, if_pos (by omega), q2 M hM, q_cI_s, q3 M hM, q_cI_s, if_pos g1, q4 M hM, q_cI_s, sp_noteIll (by omega), q_c0_s, q5 _ hM1, q_cI_s, q6 _ hM1, q_cI_s, if_pos g2, qw1 (by omega)]
      · have hM2 := hup _ (nIl ((q_up M 42 3 (nIl (M 42 3) (P t))) 42 3) (P (t + 1))) hM1
        have hB2 := IS_n hB1 (hP (t + 1))
        refine fin _ _ hM2 (by rw [q_up_s, q_up_s]; exact hB2) (fun p => ?_) (fun F => sg_X1_checkItems_2.trans ?_)
        · rw [bi]
          constructor
          · rintro ((hh | hh) | hh)
            · exact Or.inl hh
            · exact Or.inr (Or.inl ⟨g1, hh⟩)
            · exact Or.inr (Or.inr ⟨g2, hh⟩)
          · rintro (hh | ⟨-, hh⟩ | ⟨-, hh⟩)
            · exact Or.inl (Or.inl hh)
            · exact Or.inl (Or.inr hh)
            · exact Or.inr hh
        · rw [q1 M hM, q_cI_s, if_pos (by omega), q2 M hM, q_cI_s, q3 M hM, q_cI_s, if_pos g1, q4 M hM, q_cI_s, sp_noteIll (by omega), q_c0_s, q5 _ hM1, q_cI_s, q6 _ hM1, q_cI_s, if_neg g2, q7 _ hM1, q_cI_s, sp_noteIll (by omega), q_c0_s, qw1 (by omega)]
    · by_cases g2 : itm C tl (C (t + 1)) = i
      · refine fin _ _ hM hB (fun p => ?_) (fun F => sg_X1_checkItems_2.trans ?_)
        · rw [bi]
          constructor
          · intro hh; exact Or.inl hh
          · rintro (hh | ⟨hh, -⟩ | ⟨hh, -⟩)
            · exact hh
            · exact absurd hh g1
            · exact absurd g2 hh
        · rw [q1 M hM, q_cI_s, if_pos (by omega), q2 M hM, q_cI_s, q3 M hM, q_cI_s, if_neg g1, q5 M hM, q_cI_s, q6 M hM, q_cI_s, if_pos g2, qw1 (by omega)]
      · have hM2 := hup M (nIl (M 42 3) (P (t + 1))) hM
        have hB2 := IS_n hB (hP (t + 1))
        refine fin _ _ hM2 (by rw [q_up_s]; exact hB2) (fun p => ?_) (fun F => sg_X1_checkItems_2.trans ?_)
        · rw [bi]
          constructor
          · rintro (hh | hh)
            · exact Or.inl hh
            · exact Or.inr (Or.inr ⟨g2, hh⟩)
          · rintro (hh | ⟨hh, -⟩ | ⟨-, hh⟩)
            · exact Or.inl hh
            · exact absurd hh g1
            · exact Or.inr hh
        · rw [q1 M hM, q_cI_s, if_pos (by omega), q2 M hM, q_cI_s, q3 M hM, q_cI_s, if_neg g1, q5 M hM, q_cI_s, q6 M hM, q_cI_s, if_neg g2, q7 M hM, q_cI_s, sp_noteIll (by omega), q_c0_s, qw1 (by omega)]
