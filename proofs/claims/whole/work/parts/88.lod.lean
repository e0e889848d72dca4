/-! a line is loaded -/
/-- tables, both ways -/
def DB (X Y : q_M) : Prop := (∀ t, t < 3 → X 2 t = Y 51 t ∧ X 3 t = Y 52 t ∧ 0 ≤ Y 52 t ∧ Y 52 t ≤ 10 ∧ 0 ≤ Y 51 t ∧ Y 51 t ≤ 4) ∧ ∀ (t l c : Nat), t < 3 → (l : Int) < Y 52 t → (c : Int) < Y 51 t → X 4 (40 * t + 4 * l + c) = Y 53 (40 * t + 4 * l + c) ∧ X 5 (40 * t + 4 * l + c) = Y 54 (40 * t + 4 * l + c)
theorem sp_cell {sc : List Int} {d : Nat} {X : q_M} {t l c : Nat} (ht : t < 3) (hl : (l : Int) < X 3 t) (hl2 : X 3 t ≤ 10) (hc : (c : Int) < X 2 t) (hc2 : X 2 t ≤ 4) (hd : 1 ≤ d) : pq sc d 103 [.inr (.inr 1), .inl (t : Int), .inl (l : Int), .inl (c : Int)] GF X = some (some (.inl ((40 * t + 4 * l + c : Nat) : Int)), GF, X) := by
  refine (pq_e (by omega) (by decide) (Nat.le_of_ble_eq_true rfl) ⟨0 + 1, sg_X7_cellOf_0.trans ?_⟩)
  rw [if_neg (by omega), if_pos (by omega), if_neg (by omega), if_pos (by omega), if_pos (by omega), Int.toNat_natCast, if_pos hl, if_neg (by omega), if_pos (by omega), if_pos (by omega), if_pos hc, q_wid (x := (t : Int) * 10) (by omega) (by omega), q_wid (x := (t : Int) * 10 + l) (by omega) (by omega), q_wid (x := ((t : Int) * 10 + l) * 4) (by omega) (by omega), q_wid (by omega) (by omega), show ((t : Int) * 10 + l) * 4 + c = ((40 * t + 4 * l + c : Nat) : Int) by omega]
theorem sp_cellN {sc : List Int} {d : Nat} {X : q_M} {t : Nat} {c : Int} (ht : t < 3) (hd : 1 ≤ d) : pq sc d 103 [.inr (.inr 1), .inl (t : Int), .inl (-1), .inl c] GF X = some (some (.inl (-1)), GF, X) := by
  refine (pq_e (by omega) (by decide) (Nat.le_of_ble_eq_true rfl) ⟨0 + 1, sg_X7_cellOf_0.trans ?_⟩)
  rw [if_neg (by omega), if_pos (by omega), if_pos (by decide)]
/-- what a cell of a table holds, as the class sees it -/
def vN (X : q_M) (t : Nat) (l : Int) (c : Int) : Int := if l < 0 then 0 else X 4 (40 * t + 4 * l.toNat + c.toNat)
def vU (X : q_M) (t : Nat) (l : Int) (c : Int) : Int := if l < 0 then 1 else if X 5 (40 * t + 4 * l.toNat + c.toNat) = 0 then 0 else 1
theorem sp_tnum {sc : List Int} {d : Nat} {X : q_M} {t : Nat} {l c : Int} (ht : t < 3) (hl : l = -1 ∨ (0 ≤ l ∧ l < X 3 t)) (hl2 : X 3 t ≤ 10) (hc : 0 ≤ c ∧ c < X 2 t) (hc2 : X 2 t ≤ 4) (hd : 2 ≤ d) : pq sc d 101 [.inr (.inr 1), .inl (t : Int), .inl l, .inl c] GF X = some (some (.inl (vN X t l c)), GF, X) ∧ pq sc d 102 [.inr (.inr 1), .inl (t : Int), .inl l, .inl c] GF X = some (some (.inl (vU X t l c)), GF, X) := by
  unfold vN vU
  rcases hl with rfl | ⟨h1, h2⟩
  · have q1 := sp_cellN (sc := sc) (d := d - 1) (X := X) (c := c) ht (by omega)
    rw [if_pos (by decide), if_pos (by decide)]
    refine ⟨(pq_e (by omega) (by decide) (Nat.le_of_ble_eq_true rfl) ⟨0 + 1, sg_X7_numberAt_0.trans ?_⟩), (pq_e (by omega) (by decide) (Nat.le_of_ble_eq_true rfl) ⟨0 + 1, sg_X7_unknownAt_0.trans ?_⟩)⟩
    · rw [q1, q_cI_s, if_pos rfl]
    · rw [q1, q_cI_s, if_pos rfl]
  · have q1 := sp_cell (sc := sc) (d := d - 1) (X := X) (l := l.toNat) (c := c.toNat) ht (by omega) hl2 (by omega) hc2 (by omega)
    rw [show ((l.toNat : Nat) : Int) = l by omega, show ((c.toNat : Nat) : Int) = c by omega] at q1
    rw [if_neg (by omega), if_neg (by omega)]
    refine ⟨(pq_e (by omega) (by decide) (Nat.le_of_ble_eq_true rfl) ⟨0 + 1, sg_X7_numberAt_0.trans ?_⟩), (pq_e (by omega) (by decide) (Nat.le_of_ble_eq_true rfl) ⟨0 + 1, sg_X7_unknownAt_0.trans ?_⟩)⟩
    · rw [q1, q_cI_s, if_neg (by omega), if_pos (by omega), Int.toNat_natCast]
    · rw [q1, q_cI_s, if_neg (by omega), if_pos (by omega), Int.toNat_natCast]
      by_cases z : X 5 (40 * t + 4 * l.toNat + c.toNat) = 0
      · rw [if_pos z, if_pos z]
      · rw [if_neg z, if_neg z]
theorem cx_loadT {sc : List Int} {d : Nat} {X0 : q_M} {n t : Nat} {k l : Int} (hn : X0 16 7 = n) (hn2 : n ≤ 130) (ht : t < 3) (hl : l = -1 ∨ (0 ≤ l ∧ l < X0 3 t)) (hl2 : X0 3 t ≤ 10) (hc2 : X0 2 t ≤ 4) (hc : ∀ i, i < n → X0 21 i = k → 0 ≤ X0 19 i ∧ X0 19 i < X0 2 t) (hd : 2 ≤ d) : ∀ (m i : Nat) (X : q_M), i + m = n → (∀ a, ¬ a = 22 → ¬ a = 23 → X a = X0 a) → ∃ F X', pr sc (pq sc d) 41 F 3 [some (.inr (.inr 16)), some (.inl k), some (.inr (.inr 1)), some (.inl (t : Int)), some (.inl l), some (.inl (i : Int))] [] X = some (none, GF, X') ∧ (∀ a, ¬ a = 22 → ¬ a = 23 → X' a = X0 a) ∧ (∀ j, j < i → X' 22 j = X 22 j ∧ X' 23 j = X 23 j) ∧ (∀ j, i ≤ j → j < n → (X0 21 j = k → X' 22 j = vN X0 t l (X0 19 j) ∧ X' 23 j = vU X0 t l (X0 19 j)) ∧ (¬ X0 21 j = k → X' 22 j = X 22 j ∧ X' 23 j = X 23 j)) := by
  intro m
  induction m with
  | zero =>
    intro i X hi hX
    refine ⟨0 + 1, X, sg_X3_load_3.trans ?_, hX, fun _ _ => ⟨rfl, rfl⟩, fun j h1 h2 => by omega⟩
    rw [hX 16 (by decide) (by decide), hn, if_neg (by omega)]
  | succ m ih =>
    intro i X hi hX
    by_cases g : X0 21 i = k
    · have hci := hc i (by omega) g
      have e2 : X 2 = X0 2 := hX 2 (by decide) (by decide)
      have e3 : X 3 = X0 3 := hX 3 (by decide) (by decide)
      have q1 := (sp_tnum (sc := sc) (d := d) (X := X) (l := l) (c := X0 19 i) ht (by rw [e3]; exact hl) (by rw [e3]; exact hl2) (by rw [e2]; exact hci) (by rw [e2]; exact hc2) hd).1
      have ev : vN X t l (X0 19 i) = vN X0 t l (X0 19 i) := by unfold vN; rw [hX 4 (by decide) (by decide)]
      rw [ev] at q1
      generalize hA : q_up X 22 i (vN X0 t l (X0 19 i)) = A at *
      have hAX : ∀ a, ¬ a = 22 → A a = X a := fun a ha => by rw [← hA, q_upf ha]
      have q2 := (sp_tnum (sc := sc) (d := d) (X := A) (l := l) (c := X0 19 i) ht (by rw [hAX 3 (by decide), e3]; exact hl) (by rw [hAX 3 (by decide), e3]; exact hl2) (by rw [hAX 2 (by decide), e2]; exact hci) (by rw [hAX 2 (by decide), e2]; exact hc2) hd).2
      have ev2 : vU A t l (X0 19 i) = vU X0 t l (X0 19 i) := by unfold vU; rw [hAX 5 (by decide), hX 5 (by decide) (by decide)]
      rw [ev2] at q2
      have hu : vU X0 t l (X0 19 i) = 0 ∨ vU X0 t l (X0 19 i) = 1 := by unfold vU; split; exact Or.inr rfl; split; exact Or.inl rfl; exact Or.inr rfl
      generalize hB : q_up A 23 i (vU X0 t l (X0 19 i)) = B at *
      have hBX : ∀ a, ¬ a = 22 → ¬ a = 23 → B a = X0 a := fun a h1 h2 => by rw [← hB, q_upf h2, hAX a h1]; exact hX a h1 h2
      have B22 : ∀ j, ¬ j = i → B 22 j = X 22 j := fun j hj => by rw [← hB, q_up_ne (by decide), ← hA, q_up_sn hj]
      have B23 : ∀ j, ¬ j = i → B 23 j = X 23 j := fun j hj => by rw [← hB, q_up_sn hj, hAX 23 (by decide)]
      have B22i : B 22 i = vN X0 t l (X0 19 i) := by rw [← hB, q_up_ne (by decide), ← hA, q_up_s]
      have B23i : B 23 i = vU X0 t l (X0 19 i) := by rw [← hB, q_up_s]
      obtain ⟨F, X', q3, r1, r2, r3⟩ := ih (i + 1) B (by omega) hBX
      refine ⟨F + 1, X', sg_X3_load_3.trans ?_, r1, fun j hj => ?_, fun j h1 h2 => ?_⟩
      · rw [hX 16 (by decide) (by decide), hn, if_pos (by omega), if_pos (by omega), if_pos (by omega), Int.toNat_natCast, hX 21 (by decide) (by decide), if_pos g, if_pos (by omega), hX 19 (by decide) (by decide), q1, q_cI_s, if_pos (by omega), if_pos (by omega), hX 19 (by decide) (by decide), hA, q2, q_cI_s, if_pos (by omega), if_pos (Or.inr (Or.inl ⟨rfl, hu⟩)), hB, qw1 (by omega), q3]
      · rw [(r2 j (by omega)).1, (r2 j (by omega)).2]
        exact ⟨B22 j (by omega), B23 j (by omega)⟩
      · by_cases z : j = i
        · subst z
          rw [(r2 j (by omega)).1, (r2 j (by omega)).2]
          exact ⟨fun _ => ⟨B22i, B23i⟩, fun hh => absurd g hh⟩
        · have := r3 j (by omega) h2
          rw [B22 j z, B23 j z] at this
          exact this
    · obtain ⟨F, X', q3, r1, r2, r3⟩ := ih (i + 1) X (by omega) hX
      refine ⟨F + 1, X', sg_X3_load_3.trans ?_, r1, fun j hj => r2 j (by omega), fun j h1 h2 => ?_⟩
      · rw [hX 16 (by decide) (by decide), hn, if_pos (by omega), if_pos (by omega), if_pos (by omega), Int.toNat_natCast, hX 21 (by decide) (by decide), if_neg g, qw1 (by omega), q3]
      · by_cases z : j = i
        · subst z
          exact ⟨fun hh => absurd hh g, fun _ => r2 j (by omega)⟩
        · exact r3 j (by omega) h2
/-- what a class's run may change -/
def GX (X X' : q_M) : Prop := ∀ a, ¬ a = 22 → ¬ a = 23 → ¬ a = 32 → ¬ (43 ≤ a ∧ a ≤ 48) → X' a = X a
theorem GX_r {X : q_M} : GX X X := fun _ _ _ _ _ => rfl
theorem GX_t {X X' X'' : q_M} (h : GX X X') (h' : GX X' X'') : GX X X'' := fun a h1 h2 h3 h4 => (h' a h1 h2 h3 h4).trans (h a h1 h2 h3 h4)
/-- what a model's run may change -/
def GY (Y Y' : q_M) : Prop := (∀ a, ¬ (73 ≤ a ∧ a ≤ 80) → ¬ a = 49 → Y' a = Y a) ∧ (∀ j, ¬ j = 44 → ¬ j = 45 → ¬ (47 ≤ j ∧ j ≤ 49) → ¬ j = 54 → Y' 49 j = Y 49 j)
theorem GY_r {Y : q_M} : GY Y Y := ⟨fun _ _ _ => rfl, fun _ _ _ _ _ => rfl⟩
theorem GY_t {Y Y' Y'' : q_M} (h : GY Y Y') (h' : GY Y' Y'') : GY Y Y'' := ⟨fun a h1 h2 => (h'.1 a h1 h2).trans (h.1 a h1 h2), fun j h1 h2 h3 h4 => (h'.2 j h1 h2 h3 h4).trans (h.2 j h1 h2 h3 h4)⟩
theorem FE_G {Y Y' : q_M} (h : FE Y Y') : GY Y Y' := ⟨fun a h1 h2 => h.1 a (by omega) h2, fun j h1 h2 _ h4 => h.2 j h1 h2 h4⟩
theorem QC_fr {X X' : q_M} {C N : Nat → Int} (h : QC X C N) (hg : GX X X') (hc : ∀ (i : Nat) x, (qOps C)[i]? = some x → cst C x.1 → X' 22 i = X 22 i ∧ X' 23 i = X 23 i) : QC X' C N := by
  have g : ∀ a, ¬ a = 22 → ¬ a = 23 → ¬ a = 32 → ¬ (43 ≤ a ∧ a ≤ 48) → X' a = X a := hg
  obtain ⟨h1, h2, h3, h4, h5, h6⟩ := h
  refine ⟨?_, ?_, ?_, ⟨?_, h4.2.1, fun i x hx => ?_⟩, ⟨SA_fr h5.1 (fun a b c => g a (by omega) (by omega) (by omega) (by omega)) (by rw [g 24 (by decide) (by decide) (by decide) (by decide)]), h5.2⟩, ⟨?_, h6.2.1, fun i x hx => ?_⟩⟩
  · rw [g 15 (by decide) (by decide) (by decide) (by decide), g 33 (by decide) (by decide) (by decide) (by decide), g 37 (by decide) (by decide) (by decide) (by decide)]; exact h1
  · unfold UQ at h2 ⊢
    rw [g 15 (by decide) (by decide) (by decide) (by decide), g 38 (by decide) (by decide) (by decide) (by decide), g 39 (by decide) (by decide) (by decide) (by decide)]; exact h2
  · unfold GQ at h3 ⊢
    rw [g 15 (by decide) (by decide) (by decide) (by decide), g 40 (by decide) (by decide) (by decide) (by decide)]; exact h3
  · rw [g 16 (by decide) (by decide) (by decide) (by decide)]; exact h4.1
  · rw [g 19 (by decide) (by decide) (by decide) (by decide), g 21 (by decide) (by decide) (by decide) (by decide)]
    obtain ⟨a1, a2, a3⟩ := h4.2.2 i x hx
    refine ⟨a1, a2, fun hh => ?_⟩
    rw [(hc i x hx hh).1, (hc i x hx hh).2]; exact a3 hh
  · rw [g 24 (by decide) (by decide) (by decide) (by decide)]; exact h6.1
  · rw [g 28 (by decide) (by decide) (by decide) (by decide), g 29 (by decide) (by decide) (by decide) (by decide), g 30 (by decide) (by decide) (by decide) (by decide), g 31 (by decide) (by decide) (by decide) (by decide)]
    obtain ⟨a1, a2, a3, a4, a5⟩ := h6.2.2 i x hx
    exact ⟨a1, a2, a3, a4, fun hh => MX_c (a5 hh) (fun k => (SS_fr (g 21 (by decide) (by decide) (by decide) (by decide)) (g 26 (by decide) (by decide) (by decide) (by decide)) (g 27 (by decide) (by decide) (by decide) (by decide)) k).symm)⟩
theorem QM_fr {Y Y' : q_M} {C P N : Nat → Int} {ls : List (Nat × Nat)} (h : QM Y C P N ls) (hg : GY Y Y') : QM Y' C P N ls := by
  obtain ⟨⟨h1, h2, h3, h4, h5, h6, h7⟩, hP, hG⟩ := h
  refine ⟨⟨?_, h2, MI_fr h3 (fun a _ _ => hg.1 a (by omega) (by omega)) (hg.2 26 (by decide) (by decide) (by decide) (by decide)), MO_fr h4 (hg.1 62 (by decide) (by decide)) (hg.1 63 (by decide) (by decide)) (hg.2 23 (by decide) (by decide) (by decide) (by decide)), MG_fr h5 (hg.1 69 (by decide) (by decide)) (hg.2 34 (by decide) (by decide) (by decide) (by decide)), by rw [hg.2 32 (by decide) (by decide) (by decide) (by decide)]; exact h6, by rw [hg.2 33 (by decide) (by decide) (by decide) (by decide)]; exact h7⟩, ?_, by rw [hg.2 40 (by decide) (by decide) (by decide) (by decide)]; exact hG⟩
  · unfold MK at h1 ⊢
    rw [hg.1 58 (by decide) (by decide), hg.1 59 (by decide) (by decide), hg.1 60 (by decide) (by decide)]; exact h1
  · unfold PM at hP ⊢
    rw [hg.2 36 (by decide) (by decide) (by decide) (by decide), hg.1 70 (by decide) (by decide), hg.1 71 (by decide) (by decide), hg.1 72 (by decide) (by decide)]; exact hP
theorem RS_fr {X X' Y Y' : q_M} {C P N : Nat → Int} {ls : List (Nat × Nat)} {tp : List (Nat × Nat × Nat)} {md : Nat} (h : RS X Y C P N ls tp md) (hx : GX X X') (hc : ∀ (i : Nat) x, (qOps C)[i]? = some x → cst C x.1 → X' 22 i = X 22 i ∧ X' 23 i = X 23 i) (hy : GY Y Y') (hw : NW Y') : RS X' Y' C P N ls tp md := by
  obtain ⟨h1, h2, h3, h4, h5, h6, h7, h8⟩ := h
  exact ⟨h1, h2, h3, QC_fr h4 hx hc, QM_fr h5 hy, h6, by rw [hy.1 51 (by decide) (by decide)]; exact h7, hw⟩
theorem DB_fr {X X' Y Y' : q_M} (h : DB X Y) (hx : GX X X') (hy : GY Y Y') : DB X' Y' := by
  have g : ∀ a, ¬ a = 22 → ¬ a = 23 → ¬ a = 32 → ¬ (43 ≤ a ∧ a ≤ 48) → X' a = X a := hx
  unfold DB at h ⊢
  rw [g 2 (by decide) (by decide) (by decide) (by decide), g 3 (by decide) (by decide) (by decide) (by decide), g 4 (by decide) (by decide) (by decide) (by decide), g 5 (by decide) (by decide) (by decide) (by decide), hy.1 51 (by decide) (by decide), hy.1 52 (by decide) (by decide), hy.1 53 (by decide) (by decide), hy.1 54 (by decide) (by decide)]
  exact h
/-- item k's line l is loaded -/
theorem ev_load {sc : List Int} {d : Nat} {X Y Y' : q_M} {C P N : Nat → Int} {ls : List (Nat × Nat)} {tp : List (Nat × Nat × Nat)} {md k tk : Nat} {l : Int} (h : RS X Y C P N ls tp md) (hD : DB X Y) (hL : LV X Y C N (k : Int)) (hk : (qTl C)[k]? = some tk) (hl : l = -1 ∨ (0 ≤ l ∧ l < Y 52 (C tk - 84).toNat)) (h76 : Y' 76 k = l) (h76i : ∀ j, ¬ j = k → Y' 76 j = Y 76 j) (h53 : Y' 53 = Y 53) (h54 : Y' 54 = Y 54) (hd : 3 ≤ d) : ∃ X', pq sc d 41 [.inr (.inr 16), .inl (k : Int), .inr (.inr 1), .inl (C tk - 84), .inl l] GF X = some (none, GF, X') ∧ GX X X' ∧ (∀ (i : Nat) x, (qOps C)[i]? = some x → cst C x.1 → X' 22 i = X 22 i ∧ X' 23 i = X 23 i) ∧ (∀ a, ¬ a = 22 → ¬ a = 23 → X' a = X a) ∧ LV X' Y' C N ((k : Int) + 1) := by
  obtain ⟨hq, hF, hkR, hC, hM, hWP, hN, hW⟩ := h
  have hO := hC.2.2.2.1
  have hkl := (List.getElem?_eq_some_iff.mp hk).1
  obtain ⟨t1, t2, t3, t4, t5⟩ := hF.1.2 tk (List.mem_of_getElem? hk)
  have hkl3 := hF.1.1
  obtain ⟨d1, d2, d3, d4, d5, d6⟩ := hD.1 (C tk - 84).toNat (by omega)
  have hOT := OT_q hF
  have egd : (qTl C).getD k 0 = tk := by rw [List.getD_eq_getElem?_getD, hk]; rfl
  have hwof : wof (Y 51) C (qTl C) (k : Int) = Y 51 (C tk - 84).toNat := by unfold wof; rw [Int.toNat_natCast, egd]
  -- letters of the item's columns
  have hlet : ∀ (i : Nat) x, (qOps C)[i]? = some x → X 21 i = (k : Int) → ¬ cst C x.1 ∧ itm C (qTl C) (C x.1) = (k : Int) ∧ X 19 i = C (x.1 + 2) - 97 ∧ 0 ≤ C (x.1 + 2) - 97 ∧ C (x.1 + 2) - 97 < Y 51 (C tk - 84).toNat := by
    intro i x hx e21
    obtain ⟨a1, a2, -⟩ := hO.2.2 i x hx
    rw [e21] at a2
    by_cases hc : C x.1 = 258 ∨ C x.1 = 274
    · rw [if_pos hc] at a2; omega
    · rw [if_neg hc] at a2
      have hm := List.mem_of_getElem? hx
      have n3 := (hN.1 x hm hc).2.2
      rw [← a2, hwof] at n3
      have ot := (hOT x hm).resolve_left hc
      refine ⟨hc, a2.symm, ?_, by omega, n3⟩
      rw [a1]; unfold opL; exact if_neg hc
  obtain ⟨F, X', q1, r1, -, r3⟩ := cx_loadT (sc := sc) (d := d - 1) (X0 := X) (t := (C tk - 84).toNat) (k := (k : Int)) (l := l) hO.1 hO.2.1 (by omega) (by rw [d2]; exact hl) (by omega) (by omega) (fun i hi e21 => by
    obtain ⟨-, -, b3, b4, b5⟩ := hlet i _ (List.getElem?_eq_getElem hi) e21
    rw [b3, d1]; exact ⟨b4, b5⟩) (by omega) (qOps C).length 0 X (by omega) (fun _ _ _ => rfl)
  refine ⟨X', (pq_e (by omega) (by decide) (Nat.le_of_ble_eq_true rfl) ⟨F + 1, sg_X3_load_0.trans ?_⟩), fun a h1 h2 _ _ => r1 a h1 h2, fun i x hx hc => ?_, r1, fun i x hx hc hlt => ?_⟩
  · rw [← show (((C tk - 84).toNat : Nat) : Int) = C tk - 84 by omega]; exact q1
  · refine (r3 i (Nat.zero_le _) (List.getElem?_eq_some_iff.mp hx).1).2 (fun e21 => ?_)
    exact (hlet i x hx e21).1 hc
  · have e21 : X 21 i = itm C (qTl C) (C x.1) := by
      rw [(hO.2.2 i x hx).2.1]; exact if_neg hc
    have hm := List.mem_of_getElem? hx
    have ni := (hN.1 x hm hc).1
    have hc' : ¬ C x.1 = 274 ∧ ¬ C x.1 = 258 := ⟨fun e => hc (Or.inr e), fun e => hc (Or.inl e)⟩
    by_cases g : itm C (qTl C) (C x.1) = (k : Int)
    · have e21' : X 21 i = (k : Int) := e21.trans g
      obtain ⟨-, -, b3, b4, b5⟩ := hlet i x hx e21'
      obtain ⟨v1, v2⟩ := (r3 i (Nat.zero_le _) (List.getElem?_eq_some_iff.mp hx).1).1 e21'
      have eK : kI C (qTl C) x.1 = k := by unfold kI; rw [g]; omega
      rw [v1, v2, b3]
      unfold obM onM
      rw [if_neg hc'.1, if_neg hc'.2, if_neg hc'.1, if_neg hc'.2, eK]
      unfold fB fN vU vN cI
      rw [h76, h53, h54, egd]
      rcases hl with rfl | ⟨l1, l2⟩
      · rw [if_pos (by decide), if_pos (by decide), if_pos (by decide), if_pos (by decide)]
        exact ⟨rfl, fun h => by omega⟩
      · have hl0 : ¬ l < 0 := by omega
        simp only [if_neg hl0]
        have en : (40 * (C tk - 84) + 4 * l + (C (x.1 + 2) - 97)).toNat = 40 * (C tk - 84).toNat + 4 * l.toNat + (C (x.1 + 2) - 97).toNat := by omega
        rw [en]
        obtain ⟨c1, c2⟩ := hD.2 (C tk - 84).toNat l.toNat (C (x.1 + 2) - 97).toNat (by omega) (by omega) (by omega)
        rw [c1, c2]
        have hb := hW.2 (40 * (C tk - 84).toNat + 4 * l.toNat + (C (x.1 + 2) - 97).toNat) (by omega)
        rcases hb with hb | hb
        · rw [hb]; exact ⟨rfl, fun _ => rfl⟩
        · rw [hb]; exact ⟨rfl, fun h => by simp at h⟩
    · obtain ⟨v1, v2⟩ := (r3 i (Nat.zero_le _) (List.getElem?_eq_some_iff.mp hx).1).2 (by rw [e21]; exact g)
      rw [v1, v2]
      have hLL := hL i x hx hc (by omega)
      have eK : ¬ kI C (qTl C) x.1 = k := by unfold kI; omega
      have e1 : obM C (qTl C) Y' x.1 = obM C (qTl C) Y x.1 ∧ onM C N (qTl C) Y' x.1 = onM C N (qTl C) Y x.1 := by
        unfold obM onM fB fN cI
        rw [h76i _ eK, h53, h54]
        exact ⟨rfl, rfl⟩
      rw [e1.1, e1.2]
      exact hLL
