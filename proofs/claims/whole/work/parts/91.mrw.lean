/-! the model's lines -/
def FA (M M' : q_M) : Prop := (∀ a, ¬ a = 49 → M' a = M a) ∧ (∀ j, ¬ j = 44 → ¬ j = 45 → ¬ j = 54 → M' 49 j = M 49 j)
theorem FA_r {M : q_M} : FA M M := ⟨fun _ _ => rfl, fun _ _ _ _ => rfl⟩
theorem FA_t {M M' M'' : q_M} (h : FA M M') (h' : FA M' M'') : FA M M'' := ⟨fun a h1 => (h'.1 a h1).trans (h.1 a h1), fun j h1 h2 h3 => (h'.2 j h1 h2 h3).trans (h.2 j h1 h2 h3)⟩
theorem FA_E {M M' : q_M} (h : FA M M') : FE M M' := ⟨fun a _ h2 => h.1 a h2, h.2⟩
theorem mk_col3 {sc : List Int} {d : Nat} {Y : q_M} {C P N : Nat → Int} {q : Nat} {its : List aIt} {ous : List aOu} {gts : List Nat} {wf wt : Nat} {t : Nat} (h : SM Y C P N q its ous gts wf wt) (hT : TIq C q (its.map (·.1))) (hN : NW Y) (hc : CT C q t) (hi : 0 ≤ itm C (its.map (·.1)) (C t)) (hd : 1 ≤ d) : pq sc d 180 [.inr (.inr 49), .inl (t : Int)] GF Y = some (some (.inl (itm C (its.map (·.1)) (C t))), GF, Y) ∧ pq sc d 181 [.inr (.inr 49), .inl (t : Int)] GF Y = some (some (.inl (C (t + 2) - 97)), GF, Y) ∧ ∃ Y', pq sc d 191 [.inr (.inr 49), .inl (itm C (its.map (·.1)) (C t)), .inl (C (t + 2) - 97)] GF Y = some (none, GF, Y') ∧ FA Y Y' ∧ Y' 49 44 = obM C (its.map (·.1)) Y t ∧ Y' 49 45 = onM C N (its.map (·.1)) Y t := by
  have c := hc
  obtain ⟨c1, c2, c3, c4, c5⟩ := c
  have hr : itm C (its.map (·.1)) (C t) < ((its.map (·.1)).length : Int) := itm_r
  rw [List.length_map] at hr
  obtain ⟨Y', q1, f1, f2, -, e1, e2⟩ := mk_fetch (sc := sc) (d := d) (k := (itm C (its.map (·.1)) (C t)).toNat) (c := C (t + 2) - 97) h hT hN (by omega) (by omega) hd
  rw [Int.toNat_of_nonneg hi] at q1
  refine ⟨mk_itemOf h hT ⟨c1, c2⟩ (by omega) hd, mk_columnOf h hc hd, Y', q1, ⟨f2, f1.2⟩, ?_, ?_⟩
  · unfold obM; rw [if_neg (by omega), if_neg (by omega)]; exact e1
  · unfold onM; rw [if_neg (by omega), if_neg (by omega)]; exact e2
theorem nr_A {sc : List Int} {orc : q_O} {Y0 : q_M} {h : Nat} (hh : Y0 49 49 = h) (h30 : h < 30) : ∀ (m i : Nat) (Y : q_M), i + m = 4 * h + 4 → (∀ a, ¬ a = 77 → ¬ a = 78 → Y a = Y0 a) → ∃ K Y', (∀ F, pr sc orc 199 (F + K) 23 [some (.inr (.inr 49)), some (.inl (i : Int))] [] Y = pr sc orc 199 F 57 [some (.inr (.inr 49)), some (.inl 0)] [] Y') ∧ (∀ a, ¬ a = 77 → ¬ a = 78 → Y' a = Y0 a) ∧ (∀ j, j < i ∨ 4 * h + 4 ≤ j → Y' 77 j = Y 77 j ∧ Y' 78 j = Y 78 j) ∧ (∀ j, i ≤ j → j < 4 * h + 4 → Y' 77 j = 1 ∧ Y' 78 j = 0) := by
  intro m
  induction m with
  | zero =>
    intro i Y hi hY
    refine ⟨0 + 1, Y, fun F => sg_X12_newRow_23.trans ?_, hY, fun _ _ => ⟨rfl, rfl⟩, fun j h1 h2 => by omega⟩
    rw [hY 49 (by decide) (by decide), hh, q_wid (x := 4 * (h : Int)) (by omega) (by omega), q_wid (x := 4 * (h : Int) + 4) (by omega) (by omega), if_neg (by omega)]
  | succ m ih =>
    intro i Y hi hY
    generalize hA : q_up (q_up Y 77 i 1) 78 i 0 = A
    have A0 : ∀ a, ¬ a = 77 → ¬ a = 78 → A a = Y0 a := fun a h1 h2 => by rw [← hA, q_upf h2, q_upf h1]; exact hY a h1 h2
    have A1 : ∀ j, ¬ j = i → A 77 j = Y 77 j ∧ A 78 j = Y 78 j := fun j hj => by rw [← hA, q_up_ne (by decide), q_up_sn hj, q_up_sn hj, q_up_ne (by decide)]; exact ⟨rfl, rfl⟩
    have A2 : A 77 i = 1 ∧ A 78 i = 0 := by rw [← hA, q_up_ne (by decide), q_up_s, q_up_s]; exact ⟨rfl, rfl⟩
    obtain ⟨K, Y', q1, r1, r2, r3⟩ := ih (i + 1) A (by omega) A0
    refine ⟨K + 1, Y', fun F => ?_, r1, fun j hj => ?_, fun j h1 h2 => ?_⟩
    · rw [← q1 F]
      refine sg_X12_newRow_23.trans ?_
      rw [hY 49 (by decide) (by decide), hh, q_wid (x := 4 * (h : Int)) (by omega) (by omega), q_wid (x := 4 * (h : Int) + 4) (by omega) (by omega), if_pos (by omega), if_pos (by omega), if_pos (by omega), Int.toNat_natCast, hA, qw1 (by omega)]
      rfl
    · have := r2 j (by omega)
      rw [this.1, this.2]; exact A1 j (by omega)
    · by_cases e : j = i
      · subst e
        have := r2 j (by omega)
        rw [this.1, this.2]; exact A2
      · exact r3 j (by omega) h2
theorem nr_B {sc : List Int} {orc : q_O} {Y0 : q_M} {h : Nat} {ous : List aOu} (hh : Y0 49 49 = h) (h30 : h < 30) (hO : MO Y0 ous) (h4 : ous.length ≤ 4) (hk : ∀ o ∈ ous, (266 ≤ o.1 ∧ o.1 ≤ 269) ∨ o.1 = 275) : ∀ (m k : Nat) (Y : q_M), k + m = ous.length → (∀ a, ¬ a = 77 → Y a = Y0 a) → ∃ F Y', pr sc orc 199 F 57 [some (.inr (.inr 49)), some (.inl (k : Int))] [] Y = some (some (.inl 1), GF, Y') ∧ (∀ a, ¬ a = 77 → ¬ a = 49 → Y' a = Y0 a) ∧ (∀ j, ¬ j = 49 → Y' 49 j = Y0 49 j) ∧ Y' 49 49 = ((h + 1 : Nat) : Int) ∧ (∀ j, j < 4 * h + k ∨ 4 * h + ous.length ≤ j → Y' 77 j = Y 77 j) ∧ (∀ (i : Nat) o, k ≤ i → ous[i]? = some o → Y' 77 (4 * h + i) = if o.1 = 266 then 0 else Y 77 (4 * h + i)) := by
  intro m
  induction m with
  | zero =>
    intro k Y hk' hY
    refine ⟨0 + 1, q_up Y 49 49 ((h + 1 : Nat) : Int), sg_X12_newRow_57.trans ?_, fun a h1 h2 => by rw [q_upf h2]; exact hY a h1, fun j hj => by rw [q_up_sn hj, hY 49 (by decide)], q_up_s, fun _ _ => q_up_ne (by decide), fun i o hi ho => ?_⟩
    · rw [hY 49 (by decide), hO.1, if_neg (by omega), hh, qw1 (by omega)]
    · have := (List.getElem?_eq_some_iff.mp ho).1; omega
  | succ m ih =>
    intro k Y hk' hY
    have ho : ous[k]? = some ous[k] := List.getElem?_eq_getElem (by omega)
    have hm : ous[k] ∈ ous := List.getElem_mem (by omega)
    generalize ous[k] = o at ho hm
    have e62 := (hO.2 k o ho).1
    have hko := hk o hm
    have e62' : mko o.1 = 207 ↔ o.1 = 266 := by unfold mko; split <;> omega
    by_cases c : o.1 = 266
    · generalize hA : q_up Y 77 (4 * h + k) 0 = A
      have A0 : ∀ a, ¬ a = 77 → A a = Y0 a := fun a h1 => by rw [← hA, q_upf h1]; exact hY a h1
      obtain ⟨F, Y', q1, r1, r2, r3, r4, r5⟩ := ih (k + 1) A (by omega) A0
      refine ⟨F + 1, Y', sg_X12_newRow_57.trans ?_, r1, r2, r3, fun j hj => ?_, fun i o' hi ho' => ?_⟩
      · rw [hY 49 (by decide), hO.1, if_pos (by omega), if_pos (by omega), Int.toNat_natCast, hY 62 (by decide), e62, if_pos (e62'.mpr c), hh, q_wid (x := 4 * (h : Int)) (by omega) (by omega), qwn (x := 4 * (h : Int) + k) (n := 4 * h + k) (by omega) (by omega), if_pos (by omega), Int.toNat_natCast, hA, qw1 (by omega), q1]
      · rw [r4 j (by omega), ← hA, q_up_sn (by omega)]
      · by_cases e : i = k
        · subst e
          rw [ho] at ho'; cases ho'
          rw [if_pos c, r4 _ (by omega), ← hA, q_up_s]
        · rw [r5 i o' (by omega) ho', ← hA, q_up_sn (by omega)]
    · obtain ⟨F, Y', q1, r1, r2, r3, r4, r5⟩ := ih (k + 1) Y (by omega) hY
      refine ⟨F + 1, Y', sg_X12_newRow_57.trans ?_, r1, r2, r3, fun j hj => r4 j (by omega), fun i o' hi ho' => ?_⟩
      · rw [hY 49 (by decide), hO.1, if_pos (by omega), if_pos (by omega), Int.toNat_natCast, hY 62 (by decide), e62, if_neg (fun z => c (e62'.mp z)), qw1 (by omega), q1]
      · by_cases e : i = k
        · subst e
          rw [ho] at ho'; cases ho'
          rw [if_neg c, r4 _ (by omega)]
        · exact r5 i o' (by omega) ho'
theorem mk_newRow0 {sc : List Int} {d : Nat} {Y : q_M} (hh : Y 49 49 = 30) (hd : 1 ≤ d) : pq sc d 199 [.inr (.inr 49)] GF Y = some (some (.inl 0), GF, q_up Y 49 48 1) := by
  refine (pq_e (by omega) (by decide) (Nat.le_of_ble_eq_true rfl) ⟨0 + 1, sg_X12_newRow_0.trans ?_⟩)
  rw [if_pos hh]
theorem mk_newRow {sc : List Int} {d : Nat} {Y : q_M} {h : Nat} {ous : List aOu} (hh : Y 49 49 = h) (h30 : h < 30) (hO : MO Y ous) (h4 : ous.length ≤ 4) (hk : ∀ o ∈ ous, (266 ≤ o.1 ∧ o.1 ≤ 269) ∨ o.1 = 275) (hd : 1 ≤ d) : ∃ Y', pq sc d 199 [.inr (.inr 49)] GF Y = some (some (.inl 1), GF, Y') ∧ (∀ a, ¬ a = 77 → ¬ a = 78 → ¬ a = 49 → Y' a = Y a) ∧ (∀ j, ¬ j = 49 → Y' 49 j = Y 49 j) ∧ Y' 49 49 = ((h + 1 : Nat) : Int) ∧ (∀ j, j < 4 * h ∨ 4 * h + 4 ≤ j → Y' 77 j = Y 77 j ∧ Y' 78 j = Y 78 j) ∧ (∀ (i : Nat) o, ous[i]? = some o → Y' 78 (4 * h + i) = 0 ∧ Y' 77 (4 * h + i) = if o.1 = 266 then 0 else 1) := by
  obtain ⟨K, Y1, q1, r1, r2, r3⟩ := nr_A (sc := sc) (orc := pq sc (d - 1)) hh h30 4 (4 * h) Y (by omega) (fun _ _ _ => rfl)
  have hO1 : MO Y1 ous := MO_fr hO (r1 62 (by decide) (by decide)) (r1 63 (by decide) (by decide)) (by rw [r1 49 (by decide) (by decide)])
  obtain ⟨F, Y2, q2, s1, s2, s3, s4, s5⟩ := nr_B (sc := sc) (orc := pq sc (d - 1)) (by rw [r1 49 (by decide) (by decide)]; exact hh) h30 hO1 h4 hk ous.length 0 Y1 (by omega) (fun _ _ => rfl)
  rw [Int.natCast_zero] at q2
  refine ⟨Y2, (pq_e (by omega) (by decide) (Nat.le_of_ble_eq_true rfl) ⟨F + K + 1, sg_X12_newRow_0.trans ?_⟩), fun a h1 h2 h3 => (s1 a h1 h3).trans (r1 a h1 h2), fun j hj => by rw [s2 j hj, r1 49 (by decide) (by decide)], s3, fun j hj => ?_, fun i o ho => ?_⟩
  · rw [if_neg (by omega), hh, qwn (x := 4 * (h : Int)) (n := 4 * h) (by omega) (by omega)]
    exact (q1 F).trans q2
  · rw [s4 j (by omega), s1 78 (by decide) (by decide)]; exact r2 j hj
  · have hi := (List.getElem?_eq_some_iff.mp ho).1
    have a3 := r3 (4 * h + i) (by omega) (by omega)
    rw [s1 78 (by decide) (by decide), s5 i o (Nat.zero_le _) ho, a3.1, a3.2]
    exact ⟨rfl, rfl⟩
/-- the key of line r is that of the lines held now -/
def isK (Y : q_M) (C N : Nat → Int) (tl gts : List Nat) (r : Nat) : Prop := ∀ (g t : Nat), gts[g]? = some t → Y 79 (3 * r + g) = obM C tl Y t ∧ Y 80 (3 * r + g) = onM C N tl Y t
theorem ix3' {r g : Nat} (hr : r < 30) (hg : g < 3) : q_w (q_w (3 * (r : Int)) + g) = ((3 * r + g : Nat) : Int) := by
  rw [q_wid (x := 3 * (r : Int)) (by omega) (by omega), q_wid (by omega) (by omega)]; omega
theorem ix5 {r g : Nat} (hr : r < 30) (hg : g < 3) : q_w (q_w (q_w (3 * ((r + 1 : Nat) : Int)) - 3) + g) = ((3 * r + g : Nat) : Int) := by
  rw [q_wid (x := 3 * ((r + 1 : Nat) : Int)) (by omega) (by omega), q_wid (x := 3 * ((r + 1 : Nat) : Int) - 3) (by omega) (by omega), q_wid (by omega) (by omega)]; omega
theorem ix6 {r k : Nat} (hr : r < 30) (hk : k < 4) : q_w (q_w (4 * (r : Int)) + k) = ((4 * r + k : Nat) : Int) := by
  rw [q_wid (x := 4 * (r : Int)) (by omega) (by omega), q_wid (by omega) (by omega)]; omega
theorem sk_T {sc : List Int} {d : Nat} {Y : q_M} {C P N : Nat → Int} {q : Nat} {its : List aIt} {ous : List aOu} {gts : List Nat} {wf wt : Nat} {r : Nat} (h : SM Y C P N q its ous gts wf wt) (hT : TIq C q (its.map (·.1))) (hN : NW Y) (hg : gts.length ≤ 3) (hG : ∀ t ∈ gts, CT C q t ∧ 0 ≤ itm C (its.map (·.1)) (C t)) (hr : r < 30) (hd : 1 ≤ d) : ∀ (m g : Nat) (Y1 : q_M), g + m = gts.length → FA Y Y1 → ∃ F Y' x, pr sc (pq sc d) 198 F 2 [some (.inr (.inr 49)), some (.inl (r : Int)), some (.inl (g : Int))] [] Y1 = some (some (.inl x), GF, Y') ∧ FA Y Y' ∧ ((x = 1 ∧ ∀ (i t : Nat), g ≤ i → gts[i]? = some t → Y 79 (3 * r + i) = obM C (its.map (·.1)) Y t ∧ Y 80 (3 * r + i) = onM C N (its.map (·.1)) Y t) ∨ (x = 0 ∧ ¬ ∀ (i t : Nat), g ≤ i → gts[i]? = some t → Y 79 (3 * r + i) = obM C (its.map (·.1)) Y t ∧ Y 80 (3 * r + i) = onM C N (its.map (·.1)) Y t)) := by
  intro m
  induction m with
  | zero =>
    intro g Y1 hm hf
    have h1 := SM_fe h (FA_E hf)
    refine ⟨0 + 1, Y1, 1, sg_X12_sameKey_2.trans ?_, hf, Or.inl ⟨rfl, fun i t hi ht => by have := (List.getElem?_eq_some_iff.mp ht).1; omega⟩⟩
    rw [h1.2.2.2.2.1.1, if_neg (by omega)]
  | succ m ih =>
    intro g Y1 hm hf
    have h1 := SM_fe h (FA_E hf)
    have ht : gts[g]? = some gts[g] := List.getElem?_eq_getElem (by omega)
    have hm2 : gts[g] ∈ gts := List.getElem_mem (by omega)
    generalize gts[g] = t at ht hm2
    obtain ⟨hc, hi⟩ := hG t hm2
    obtain ⟨q1, q2, Y2, q3, f2, e1, e2⟩ := mk_col3 (sc := sc) (d := d) h1 hT (NW_fe hN (FA_E hf)) hc hi hd
    rw [(ob_fe (N := N) (FA_E hf)).1] at e1
    rw [(ob_fe (FA_E hf)).2] at e2
    have f3 := FA_t hf f2
    have e69 := h1.2.2.2.2.1.2 g t ht
    have hI : 0 ≤ ((3 * r + g : Nat) : Int) ∧ ((3 * r + g : Nat) : Int) < ((90 : Nat) : Int) := by omega
    have st : ∀ F, pr sc (pq sc d) 198 (F + 1) 2 [some (.inr (.inr 49)), some (.inl (r : Int)), some (.inl (g : Int))] [] Y1 = if Y 79 (3 * r + g) = obM C (its.map (·.1)) Y t then (if Y 80 (3 * r + g) = onM C N (its.map (·.1)) Y t then pr sc (pq sc d) 198 F 2 [some (.inr (.inr 49)), some (.inl (r : Int)), some (.inl ((g + 1 : Nat) : Int))] [] Y2 else some (some (.inl 0), GF, Y2)) else some (some (.inl 0), GF, Y2) := fun F => by
      refine sg_X12_sameKey_2.trans ?_
      rw [h1.2.2.2.2.1.1, if_pos (by omega), if_pos (by omega), Int.toNat_natCast, e69, q1, q_cI_s, if_pos (by omega), e69, q2, q_cI_s, q3, q_c0_s, ix3' hr (by omega), if_pos hI, Int.toNat_natCast, e1, e2, f3.1 79 (by decide), f3.1 80 (by decide), if_pos hI, qw1 (by omega)]
    have no : ¬ (Y 79 (3 * r + g) = obM C (its.map (·.1)) Y t ∧ Y 80 (3 * r + g) = onM C N (its.map (·.1)) Y t) → ¬ ∀ (i t : Nat), g ≤ i → gts[i]? = some t → Y 79 (3 * r + i) = obM C (its.map (·.1)) Y t ∧ Y 80 (3 * r + i) = onM C N (its.map (·.1)) Y t := fun hn hh => hn (hh g t (Nat.le_refl _) ht)
    by_cases z1 : Y 79 (3 * r + g) = obM C (its.map (·.1)) Y t
    · by_cases z2 : Y 80 (3 * r + g) = onM C N (its.map (·.1)) Y t
      · obtain ⟨F, Y', x, q4, f4, hx⟩ := ih (g + 1) Y2 (by omega) f3
        refine ⟨F + 1, Y', x, by rw [st F, if_pos z1, if_pos z2, q4], f4, ?_⟩
        rcases hx with ⟨e, hx⟩ | ⟨e, hx⟩
        · refine Or.inl ⟨e, fun i t' h1 h2 => ?_⟩
          by_cases z : i = g
          · subst z; rw [ht] at h2; cases h2; exact ⟨z1, z2⟩
          · exact hx i t' (by omega) h2
        · exact Or.inr ⟨e, fun hh => hx (fun i t' h1 h2 => hh i t' (by omega) h2)⟩
      · exact ⟨0 + 1, Y2, 0, by rw [st 0, if_pos z1, if_neg z2], f3, Or.inr ⟨rfl, no (fun hh => z2 hh.2)⟩⟩
    · exact ⟨0 + 1, Y2, 0, by rw [st 0, if_neg z1], f3, Or.inr ⟨rfl, no (fun hh => z1 hh.1)⟩⟩
theorem mk_sameKey {sc : List Int} {d : Nat} {Y : q_M} {C P N : Nat → Int} {q : Nat} {its : List aIt} {ous : List aOu} {gts : List Nat} {wf wt : Nat} {r : Nat} (h : SM Y C P N q its ous gts wf wt) (hT : TIq C q (its.map (·.1))) (hN : NW Y) (hg : gts.length ≤ 3) (hG : ∀ t ∈ gts, CT C q t ∧ 0 ≤ itm C (its.map (·.1)) (C t)) (hr : r < 30) (hd : 2 ≤ d) : ∃ Y' x, pq sc d 198 [.inr (.inr 49), .inl (r : Int)] GF Y = some (some (.inl x), GF, Y') ∧ FA Y Y' ∧ ((x = 1 ∧ isK Y C N (its.map (·.1)) gts r) ∨ (x = 0 ∧ ¬ isK Y C N (its.map (·.1)) gts r)) := by
  obtain ⟨F, Y', x, q1, f1, hx⟩ := sk_T (sc := sc) (d := d - 1) h hT hN hg hG hr (by omega) gts.length 0 Y (by omega) FA_r
  rw [Int.natCast_zero] at q1
  refine ⟨Y', x, (pq_e (by omega) (by decide) (Nat.le_of_ble_eq_true rfl) ⟨F + 1, sg_X12_sameKey_0.trans ?_⟩), f1, ?_⟩
  · exact q1
  · rcases hx with ⟨e, hx⟩ | ⟨e, hx⟩
    · exact Or.inl ⟨e, fun g t ht => hx g t (Nat.zero_le _) ht⟩
    · exact Or.inr ⟨e, fun hh => hx (fun g t _ ht => hh g t ht)⟩
theorem isK_fa {Y Y' : q_M} {C N : Nat → Int} {tl gts : List Nat} {r : Nat} (hf : FA Y Y') : isK Y' C N tl gts r ↔ isK Y C N tl gts r := by
  unfold isK
  rw [hf.1 79 (by decide), hf.1 80 (by decide)]
  constructor
  · intro h g t ht
    have := h g t ht
    rw [(ob_fe (N := N) (FA_E hf)).1, (ob_fe (FA_E hf)).2] at this; exact this
  · intro h g t ht
    rw [(ob_fe (N := N) (FA_E hf)).1, (ob_fe (FA_E hf)).2]; exact h g t ht
def FX (Y Y' : q_M) : Prop := (∀ a, ¬ (77 ≤ a ∧ a ≤ 80) → ¬ a = 49 → Y' a = Y a) ∧ (∀ j, ¬ j = 44 → ¬ j = 45 → ¬ (48 ≤ j ∧ j ≤ 49) → ¬ j = 54 → Y' 49 j = Y 49 j)
theorem FX_r {Y : q_M} : FX Y Y := ⟨fun _ _ _ => rfl, fun _ _ _ _ _ => rfl⟩
theorem FX_t {Y Y' Y'' : q_M} (h : FX Y Y') (h' : FX Y' Y'') : FX Y Y'' := ⟨fun a h1 h2 => (h'.1 a h1 h2).trans (h.1 a h1 h2), fun j h1 h2 h3 h4 => (h'.2 j h1 h2 h3 h4).trans (h.2 j h1 h2 h3 h4)⟩
theorem FX_Y {Y Y' : q_M} (h : FX Y Y') : GY Y Y' := ⟨fun a h1 h2 => h.1 a (by omega) h2, fun j h1 h2 h3 h4 => h.2 j h1 h2 (by omega) h4⟩
theorem FA_X {Y Y' : q_M} (h : FA Y Y') : FX Y Y' := ⟨fun a _ h2 => h.1 a h2, fun j h1 h2 _ h4 => h.2 j h1 h2 h4⟩
theorem SM_gy {M M' : q_M} {C P N : Nat → Int} {q : Nat} {its : List aIt} {ous : List aOu} {gts : List Nat} {wf wt : Nat} (h : SM M C P N q its ous gts wf wt) (hg : GY M M') : SM M' C P N q its ous gts wf wt := by
  obtain ⟨h1, h2, h3, h4, h5, h6, h7⟩ := h
  refine ⟨?_, h2, MI_fr h3 (fun a _ _ => hg.1 a (by omega) (by omega)) (hg.2 26 (by decide) (by decide) (by decide) (by decide)), MO_fr h4 (hg.1 62 (by decide) (by decide)) (hg.1 63 (by decide) (by decide)) (hg.2 23 (by decide) (by decide) (by decide) (by decide)), MG_fr h5 (hg.1 69 (by decide) (by decide)) (hg.2 34 (by decide) (by decide) (by decide) (by decide)), by rw [hg.2 32 (by decide) (by decide) (by decide) (by decide)]; exact h6, by rw [hg.2 33 (by decide) (by decide) (by decide) (by decide)]; exact h7⟩
  unfold MK at h1 ⊢
  rw [hg.1 58 (by decide) (by decide), hg.1 59 (by decide) (by decide), hg.1 60 (by decide) (by decide)]; exact h1
theorem NW_fg {M M' : q_M} (h : NW M) (hf : FX M M') : NW M' := by
  unfold NW at h ⊢
  rw [hf.1 76 (by decide) (by decide), hf.1 54 (by decide) (by decide)]; exact h
theorem ob_w {C N : Nat → Int} {tl : List Nat} {M M' : q_M} (h1 : M' 76 = M 76) (h2 : M' 53 = M 53) (h3 : M' 54 = M 54) {t : Nat} : obM C tl M' t = obM C tl M t ∧ onM C N tl M' t = onM C N tl M t := by
  unfold obM onM fB fN cI
  rw [h1, h2, h3]
  exact ⟨rfl, rfl⟩
theorem ob_fg {C N : Nat → Int} {tl : List Nat} {M M' : q_M} (hf : FX M M') {t : Nat} : obM C tl M' t = obM C tl M t ∧ onM C N tl M' t = onM C N tl M t := ob_w (hf.1 76 (by decide) (by decide)) (hf.1 53 (by decide) (by decide)) (hf.1 54 (by decide) (by decide))
theorem ob_b {C : Nat → Int} {q : Nat} {tl : List Nat} {Y : q_M} {t : Nat} (hT : TIq C q tl) (hN : NW Y) (hc : CT C q t) (hi : 0 ≤ itm C tl (C t)) : b01 (obM C tl Y t) := by
  obtain ⟨c1, c2, c3, c4, c5⟩ := hc
  have hr : itm C tl (C t) < (tl.length : Int) := itm_r
  by_cases z : 0 ≤ Y 76 (kI C tl t)
  · have := cI_lt (k := kI C tl t) (c := C (t + 2) - 97) hT hN (by unfold kI; omega) (by omega) z
    exact ob_r hN (by unfold cI; omega)
  · right
    unfold obM fB
    rw [if_neg (by omega), if_neg (by omega), if_pos (by omega)]
/-- the keys of a new line -/
theorem gr_K {sc : List Int} {d : Nat} {Y : q_M} {C P N : Nat → Int} {q : Nat} {its : List aIt} {ous : List aOu} {gts : List Nat} {wf wt : Nat} {r : Nat} (h : SM Y C P N q its ous gts wf wt) (hT : TIq C q (its.map (·.1))) (hN : NW Y) (hg : gts.length ≤ 3) (hG : ∀ t ∈ gts, CT C q t ∧ 0 ≤ itm C (its.map (·.1)) (C t)) (hr : r < 30) (h49 : Y 49 49 = ((r + 1 : Nat) : Int)) (hd : 1 ≤ d) : ∀ (m g : Nat) (Y1 : q_M), g + m = gts.length → (∀ a, ¬ a = 79 → ¬ a = 80 → ¬ a = 49 → Y1 a = Y a) → (∀ j, ¬ j = 44 → ¬ j = 45 → ¬ j = 54 → Y1 49 j = Y 49 j) → ∃ F Y', pr sc (pq sc d) 200 F 37 [some (.inr (.inr 49)), some (.inl (g : Int))] [] Y1 = some (some (.inl (r : Int)), GF, Y') ∧ (∀ a, ¬ a = 79 → ¬ a = 80 → ¬ a = 49 → Y' a = Y a) ∧ (∀ j, ¬ j = 44 → ¬ j = 45 → ¬ j = 54 → Y' 49 j = Y 49 j) ∧ (∀ j, j < 3 * r + g ∨ 3 * r + gts.length ≤ j → Y' 79 j = Y1 79 j ∧ Y' 80 j = Y1 80 j) ∧ (∀ (i t : Nat), g ≤ i → gts[i]? = some t → Y' 79 (3 * r + i) = obM C (its.map (·.1)) Y t ∧ Y' 80 (3 * r + i) = onM C N (its.map (·.1)) Y t) := by
  intro m
  induction m with
  | zero =>
    intro g Y1 hm hf1 hf2
    refine ⟨0 + 1, Y1, sg_X12_groupRow_37.trans ?_, hf1, hf2, fun _ _ => ⟨rfl, rfl⟩, fun i t hi ht => ?_⟩
    · rw [hf2 34 (by decide) (by decide) (by decide), h.2.2.2.2.1.1, if_neg (by omega), hf2 49 (by decide) (by decide) (by decide), h49, qwn (n := r) (by omega) (by omega)]
    · have := (List.getElem?_eq_some_iff.mp ht).1; omega
  | succ m ih =>
    intro g Y1 hm hf1 hf2
    have hfg : FX Y Y1 := ⟨fun a h1 h2 => hf1 a (by omega) (by omega) h2, fun j h1 h2 _ h4 => hf2 j h1 h2 h4⟩
    have h1 := SM_gy h (FX_Y hfg)
    have ht : gts[g]? = some gts[g] := List.getElem?_eq_getElem (by omega)
    have hm2 : gts[g] ∈ gts := List.getElem_mem (by omega)
    generalize gts[g] = t at ht hm2
    obtain ⟨hc, hi⟩ := hG t hm2
    obtain ⟨q1, q2, Y2, q3, f2, e1, e2⟩ := mk_col3 (sc := sc) (d := d) h1 hT (NW_fg hN hfg) hc hi hd
    rw [(ob_fg (N := N) hfg).1] at e1
    rw [(ob_fg hfg).2] at e2
    have hb := ob_b hT hN hc hi
    have e69 := h1.2.2.2.2.1.2 g t ht
    have e49 : Y2 49 49 = ((r + 1 : Nat) : Int) := by rw [f2.2 49 (by decide) (by decide) (by decide), hf2 49 (by decide) (by decide) (by decide)]; exact h49
    generalize hA : q_up (q_up Y2 79 (3 * r + g) (obM C (its.map (·.1)) Y t)) 80 (3 * r + g) (onM C N (its.map (·.1)) Y t) = A
    have A0 : ∀ a, ¬ a = 79 → ¬ a = 80 → A a = Y2 a := fun a h1 h2 => by rw [← hA, q_upf h2, q_upf h1]
    have A1 : ∀ j, ¬ j = 3 * r + g → A 79 j = Y1 79 j ∧ A 80 j = Y1 80 j := fun j hj => by rw [← hA, q_up_ne (by decide), q_up_sn hj, q_up_sn hj, q_up_ne (by decide), f2.1 79 (by decide), f2.1 80 (by decide)]; exact ⟨rfl, rfl⟩
    have A2 : A 79 (3 * r + g) = obM C (its.map (·.1)) Y t ∧ A 80 (3 * r + g) = onM C N (its.map (·.1)) Y t := by rw [← hA, q_up_ne (by decide), q_up_s, q_up_s]; exact ⟨rfl, rfl⟩
    obtain ⟨F, Y', q4, r1, r2, r3, r4⟩ := ih (g + 1) A (by omega) (fun a h1 h2 h3 => by rw [A0 a h1 h2, f2.1 a h3]; exact hf1 a h1 h2 h3) (fun j h1 h2 h3 => by rw [A0 49 (by decide) (by decide), f2.2 j h1 h2 h3]; exact hf2 j h1 h2 h3)
    have hI : 0 ≤ ((3 * r + g : Nat) : Int) ∧ ((3 * r + g : Nat) : Int) < ((90 : Nat) : Int) := by omega
    refine ⟨F + 1, Y', sg_X12_groupRow_37.trans ?_, r1, r2, fun j hj => ?_, fun i t' h1 h2 => ?_⟩
    · rw [h1.2.2.2.2.1.1, if_pos (by omega), if_pos (by omega), Int.toNat_natCast, e69, q1, q_cI_s, if_pos (by omega), e69, q2, q_cI_s, q3, q_c0_s, e49, e1, e2, ix5 hr (by omega), if_pos hI, if_pos (Or.inr (Or.inl ⟨rfl, hb⟩)), if_pos hI, Int.toNat_natCast, hA, qw1 (by omega), q4]
    · have := r3 j (by omega)
      rw [this.1, this.2]; exact A1 j (by omega)
    · by_cases z : i = g
      · subst z
        rw [ht] at h2; cases h2
        have := r3 (3 * r + i) (by omega)
        rw [this.1, this.2]; exact A2
      · exact r4 i t' (by omega) h2
/-- what a new line is to the model -/
def NR (Y Y' : q_M) (ous : List aOu) (h : Nat) : Prop := Y' 49 49 = ((h + 1 : Nat) : Int) ∧ Y' 49 48 = Y 49 48 ∧ (∀ j, j < 4 * h ∨ 4 * h + 4 ≤ j → Y' 77 j = Y 77 j ∧ Y' 78 j = Y 78 j) ∧ (∀ (i : Nat) o, ous[i]? = some o → Y' 78 (4 * h + i) = 0 ∧ Y' 77 (4 * h + i) = if o.1 = 266 then 0 else 1)
theorem g2_79 {Y Y1 Y2 : q_M} (n1 : ∀ a, ¬ a = 77 → ¬ a = 78 → ¬ a = 49 → Y2 a = Y1 a) (hf : FA Y Y1) : Y2 79 = Y 79 := by rw [n1 79 (by decide) (by decide) (by decide), hf.1 79 (by decide)]
theorem g2_80 {Y Y1 Y2 : q_M} (n1 : ∀ a, ¬ a = 77 → ¬ a = 78 → ¬ a = 49 → Y2 a = Y1 a) (hf : FA Y Y1) : Y2 80 = Y 80 := by rw [n1 80 (by decide) (by decide) (by decide), hf.1 80 (by decide)]
theorem gr_T {sc : List Int} {d : Nat} {Y : q_M} {C P N : Nat → Int} {q : Nat} {its : List aIt} {ous : List aOu} {gts : List Nat} {wf wt : Nat} {h : Nat} (hS : SM Y C P N q its ous gts wf wt) (hT : TIq C q (its.map (·.1))) (hN : NW Y) (hg : gts.length ≤ 3) (hG : ∀ t ∈ gts, CT C q t ∧ 0 ≤ itm C (its.map (·.1)) (C t)) (hh : Y 49 49 = h) (h30 : h ≤ 30) (h4 : ous.length ≤ 4) (hk : ∀ o ∈ ous, (266 ≤ o.1 ∧ o.1 ≤ 269) ∨ o.1 = 275) (hd : 2 ≤ d) : ∀ (m r : Nat) (Y1 : q_M), r + m = h → FA Y Y1 → ∃ F Y' x, pr sc (pq sc d) 200 F 2 [some (.inr (.inr 49)), some (.inl (r : Int))] [] Y1 = some (some (.inl x), GF, Y') ∧ FX Y Y' ∧ ((∃ i : Nat, r ≤ i ∧ i < h ∧ x = (i : Int) ∧ FA Y Y' ∧ isK Y C N (its.map (·.1)) gts i ∧ ∀ j, r ≤ j → j < i → ¬ isK Y C N (its.map (·.1)) gts j) ∨ ((∀ j, r ≤ j → j < h → ¬ isK Y C N (its.map (·.1)) gts j) ∧ h = 30 ∧ x = -1 ∧ Y' 49 48 = 1) ∨ ((∀ j, r ≤ j → j < h → ¬ isK Y C N (its.map (·.1)) gts j) ∧ h < 30 ∧ x = (h : Int) ∧ NR Y Y' ous h ∧ (∀ j, j < 3 * h ∨ 3 * h + gts.length ≤ j → Y' 79 j = Y 79 j ∧ Y' 80 j = Y 80 j) ∧ (∀ (i t : Nat), gts[i]? = some t → Y' 79 (3 * h + i) = obM C (its.map (·.1)) Y t ∧ Y' 80 (3 * h + i) = onM C N (its.map (·.1)) Y t))) := by
  intro m
  induction m with
  | zero =>
    intro r Y1 hm hf
    have e49 : Y1 49 49 = h := by rw [hf.2 49 (by decide) (by decide) (by decide)]; exact hh
    have h1 := SM_fe hS (FA_E hf)
    by_cases z : h = 30
    · have q1 := mk_newRow0 (sc := sc) (d := d) (Y := Y1) (by rw [e49, z]; rfl) (by omega)
      refine ⟨0 + 1, q_up Y1 49 48 1, -1, sg_X12_groupRow_2.trans ?_, FX_t (FA_X hf) ⟨fun a _ h2 => q_upf h2, fun j _ _ h3 _ => q_up_sn (by omega)⟩, Or.inr (Or.inl ⟨fun j h1 h2 => by omega, z, rfl, q_up_s⟩)⟩
      rw [e49, if_neg (by omega), q1, q_cI_s, if_pos rfl]
    · obtain ⟨Y2, q1, n1, n2, n3, n4, n5⟩ := mk_newRow (sc := sc) (d := d) e49 (by omega) h1.2.2.2.1 h4 hk (by omega)
      have g2 : FX Y Y2 := FX_t (FA_X hf) ⟨fun a h1 h2 => n1 a (by omega) (by omega) h2, fun j _ _ h3 _ => n2 j (by omega)⟩
      obtain ⟨F, Y3, q2, r1, r2, r3, r4⟩ := gr_K (sc := sc) (d := d) (SM_gy hS (FX_Y g2)) hT (NW_fg hN g2) hg hG (show h < 30 by omega) n3 (by omega) gts.length 0 Y2 (by omega) (fun _ _ _ _ => rfl) (fun _ _ _ _ => rfl)
      rw [Int.natCast_zero] at q2
      refine ⟨F + 1, Y3, (h : Int), sg_X12_groupRow_2.trans ?_, FX_t g2 ⟨fun a h1 h2 => r1 a (by omega) (by omega) h2, fun j h1 h2 _ h4 => r2 j h1 h2 h4⟩, Or.inr (Or.inr ⟨fun j h1 h2 => by omega, by omega, rfl, ⟨by rw [r2 49 (by decide) (by decide) (by decide), n3], by rw [r2 48 (by decide) (by decide) (by decide), n2 48 (by decide), hf.2 48 (by decide) (by decide) (by decide)], fun j hj => ?_, fun i o ho => ?_⟩, fun j hj => ?_, fun i t ht => ?_⟩)⟩
      · rw [e49, if_neg (by omega), q1, q_cI_s, if_neg (by decide), q2]
      · rw [r1 77 (by decide) (by decide) (by decide), r1 78 (by decide) (by decide) (by decide), ← hf.1 77 (by decide), ← hf.1 78 (by decide)]; exact n4 j hj
      · rw [r1 77 (by decide) (by decide) (by decide), r1 78 (by decide) (by decide) (by decide)]; exact n5 i o ho
      · have := r3 j (by omega)
        rw [this.1, this.2, g2_79 n1 hf, g2_80 n1 hf]; exact ⟨rfl, rfl⟩
      · have := r4 i t (Nat.zero_le _) ht
        rw [this.1, this.2]; exact ob_fg g2
  | succ m ih =>
    intro r Y1 hm hf
    have e49 : Y1 49 49 = h := by rw [hf.2 49 (by decide) (by decide) (by decide)]; exact hh
    obtain ⟨Y2, x, q1, f2, hx⟩ := mk_sameKey (sc := sc) (d := d) (r := r) (SM_fe hS (FA_E hf)) hT (NW_fe hN (FA_E hf)) hg hG (by omega) hd
    rw [isK_fa hf] at hx
    have f3 := FA_t hf f2
    rcases hx with ⟨rfl, hx⟩ | ⟨rfl, hx⟩
    · refine ⟨0 + 1, Y2, (r : Int), sg_X12_groupRow_2.trans ?_, FA_X f3, Or.inl ⟨r, Nat.le_refl _, by omega, rfl, f3, hx, fun j h1 h2 => by omega⟩⟩
      rw [e49, if_pos (by omega), q1, q_cI_s, if_neg (by decide)]
    · obtain ⟨F, Y', x, q3, g3, hx3⟩ := ih (r + 1) Y2 (by omega) f3
      refine ⟨F + 1, Y', x, sg_X12_groupRow_2.trans ?_, g3, ?_⟩
      · rw [e49, if_pos (by omega), q1, q_cI_s, if_pos rfl, qw1 (by omega), q3]
      · have ext : ∀ b : Nat, (∀ j, r + 1 ≤ j → j < b → ¬ isK Y C N (its.map (·.1)) gts j) → ∀ j, r ≤ j → j < b → ¬ isK Y C N (its.map (·.1)) gts j := fun b hb j h1 h2 => by
          by_cases z : j = r
          · subst z; exact hx
          · exact hb j (by omega) h2
        rcases hx3 with ⟨i, i1, i2, i3, i4, i5, i6⟩ | ⟨n1, n2⟩ | ⟨n1, n2⟩
        · exact Or.inl ⟨i, by omega, i2, i3, i4, i5, ext i i6⟩
        · exact Or.inr (Or.inl ⟨ext h n1, n2⟩)
        · exact Or.inr (Or.inr ⟨ext h n1, n2⟩)
theorem mk_groupRow {sc : List Int} {d : Nat} {Y : q_M} {C P N : Nat → Int} {q : Nat} {its : List aIt} {ous : List aOu} {gts : List Nat} {wf wt : Nat} {h : Nat} (hS : SM Y C P N q its ous gts wf wt) (hT : TIq C q (its.map (·.1))) (hN : NW Y) (hg : gts.length ≤ 3) (hG : ∀ t ∈ gts, CT C q t ∧ 0 ≤ itm C (its.map (·.1)) (C t)) (hh : Y 49 49 = h) (h30 : h ≤ 30) (h4 : ous.length ≤ 4) (hk : ∀ o ∈ ous, (266 ≤ o.1 ∧ o.1 ≤ 269) ∨ o.1 = 275) (hd : 3 ≤ d) : ∃ Y' x, pq sc d 200 [.inr (.inr 49)] GF Y = some (some (.inl x), GF, Y') ∧ FX Y Y' ∧ ((∃ i : Nat, i < h ∧ x = (i : Int) ∧ FA Y Y' ∧ isK Y C N (its.map (·.1)) gts i ∧ ∀ j, j < i → ¬ isK Y C N (its.map (·.1)) gts j) ∨ ((∀ j, j < h → ¬ isK Y C N (its.map (·.1)) gts j) ∧ h = 30 ∧ x = -1 ∧ Y' 49 48 = 1) ∨ ((∀ j, j < h → ¬ isK Y C N (its.map (·.1)) gts j) ∧ h < 30 ∧ x = (h : Int) ∧ NR Y Y' ous h ∧ (∀ j, j < 3 * h ∨ 3 * h + gts.length ≤ j → Y' 79 j = Y 79 j ∧ Y' 80 j = Y 80 j) ∧ (∀ (i t : Nat), gts[i]? = some t → Y' 79 (3 * h + i) = obM C (its.map (·.1)) Y t ∧ Y' 80 (3 * h + i) = onM C N (its.map (·.1)) Y t))) := by
  obtain ⟨F, Y', x, q1, f1, hx⟩ := gr_T (sc := sc) (d := d - 1) hS hT hN hg hG hh h30 h4 hk (by omega) h 0 Y (by omega) FA_r
  rw [Int.natCast_zero] at q1
  refine ⟨Y', x, (pq_e (by omega) (by decide) (Nat.le_of_ble_eq_true rfl) ⟨F + 1, sg_X12_groupRow_0.trans ?_⟩), f1, ?_⟩
  · exact q1
  · rcases hx with ⟨i, -, i2, i3, i4, i5, i6⟩ | ⟨n1, n2⟩ | ⟨n1, n2⟩
    · exact Or.inl ⟨i, i2, i3, i4, i5, fun j hj => i6 j (Nat.zero_le _) hj⟩
    · exact Or.inr (Or.inl ⟨fun j hj => n1 j (Nat.zero_le _) hj, n2⟩)
    · exact Or.inr (Or.inr ⟨fun j hj => n1 j (Nat.zero_le _) hj, n2⟩)
/-- the cells of a line -/
theorem fd_T {sc : List Int} {d : Nat} {Y : q_M} {C P N : Nat → Int} {q : Nat} {its : List aIt} {ous : List aOu} {gts : List Nat} {wf wt : Nat} {r : Nat} (h : SM Y C P N q its ous gts wf wt) (hT : TIq C q (its.map (·.1))) (hN : NW Y) (h4 : ous.length ≤ 4) (hk : ∀ o ∈ ous, ((266 ≤ o.1 ∧ o.1 ≤ 269) ∨ o.1 = 275) ∧ (¬ o.1 = 266 → CT C q o.2.2 ∧ 0 ≤ itm C (its.map (·.1)) (C o.2.2))) (hr : r < 30) (hd : 1 ≤ d) : ∀ (m k : Nat) (Y1 : q_M), k + m = ous.length → (∀ a, ¬ a = 77 → ¬ a = 78 → ¬ a = 49 → Y1 a = Y a) → (∀ j, ¬ j = 44 → ¬ j = 45 → ¬ j = 54 → Y1 49 j = Y 49 j) → ∃ F Y', pr sc (pq sc d) 202 F 35 [some (.inr (.inr 49)), some (.inl (r : Int)), some (.inl (k : Int))] [] Y1 = some (none, GF, Y') ∧ (∀ a, ¬ a = 77 → ¬ a = 78 → ¬ a = 49 → Y' a = Y a) ∧ (∀ j, ¬ j = 44 → ¬ j = 45 → ¬ j = 54 → Y' 49 j = Y 49 j) ∧ (∀ j, j < 4 * r + k ∨ 4 * r + ous.length ≤ j → Y' 77 j = Y1 77 j ∧ Y' 78 j = Y1 78 j) ∧ (∀ (i : Nat) o, k ≤ i → ous[i]? = some o → Y' 78 (4 * r + i) = gatN o.1 (Y1 78 (4 * r + i)) (Y1 77 (4 * r + i)) (obM C (its.map (·.1)) Y o.2.2) (onM C N (its.map (·.1)) Y o.2.2) ∧ Y' 77 (4 * r + i) = gatU o.1 (Y1 77 (4 * r + i)) (obM C (its.map (·.1)) Y o.2.2)) := by
  intro m
  induction m with
  | zero =>
    intro k Y1 hm hf1 hf2
    refine ⟨0 + 1, Y1, sg_X12_found_35.trans ?_, hf1, hf2, fun _ _ => ⟨rfl, rfl⟩, fun i o hi ho => ?_⟩
    · rw [hf2 23 (by decide) (by decide) (by decide), h.2.2.2.1.1, if_neg (by omega)]
    · have := (List.getElem?_eq_some_iff.mp ho).1; omega
  | succ m ih =>
    intro k Y1 hm hf1 hf2
    have hfg : FX Y Y1 := ⟨fun a h1 h2 => hf1 a (by omega) (by omega) h2, fun j h1 h2 _ h4 => hf2 j h1 h2 h4⟩
    have h1 := SM_gy h (FX_Y hfg)
    have ho : ous[k]? = some ous[k] := List.getElem?_eq_getElem (by omega)
    have hm2 : ous[k] ∈ ous := List.getElem_mem (by omega)
    generalize ous[k] = o at ho hm2
    obtain ⟨hko, hct⟩ := hk o hm2
    obtain ⟨e62, e63⟩ := h1.2.2.2.1.2 k o ho
    have e62' : mko o.1 = 207 ↔ o.1 = 266 := by unfold mko; split <;> omega
    have hI : 0 ≤ (k : Int) ∧ (k : Int) < ((5 : Nat) : Int) := by omega
    -- the rest behind one cell
    have fin : ∀ Y2 Y3 : q_M, FA Y1 Y2 → (∀ a, ¬ a = 77 → ¬ a = 78 → Y3 a = Y2 a) → (∀ j, ¬ j = 4 * r + k → Y3 77 j = Y2 77 j ∧ Y3 78 j = Y2 78 j) → Y3 78 (4 * r + k) = gatN o.1 (Y2 78 (4 * r + k)) (Y2 77 (4 * r + k)) (obM C (its.map (·.1)) Y o.2.2) (onM C N (its.map (·.1)) Y o.2.2) → Y3 77 (4 * r + k) = gatU o.1 (Y2 77 (4 * r + k)) (obM C (its.map (·.1)) Y o.2.2) → (∀ F, pr sc (pq sc d) 202 (F + 1) 35 [some (.inr (.inr 49)), some (.inl (r : Int)), some (.inl (k : Int))] [] Y1 = pr sc (pq sc d) 202 F 35 [some (.inr (.inr 49)), some (.inl (r : Int)), some (.inl ((k + 1 : Nat) : Int))] [] Y3) → ∃ F Y', pr sc (pq sc d) 202 F 35 [some (.inr (.inr 49)), some (.inl (r : Int)), some (.inl (k : Int))] [] Y1 = some (none, GF, Y') ∧ (∀ a, ¬ a = 77 → ¬ a = 78 → ¬ a = 49 → Y' a = Y a) ∧ (∀ j, ¬ j = 44 → ¬ j = 45 → ¬ j = 54 → Y' 49 j = Y 49 j) ∧ (∀ j, j < 4 * r + k ∨ 4 * r + ous.length ≤ j → Y' 77 j = Y1 77 j ∧ Y' 78 j = Y1 78 j) ∧ (∀ (i : Nat) o, k ≤ i → ous[i]? = some o → Y' 78 (4 * r + i) = gatN o.1 (Y1 78 (4 * r + i)) (Y1 77 (4 * r + i)) (obM C (its.map (·.1)) Y o.2.2) (onM C N (its.map (·.1)) Y o.2.2) ∧ Y' 77 (4 * r + i) = gatU o.1 (Y1 77 (4 * r + i)) (obM C (its.map (·.1)) Y o.2.2)) := by
      intro Y2 Y3 f2 f3 g3 e1 e2 st
      have g77 : Y2 77 = Y1 77 := f2.1 77 (by decide)
      have g78 : Y2 78 = Y1 78 := f2.1 78 (by decide)
      rw [g77] at g3 e1 e2
      rw [g78] at g3 e1
      obtain ⟨F, Y', q4, r1, r2, r3, r4⟩ := ih (k + 1) Y3 (by omega) (fun a h1 h2 h3 => by rw [f3 a h1 h2, f2.1 a h3]; exact hf1 a h1 h2 h3) (fun j h1 h2 h3 => by rw [f3 49 (by decide) (by decide), f2.2 j h1 h2 h3]; exact hf2 j h1 h2 h3)
      refine ⟨F + 1, Y', (st F).trans q4, r1, r2, fun j hj => ?_, fun i o' h1 h2 => ?_⟩
      · have := r3 j (by omega)
        rw [this.1, this.2]; exact g3 j (by omega)
      · by_cases z : i = k
        · subst z
          rw [ho] at h2; cases h2
          have := r3 (4 * r + i) (by omega)
          rw [this.1, this.2]; exact ⟨e1, e2⟩
        · have := r4 i o' (by omega) h2
          have g := g3 (4 * r + i) (by omega)
          rw [g.1, g.2] at this; exact this
    by_cases c : o.1 = 266
    · obtain ⟨Y3, q1, g1, g2, g3, g4⟩ := mk_gather (sc := sc) (d := d) (Y := Y1) (n := 4 * r + k) (k := o.1) (b := obM C (its.map (·.1)) Y o.2.2) (v := onM C N (its.map (·.1)) Y o.2.2) (by omega) hko (fun h => absurd c h) hd
      refine fin Y1 Y3 FA_r g1 g2 g3 g4 (fun F => sg_X12_found_35.trans ?_)
      rw [h1.2.2.2.1.1, if_pos (by omega), if_pos hI, Int.toNat_natCast, e62, if_pos (e62'.mpr c), if_pos hI, ix6 hr (by omega), q1, q_c0_s, qw1 (by omega)]
    · obtain ⟨hc, hi⟩ := hct c
      obtain ⟨p1, p2, Y2, p3, f2, e1, e2⟩ := mk_col3 (sc := sc) (d := d) h1 hT (NW_fg hN hfg) hc hi hd
      rw [(ob_fg (N := N) hfg).1] at e1
      rw [(ob_fg hfg).2] at e2
      obtain ⟨Y3, q1, g1, g2, g3, g4⟩ := mk_gather (sc := sc) (d := d) (Y := Y2) (n := 4 * r + k) (k := o.1) (b := obM C (its.map (·.1)) Y o.2.2) (v := onM C N (its.map (·.1)) Y o.2.2) (by omega) hko (fun _ => ⟨e1, fun _ => e2⟩) hd
      refine fin Y2 Y3 f2 g1 g2 g3 g4 (fun F => sg_X12_found_35.trans ?_)
      rw [h1.2.2.2.1.1, if_pos (by omega), if_pos hI, Int.toNat_natCast, e62, if_neg (fun z => c (e62'.mp z)), if_pos hI, e63, p1, q_cI_s, if_pos hI, e63, p2, q_cI_s, p3, q_c0_s, if_pos hI, f2.1 62 (by decide), e62, ix6 hr (by omega), q1, q_c0_s, qw1 (by omega)]
