theorem PT3 {C : Nat → Int} {p u s q : Nat} {st : List (Int × Int × Int)} {ot : List Nat} {pt : List (Nat × Nat)} (h : aC C 600 2 0 p u s = some (true, q, st, ot, pt)) : ∃ tp md, (md = 0 ∨ md = 2) ∧ PD C u s st ot pt tp md 600 ∧ ∀ ob on, (aV C ob on 600 2 p).2 = 2 ↔ ∀ x ∈ tp, (aV C ob on x.2.2 md x.1).2 = 2 := by
  rcases PT2 (f := 599) h with ⟨b, g, l, k1, k2, k3, -⟩ | ⟨k1, -⟩
  · exact ⟨_, 0, Or.inl rfl, k1, k3⟩
  · exact ⟨_, 2, Or.inr rfl, k1, fun ob on => by simp⟩
theorem mk_fits {sc : List Int} {d : Nat} {Y Y' : q_M} {a b : Int} {v : Int} {k : Nat} (hk : k < 4) (h67 : Y 67 k = a) (h68 : Y 68 k = b) (hv : 0 ≤ v ∧ v ≤ 2) (h : pq sc (d - 1) 196 [.inr (.inr 49), .inl a, .inl b] GF Y = some (some (.inl (mu v)), GF, Y')) (hd : 1 ≤ d) : pq sc d 203 [.inr (.inr 49), .inl (k : Int)] GF Y = some (some (.inl (if v = 2 then 1 else 0)), GF, Y') := by
  refine (pq_e (by omega) (by decide) (Nat.le_of_ble_eq_true rfl) ⟨0 + 1, sg_X12_fits_0.trans ?_⟩)
  rw [if_pos (by omega), if_pos (by omega), Int.toNat_natCast, h67, h68, h, q_cI_s]
  have hm := (mu_r hv).2.1
  by_cases g : v = 2
  · rw [if_pos (hm.mpr g), if_pos g]
  · rw [if_neg (fun e => g (hm.mp e)), if_neg g]
/-- an item's own condition: class and model agree -/
theorem ev_on {sc : List Int} {d dm : Nat} {X Y : q_M} {C P N : Nat → Int} {ls : List (Nat × Nat)} {tp : List (Nat × Nat × Nat)} {md : Nat} {j : Nat} (h : RS X Y C P N ls tp md) (hj : j < (qJ C).2.2.1.length) (hL : LV X Y C N ((j : Int) + 2)) (hd : 7 ≤ d) (hm9 : 7 ≤ dm) : ∃ X' Y' x, pq sc d 90 [.inr (.inr 24), .inl ((j + 1 : Nat) : Int), .inl 0] GF X = some (some (.inl x), GF, X') ∧ pq sc dm 203 [.inr (.inr 49), .inl ((j + 1 : Nat) : Int)] GF Y = some (some (.inl x), GF, Y') ∧ (x = 0 ∨ x = 1) ∧ (∀ a, ¬ a = 32 → X' a = X a) ∧ FE Y Y' := by
  have h' := h
  obtain ⟨hq, hF, hk, hC, hM, ⟨hmd, hls, hPD, hl40, hzq⟩, hN, hW⟩ := h
  have hJ := qJ_p hq
  have hjl : (qJ C).2.2.1.length ≤ 2 := (aJ_len _ _ _ _ _ (aQ_ok hq).2.2.2.2.1).2.2.2
  have hit : (qJ C).2.2.1[j]? = some (qJ C).2.2.1[j] := List.getElem?_eq_getElem hj
  generalize (qJ C).2.2.1[j] = it at hit
  obtain ⟨u', s', st', ot', pt', c1, c2, c3, c4, c5, c6⟩ := hJ.2 j it hit
  have ek : 1 + j = j + 1 := by omega
  rw [ek] at c5 c6
  obtain ⟨tp', md', m1, m2, m3⟩ := PT3 c1
  obtain ⟨-, -, -, hO, ⟨hS, hSl⟩, hP⟩ := hC
  have hst : ∀ (i : Nat) w, st'[i]? = some w → (qStp C)[s' + i]? = some w := fun i w hw => by
    have := c4 i w hw
    rw [Nat.sub_zero] at this
    unfold qStp
    rw [List.getElem?_append_left (List.getElem?_eq_some_iff.mp this).1]; exact this
  have hot : ∀ (i t : Nat), ot'[i]? = some t → (qOps C)[u' + i]? = some (t, ((j + 1 : Nat) : Int)) := fun i t ht => by
    have := c5 i t ht
    have hl := (List.getElem?_eq_some_iff.mp this).1
    unfold qOps
    rw [List.append_assoc, List.append_assoc, List.getElem?_append_right (by rw [List.length_map]; omega), List.length_map, List.getElem?_append_left (by omega), show u' + i - (qO C).2.2.2.length = u' - (qO C).2.2.2.length + i by omega]
    exact this
  have hlive : ∀ t ∈ ot', ¬ cst C t → 0 ≤ itm C (qTl C) (C t) ∧ itm C (qTl C) (C t) < (j : Int) + 2 := fun t ht hc => by
    obtain ⟨m, hm⟩ := mem_ops.mpr ht
    have := hN.1 _ (List.mem_of_getElem? (hot m t hm)) hc
    dsimp only at this
    omega
  generalize hob : obM C (qTl C) Y = ob at *
  generalize hon : onM C N (qTl C) Y = on at *
  -- each part of it
  have part : ∀ (m : Nat) (y : Nat × Nat) (z : Nat × Nat × Nat), pt'[m]? = some y → tp'[m]? = some z → ∀ M' : q_M, (∀ a, ¬ a = 32 → M' a = X a) → ∃ M'', pq sc (d - 1) 91 [.inr (.inr 24), .inl (y.1 : Int), .inl (y.2 : Int)] GF M' = some (some (.inl (aV C ob on z.2.2 md' z.1).2), GF, M'') ∧ ∀ a, ¬ a = 32 → M'' a = X a := by
    intro m y z hy hz M' hM'
    obtain ⟨hcd, hfm⟩ := m2.2 m y z hy hz
    have hSI := SS_SI (M := X) (C := C) (tl := qTl C) (P := P) (N := N) (L := ((j + 1 : Nat) : Int)) (by omega) hcd hst hot hS (fun i x hx => ⟨by have := (List.getElem?_eq_some_iff.mp hx).1; have := hO.2.1; omega, (hO.2.2 i x hx).2.1⟩)
    obtain ⟨u2, st2, ot2, pt2, d1, d2, d3, d4, d5, d6⟩ := hcd
    have hot2 : ∀ (i t : Nat), ot2[i]? = some t → (qOps C)[u2 + i]? = some (t, ((j + 1 : Nat) : Int)) := fun i t ht => by
      have := hot _ _ (d6 i t ht)
      rw [show u' + (u2 - u' + i) = u2 + i by omega] at this
      exact this
    have hov := LV_ov (k := (j : Int) + 2) h' (by rw [← hob, ← hon] at *; exact hL) hot2 (fun t ht hc => by
      obtain ⟨m, hm⟩ := mem_ops.mpr ht
      exact (hlive t (List.mem_of_getElem? (d6 m t hm)) hc).2)
    rw [hob, hon] at hov
    have hs2 : STp X y.1 st2 := ST_of hS hSl (fun m w hw => by
      have := hst _ _ (d5 m w hw)
      rw [show s' + (y.1 - s' + m) = y.1 + m by omega] at this
      exact this)
    obtain ⟨M'', q2, f2⟩ := cx_truth (sc := sc) (d := d - 1) (M := M') d1 (by omega) (OV_fr hov (hM' 22 (by decide)) (hM' 23 (by decide))) (fun m w hw => by
      rw [hM' 25 (by decide), hM' 26 (by decide), hM' 27 (by decide)]; exact hs2 m w hw) (by have := hSI.2.2.2; omega) (by omega)
    exact ⟨M'', by rw [d2, q2], fun a ha => (f2 a ha).trans (hM' a ha)⟩
  have n1' : X 24 9 = (qPrt C).length := hP.1
  have byi : ∀ i, i < (qPrt C).length → X 30 i = ((j + 1 : Nat) : Int) → X 31 i = 0 → ∃ (m : Nat) (y : Nat × Nat) (z : Nat × Nat × Nat), pt'[m]? = some y ∧ tp'[m]? = some z ∧ X 28 i = y.1 ∧ X 29 i = y.2 := by
    intro i hi e30 e31
    have hxi : (qPrt C)[i]? = some (qPrt C)[i] := List.getElem?_eq_getElem hi
    generalize (qPrt C)[i] = x at hxi
    obtain ⟨p1, p2, p3, p4, -⟩ := hP.2.2 i x hxi
    rcases prt_i hq i x hxi with ⟨-, a2, a3, -⟩ | ⟨j', y, rfl, hy, rfl⟩
    · obtain ⟨y, y1, y2⟩ := (c6 x).mp ⟨a2, by rw [← p4 a3]; exact e30⟩
      obtain ⟨m, hm⟩ := mem_ops.mpr y1
      have hml : m < tp'.length := by rw [m2.1]; exact (List.getElem?_eq_some_iff.mp hm).1
      exact ⟨m, y, _, hm, List.getElem?_eq_getElem hml, by rw [p1, y2], by rw [p2, y2]⟩
    · dsimp only at p3
      omega
  have hex : ∀ i, ∃ v : Int, i < (qPrt C).length → X 30 i = ((j + 1 : Nat) : Int) → X 31 i = 0 → (∃ z ∈ tp', v = (aV C ob on z.2.2 md' z.1).2) ∧ ∀ M' : q_M, (∀ a, ¬ a = 32 → M' a = X a) → ∃ M'', pq sc (d - 1) 91 [.inr (.inr 24), .inl (X 28 i), .inl (X 29 i)] GF M' = some (some (.inl v), GF, M'') ∧ ∀ a, ¬ a = 32 → M'' a = X a := by
    intro i
    by_cases g : i < (qPrt C).length ∧ X 30 i = ((j + 1 : Nat) : Int) ∧ X 31 i = 0
    · obtain ⟨m, y, z, hy, hz, e1, e2⟩ := byi i g.1 g.2.1 g.2.2
      refine ⟨_, fun _ _ _ => ⟨⟨z, List.mem_of_getElem? hz, rfl⟩, fun M' hM' => ?_⟩⟩
      rw [e1, e2]
      exact part m y z hy hz M' hM'
    · exact ⟨0, fun a b c => absurd ⟨a, b, c⟩ g⟩
  obtain ⟨V, hV⟩ : ∃ V : Nat → Int, ∀ i, i < (qPrt C).length → X 30 i = ((j + 1 : Nat) : Int) → X 31 i = 0 → (∃ z ∈ tp', V i = (aV C ob on z.2.2 md' z.1).2) ∧ ∀ M' : q_M, (∀ a, ¬ a = 32 → M' a = X a) → ∃ M'', pq sc (d - 1) 91 [.inr (.inr 24), .inl (X 28 i), .inl (X 29 i)] GF M' = some (some (.inl (V i)), GF, M'') ∧ ∀ a, ¬ a = 32 → M'' a = X a := ⟨fun i => Classical.choose (hex i), fun i => Classical.choose_spec (hex i)⟩
  obtain ⟨X', x, q1, f1, r1⟩ := cx_allTrue (sc := sc) (d := d) (M := X) (V := V) (k := ((j + 1 : Nat) : Int)) (w := 0) n1' hP.2.1 (fun M' i hM' hi e30 e31 => (hV i hi e30 e31).2 M' hM') (by omega)
  have hiff : (∀ i, i < (qPrt C).length → X 30 i = ((j + 1 : Nat) : Int) → X 31 i = 0 → V i = 2) ↔ (aV C ob on 600 2 it.2.2.1).2 = 2 := by
    rw [m3 ob on]
    constructor
    · intro hh z hz
      obtain ⟨m, hm⟩ := mem_ops.mpr hz
      have hml : m < pt'.length := by rw [← m2.1]; exact (List.getElem?_eq_some_iff.mp hm).1
      have hy : pt'[m]? = some pt'[m] := List.getElem?_eq_getElem hml
      generalize pt'[m] = y at hy
      obtain ⟨a1, a2⟩ := (c6 (y.1, y.2, ((j + 1 : Nat) : Int), pW ((j + 1 : Nat) : Int))).mpr ⟨y, List.mem_of_getElem? hy, rfl⟩
      obtain ⟨i, hi⟩ := mem_ops.mpr a1
      have hi2 : (qPrt C)[i]? = some (y.1, y.2, ((j + 1 : Nat) : Int), pW ((j + 1 : Nat) : Int)) := by
        unfold qPrt
        rw [List.getElem?_append_left (List.getElem?_eq_some_iff.mp hi).1]; exact hi
      have hpw : pW ((j + 1 : Nat) : Int) = 0 := by unfold pW; rw [if_neg (by omega)]
      obtain ⟨p1, p2, p3, p4, -⟩ := hP.2.2 i _ hi2
      dsimp only at p1 p2 p3 p4
      have hil := (List.getElem?_eq_some_iff.mp hi2).1
      have v2 := hh i hil (p4 hpw) (by rw [p3]; exact hpw)
      obtain ⟨M1, k1, -⟩ := (hV i hil (p4 hpw) (by rw [p3]; exact hpw)).2 X (fun _ _ => rfl)
      obtain ⟨M2, k2, -⟩ := part m y z hy hm X (fun _ _ => rfl)
      rw [p1, p2, k2] at k1
      simp only [Option.some.injEq, Prod.mk.injEq, Sum.inl.injEq] at k1
      rw [← v2]; exact k1.1
    · intro hh i a b c
      obtain ⟨⟨z, hz, e⟩, -⟩ := hV i a b c
      rw [e]; exact hh z hz
  rw [hiff] at r1
  have hits : (qMi C)[j + 1]? = some it := by unfold qMi; simpa using hit
  obtain ⟨-, -, -, i4⟩ := hM.1.2.2.1.2 (j + 1) it hits
  obtain ⟨i5, i6⟩ := i4 (by omega)
  have hrq : it.2.2.2 ≤ (aQ C).2 := (hF.2.2.2.1.1 it (List.mem_of_getElem? hit)).2.2.1
  obtain ⟨Y', q2, f2⟩ := mx_truth (sc := sc) (d := dm - 1) (M := Y) hM.1 (TIq_m hF) hk hW c1 (Or.inr rfl) (by omega) hrq (fun t ht hc => by rw [qMi_t]; exact (hlive t ht hc).1) (by omega)
  rw [qMi_t, hob, hon] at q2
  have hv := aV_r (C := C) (ob := ob) (on := on) 600 2 it.2.2.1
  have q3 := mk_fits (sc := sc) (d := dm) (k := j + 1) (by omega) i5 i6 hv q2 (by omega)
  rcases r1 with ⟨e1, r1⟩ | ⟨e1, r1⟩
  · subst e1
    rw [if_pos r1] at q3
    exact ⟨X', Y', 1, q1, q3, Or.inr rfl, f1, f2⟩
  · subst e1
    rw [if_neg r1] at q3
    exact ⟨X', Y', 0, q1, q3, Or.inl rfl, f1, f2⟩
/-- the first item has no condition of its own -/
theorem ev_on0 {sc : List Int} {d : Nat} {X Y : q_M} {C P N : Nat → Int} {ls : List (Nat × Nat)} {tp : List (Nat × Nat × Nat)} {md : Nat} (h : RS X Y C P N ls tp md) (hd : 1 ≤ d) : ∃ X', pq sc d 90 [.inr (.inr 24), .inl 0, .inl 0] GF X = some (some (.inl 1), GF, X') ∧ (∀ a, ¬ a = 32 → X' a = X a) := by
  obtain ⟨hq, hF, hk, hC, hM, -⟩ := h
  obtain ⟨-, -, -, hO, -, hP⟩ := hC
  have no : ∀ i, i < (qPrt C).length → X 30 i = 0 → X 31 i = 0 → False := by
    intro i hi e30 e31
    have hxi : (qPrt C)[i]? = some (qPrt C)[i] := List.getElem?_eq_getElem hi
    generalize (qPrt C)[i] = x at hxi
    obtain ⟨p1, p2, p3, p4, -⟩ := hP.2.2 i x hxi
    rcases prt_i hq i x hxi with ⟨-, a2, a3, a4⟩ | ⟨j', y, rfl, hy, rfl⟩
    · have := p4 a3; omega
    · dsimp only at p3; omega
  obtain ⟨X', x, q1, f1, r1⟩ := cx_allTrue (sc := sc) (d := d) (M := X) (V := fun _ => 0) (k := 0) (w := 0) hP.1 hP.2.1 (fun M' i hM' hi e30 e31 => (no i hi e30 e31).elim) hd
  rcases r1 with ⟨rfl, -⟩ | ⟨-, r1⟩
  · exact ⟨X', q1, f1⟩
  · exact absurd (fun j h1 h2 h3 => (no j h1 h2 h3).elim) r1
