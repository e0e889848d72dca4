/-! conditions come to the same on both sides -/
/-- the columns of items below k are loaded -/
def LV (X Y : q_M) (C N : Nat → Int) (k : Int) : Prop := ∀ (i : Nat) x, (qOps C)[i]? = some x → ¬ cst C x.1 → itm C (qTl C) (C x.1) < k → X 23 i = obM C (qTl C) Y x.1 ∧ (obM C (qTl C) Y x.1 = 0 → X 22 i = onM C N (qTl C) Y x.1)
/-- all that stays while a query is run -/
def RS (X Y : q_M) (C P N : Nat → Int) (ls : List (Nat × Nat)) (tp : List (Nat × Nat × Nat)) (md : Nat) : Prop := (aQ C).1 = true ∧ QF C ∧ (∀ i, i ≤ (aQ C).2 → kR (C i)) ∧ QC X C N ∧ QM Y C P N ls ∧ WP C ls tp md ∧ NBd (Y 51) C ∧ NW Y
theorem LV_ov {X Y : q_M} {C P N : Nat → Int} {ls : List (Nat × Nat)} {tp : List (Nat × Nat × Nat)} {md : Nat} {k : Int} {u : Nat} {ot : List Nat} {L : Int} (h : RS X Y C P N ls tp md) (hL : LV X Y C N k) (hot : ∀ (i t : Nat), ot[i]? = some t → (qOps C)[u + i]? = some (t, L)) (hlive : ∀ t ∈ ot, ¬ cst C t → itm C (qTl C) (C t) < k) : OV X (obM C (qTl C) Y) (onM C N (qTl C) Y) u ot := by
  obtain ⟨-, -, -, hC, -⟩ := h
  obtain ⟨-, -, -, hO, -⟩ := hC
  intro i t ht
  have e := hot i t ht
  have hl := (List.getElem?_eq_some_iff.mp e).1
  obtain ⟨-, o2, o3⟩ := hO.2.2 _ _ e
  refine ⟨by have := hO.2.1; omega, ?_⟩
  by_cases hc : cst C t
  · obtain ⟨a1, a2⟩ := o3 hc
    rw [a1, a2]
    unfold cst at hc
    unfold opU obM onM
    dsimp only
    by_cases c1 : C t = 274
    · rw [if_neg (by omega), if_pos c1]
      exact ⟨rfl, fun h => by omega⟩
    · have c2 : C t = 258 := by omega
      rw [if_pos c2, if_neg c1, if_pos c2, if_neg c1, if_pos c2]
      exact ⟨rfl, fun _ => rfl⟩
  · exact hL _ _ e hc (hlive t (List.mem_of_getElem? ht) hc)
theorem ST_of {X : q_M} {stp st : List (Int × Int × Int)} {sb : Nat} (hS : SA X stp) (hl : stp.length ≤ 130) (h : ∀ (m : Nat) y, st[m]? = some y → stp[sb + m]? = some y) : STp X sb st := by
  intro i y hy
  have e := h i y hy
  have := hS.2 _ _ e
  exact ⟨by have := (List.getElem?_eq_some_iff.mp e).1; omega, this.1, this.2.1, this.2.2⟩
theorem qJ_p {C : Nat → Int} (h : (aQ C).1 = true) : JP C 1 (qO C).2.2.2.length 0 (qJ C).2.2.1 (qJ C).2.2.2.1 (qJ C).2.2.2.2.1 (qJ C).2.2.2.2.2 := aJ_jp _ _ _ _ _ (aQ_ok h).2.2.2.2.1
/-- parts, by their numbers -/
theorem prt_i {C : Nat → Int} (h : (aQ C).1 = true) (i : Nat) (x : Nat × Nat × Int × Int) (hx : (qPrt C)[i]? = some x) : (i < (qJ C).2.2.2.2.2.length ∧ x ∈ (qJ C).2.2.2.2.2 ∧ x.2.2.2 = 0 ∧ (1 ≤ x.2.2.1 ∧ x.2.2.1 ≤ 2)) ∨ (∃ (j : Nat) (y : Nat × Nat), i = (qJ C).2.2.2.2.2.length + j ∧ (qW C).2.2.2.2[j]? = some y ∧ x = (y.1, y.2, 3, 1)) := by
  unfold qPrt at hx
  rcases Nat.lt_or_ge i (qJ C).2.2.2.2.2.length with hi | hi
  · rw [List.getElem?_append_left hi] at hx
    have hm := List.mem_of_getElem? hx
    obtain ⟨j, j1, j2, j3⟩ := (qJ_p h).1 x hm
    have hl : (qJ C).2.2.1.length ≤ 2 := (aJ_len _ _ _ _ _ (aQ_ok h).2.2.2.2.1).2.2.2
    refine Or.inl ⟨hi, hm, ?_, by omega, by omega⟩
    rw [j3, pW, if_neg (by omega)]
  · rw [List.getElem?_append_right hi] at hx
    unfold pm at hx
    rw [if_pos rfl, List.getElem?_map] at hx
    rcases hy : (qW C).2.2.2.2[i - (qJ C).2.2.2.2.2.length]? with _ | y
    · rw [hy] at hx; cases hx
    · rw [hy] at hx
      simp only [Option.map_some, Option.some.injEq] at hx
      exact Or.inr ⟨i - (qJ C).2.2.2.2.2.length, y, by omega, hy, by rw [← hx]; rfl⟩
/-- a part of where, all about it -/
theorem wpart {X Y : q_M} {C P N : Nat → Int} {ls : List (Nat × Nat)} {tp : List (Nat × Nat × Nat)} {md : Nat} (h : RS X Y C P N ls tp md) {j : Nat} {y : Nat × Nat} {z : Nat × Nat × Nat} (hy : (qW C).2.2.2.2[j]? = some y) (hz : tp[j]? = some z) : X 30 ((qJ C).2.2.2.2.2.length + j) = Y 72 j ∧ X 31 ((qJ C).2.2.2.2.2.length + j) = 1 ∧ X 28 ((qJ C).2.2.2.2.2.length + j) = y.1 ∧ X 29 ((qJ C).2.2.2.2.2.length + j) = y.2 ∧ Y 70 j = z.1 ∧ Y 71 j = z.2.1 ∧ ∃ u' st' ot' pt', aC C z.2.2 md 0 z.1 u' y.1 = some (true, z.2.1, st', ot', pt') ∧ y.2 = y.1 + st'.length ∧ STp X y.1 st' ∧ y.1 + st'.length ≤ 130 ∧ z.2.2 ≤ 600 ∧ (∀ (m t : Nat), ot'[m]? = some t → (qOps C)[u' + m]? = some (t, 3)) ∧ MX (Y 72 j) (SI C (qTl C) z.1 z.2.1) := by
  have h' := h
  obtain ⟨hq, hF, hk, hC, hM, ⟨hmd, hls, hPD, hl40, hzq⟩, hN, hW⟩ := h
  obtain ⟨-, -, -, hO, ⟨hS, hSl⟩, hP⟩ := hC
  have hx : (qPrt C)[(qJ C).2.2.2.2.2.length + j]? = some (y.1, y.2, 3, 1) := by
    unfold qPrt
    rw [List.getElem?_append_right (by omega), Nat.add_sub_cancel_left]
    unfold pm
    rw [if_pos rfl, List.getElem?_map, hy]; rfl
  obtain ⟨p1, p2, p3, -, p5⟩ := hP.2.2 _ _ hx
  have p5 := p5 (by show ¬ (1 : Int) = 0; decide)
  obtain ⟨hcd, hfm⟩ := hPD.2 j y z hy hz
  have hst : ∀ (i : Nat) w, (qW C).2.2.1[i]? = some w → (qStp C)[(qJ C).2.2.2.1.length + i]? = some w := fun i w hw => by
    unfold qStp
    rw [List.getElem?_append_right (by omega), Nat.add_sub_cancel_left]; exact hw
  have hot : ∀ (i t : Nat), (qW C).2.2.2.1[i]? = some t → (qOps C)[qU C + i]? = some (t, 3) := fun i t ht => by
    unfold qOps qU
    have e1 : ((qO C).2.2.2.map (·, (3 : Int)) ++ (qJ C).2.2.2.2.1).length = (qO C).2.2.2.length + (qJ C).2.2.2.2.1.length := by simp
    rw [List.getElem?_append_left (by have := (List.getElem?_eq_some_iff.mp ht).1; simp; omega), List.getElem?_append_right (by omega), e1, Nat.add_sub_cancel_left, List.getElem?_map, ht]; rfl
  have hSI := SS_SI (M := X) (C := C) (tl := qTl C) (P := P) (N := N) (L := 3) (by omega) hcd hst hot hS (fun i x hx => ⟨by have := (List.getElem?_eq_some_iff.mp hx).1; have := hO.2.1; omega, (hO.2.2 i x hx).2.1⟩)
  have hlsj : ls[j]? = some (z.1, z.2.1) := by rw [hls, List.getElem?_map, hz]; rfl
  obtain ⟨m1, m2, m3⟩ := hM.2.1.2 j _ hlsj
  obtain ⟨u', st', ot', pt', c1, c2, c3, c4, c5, c6⟩ := hcd
  refine ⟨MX_u p5 m3 hSI.1, p3, p1, p2, m1, m2, u', st', ot', pt', c1, c2, ST_of hS hSl (fun m w hw => ?_), ?_, hfm, fun m t ht => ?_, m3⟩
  · have := hst _ _ (c5 m w hw)
    rw [show (qJ C).2.2.2.1.length + (y.1 - (qJ C).2.2.2.1.length + m) = y.1 + m by omega] at this
    exact this
  · have := hSI.2.2.2; omega
  · have := hot _ _ (c6 m t ht)
    rw [show qU C + (u' - qU C + m) = u' + m by omega] at this
    exact this
theorem TIq_m {C : Nat → Int} (h : QF C) : TIq C (aQ C).2 ((qMi C).map (·.1)) := by rw [qMi_t]; exact h.1
/-- where: class and model agree -/
theorem ev_where {sc : List Int} {d dm : Nat} {X Y : q_M} {C P N : Nat → Int} {ls : List (Nat × Nat)} {tp : List (Nat × Nat × Nat)} {md : Nat} {k : Nat} (h : RS X Y C P N ls tp md) (hL : LV X Y C N ((k : Int) + 1)) (hd : 7 ≤ d) (hm9 : 7 ≤ dm) : ∃ X' Y' x, pq sc d 90 [.inr (.inr 24), .inl (k : Int), .inl 1] GF X = some (some (.inl x), GF, X') ∧ pq sc dm 197 [.inr (.inr 49), .inl (k : Int)] GF Y = some (some (.inl x), GF, Y') ∧ (x = 0 ∨ x = 1) ∧ (∀ a, ¬ a = 32 → X' a = X a) ∧ FE Y Y' := by
  have h' := h
  obtain ⟨hq, hF, hk, hC, hM, ⟨hmd, hls, hPD, hl40, hzq⟩, hN, hW⟩ := h
  generalize hob : obM C (qTl C) Y = ob at *
  generalize hon : onM C N (qTl C) Y = on at *
  let Vw : Nat → Int := fun j => (aV C ob on (tp.getD j (0, 0, 0)).2.2 md (tp.getD j (0, 0, 0)).1).2
  have hVwr : ∀ j, 0 ≤ Vw j ∧ Vw j ≤ 2 := fun j => aV_r _ _ _
  have htl : tp.length = (qW C).2.2.2.2.length := hPD.1
  have hget : ∀ j, j < tp.length → ∃ y z, (qW C).2.2.2.2[j]? = some y ∧ tp[j]? = some z ∧ Vw j = (aV C ob on z.2.2 md z.1).2 := by
    intro j hj
    refine ⟨_, _, List.getElem?_eq_getElem (by omega), List.getElem?_eq_getElem hj, ?_⟩
    show (aV C ob on (tp.getD j (0, 0, 0)).2.2 md (tp.getD j (0, 0, 0)).1).2 = _
    rw [List.getD_eq_getElem?_getD, List.getElem?_eq_getElem hj]; rfl
  have n1' : X 24 9 = (qPrt C).length := hC.2.2.2.2.2.1
  have hprl : (qPrt C).length = (qJ C).2.2.2.2.2.length + tp.length := by
    unfold qPrt
    rw [List.length_append, pm_len0, htl]
  obtain ⟨X', x, q1, f1, r1⟩ := cx_allTrue (sc := sc) (d := d) (M := X) (V := fun i => Vw (i - (qJ C).2.2.2.2.2.length)) (k := (k : Int)) (w := 1) n1' hC.2.2.2.2.2.2.1 (fun M' i hM' hi e30 e31 => by
    have hxi : (qPrt C)[i]? = some (qPrt C)[i] := List.getElem?_eq_getElem hi
    rcases prt_i hq i _ hxi with ⟨-, -, a3, -⟩ | ⟨j, y, rfl, hy, -⟩
    · have := (hC.2.2.2.2.2.2.2 i _ hxi).2.2.1
      omega
    · have hj : j < tp.length := by rw [htl]; exact (List.getElem?_eq_some_iff.mp hy).1
      obtain ⟨y', z, hy', hz, hv⟩ := hget j hj
      rw [hy] at hy'; cases hy'
      obtain ⟨w1, w2, w3, w4, w5, w6, u', st', ot', pt', c1, c2, c3, c4, c5, c6, c7⟩ := wpart h' hy hz
      have al := aC_al _ _ _ _ _ _ _ _ _ _ c1
      have hov := LV_ov (k := (k : Int) + 1) h' (by rw [← hob, ← hon] at *; exact hL) c6 (fun t ht hc => by
        obtain ⟨b1, b2, b3⟩ := al.2.1 t ht
        rcases b3 with b3 | b3
        · exact absurd b3 hc
        · have := c7.2.1 _ ⟨t, b1, b2, b3.1, b3.2.1, rfl⟩
          omega)
      rw [hob, hon] at hov
      obtain ⟨M'', q2, f2⟩ := cx_truth (sc := sc) (d := d - 1) (M := M') c1 (by omega) (OV_fr hov (hM' 22 (by decide)) (hM' 23 (by decide))) (fun m w hw => by
        rw [hM' 25 (by decide), hM' 26 (by decide), hM' 27 (by decide)]; exact c3 m w hw) c4 (by omega)
      refine ⟨M'', ?_, fun a ha => (f2 a ha).trans (hM' a ha)⟩
      rw [w3, w4, c2, q2, Nat.add_sub_cancel_left, hv]) (by omega)
  have n2' : Y 49 36 = tp.length := by rw [hM.2.1.1, hls, List.length_map]
  obtain ⟨Y', y, q2, f2, r2⟩ := mx_passes (sc := sc) (d := dm) (M := Y) (V := Vw) (k := (k : Int)) n2' hl40 hVwr (fun M' j hM' hj e72 => by
    obtain ⟨y', z, hy', hz, hv⟩ := hget j hj
    obtain ⟨w1, w2, w3, w4, w5, w6, u', st', ot', pt', c1, c2, c3, c4, c5, c6, c7⟩ := wpart h' hy' hz
    have al := aC_al _ _ _ _ _ _ _ _ _ _ c1
    have hrq : z.2.1 ≤ (aQ C).2 := hzq z (List.mem_of_getElem? hz)
    obtain ⟨M'', q3, f3⟩ := mx_truth (sc := sc) (d := dm - 1) (M := M') (SM_fe hM.1 hM') (TIq_m hF) hk (NW_fe hW hM') c1 (by omega) (by omega) hrq (fun t ht hc => by
      rw [qMi_t]
      obtain ⟨m, hm⟩ := mem_ops.mpr ht
      exact (hN.1 _ (List.mem_of_getElem? (c6 m t hm)) hc).1) (by omega)
    have eo := fun t => ob_fe (C := C) (N := N) (tl := qTl C) hM' (t := t)
    have e1 : obM C (qTl C) M' = ob := by rw [← hob]; funext t; exact (eo t).1
    have e2 : onM C N (qTl C) M' = on := by rw [← hon]; funext t; exact (eo t).2
    rw [qMi_t, e1, e2] at q3
    exact ⟨M'', by rw [w5, w6, q3, hv], FE_t hM' f3⟩) (by omega)
  have hiff : (∀ j, j < (qPrt C).length → X 30 j = (k : Int) → X 31 j = 1 → Vw (j - (qJ C).2.2.2.2.2.length) = 2) ↔ (∀ j, j < tp.length → Y 72 j = (k : Int) → Vw j = 2) := by
    constructor
    · intro hh j hj e
      obtain ⟨y', z, hy', hz, hv⟩ := hget j hj
      obtain ⟨w1, w2, -⟩ := wpart h' hy' hz
      have := hh ((qJ C).2.2.2.2.2.length + j) (by omega) (by rw [w1]; exact e) w2
      rwa [Nat.add_sub_cancel_left] at this
    · intro hh i hi e30 e31
      have hxi : (qPrt C)[i]? = some (qPrt C)[i] := List.getElem?_eq_getElem hi
      rcases prt_i hq i _ hxi with ⟨-, -, a3, -⟩ | ⟨j, y, rfl, hy, -⟩
      · have := (hC.2.2.2.2.2.2.2 i _ hxi).2.2.1
        omega
      · have hj : j < tp.length := by rw [htl]; exact (List.getElem?_eq_some_iff.mp hy).1
        obtain ⟨y', z, hy', hz, hv⟩ := hget j hj
        obtain ⟨w1, w2, -⟩ := wpart h' hy' hz
        rw [Nat.add_sub_cancel_left]
        exact hh j hj (by rw [← w1]; exact e30)
  rw [hiff] at r1
  rcases r1 with ⟨e1, r1⟩ | ⟨e1, r1⟩ <;> rcases r2 with ⟨e2, r2⟩ | ⟨e2, r2⟩
  · subst e1; subst e2
    exact ⟨X', Y', 1, q1, q2, Or.inr rfl, f1, f2⟩
  · exact absurd r1 r2
  · exact absurd r2 r1
  · subst e1; subst e2
    exact ⟨X', Y', 0, q1, q2, Or.inl rfl, f1, f2⟩
