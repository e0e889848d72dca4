/-! a found line, both sides -/
def RN (Y : q_M) : Prop := ∀ n, n < 120 → -2147483648 ≤ Y 53 n ∧ Y 53 n < 2147483648
def oK (C : Nat → Int) (Y : q_M) (k : Nat) : Int := match (qO C).2.2.1[k]? with | some o => if o.1 = 266 then 0 else obM C (qTl C) Y o.2.2 | none => 0
def vK (C N : Nat → Int) (Y : q_M) (k : Nat) : Int := match (qO C).2.2.1[k]? with | some o => onM C N (qTl C) Y o.2.2 | none => 0
theorem oK_s {C : Nat → Int} {Y : q_M} {k : Nat} {o : aOu} (h : (qO C).2.2.1[k]? = some o) : oK C Y k = if o.1 = 266 then 0 else obM C (qTl C) Y o.2.2 := by unfold oK; rw [h]
theorem vK_s {C N : Nat → Int} {Y : q_M} {k : Nat} {o : aOu} (h : (qO C).2.2.1[k]? = some o) : vK C N Y k = onM C N (qTl C) Y o.2.2 := by unfold vK; rw [h]
theorem on_0 {C N : Nat → Int} {q : Nat} {tl : List Nat} {Y : q_M} {t : Nat} (hc : CT C q t) (h : ¬ obM C tl Y t = 0) : onM C N tl Y t = 0 := by
  obtain ⟨c1, c2, c3, c4, c5⟩ := hc
  unfold obM fB at h
  unfold onM fN
  rw [if_neg (by omega), if_neg (by omega)] at h ⊢
  split
  · rfl
  · rename_i z
    rw [if_neg z] at h
    rw [if_neg h]
theorem on_r {C N : Nat → Int} {q : Nat} {tl : List Nat} {Y : q_M} {t : Nat} (hT : TIq C q tl) (hN : NW Y) (hR : RN Y) (hc : CT C q t) (hi : 0 ≤ itm C tl (C t)) : -2147483648 ≤ onM C N tl Y t ∧ onM C N tl Y t < 2147483648 := by
  obtain ⟨c1, c2, c3, c4, c5⟩ := hc
  have hr : itm C tl (C t) < (tl.length : Int) := itm_r
  unfold onM fN
  rw [if_neg (by omega), if_neg (by omega)]
  by_cases z : Y 76 (kI C tl t) < 0
  · rw [if_pos z]; omega
  · rw [if_neg z]
    have := cI_lt (k := kI C tl t) (c := C (t + 2) - 97) hT hN (by unfold kI; omega) (by omega) (by omega)
    split
    · exact hR _ (by unfold cI; omega)
    · omega
/-- the tokens of outs and groups -/
theorem rs_tok {X Y : q_M} {C P N : Nat → Int} {ls : List (Nat × Nat)} {tp : List (Nat × Nat × Nat)} {md : Nat} (h : RS X Y C P N ls tp md) : (∀ o ∈ (qO C).2.2.1, ((266 ≤ o.1 ∧ o.1 ≤ 269) ∨ o.1 = 275) ∧ (¬ o.1 = 266 → CT C (aQ C).2 o.2.2 ∧ 0 ≤ itm C (qTl C) (C o.2.2))) ∧ (∀ t ∈ (qG C).2.2, CT C (aQ C).2 t ∧ 0 ≤ itm C (qTl C) (C t)) ∧ (qGrs C).length = (qG C).2.2.length ∧ (qG C).2.2.length ≤ 3 := by
  obtain ⟨h1, h2, h3, h4, h5, h6, h7, h8⟩ := h
  obtain ⟨l1, l2, l3⟩ := LK_q h2
  have kO := h2.2.1
  have gO := h2.2.2.2.2.2.2.1
  have itf : ∀ (u t : Nat), (qOps C)[u]? = some (t, 3) → CT C (aQ C).2 t → 0 ≤ itm C (qTl C) (C t) := fun u t hu hc => by
    have := h7.1 (t, 3) (List.mem_of_getElem? hu) (fun z => by rcases z with z | z <;> (have := hc.1; have := hc.2.1; simp only [] at z; omega))
    exact this.1
  refine ⟨fun o ho => ⟨(kO.2 o ho).1, fun hn => ?_⟩, fun t ht => ?_, l2, gO.1⟩
  · obtain ⟨u, -, hu⟩ := l1 o ho hn
    exact ⟨(kO.2 o ho).2 hn, itf u _ hu ((kO.2 o ho).2 hn)⟩
  · obtain ⟨i, hi, e⟩ := List.getElem_of_mem ht
    have hg : (qGrs C)[i]? = some (qGrs C)[i] := List.getElem?_eq_getElem (by omega)
    obtain ⟨t', e1, e2⟩ := l3 i _ hg
    rw [List.getElem?_eq_getElem hi, e] at e1
    cases e1
    exact ⟨gO.2 t ht, itf _ _ e2 (gO.2 t ht)⟩
theorem rs_op {X Y : q_M} {C P N : Nat → Int} {ls : List (Nat × Nat)} {tp : List (Nat × Nat × Nat)} {md : Nat} (h : RS X Y C P N ls tp md) (hL : LV X Y C N 3) {u t : Nat} (hu : (qOps C)[u]? = some (t, 3)) (hc : CT C (aQ C).2 t) : u < 130 ∧ X 23 u = obM C (qTl C) Y t ∧ (obM C (qTl C) Y t = 0 → X 22 u = onM C N (qTl C) Y t) := by
  have hr : itm C (qTl C) (C t) < ((qTl C).length : Int) := itm_r
  have hT := h.2.1.1
  have h3 := hT.1
  have hl := h.2.2.2.1.2.2.2.1.2.1
  have hu' := (List.getElem?_eq_some_iff.mp hu).1
  obtain ⟨c1, c2, -⟩ := hc
  exact ⟨by omega, hL u (t, 3) hu (fun z => by rcases z with z | z <;> (simp only [] at z; omega)) (by simp only []; omega)⟩
theorem rs_UV {X Y : q_M} {C P N : Nat → Int} {ls : List (Nat × Nat)} {tp : List (Nat × Nat × Nat)} {md : Nat} (h : RS X Y C P N ls tp md) (hL : LV X Y C N 3) : UV X (qO C).2.2.1 (oK C Y) (vK C N Y) := by
  intro k o ho
  obtain ⟨t1, -, -, -⟩ := rs_tok h
  obtain ⟨hk, hc⟩ := t1 o (List.mem_of_getElem? ho)
  rw [oK_s ho, vK_s ho]
  by_cases c : o.1 = 266
  · rw [if_pos c]; exact ⟨Or.inl rfl, hk, fun h => absurd c h⟩
  · rw [if_neg c]
    obtain ⟨c1, c2⟩ := hc c
    refine ⟨ob_b h.2.1.1 h.2.2.2.2.2.2.2 c1 c2, hk, fun _ => ?_⟩
    obtain ⟨u, e1, e2⟩ := (LK_q h.2.1).1 o (List.mem_of_getElem? ho) c
    exact ⟨u, e1, rs_op h hL e2 c1⟩
/-- group columns -/
theorem rs_gr {X Y : q_M} {C P N : Nat → Int} {ls : List (Nat × Nat)} {tp : List (Nat × Nat × Nat)} {md : Nat} (h : RS X Y C P N ls tp md) (hL : LV X Y C N 3) {g u : Nat} (hg : (qGrs C)[g]? = some u) : ∃ t, (qG C).2.2[g]? = some t ∧ b01 (obM C (qTl C) Y t) ∧ X 23 u = obM C (qTl C) Y t ∧ (obM C (qTl C) Y t = 0 → X 22 u = onM C N (qTl C) Y t) ∧ (¬ obM C (qTl C) Y t = 0 → onM C N (qTl C) Y t = 0) := by
  obtain ⟨t, e1, e2⟩ := (LK_q h.2.1).2.2 g u hg
  obtain ⟨-, t2, -, -⟩ := rs_tok h
  obtain ⟨c1, c2⟩ := t2 t (List.mem_of_getElem? e1)
  obtain ⟨-, o1, o2⟩ := rs_op h hL e2 c1
  exact ⟨t, e1, ob_b h.2.1.1 h.2.2.2.2.2.2.2 c1 c2, o1, o2, fun z => on_0 c1 z⟩
theorem rs_gr' {X Y : q_M} {C P N : Nat → Int} {ls : List (Nat × Nat)} {tp : List (Nat × Nat × Nat)} {md : Nat} (h : RS X Y C P N ls tp md) {g t : Nat} (hg : (qG C).2.2[g]? = some t) : ∃ u, (qGrs C)[g]? = some u := by
  have := (rs_tok h).2.2.1
  have hg' := (List.getElem?_eq_some_iff.mp hg).1
  exact ⟨_, List.getElem?_eq_getElem (by omega)⟩
/-- the result of both sides, h lines -/
def AH (X Y : q_M) (C : Nat → Int) (h : Nat) : Prop := h ≤ 30 ∧ X 43 3 = h ∧ Y 49 49 = h ∧ X 43 2 = (qO C).2.2.1.length ∧ (∀ (r k : Nat) o, r < h → (qO C).2.2.1[k]? = some o → X 44 (4 * r + k) = Y 78 (4 * r + k) ∧ X 45 (4 * r + k) = Y 77 (4 * r + k) ∧ b01 (Y 77 (4 * r + k)) ∧ (Y 77 (4 * r + k) = 1 → Y 78 (4 * r + k) = 0) ∧ (o.1 = 266 → Y 77 (4 * r + k) = 0)) ∧ (∀ (r g t : Nat), r < h → (qG C).2.2[g]? = some t → X 48 (3 * r + g) = Y 79 (3 * r + g) ∧ b01 (Y 79 (3 * r + g)) ∧ (Y 79 (3 * r + g) = 0 → X 47 (3 * r + g) = Y 80 (3 * r + g)) ∧ (Y 79 (3 * r + g) = 1 → Y 80 (3 * r + g) = 0)) ∧ (∀ (r k : Nat) o (g t : Nat), r < h → (qO C).2.2.1[k]? = some o → o.1 = 275 → (qG C).2.2[g]? = some t → C t = C o.2.2 → C (t + 2) = C (o.2.2 + 2) → Y 77 (4 * r + k) = Y 79 (3 * r + g) ∧ (Y 79 (3 * r + g) = 0 → Y 78 (4 * r + k) = Y 80 (3 * r + g)))
def AN (X Y : q_M) (C : Nat → Int) : Prop := ∃ h, AH X Y C h
theorem isGK {X Y : q_M} {C P N : Nat → Int} {ls : List (Nat × Nat)} {tp : List (Nat × Nat × Nat)} {md : Nat} {n r : Nat} (h : RS X Y C P N ls tp md) (hL : LV X Y C N 3) (hA : AH X Y C n) (hr : r < n) : isG X (qGrs C) r ↔ isK Y C N (qTl C) (qG C).2.2 r := by
  obtain ⟨-, -, -, -, -, hK, -⟩ := hA
  constructor
  · intro hg g t ht
    obtain ⟨u, hu⟩ := rs_gr' h ht
    obtain ⟨t', e1, e2, e3, e4, e5⟩ := rs_gr h hL hu
    rw [ht] at e1; cases e1
    obtain ⟨k1, k2, k3, k4⟩ := hK r g t hr ht
    obtain ⟨g1, g2⟩ := hg g u hu
    have a1 : Y 79 (3 * r + g) = obM C (qTl C) Y t := by rw [← k1, g1, e3]
    refine ⟨a1, ?_⟩
    rcases e2 with z | z
    · rw [← e4 z, ← k3 (a1.trans z), g2 (e3.trans z)]
    · rw [e5 (by rw [z]; decide), k4 (a1.trans z)]
  · intro hg g u hu
    obtain ⟨t, ht, e2, e3, e4, e5⟩ := rs_gr h hL hu
    obtain ⟨k1, k2, k3, k4⟩ := hK r g t hr ht
    obtain ⟨g1, g2⟩ := hg g t ht
    refine ⟨by rw [k1, g1, e3], fun z => ?_⟩
    rw [e3] at z
    rw [k3 (g1.trans z), g2, e4 z]
/-- operands of one alias and letter are the same -/
theorem ob_same {C N : Nat → Int} {tl : List Nat} {Y : q_M} {s t : Nat} (h1 : C s = C t) (h2 : C (s + 2) = C (t + 2)) (hc : ¬ C t = 258) : obM C tl Y s = obM C tl Y t ∧ onM C N tl Y s = onM C N tl Y t := by
  unfold obM onM kI
  rw [h1, h2, if_neg hc, if_neg hc]
  exact ⟨rfl, by rw [if_neg hc]⟩
theorem an_old {X Y : q_M} {C P N : Nat → Int} {ls : List (Nat × Nat)} {tp : List (Nat × Nat × Nat)} {md : Nat} {X' Y' : q_M} {n r : Nat} (h : RS X Y C P N ls tp md) (hL : LV X Y C N 3) (hR : RN Y) (hA : AH X Y C n) (hr : r < n) (hK : isK Y C N (qTl C) (qG C).2.2 r) (hg : gth (qO C).2.2.1 (qG C).2.2.length) (x1 : X' 43 = X 43) (x2 : X' 47 = X 47) (x3 : X' 48 = X 48) (x4 : ∀ j, j < 4 * r ∨ 4 * r + (qO C).2.2.1.length ≤ j → X' 44 j = X 44 j ∧ X' 45 j = X 45 j) (x5 : ∀ (i : Nat) o, (qO C).2.2.1[i]? = some o → X' 44 (4 * r + i) = talN o.1 (X 44 (4 * r + i)) (X 45 (4 * r + i)) (oK C Y i) (vK C N Y i) ∧ X' 45 (4 * r + i) = talU o.1 (X 45 (4 * r + i)) (oK C Y i)) (y1 : Y' 49 49 = Y 49 49) (y2 : Y' 79 = Y 79) (y3 : Y' 80 = Y 80) (y4 : ∀ j, j < 4 * r ∨ 4 * r + (qO C).2.2.1.length ≤ j → Y' 77 j = Y 77 j ∧ Y' 78 j = Y 78 j) (y5 : ∀ (i : Nat) o, (qO C).2.2.1[i]? = some o → Y' 78 (4 * r + i) = gatN o.1 (Y 78 (4 * r + i)) (Y 77 (4 * r + i)) (obM C (qTl C) Y o.2.2) (onM C N (qTl C) Y o.2.2) ∧ Y' 77 (4 * r + i) = gatU o.1 (Y 77 (4 * r + i)) (obM C (qTl C) Y o.2.2)) : AH X' Y' C n := by
  obtain ⟨a1, a2, a3, a4, a5, a6, a7⟩ := hA
  obtain ⟨t1, t2, t3, t4⟩ := rs_tok h
  have h4 := h.2.1.2.1.1
  have hT := h.2.1.1
  have hN := h.2.2.2.2.2.2.2
  -- a cell of the line
  have cell : ∀ (k : Nat) o, (qO C).2.2.1[k]? = some o → X' 44 (4 * r + k) = Y' 78 (4 * r + k) ∧ X' 45 (4 * r + k) = Y' 77 (4 * r + k) ∧ b01 (Y' 77 (4 * r + k)) ∧ (Y' 77 (4 * r + k) = 1 → Y' 78 (4 * r + k) = 0) ∧ (o.1 = 266 → Y' 77 (4 * r + k) = 0) ∧ (o.1 = 275 → Y' 77 (4 * r + k) = Y 77 (4 * r + k) ∧ Y' 78 (4 * r + k) = Y 78 (4 * r + k)) := by
    intro k o ho
    obtain ⟨c1, c2, c3, c4, c5⟩ := a5 r k o hr ho
    obtain ⟨p1, p2⟩ := x5 k o ho
    obtain ⟨s1, s2⟩ := y5 k o ho
    rw [p1, p2, s1, s2, c1, c2, oK_s ho, vK_s ho]
    obtain ⟨hk, hc⟩ := t1 o (List.mem_of_getElem? ho)
    by_cases z : o.1 = 266
    · have e := c5 z
      rw [if_pos z, e, z]
      refine ⟨?_, ?_, ?_, ?_, ?_, ?_⟩ <;> simp [talN, gatN, talU, gatU, b01]
    · rw [if_neg z]
      obtain ⟨hc1, hc2⟩ := hc z
      have hb := ob_b hT hN hc1 hc2
      have hv := on_r (N := N) hT hN hR hc1 hc2
      have h5 : o.1 = 275 → Y 77 (4 * r + k) = obM C (qTl C) Y o.2.2 ∧ (obM C (qTl C) Y o.2.2 = 0 → Y 78 (4 * r + k) = onM C N (qTl C) Y o.2.2) := fun z5 => by
        obtain ⟨t, m1, m2, m3⟩ := h.2.2.2.2.2.2.1.2 hg o (List.mem_of_getElem? ho) z5
        obtain ⟨g, hgl, e⟩ := List.getElem_of_mem m1
        have ht : (qG C).2.2[g]? = some t := by rw [List.getElem?_eq_getElem hgl, e]
        obtain ⟨k1, k2⟩ := a7 r k o g t hr ho z5 ht m2 m3
        obtain ⟨i1, i2⟩ := hK g t ht
        obtain ⟨o1, o2⟩ := ob_same (N := N) (tl := qTl C) (Y := Y) m2 m3 (by have := hc1.2.1; omega)
        rw [k1, i1, o1]
        refine ⟨rfl, fun z0 => ?_⟩
        rw [k2 (by rw [i1, o1]; exact z0), i2, o2]
      obtain ⟨e1, e2⟩ := cell_old (k := o.1) (n := Y 78 (4 * r + k)) (u := Y 77 (4 * r + k)) hk hb c3 (fun _ => hv) c4 c5 h5
      refine ⟨e1, e2, ?_, ?_, fun e => absurd e z, fun z5 => ?_⟩
      · rw [← e2]; unfold talU; rw [if_neg z]
        split
        · exact c3
        · split
          · exact Or.inl rfl
          · exact c3
      · unfold gatU gatN; rw [if_neg z, if_neg z]
        by_cases zb : obM C (qTl C) Y o.2.2 = 0
        · rw [if_pos zb]; intro e; omega
        · rw [if_neg zb, if_neg zb]; exact c4
      · rw [← e1, ← e2]; unfold talU talN; rw [if_neg z, if_neg z, if_pos z5, if_pos z5]; exact ⟨rfl, rfl⟩
  have far : ∀ (r' k : Nat) o, (qO C).2.2.1[k]? = some o → ¬ r' = r → 4 * r' + k < 4 * r ∨ 4 * r + (qO C).2.2.1.length ≤ 4 * r' + k := fun r' k o ho hn => by
    have := (List.getElem?_eq_some_iff.mp ho).1; omega
  refine ⟨a1, by rw [x1]; exact a2, by rw [y1]; exact a3, by rw [x1]; exact a4, fun r' k o hr' ho => ?_, by rw [x2, x3, y2, y3]; exact a6, fun r' k o g t hr' ho h5 ht m1 m2 => ?_⟩
  · by_cases z : r' = r
    · subst z
      obtain ⟨c1, c2, c3, c4, c5, -⟩ := cell k o ho
      exact ⟨c1, c2, c3, c4, c5⟩
    · rw [(x4 _ (far r' k o ho z)).1, (x4 _ (far r' k o ho z)).2, (y4 _ (far r' k o ho z)).1, (y4 _ (far r' k o ho z)).2]
      exact a5 r' k o hr' ho
  · rw [y2, y3]
    by_cases z : r' = r
    · subst z
      obtain ⟨-, -, -, -, -, c6⟩ := cell k o ho
      rw [(c6 h5).1, (c6 h5).2]
      exact a7 r' k o g t hr' ho h5 ht m1 m2
    · rw [(y4 _ (far r' k o ho z)).1, (y4 _ (far r' k o ho z)).2]
      exact a7 r' k o g t hr' ho h5 ht m1 m2
theorem an_new {X Y : q_M} {C P N : Nat → Int} {ls : List (Nat × Nat)} {tp : List (Nat × Nat × Nat)} {md : Nat} {X' Y' : q_M} {n : Nat} (h : RS X Y C P N ls tp md) (hL : LV X Y C N 3) (hR : RN Y) (hA : AH X Y C n) (hn : n < 30) (x1 : X' 43 3 = ((n + 1 : Nat) : Int)) (x1b : X' 43 2 = X 43 2) (x2 : ∀ j, j < 3 * n → X' 47 j = X 47 j ∧ X' 48 j = X 48 j) (x3 : ∀ (i u : Nat), (qGrs C)[i]? = some u → X' 47 (3 * n + i) = X 22 u ∧ X' 48 (3 * n + i) = X 23 u) (x4 : ∀ j, j < 4 * n → X' 44 j = X 44 j ∧ X' 45 j = X 45 j) (x5 : ∀ (i : Nat) o, (qO C).2.2.1[i]? = some o → X' 44 (4 * n + i) = talN o.1 (begN o.1 (oK C Y i) (vK C N Y i)) (begU o.1 (oK C Y i)) (oK C Y i) (vK C N Y i) ∧ X' 45 (4 * n + i) = talU o.1 (begU o.1 (oK C Y i)) (oK C Y i)) (y1 : Y' 49 49 = ((n + 1 : Nat) : Int)) (y2 : ∀ j, j < 3 * n → Y' 79 j = Y 79 j ∧ Y' 80 j = Y 80 j) (y3 : ∀ (i t : Nat), (qG C).2.2[i]? = some t → Y' 79 (3 * n + i) = obM C (qTl C) Y t ∧ Y' 80 (3 * n + i) = onM C N (qTl C) Y t) (y4 : ∀ j, j < 4 * n → Y' 77 j = Y 77 j ∧ Y' 78 j = Y 78 j) (y5 : ∀ (i : Nat) o, (qO C).2.2.1[i]? = some o → Y' 78 (4 * n + i) = gatN o.1 0 (if o.1 = 266 then 0 else 1) (obM C (qTl C) Y o.2.2) (onM C N (qTl C) Y o.2.2) ∧ Y' 77 (4 * n + i) = gatU o.1 (if o.1 = 266 then 0 else 1) (obM C (qTl C) Y o.2.2)) : AH X' Y' C (n + 1) := by
  obtain ⟨a1, a2, a3, a4, a5, a6, a7⟩ := hA
  obtain ⟨t1, t2, t3, t4⟩ := rs_tok h
  have h4 := h.2.1.2.1.1
  have hT := h.2.1.1
  have hN := h.2.2.2.2.2.2.2
  have cell : ∀ (k : Nat) o, (qO C).2.2.1[k]? = some o → X' 44 (4 * n + k) = Y' 78 (4 * n + k) ∧ X' 45 (4 * n + k) = Y' 77 (4 * n + k) ∧ b01 (Y' 77 (4 * n + k)) ∧ (Y' 77 (4 * n + k) = 1 → Y' 78 (4 * n + k) = 0) ∧ (o.1 = 266 → Y' 77 (4 * n + k) = 0) ∧ (o.1 = 275 → Y' 77 (4 * n + k) = obM C (qTl C) Y o.2.2 ∧ (obM C (qTl C) Y o.2.2 = 0 → Y' 78 (4 * n + k) = onM C N (qTl C) Y o.2.2)) := by
    intro k o ho
    obtain ⟨p1, p2⟩ := x5 k o ho
    obtain ⟨s1, s2⟩ := y5 k o ho
    rw [p1, p2, s1, s2, oK_s ho, vK_s ho]
    obtain ⟨hk, hc⟩ := t1 o (List.mem_of_getElem? ho)
    by_cases z : o.1 = 266
    · rw [if_pos z, if_pos z, z]
      refine ⟨?_, ?_, ?_, ?_, ?_, ?_⟩ <;> simp [talN, gatN, talU, gatU, begN, begU, b01]
    · obtain ⟨hc1, hc2⟩ := hc z
      have hb := ob_b hT hN hc1 hc2
      have hv := on_r (N := N) hT hN hR hc1 hc2
      obtain ⟨e1, e2⟩ := cell_new (k := o.1) hk hb (fun _ => hv)
      rw [if_neg z] at e1 e2
      rw [if_neg z, if_neg z]
      refine ⟨e1, e2, ?_, ?_, fun e => absurd e z, fun z5 => ?_⟩
      · unfold gatU; rw [if_neg z]
        split
        · exact Or.inl rfl
        · exact Or.inr rfl
      · unfold gatU gatN; rw [if_neg z, if_neg z]
        by_cases zb : obM C (qTl C) Y o.2.2 = 0
        · rw [if_pos zb]; intro e; omega
        · rw [if_neg zb, if_neg zb]; intro _; rfl
      · unfold gatU gatN; rw [if_neg z, if_neg z, z5]
        rcases hb with zb | zb
        · rw [zb]; exact ⟨rfl, fun _ => rfl⟩
        · rw [zb]; exact ⟨rfl, fun e => absurd e (by decide)⟩
  refine ⟨by omega, x1, y1, by rw [x1b]; exact a4, fun r k o hr ho => ?_, fun r g t hr ht => ?_, fun r k o g t hr ho h5 ht m1 m2 => ?_⟩
  · have hk := (List.getElem?_eq_some_iff.mp ho).1
    by_cases z : r = n
    · subst z
      obtain ⟨c1, c2, c3, c4, c5, -⟩ := cell k o ho
      exact ⟨c1, c2, c3, c4, c5⟩
    · rw [(x4 _ (show 4 * r + k < 4 * n by omega)).1, (x4 _ (show 4 * r + k < 4 * n by omega)).2, (y4 _ (show 4 * r + k < 4 * n by omega)).1, (y4 _ (show 4 * r + k < 4 * n by omega)).2]
      exact a5 r k o (by omega) ho
  · have hg := (List.getElem?_eq_some_iff.mp ht).1
    by_cases z : r = n
    · subst z
      obtain ⟨u, hu⟩ := rs_gr' h ht
      obtain ⟨t', e1, e2, e3, e4, e5⟩ := rs_gr h hL hu
      rw [ht] at e1; cases e1
      rw [(x3 g u hu).1, (x3 g u hu).2, (y3 g t ht).1, (y3 g t ht).2]
      exact ⟨e3, e2, e4, fun z => e5 (by rw [z]; decide)⟩
    · rw [(x2 _ (show 3 * r + g < 3 * n by omega)).1, (x2 _ (show 3 * r + g < 3 * n by omega)).2, (y2 _ (show 3 * r + g < 3 * n by omega)).1, (y2 _ (show 3 * r + g < 3 * n by omega)).2]
      exact a6 r g t (by omega) ht
  · have hk := (List.getElem?_eq_some_iff.mp ho).1
    have hg := (List.getElem?_eq_some_iff.mp ht).1
    by_cases z : r = n
    · subst z
      obtain ⟨-, -, -, -, -, c6⟩ := cell k o ho
      have hc1 := (t1 o (List.mem_of_getElem? ho)).2 (by omega)
      obtain ⟨o1, o2⟩ := ob_same (N := N) (tl := qTl C) (Y := Y) m1 m2 (by have := hc1.1.2.1; omega)
      rw [(y3 g t ht).1, (y3 g t ht).2, o1, o2]
      exact c6 h5
    · rw [(y2 _ (show 3 * r + g < 3 * n by omega)).1, (y2 _ (show 3 * r + g < 3 * n by omega)).2, (y4 _ (show 4 * r + k < 4 * n by omega)).1, (y4 _ (show 4 * r + k < 4 * n by omega)).2]
      exact a7 r k o g t (by omega) ho h5 ht m1 m2
theorem sp_append {sc : List Int} {d : Nat} {X : q_M} {n : Nat} (hn : X 43 3 = n) (h30 : n < 30) (hd : 1 ≤ d) : pq sc d 3 [.inr (.inr 43)] GF X = some (some (.inl (n : Int)), GF, q_up X 43 3 ((n + 1 : Nat) : Int)) := by
  refine (pq_e (by omega) (by decide) (Nat.le_of_ble_eq_true rfl) ⟨0 + 1, sg_X0_append_0.trans ?_⟩)
  rw [hn, if_pos (by omega), qw1 (by omega), qwn (n := n) (by omega) (by omega)]
theorem sp_appendN {sc : List Int} {d : Nat} {X : q_M} (hn : X 43 3 = 30) (hd : 1 ≤ d) : pq sc d 3 [.inr (.inr 43)] GF X = some (some (.inl (-1)), GF, X) := by
  refine (pq_e (by omega) (by decide) (Nat.le_of_ble_eq_true rfl) ⟨0 + 1, sg_X0_append_0.trans ?_⟩)
  rw [hn, if_neg (by decide)]
/-- a new line of the class -/
theorem cl_new {sc : List Int} {d : Nat} {X : q_M} {n : Nat} {ous : List aOu} {grs : List Nat} {Ob On : Nat → Int} (hn : X 43 3 = n) (h30 : n < 30) (hw : X 43 2 = ous.length) (hU : UQ X ous) (hV : UV X ous Ob On) (hG : GQ X grs) (hb : ∀ (g u : Nat), grs[g]? = some u → b01 (X 23 u)) (hd : 4 ≤ d) : ∃ X1 X2 X3 F, pq sc d 3 [.inr (.inr 43)] GF X = some (some (.inl (n : Int)), GF, X1) ∧ pq sc d 23 [.inr (.inr 46), .inl (n : Int)] GF X1 = some (none, GF, X2) ∧ pr sc (pq sc d) 19 F 43 [some (.inr (.inr 46)), some (.inl (n : Int)), some (.inl 0)] [] X2 = some (some (.inl 1), GF, X3) ∧ (∀ a, ¬ (43 ≤ a ∧ a ≤ 45) → ¬ a = 47 → ¬ a = 48 → X3 a = X a) ∧ X3 43 3 = ((n + 1 : Nat) : Int) ∧ X3 43 2 = X 43 2 ∧ (∀ j, j < 3 * n → X3 47 j = X 47 j ∧ X3 48 j = X 48 j) ∧ (∀ (i u : Nat), grs[i]? = some u → X3 47 (3 * n + i) = X 22 u ∧ X3 48 (3 * n + i) = X 23 u) ∧ (∀ j, j < 4 * n → X3 44 j = X 44 j ∧ X3 45 j = X 45 j) ∧ (∀ (i : Nat) o, ous[i]? = some o → X3 44 (4 * n + i) = talN o.1 (begN o.1 (Ob i) (On i)) (begU o.1 (Ob i)) (Ob i) (On i) ∧ X3 45 (4 * n + i) = talU o.1 (begU o.1 (Ob i)) (Ob i)) := by
  have q1 := sp_append (sc := sc) (d := d) hn h30 (by omega)
  generalize hX1 : q_up X 43 3 ((n + 1 : Nat) : Int) = X1 at q1
  have A0 : ∀ a, ¬ a = 43 → X1 a = X a := fun a h => by rw [← hX1, q_upf h]
  have A1 : X1 43 3 = ((n + 1 : Nat) : Int) := by rw [← hX1, q_up_s]
  have A2 : X1 43 2 = X 43 2 := by rw [← hX1, q_up_sn (by decide)]
  have hU1 : UQ X1 ous := by
    unfold UQ at hU ⊢
    rw [A0 15 (by decide), A0 38 (by decide), A0 39 (by decide)]; exact hU
  have hG1 : GQ X1 grs := by
    unfold GQ at hG ⊢
    rw [A0 15 (by decide), A0 40 (by decide)]; exact hG
  have hV1 : UV X1 ous Ob On := by
    unfold UV at hV ⊢
    rw [A0 22 (by decide), A0 23 (by decide)]; exact hV
  obtain ⟨X2, q2, r1, r2, r3, r4, r5⟩ := cx_begin (sc := sc) (d := d) (X := X1) (r := n) (h := n + 1) (by omega) A1 (by omega) (A2.trans hw) hU1 (UV_b hV1) hG1 (by rw [A0 23 (by decide)]; exact hb) hd
  have hU2 : UQ X2 ous := by
    unfold UQ at hU1 ⊢
    rw [r1 15 (by decide) (by decide) (by decide) (by decide), r1 38 (by decide) (by decide) (by decide) (by decide), r1 39 (by decide) (by decide) (by decide) (by decide)]; exact hU1
  have hV2 : UV X2 ous Ob On := by
    unfold UV at hV1 ⊢
    rw [r1 22 (by decide) (by decide) (by decide) (by decide), r1 23 (by decide) (by decide) (by decide) (by decide)]; exact hV1
  obtain ⟨F, X3, q3, s1, s2, s3⟩ := tl_T (sc := sc) (d := d) (X0 := X2) (r := n) (h := n + 1) (by omega) (by rw [r1 43 (by decide) (by decide) (by decide) (by decide)]; exact A1) (by omega) (by rw [r1 43 (by decide) (by decide) (by decide) (by decide)]; exact A2.trans hw) hU2 hV2 (fun k hk => by
    have ho : ous[k]? = some ous[k] := List.getElem?_eq_getElem hk
    rw [(r3 k _ ho).2]; unfold begU
    split
    · exact (hV k _ ho).1
    · split
      · exact Or.inl rfl
      · exact Or.inr rfl) (by omega) ous.length 0 X2 (by omega) (fun _ _ _ => rfl) (fun _ _ => ⟨rfl, rfl⟩)
  rw [Int.natCast_zero] at q3
  refine ⟨X1, X2, X3, F, q1, q2, q3, fun a h1 h2 h3 => by rw [s1 a (by omega) (by omega), r1 a (by omega) (by omega) h2 h3, A0 a (by omega)], by rw [s1 43 (by decide) (by decide), r1 43 (by decide) (by decide) (by decide) (by decide), A1], by rw [s1 43 (by decide) (by decide), r1 43 (by decide) (by decide) (by decide) (by decide), A2], fun j hj => ?_, fun i u hu => ?_, fun j hj => ?_, fun i o ho => ?_⟩
  · rw [s1 47 (by decide) (by decide), s1 48 (by decide) (by decide), (r4 j (by omega)).1, (r4 j (by omega)).2, A0 47 (by decide), A0 48 (by decide)]; exact ⟨rfl, rfl⟩
  · rw [s1 47 (by decide) (by decide), s1 48 (by decide) (by decide), (r5 i u hu).1, (r5 i u hu).2, A0 22 (by decide), A0 23 (by decide)]; exact ⟨rfl, rfl⟩
  · rw [(s2 j (by omega)).1, (s2 j (by omega)).2, (r2 j (by omega)).1, (r2 j (by omega)).2, A0 44 (by decide), A0 45 (by decide)]; exact ⟨rfl, rfl⟩
  · have := s3 i o (Nat.zero_le _) ho
    rw [(r3 i o ho).1, (r3 i o ho).2] at this; exact this
