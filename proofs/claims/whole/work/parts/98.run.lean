/-! run, both sides -/
/-- what a run leaves alone -/
def GZ (Y Y' : q_M) : Prop := (∀ a, ¬ (73 ≤ a ∧ a ≤ 80) → ¬ a = 49 → Y' a = Y a) ∧ (∀ j, ¬ j = 1 → ¬ j = 44 → ¬ j = 45 → ¬ (47 ≤ j ∧ j ≤ 49) → ¬ j = 54 → Y' 49 j = Y 49 j)
theorem GZ_t {Y Y' Y'' : q_M} (h : GZ Y Y') (h' : GZ Y' Y'') : GZ Y Y'' := ⟨fun a h1 h2 => (h'.1 a h1 h2).trans (h.1 a h1 h2), fun j h0 h1 h2 h3 h4 => (h'.2 j h0 h1 h2 h3 h4).trans (h.2 j h0 h1 h2 h3 h4)⟩
theorem GY_Z {Y Y' : q_M} (h : GY Y Y') : GZ Y Y' := ⟨h.1, fun j _ h1 h2 h3 h4 => h.2 j h1 h2 h3 h4⟩
theorem QM_z {Y Y' : q_M} {C P N : Nat → Int} {ls : List (Nat × Nat)} (h : QM Y C P N ls) (hg : GZ Y Y') : QM Y' C P N ls := by
  obtain ⟨⟨h1, h2, h3, h4, h5, h6, h7⟩, hP, hG⟩ := h
  refine ⟨⟨?_, h2, MI_fr h3 (fun a _ _ => hg.1 a (by omega) (by omega)) (hg.2 26 (by decide) (by decide) (by decide) (by decide) (by decide)), MO_fr h4 (hg.1 62 (by decide) (by decide)) (hg.1 63 (by decide) (by decide)) (hg.2 23 (by decide) (by decide) (by decide) (by decide) (by decide)), MG_fr h5 (hg.1 69 (by decide) (by decide)) (hg.2 34 (by decide) (by decide) (by decide) (by decide) (by decide)), by rw [hg.2 32 (by decide) (by decide) (by decide) (by decide) (by decide)]; exact h6, by rw [hg.2 33 (by decide) (by decide) (by decide) (by decide) (by decide)]; exact h7⟩, ?_, by rw [hg.2 40 (by decide) (by decide) (by decide) (by decide) (by decide)]; exact hG⟩
  · unfold MK at h1 ⊢
    rw [hg.1 58 (by decide) (by decide), hg.1 59 (by decide) (by decide), hg.1 60 (by decide) (by decide)]; exact h1
  · unfold PM at hP ⊢
    rw [hg.2 36 (by decide) (by decide) (by decide) (by decide) (by decide), hg.1 70 (by decide) (by decide), hg.1 71 (by decide) (by decide), hg.1 72 (by decide) (by decide)]; exact hP
theorem RS_z {X X' Y Y' : q_M} {C P N : Nat → Int} {ls : List (Nat × Nat)} {tp : List (Nat × Nat × Nat)} {md : Nat} (h : RS X Y C P N ls tp md) (hx : GX X X') (hc : ∀ (i : Nat) x, (qOps C)[i]? = some x → cst C x.1 → X' 22 i = X 22 i ∧ X' 23 i = X 23 i) (hy : GZ Y Y') (hw : NW Y') : RS X' Y' C P N ls tp md := by
  obtain ⟨h1, h2, h3, h4, h5, h6, h7, h8⟩ := h
  exact ⟨h1, h2, h3, QC_fr h4 hx hc, QM_z h5 hy, h6, by rw [hy.1 51 (by decide) (by decide)]; exact h7, hw⟩
theorem DB_z {X X' Y Y' : q_M} (h : DB X Y) (hx : GX X X') (hy : GZ Y Y') : DB X' Y' := by
  have g : ∀ a, ¬ a = 22 → ¬ a = 23 → ¬ a = 32 → ¬ (43 ≤ a ∧ a ≤ 48) → X' a = X a := hx
  unfold DB at h ⊢
  rw [g 2 (by decide) (by decide) (by decide) (by decide), g 3 (by decide) (by decide) (by decide) (by decide), g 4 (by decide) (by decide) (by decide) (by decide), g 5 (by decide) (by decide) (by decide) (by decide), hy.1 51 (by decide) (by decide), hy.1 52 (by decide) (by decide), hy.1 53 (by decide) (by decide), hy.1 54 (by decide) (by decide)]
  exact h
theorem RN_z {Y Y' : q_M} (h : RN Y) (hg : GZ Y Y') : RN Y' := by
  unfold RN at h ⊢
  rw [hg.1 53 (by decide) (by decide)]; exact h
theorem sp_aclear {sc : List Int} {d : Nat} {X : q_M} {w : Int} (hd : 1 ≤ d) : pq sc d 1 [.inr (.inr 43), .inl w] GF X = some (none, GF, q_up (q_up X 43 2 w) 43 3 0) := by
  refine (pq_e (by omega) (by decide) (Nat.le_of_ble_eq_true rfl) ⟨0 + 1, sg_X0_clear_0.trans ?_⟩)
  rfl
theorem mk_fail {sc : List Int} {d : Nat} {Y : q_M} {w : Int} (hd : 1 ≤ d) : pq sc d 149 [.inr (.inr 49), .inl w] GF Y = some (some (.inl 0), GF, q_up Y 49 1 w) := by
  refine (pq_e (by omega) (by decide) (Nat.le_of_ble_eq_true rfl) ⟨0 + 1, sg_X12_fail_0.trans ?_⟩)
  rfl
/-- nothing is loaded yet -/
theorem LV_0 {X Y : q_M} {C P N : Nat → Int} {ls : List (Nat × Nat)} {tp : List (Nat × Nat × Nat)} {md : Nat} {X' Y' : q_M} (h : RS X Y C P N ls tp md) : LV X' Y' C N 0 := by
  intro i x hx hc hi
  have := h.2.2.2.2.2.2.1.1 x (List.mem_of_getElem? hx) hc
  omega
theorem ev_runs {sc : List Int} {d dm : Nat} {X Y : q_M} {C P N : Nat → Int} {ls : List (Nat × Nat)} {tp : List (Nat × Nat × Nat)} {md : Nat} (h : RS X Y C P N ls tp md) (hD : DB X Y) (hR : RN Y) (h22 : ¬ Y 49 22 = 0) (hd : 16 ≤ d) (hm9 : 13 ≤ dm) : ∃ X' Y' x r, pq sc d 16 [.inr (.inr 46)] GF X = some (some (.inl x), GF, X') ∧ pq sc dm 208 [.inr (.inr 49)] GF Y = some (some (.inl r), GF, Y') ∧ RS X' Y' C P N ls tp md ∧ GX X X' ∧ GZ Y Y' ∧ X' 46 8 = Y' 49 47 ∧ ((x = 1 ∧ r = Y' 49 49 ∧ Y' 49 1 = 0 ∧ AN X' Y' C) ∨ (x = 0 ∧ r = 0 ∧ Y' 49 1 = 2 ∧ Y' 49 49 = 0)) := by
  obtain ⟨t1, t2, t3, t4⟩ := rs_tok h
  have hU := h.2.2.2.1.2.1
  have hG := h.2.2.2.1.2.2.1
  have h4 := hU.2.1
  have hNW := h.2.2.2.2.2.2.2
  -- the model begins
  generalize hY1 : q_up (q_up (q_up (q_up Y 49 1 0) 49 47 0) 49 49 0) 49 48 0 = Y1
  have y0 : ∀ a, ¬ a = 49 → Y1 a = Y a := fun a ha => by rw [← hY1, q_upf ha, q_upf ha, q_upf ha, q_upf ha]
  have y1 : ∀ j, ¬ j = 1 → ¬ (47 ≤ j ∧ j ≤ 49) → Y1 49 j = Y 49 j := fun j e1 e2 => by rw [← hY1, q_up_sn (by omega), q_up_sn (by omega), q_up_sn (by omega), q_up_sn e1]
  have y47 : Y1 49 47 = 0 := by rw [← hY1, q_up_sn (by decide), q_up_sn (by decide), q_up_s]
  have y48 : Y1 49 48 = 0 := by rw [← hY1, q_up_s]
  have y49 : Y1 49 49 = 0 := by rw [← hY1, q_up_sn (by decide), q_up_s]
  have y01 : Y1 49 1 = 0 := by rw [← hY1, q_up_sn (by decide), q_up_sn (by decide), q_up_sn (by decide), q_up_s]
  have gz1 : GZ Y Y1 := ⟨fun a _ e2 => y0 a e2, fun j e0 _ _ e3 _ => y1 j e0 e3⟩
  have nw1 : NW Y1 := by
    unfold NW at hNW ⊢
    rw [y0 76 (by decide), y0 54 (by decide)]; exact hNW
  -- the class begins
  have hg9 : X 15 12 = ((qGrs C).length : Int) := hG.1
  have u46 : ∀ a, ¬ a = 46 → q_up X 46 8 0 a = X a := fun a ha => q_upf ha
  have hU0 : UQ (q_up X 46 8 0) (qO C).2.2.1 := by
    unfold UQ at hU ⊢
    rw [u46 15 (by decide), u46 38 (by decide), u46 39 (by decide)]; exact hU
  obtain ⟨g, q1, hg⟩ := sp_gathers (sc := sc) (d := d - 1) hU0 (by rw [u46 15 (by decide)]; exact hg9) (by omega)
  have hg01 : g = 0 ∨ g = 1 := by
    rcases hg with ⟨z, -⟩ | ⟨z, -⟩
    · exact Or.inr z
    · exact Or.inl z
  have g40 : Y 49 40 = g := by
    rw [t3] at hg
    rcases h.2.2.2.2.1.2.2 with ⟨z, w⟩ | ⟨z, w⟩ <;> rcases hg with ⟨z', w'⟩ | ⟨z', w'⟩
    · omega
    · exact absurd w w'
    · exact absurd w' w
    · omega
  have q2 := sp_outCount (sc := sc) (d := d - 1) (M := q_up (q_up X 46 8 0) 46 7 g) (by omega)
  rw [q_upf (by decide), u46 15 (by decide), hU.1] at q2
  have q3 := sp_aclear (sc := sc) (d := d - 1) (X := q_up (q_up X 46 8 0) 46 7 g) (w := ((qO C).2.2.1.length : Int)) (by omega)
  generalize hX1 : q_up (q_up (q_up (q_up X 46 8 0) 46 7 g) 43 2 ((qO C).2.2.1.length : Int)) 43 3 0 = X1 at q3
  have x0 : ∀ a, ¬ a = 43 → ¬ a = 46 → X1 a = X a := fun a e1 e2 => by rw [← hX1, q_upf e1, q_upf e1, q_upf e2, q_upf e2]
  have x7 : X1 46 7 = g := by rw [← hX1, q_up_ne (by decide), q_up_ne (by decide), q_up_s]
  have x8 : X1 46 8 = 0 := by rw [← hX1, q_up_ne (by decide), q_up_ne (by decide), q_up_sn (by decide), q_up_s]
  have x3 : X1 43 3 = 0 := by rw [← hX1, q_up_s]
  have x2 : X1 43 2 = (qO C).2.2.1.length := by rw [← hX1, q_up_sn (by decide), q_up_s]
  have gx1 : GX X X1 := fun a e1 e2 e3 e4 => x0 a (by omega) (by omega)
  have R1 : RS X1 Y1 C P N ls tp md := RS_z h gx1 (fun i x _ _ => by rw [x0 22 (by decide) (by decide), x0 23 (by decide) (by decide)]; exact ⟨rfl, rfl⟩) gz1 nw1
  have D1 := DB_z hD gx1 gz1
  have N1 := RN_z hR gz1
  have s1 : SV X1 Y1 C P N ls tp md := ⟨R1, D1, N1, by rw [x7, y1 40 (by decide) (by decide), g40], by rw [x8, y47]⟩
  have an1 : AN X1 Y1 C := ⟨0, by omega, x3, y49, x2, fun r k o hr => by omega, fun r g t hr => by omega, fun r k o g t hr => by omega⟩
  -- what comes behind the beginning
  have rest : ∀ X2 Y2 : q_M, LSt X2 Y2 C P N ls tp md 0 → GX X X2 → GZ Y Y2 → Y2 49 1 = 0 → (∀ x (X' : q_M), pq sc (d - 1) 17 [.inr (.inr 46), .inl 0] GF X2 = some (some (.inl x), GF, X') → (x = 0 ∨ x = 1) → pq sc d 16 [.inr (.inr 46)] GF X = some (some (.inl x), GF, X')) → (∀ Y', pq sc (dm - 1) 207 [.inr (.inr 49)] GF Y2 = some (none, GF, Y') → (Y' 49 48 = 0 → pq sc dm 208 [.inr (.inr 49)] GF Y = some (some (.inl (Y' 49 49)), GF, Y')) ∧ (Y' 49 48 = 1 → pq sc dm 208 [.inr (.inr 49)] GF Y = some (some (.inl 0), GF, q_up (q_up Y' 49 49 0) 49 1 2))) → ∃ X' Y' x r, pq sc d 16 [.inr (.inr 46)] GF X = some (some (.inl x), GF, X') ∧ pq sc dm 208 [.inr (.inr 49)] GF Y = some (some (.inl r), GF, Y') ∧ RS X' Y' C P N ls tp md ∧ GX X X' ∧ GZ Y Y' ∧ X' 46 8 = Y' 49 47 ∧ ((x = 1 ∧ r = Y' 49 49 ∧ Y' 49 1 = 0 ∧ AN X' Y' C) ∨ (x = 0 ∧ r = 0 ∧ Y' 49 1 = 2 ∧ Y' 49 49 = 0)) := by
    intro X2 Y2 hL gx gz y21 cl mo
    obtain ⟨X', Y', x, p1, p2, en⟩ := lv_0 (sc := sc) (d := d - 1) (dm := dm - 1) hL (by omega) (by omega)
    obtain ⟨sv, gx', gy', hc⟩ := en
    have gz' := GZ_t gz (GY_Z gy')
    rcases hc with ⟨rfl, an, -, e48⟩ | ⟨rfl, e48⟩
    · exact ⟨X', Y', 1, _, cl 1 X' p1 (Or.inr rfl), (mo Y' p2).1 e48, sv.1, GX_t gx gx', gz', sv.2.2.2.2, Or.inl ⟨rfl, rfl, by rw [gy'.2 1 (by decide) (by decide) (by decide) (by decide)]; exact y21, an⟩⟩
    · have gu : GZ Y' (q_up (q_up Y' 49 49 0) 49 1 2) := ⟨fun a _ e2 => by rw [q_upf e2, q_upf e2], fun j e0 _ _ e3 _ => by rw [q_up_sn e0, q_up_sn (by omega)]⟩
      have nw := sv.1.2.2.2.2.2.2.2
      refine ⟨X', _, 0, 0, cl 0 X' p1 (Or.inl rfl), (mo Y' p2).2 e48, RS_z sv.1 GX_r (fun _ _ _ _ => ⟨rfl, rfl⟩) gu ?_, GX_t gx gx', GZ_t gz' gu, ?_, Or.inr ⟨rfl, rfl, q_up_s, by rw [q_up_sn (by decide), q_up_s]⟩⟩
      · unfold NW at nw ⊢
        rw [q_upf (show ¬ 76 = 49 by decide), q_upf (show ¬ 76 = 49 by decide), q_upf (show ¬ 54 = 49 by decide), q_upf (show ¬ 54 = 49 by decide)]; exact nw
      · rw [q_up_sn (by decide), q_up_sn (by decide)]; exact sv.2.2.2.2
  have hl1 : LSt X1 Y1 C P N ls tp md 0 := ⟨s1, an1, LV_0 h, y48⟩
  have e34 : Y 49 34 = ((qG C).2.2.length : Int) := h.2.2.2.2.1.1.2.2.2.2.1.1
  have fin2 : ∀ Y' : q_M, (if Y' 49 48 = 0 then some (some (.inl (Y' 49 49)), GF, Y') else q_cI (pq sc (dm - 1) 149 [.inr (.inr 49), .inl 2] GF (q_up Y' 49 49 0)) GF (fun x3 M2 => some (some (.inl x3), GF, M2))) = (if Y' 49 48 = 0 then some (some (.inl (Y' 49 49)), GF, Y') else some (some (.inl 0), GF, q_up (q_up Y' 49 49 0) 49 1 2) : Option (Option q_V × q_G × q_M)) := fun Y' => by
    rw [mk_fail (by omega), q_cI_s]
  by_cases zg : g = 0
  · -- nothing is gathered
    refine rest X1 Y1 hl1 gx1 gz1 y01 (fun x X' p1 hx => (pq_e (by omega) (by decide) (Nat.le_of_ble_eq_true rfl) ⟨0 + 1, sg_X2_goThroughAll_0.trans ?_⟩)) (fun Y' p2 => ⟨fun e => (pq_e (by omega) (by decide) (Nat.le_of_ble_eq_true rfl) ⟨0 + 1, sg_X12_run_0.trans ?_⟩), fun e => (pq_e (by omega) (by decide) (Nat.le_of_ble_eq_true rfl) ⟨0 + 1, sg_X12_run_0.trans ?_⟩)⟩)
    · rw [q1, q_cI_s, if_pos hg01, q2, q_cI_s, q3, q_c0_s, x7, if_pos zg, p1, q_cI_s, if_pos hx]
    · rw [if_neg h22, if_pos (by rw [g40]; exact zg), hY1, p2, q_c0_s, fin2, if_pos e]
    · rw [if_neg h22, if_pos (by rw [g40]; exact zg), hY1, p2, q_c0_s, fin2, if_neg (by omega)]
  · have q4 := sp_groupedCount (sc := sc) (d := d - 1) (M := X1) (by omega)
    rw [x0 15 (by decide) (by decide), hg9, t3] at q4
    by_cases z3 : (qG C).2.2.length = 0
    · -- one line for all
      have gt : gth (qO C).2.2.1 (qG C).2.2.length := by
        rw [t3] at hg
        rcases hg with ⟨-, w⟩ | ⟨z, -⟩
        · exact w
        · exact absurd z zg
      have no5 : ∀ o ∈ (qO C).2.2.1, ¬ o.1 = 275 := fun o ho z5 => by
        obtain ⟨t, m1, -⟩ := h.2.2.2.2.2.2.1.2 gt o ho z5
        rw [List.length_eq_zero_iff.mp z3] at m1
        cases m1
      have gr0 : ∀ (g u : Nat), (qGrs C)[g]? = some u → False := fun g u hu => by
        have := (List.getElem?_eq_some_iff.mp hu).1; omega
      have q5 := sp_append (sc := sc) (d := d - 1) (X := X1) (n := 0) x3 (by decide) (by omega)
      generalize hX2 : q_up X1 43 3 ((0 + 1 : Nat) : Int) = X2 at q5
      have w0 : ∀ a, ¬ a = 43 → X2 a = X1 a := fun a e => by rw [← hX2, q_upf e]
      have w3 : X2 43 3 = ((0 + 1 : Nat) : Int) := by rw [← hX2, q_up_s]
      have w2 : X2 43 2 = (qO C).2.2.1.length := by rw [← hX2, q_up_sn (by decide)]; exact x2
      obtain ⟨X3, q6, r1, r2, r3, r4, r5⟩ := cx_begin (sc := sc) (d := d - 1) (X := X2) (r := 0) (h := 0 + 1) (ous := (qO C).2.2.1) (grs := qGrs C) (Ob := fun _ => 0) (On := fun _ => 0) (by decide) w3 (by decide) w2 (by
        have hU1 := R1.2.2.2.1.2.1
        unfold UQ at hU1 ⊢
        rw [w0 15 (by decide), w0 38 (by decide), w0 39 (by decide)]; exact hU1) (fun k o ho z5 => absurd z5 (no5 o (List.mem_of_getElem? ho))) (by
        have hG1 := R1.2.2.2.1.2.2.1
        unfold GQ at hG1 ⊢
        rw [w0 15 (by decide), w0 40 (by decide)]; exact hG1) (fun g u hu => (gr0 g u hu).elim) (by omega)
      obtain ⟨Y3, q7, n1, n2, n3, n4, n5⟩ := mk_newRow (sc := sc) (d := dm - 1) (Y := Y1) (h := 0) y49 (by decide) R1.2.2.2.2.1.1.2.2.2.1 h4 (fun o ho => (t1 o ho).1) (by omega)
      have k0 : ∀ a, ¬ (43 ≤ a ∧ a ≤ 45) → ¬ a = 47 → ¬ a = 48 → X3 a = X1 a := fun a e1 e2 e3 => by rw [r1 a (by omega) (by omega) e2 e3, w0 a (by omega)]
      have gx3 : GX X1 X3 := fun a e1 e2 e3 e4 => k0 a (by omega) (by omega) (by omega)
      have gy3 : GY Y1 Y3 := ⟨fun a e1 e2 => n1 a (by omega) (by omega) e2, fun j _ _ e3 _ => n2 j (by omega)⟩
      have nw3 : NW Y3 := by
        unfold NW at nw1 ⊢
        rw [n1 76 (by decide) (by decide) (by decide), n1 54 (by decide) (by decide) (by decide)]; exact nw1
      have l3 : LSt X3 Y3 C P N ls tp md 0 := by
        refine ⟨⟨RS_fr R1 gx3 (fun i x _ _ => by rw [k0 22 (by decide) (by decide) (by decide), k0 23 (by decide) (by decide) (by decide)]; exact ⟨rfl, rfl⟩) gy3 nw3, DB_fr D1 gx3 gy3, RN_fr N1 gy3, ?_, ?_⟩, ⟨0 + 1, by decide, ?_, n3, ?_, fun r k o hr ho => ?_, fun r g t hr ht => ?_, fun r k o g t hr ho z5 => absurd z5 (no5 o (List.mem_of_getElem? ho))⟩, LV_0 h, by rw [n2 48 (by decide)]; exact y48⟩
        · rw [k0 46 (by decide) (by decide) (by decide), n2 40 (by decide)]; exact s1.2.2.2.1
        · rw [k0 46 (by decide) (by decide) (by decide), n2 47 (by decide)]; exact s1.2.2.2.2
        · rw [r1 43 (by decide) (by decide) (by decide) (by decide)]; exact w3
        · rw [r1 43 (by decide) (by decide) (by decide) (by decide)]; exact w2
        · have hr0 : r = 0 := by omega
          subst hr0
          have n5k := n5 k o ho
          have r3k := r3 k o ho
          have hn := no5 o (List.mem_of_getElem? ho)
          rw [n5k.1, n5k.2, r3k.1, r3k.2]
          unfold begN begU
          rw [if_neg hn, if_neg hn]
          refine ⟨rfl, rfl, ?_, fun _ => rfl, fun z => by rw [if_pos z]⟩
          split
          · exact Or.inl rfl
          · exact Or.inr rfl
        · have := (List.getElem?_eq_some_iff.mp ht).1; omega
      refine rest X3 Y3 l3 (GX_t gx1 gx3) (GZ_t gz1 (GY_Z gy3)) (by rw [n2 1 (by decide)]; exact y01) (fun x X' p1 hx => (pq_e (by omega) (by decide) (Nat.le_of_ble_eq_true rfl) ⟨0 + 1, sg_X2_goThroughAll_0.trans ?_⟩)) (fun Y' p2 => ⟨fun e => (pq_e (by omega) (by decide) (Nat.le_of_ble_eq_true rfl) ⟨0 + 1, sg_X12_run_0.trans ?_⟩), fun e => (pq_e (by omega) (by decide) (Nat.le_of_ble_eq_true rfl) ⟨0 + 1, sg_X12_run_0.trans ?_⟩)⟩)
      · rw [q1, q_cI_s, if_pos hg01, q2, q_cI_s, q3, q_c0_s, x7, if_neg zg, q4, q_cI_s, if_pos (by omega), q5, q_cI_s, q6, q_c0_s, p1, q_cI_s, if_pos hx]
      · rw [if_neg h22, if_neg (by rw [g40]; exact zg), if_pos (by rw [e34]; omega), hY1, q7, q_cI_s, p2, q_c0_s, fin2, if_pos e]
      · rw [if_neg h22, if_neg (by rw [g40]; exact zg), if_pos (by rw [e34]; omega), hY1, q7, q_cI_s, p2, q_c0_s, fin2, if_neg (by omega)]
    · refine rest X1 Y1 hl1 gx1 gz1 y01 (fun x X' p1 hx => (pq_e (by omega) (by decide) (Nat.le_of_ble_eq_true rfl) ⟨0 + 1, sg_X2_goThroughAll_0.trans ?_⟩)) (fun Y' p2 => ⟨fun e => (pq_e (by omega) (by decide) (Nat.le_of_ble_eq_true rfl) ⟨0 + 1, sg_X12_run_0.trans ?_⟩), fun e => (pq_e (by omega) (by decide) (Nat.le_of_ble_eq_true rfl) ⟨0 + 1, sg_X12_run_0.trans ?_⟩)⟩)
      · rw [q1, q_cI_s, if_pos hg01, q2, q_cI_s, q3, q_c0_s, x7, if_neg zg, q4, q_cI_s, if_neg (by omega), p1, q_cI_s, if_pos hx]
      · rw [if_neg h22, if_neg (by rw [g40]; exact zg), if_neg (by rw [e34]; omega), hY1, p2, q_c0_s, fin2, if_pos e]
      · rw [if_neg h22, if_neg (by rw [g40]; exact zg), if_neg (by rw [e34]; omega), hY1, p2, q_c0_s, fin2, if_neg (by omega)]
