/-! a found line, both sides: the calls -/
theorem ev_found {sc : List Int} {d dm : Nat} {X Y : q_M} {C P N : Nat → Int} {ls : List (Nat × Nat)} {tp : List (Nat × Nat × Nat)} {md : Nat} (h : RS X Y C P N ls tp md) (hL : LV X Y C N 3) (hR : RN Y) (hA : AN X Y C) (h7 : X 46 7 = Y 49 40) (hd : 8 ≤ d) (hm9 : 8 ≤ dm) : ∃ X' Y' x, pq sc d 19 [.inr (.inr 46)] GF X = some (some (.inl x), GF, X') ∧ pq sc dm 202 [.inr (.inr 49)] GF Y = some (none, GF, Y') ∧ (∀ a, ¬ (43 ≤ a ∧ a ≤ 45) → ¬ a = 47 → ¬ a = 48 → X' a = X a) ∧ FX Y Y' ∧ ((x = 1 ∧ AN X' Y' C ∧ Y' 49 48 = Y 49 48) ∨ (x = 0 ∧ Y' 49 48 = 1)) := by
  obtain ⟨n, hA⟩ := hA
  have hA0 := hA
  obtain ⟨a1, a2, a3, a4, a5, a6, a7⟩ := hA0
  obtain ⟨t1, t2, t3, t4⟩ := rs_tok h
  have h0 := h
  obtain ⟨h1, hQ, h3, hC, hM, h6, hB, hN⟩ := h0
  have h4 := hQ.2.1.1
  have hT := TIq_m hQ
  have hU := hC.2.1
  have hG := hC.2.2.1
  have hS := hM.1
  have hV := rs_UV h hL
  have hkd : ∀ o ∈ (qO C).2.2.1, (266 ≤ o.1 ∧ o.1 ≤ 269) ∨ o.1 = 275 := fun o ho => (t1 o ho).1
  have hb : ∀ (g u : Nat), (qGrs C)[g]? = some u → b01 (X 23 u) := fun g u hu => by
    obtain ⟨t, -, e2, e3, -⟩ := rs_gr h hL hu
    rw [e3]; exact e2
  have t1' : ∀ o ∈ (qO C).2.2.1, ((266 ≤ o.1 ∧ o.1 ≤ 269) ∨ o.1 = 275) ∧ (¬ o.1 = 266 → CT C (aQ C).2 o.2.2 ∧ 0 ≤ itm C ((qMi C).map (·.1)) (C o.2.2)) := by rw [qMi_t]; exact t1
  have t2' : ∀ t ∈ (qG C).2.2, CT C (aQ C).2 t ∧ 0 ≤ itm C ((qMi C).map (·.1)) (C t) := by rw [qMi_t]; exact t2
  -- a new line
  have new : n < 30 → ∀ Y1 : q_M, FX Y Y1 → NR Y Y1 (qO C).2.2.1 n → (∀ j, j < 3 * n → Y1 79 j = Y 79 j ∧ Y1 80 j = Y 80 j) → (∀ (i t : Nat), (qG C).2.2[i]? = some t → Y1 79 (3 * n + i) = obM C (qTl C) Y t ∧ Y1 80 (3 * n + i) = onM C N (qTl C) Y t) → ∃ X1 X2 X3 Y3 F G, pq sc (d - 1) 3 [.inr (.inr 43)] GF X = some (some (.inl (n : Int)), GF, X1) ∧ pq sc (d - 1) 23 [.inr (.inr 46), .inl (n : Int)] GF X1 = some (none, GF, X2) ∧ pr sc (pq sc (d - 1)) 19 F 43 [some (.inr (.inr 46)), some (.inl (n : Int)), some (.inl 0)] [] X2 = some (some (.inl 1), GF, X3) ∧ pr sc (pq sc (dm - 1)) 202 G 35 [some (.inr (.inr 49)), some (.inl (n : Int)), some (.inl 0)] [] Y1 = some (none, GF, Y3) ∧ (∀ a, ¬ (43 ≤ a ∧ a ≤ 45) → ¬ a = 47 → ¬ a = 48 → X3 a = X a) ∧ FX Y Y3 ∧ AN X3 Y3 C ∧ Y3 49 48 = Y 49 48 := by
    intro hn Y1 g1 nr k1 k2
    obtain ⟨X1, X2, X3, F, q1, q2, q3, x0, x1, x1b, x2, x3, x4, x5⟩ := cl_new (sc := sc) (d := d - 1) a2 hn a4 hU hV hG hb (by omega)
    obtain ⟨G, Y3, q4, s1, s2, s3, s4⟩ := fd_T (sc := sc) (d := dm - 1) (Y := Y1) (SM_gy hS (FX_Y g1)) hT (NW_fg hN g1) h4 t1' hn (by omega) (qO C).2.2.1.length 0 Y1 (by omega) (fun _ _ _ _ => rfl) (fun _ _ _ _ => rfl)
    rw [Int.natCast_zero] at q4
    rw [qMi_t] at s4
    obtain ⟨n1, n2, n3, n4⟩ := nr
    have g3 : FX Y Y3 := FX_t g1 ⟨fun a e1 e2 => s1 a (by omega) (by omega) e2, fun j e1 e2 _ e4 => s2 j e1 e2 e4⟩
    refine ⟨X1, X2, X3, Y3, F, G, q1, q2, q3, q4, x0, g3, ⟨n + 1, an_new h hL hR hA hn x1 x1b x2 x3 x4 x5 (by rw [s2 49 (by decide) (by decide) (by decide), n1]) (fun j hj => ?_) (fun i t ht => ?_) (fun j hj => ?_) (fun i o ho => ?_)⟩, by rw [s2 48 (by decide) (by decide) (by decide), n2]⟩
    · rw [s1 79 (by decide) (by decide) (by decide), s1 80 (by decide) (by decide) (by decide)]; exact k1 j hj
    · rw [s1 79 (by decide) (by decide) (by decide), s1 80 (by decide) (by decide) (by decide)]; exact k2 i t ht
    · rw [(s3 j (by omega)).1, (s3 j (by omega)).2]; exact n3 j (by omega)
    · have := s4 i o (Nat.zero_le _) ho
      rw [(n4 i o ho).1, (n4 i o ho).2, (ob_fg (N := N) g1).1, (ob_fg g1).2] at this
      exact this
  have up48 : FX Y (q_up Y 49 48 1) := ⟨fun a _ e2 => q_upf e2, fun j _ _ e3 _ => q_up_sn (by omega)⟩
  rcases hM.2.2 with ⟨m40, gt⟩ | ⟨m40, gt⟩
  · -- gathering
    rw [m40] at h7
    obtain ⟨x, q1, hx⟩ := cx_line (sc := sc) (d := d - 1) a2 a1 hG hb (by omega)
    obtain ⟨Y1, y, q2, g1, hy⟩ := mk_groupRow (sc := sc) (d := dm - 1) hS hT hN t4 t2' a3 a1 h4 hkd (by omega)
    rw [qMi_t] at hy
    have old : ∀ i : Nat, i < n → isK Y C N (qTl C) (qG C).2.2 i → x = (i : Int) → y = (i : Int) → FA Y Y1 → ∃ X' Y' x, pq sc d 19 [.inr (.inr 46)] GF X = some (some (.inl x), GF, X') ∧ pq sc dm 202 [.inr (.inr 49)] GF Y = some (none, GF, Y') ∧ (∀ a, ¬ (43 ≤ a ∧ a ≤ 45) → ¬ a = 47 → ¬ a = 48 → X' a = X a) ∧ FX Y Y' ∧ ((x = 1 ∧ AN X' Y' C ∧ Y' 49 48 = Y 49 48) ∨ (x = 0 ∧ Y' 49 48 = 1)) := by
      intro i hi hK ex ey fa
      rw [ex] at q1
      rw [ey] at q2
      obtain ⟨F, X3, q3, r1, r2, r3⟩ := tl_T (sc := sc) (d := d - 1) (X0 := X) (r := i) hi a2 a1 a4 hU hV (fun k hk => by
        have ho : (qO C).2.2.1[k]? = some (qO C).2.2.1[k] := List.getElem?_eq_getElem hk
        obtain ⟨-, c2, c3, -⟩ := a5 i k _ hi ho
        rw [c2]; exact c3) (by omega) (qO C).2.2.1.length 0 X (by omega) (fun _ _ _ => rfl) (fun _ _ => ⟨rfl, rfl⟩)
      obtain ⟨G, Y3, q4, s1, s2, s3, s4⟩ := fd_T (sc := sc) (d := dm - 1) (Y := Y1) (SM_gy hS (FX_Y g1)) hT (NW_fg hN g1) h4 t1' (show i < 30 by omega) (by omega) (qO C).2.2.1.length 0 Y1 (by omega) (fun _ _ _ _ => rfl) (fun _ _ _ _ => rfl)
      rw [Int.natCast_zero] at q3 q4
      rw [qMi_t] at s4
      have g3 : FX Y Y3 := FX_t g1 ⟨fun a e1 e2 => s1 a (by omega) (by omega) e2, fun j e1 e2 _ e4 => s2 j e1 e2 e4⟩
      refine ⟨X3, Y3, 1, (pq_e (by omega) (by decide) (Nat.le_of_ble_eq_true rfl) ⟨F + 1, sg_X2_gather_0.trans ?_⟩), (pq_e (by omega) (by decide) (Nat.le_of_ble_eq_true rfl) ⟨G + 1, sg_X12_found_0.trans ?_⟩), fun a e1 e2 e3 => r1 a (by omega) (by omega), g3, Or.inl ⟨rfl, ⟨n, an_old h hL hR hA hi hK gt (r1 43 (by decide) (by decide)) (r1 47 (by decide) (by decide)) (r1 48 (by decide) (by decide)) (fun j hj => r2 j (by omega)) (fun i o ho => r3 i o (Nat.zero_le _) ho) ?_ ?_ ?_ (fun j hj => ?_) (fun k o ho => ?_)⟩, ?_⟩⟩
      · rw [if_neg (by omega), q1, q_cI_s, if_neg (by omega), q3]
      · rw [if_neg (by omega), q2, q_cI_s, if_neg (by omega), q4]
      · rw [s2 49 (by decide) (by decide) (by decide), fa.2 49 (by decide) (by decide) (by decide)]
      · rw [s1 79 (by decide) (by decide) (by decide), fa.1 79 (by decide)]
      · rw [s1 80 (by decide) (by decide) (by decide), fa.1 80 (by decide)]
      · rw [← fa.1 77 (by decide), ← fa.1 78 (by decide)]; exact s3 j (by omega)
      · have := s4 k o (Nat.zero_le _) ho
        rw [(ob_fg (N := N) g1).1, (ob_fg g1).2, fa.1 77 (by decide), fa.1 78 (by decide)] at this
        exact this
      · rw [s2 48 (by decide) (by decide) (by decide), fa.2 48 (by decide) (by decide) (by decide)]
    rcases hx with ⟨i, i1, i2, i3, i4⟩ | ⟨ex, hx⟩
    · have iK := (isGK h hL hA i1).mp i3
      rcases hy with ⟨i', j1, j2, j3, j4, j5⟩ | ⟨n1, -⟩ | ⟨n1, -⟩
      · have e : i' = i := by
          by_cases z1 : i' < i
          · exact absurd ((isGK h hL hA j1).mpr j4) (i4 i' z1)
          · by_cases z2 : i < i'
            · exact absurd iK (j5 i z2)
            · omega
        subst e
        exact old i' i1 iK i2 j2 j3
      · exact absurd iK (n1 i i1)
      · exact absurd iK (n1 i i1)
    · subst ex
      rcases hy with ⟨i', j1, j2, j3, j4, j5⟩ | ⟨n1, n30, ey, e48⟩ | ⟨n1, n30, ey, nr, k1, k2⟩
      · exact absurd ((isGK h hL hA j1).mpr j4) (hx i' j1)
      · have q3 := sp_appendN (sc := sc) (d := d - 1) (X := X) (by rw [a2, n30]; rfl) (by omega)
        refine ⟨X, Y1, 0, (pq_e (by omega) (by decide) (Nat.le_of_ble_eq_true rfl) ⟨0 + 1, sg_X2_gather_0.trans ?_⟩), (pq_e (by omega) (by decide) (Nat.le_of_ble_eq_true rfl) ⟨0 + 1, sg_X12_found_0.trans ?_⟩), fun _ _ _ _ => rfl, g1, Or.inr ⟨rfl, e48⟩⟩
        · rw [if_neg (by omega), q1, q_cI_s, if_pos rfl, q3, q_cI_s, if_pos rfl]
        · rw [if_neg (by omega), q2, ey, q_cI_s, if_pos (by decide)]
      · obtain ⟨X1, X2, X3, Y3, F, G, p1, p2, p3, p4, p5, p6, p7, p8⟩ := new n30 Y1 g1 nr (fun j hj => k1 j (by omega)) k2
        refine ⟨X3, Y3, 1, (pq_e (by omega) (by decide) (Nat.le_of_ble_eq_true rfl) ⟨F + 1, sg_X2_gather_0.trans ?_⟩), (pq_e (by omega) (by decide) (Nat.le_of_ble_eq_true rfl) ⟨G + 1, sg_X12_found_0.trans ?_⟩), p5, p6, Or.inl ⟨rfl, p7, p8⟩⟩
        · rw [if_neg (by omega), q1, q_cI_s, if_pos rfl, p1, q_cI_s, if_neg (by omega), p2, q_c0_s, p3]
        · rw [if_neg (by omega), q2, ey, q_cI_s, if_neg (by omega), p4]
  · -- no gathering
    rw [m40] at h7
    have g0 : (qG C).2.2.length = 0 := by
      rcases Nat.eq_zero_or_pos (qG C).2.2.length with z | z
      · exact z
      · exact absurd (Or.inr z) gt
    by_cases z : n = 30
    · have q1 := mk_newRow0 (sc := sc) (d := dm - 1) (Y := Y) (by rw [a3, z]; rfl) (by omega)
      have q3 := sp_appendN (sc := sc) (d := d - 1) (X := X) (by rw [a2, z]; rfl) (by omega)
      refine ⟨X, q_up Y 49 48 1, 0, (pq_e (by omega) (by decide) (Nat.le_of_ble_eq_true rfl) ⟨0 + 1, sg_X2_gather_0.trans ?_⟩), (pq_e (by omega) (by decide) (Nat.le_of_ble_eq_true rfl) ⟨0 + 1, sg_X12_found_0.trans ?_⟩), fun _ _ _ _ => rfl, up48, Or.inr ⟨rfl, q_up_s⟩⟩
      · rw [if_pos h7, if_pos rfl, q3, q_cI_s, if_pos rfl]
      · rw [if_pos m40, q1, q_cI_s, if_pos rfl]
    · obtain ⟨Y1, q1, n1, n2, n3, n4, n5⟩ := mk_newRow (sc := sc) (d := dm - 1) a3 (by omega) hS.2.2.2.1 h4 hkd (by omega)
      have g1 : FX Y Y1 := ⟨fun a e1 e2 => n1 a (by omega) (by omega) e2, fun j _ _ e3 _ => n2 j (by omega)⟩
      obtain ⟨X1, X2, X3, Y3, F, G, p1, p2, p3, p4, p5, p6, p7, p8⟩ := new (by omega) Y1 g1 ⟨n3, n2 48 (by decide), n4, n5⟩ (fun j _ => by rw [n1 79 (by decide) (by decide) (by decide), n1 80 (by decide) (by decide) (by decide)]; exact ⟨rfl, rfl⟩) (fun i t ht => by have := (List.getElem?_eq_some_iff.mp ht).1; omega)
      refine ⟨X3, Y3, 1, (pq_e (by omega) (by decide) (Nat.le_of_ble_eq_true rfl) ⟨F + 1, sg_X2_gather_0.trans ?_⟩), (pq_e (by omega) (by decide) (Nat.le_of_ble_eq_true rfl) ⟨G + 1, sg_X12_found_0.trans ?_⟩), p5, p6, Or.inl ⟨rfl, p7, p8⟩⟩
      · rw [if_pos h7, if_pos rfl, p1, q_cI_s, if_neg (by omega), p2, q_c0_s, p3]
      · rw [if_pos m40, q1, q_cI_s, if_neg (by decide), a3, if_neg (by omega), p4]
