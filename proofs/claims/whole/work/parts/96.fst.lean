/-! all levels -/
theorem lv_found {sc : List Int} {d dm : Nat} {X Y : q_M} {C P N : Nat → Int} {ls : List (Nat × Nat)} {tp : List (Nat × Nat × Nat)} {md : Nat} {n : Nat} (hn : n = (qTl C).length) (h : LSt X Y C P N ls tp md (n : Int)) (hd : 9 ≤ d) (hm9 : 8 ≤ dm) : ∃ X' Y' x, pq sc d 17 [.inr (.inr 46), .inl (n : Int)] GF X = some (some (.inl x), GF, X') ∧ pq sc dm 202 [.inr (.inr 49)] GF Y = some (none, GF, Y') ∧ EN X Y X' Y' C P N ls tp md x (n : Int) := by
  obtain ⟨⟨h1, h2, h3, h4, h5⟩, h6, h7, h8⟩ := h
  obtain ⟨i1, i2, i3, i4, -⟩ := rs_item h1
  obtain ⟨X', Y', x, q1, q2, f1, f2, hx⟩ := ev_found (sc := sc) (d := d - 1) (dm := dm) h1 (LV_all h7 (by omega) 3) h3 h6 h4 (by omega) hm9
  have q3 := sp_itemCount (sc := sc) (d := d - 1) (M := X) (by omega)
  rw [i1] at q3
  have gx : GX X X' := fun a e1 e2 e3 e4 => f1 a (by omega) (by omega) (by omega)
  have gy := FX_Y f2
  have hx01 : x = 0 ∨ x = 1 := by
    rcases hx with ⟨z, -⟩ | ⟨z, -⟩
    · exact Or.inr z
    · exact Or.inl z
  refine ⟨X', Y', x, (pq_e (by omega) (by decide) (Nat.le_of_ble_eq_true rfl) ⟨0 + 1, sg_X2_goThrough_0.trans ?_⟩), q2, ⟨RS_fr h1 gx (fun i y _ _ => by rw [f1 22 (by decide) (by decide) (by decide), f1 23 (by decide) (by decide) (by decide)]; exact ⟨rfl, rfl⟩) gy (NW_fg h1.2.2.2.2.2.2.2 f2), DB_fr h2 gx gy, RN_fr h3 gy, ?_, ?_⟩, gx, gy, ?_⟩
  · rw [q3, q_cI_s, if_neg (by omega), q1, q_cI_s, if_pos hx01]
  · rw [f1 46 (by decide) (by decide) (by decide), f2.2 40 (by decide) (by decide) (by decide) (by decide)]; exact h4
  · rw [f1 46 (by decide) (by decide) (by decide), f2.2 47 (by decide) (by decide) (by decide) (by decide)]; exact h5
  · rcases hx with ⟨e, a, b⟩ | z
    · exact Or.inl ⟨e, a, LV_fr h7 (f1 22 (by decide) (by decide) (by decide)) (f1 23 (by decide) (by decide) (by decide)) (f2.1 76 (by decide) (by decide)) (f2.1 53 (by decide) (by decide)) (f2.1 54 (by decide) (by decide)), b.trans h8⟩
    · exact Or.inr z
theorem sp_theight {sc : List Int} {d : Nat} {X : q_M} {t : Int} (h1 : 0 ≤ t) (h2 : t < 3) (hd : 1 ≤ d) : pq sc d 97 [.inr (.inr 1), .inl t] GF X = some (some (.inl (X 3 t.toNat)), GF, X) := by
  refine (pq_e (by omega) (by decide) (Nat.le_of_ble_eq_true rfl) ⟨0 + 1, sg_X7_height_0.trans ?_⟩)
  rw [if_neg (by omega), if_pos h2, if_pos ⟨h1, by omega⟩]
/-- class 17 goes to its loop -/
theorem cl_17 {sc : List Int} {d : Nat} {X Y : q_M} {C P N : Nat → Int} {ls : List (Nat × Nat)} {tp : List (Nat × Nat × Nat)} {md : Nat} {k tk n : Nat} {r : Option q_V × q_G × q_M} (h : RS X Y C P N ls tp md) (hD : DB X Y) (hk2 : k < (qTl C).length) (hk : (qTl C)[k]? = some tk) (hn : Y 52 (C tk - 84).toNat = n) (hl : ∃ F, pr sc (pq sc (d - 1)) 17 F 45 [some (.inr (.inr 46)), some (.inl (k : Int)), some (.inl (C tk - 84)), some (.inl (n : Int)), some (.inl 0), some (.inl 0)] [] X = some r) (hd : 3 ≤ d) : pq sc d 17 [.inr (.inr 46), .inl (k : Int)] GF X = some r := by
  obtain ⟨i1, i2, i3, i4, i5⟩ := rs_item h
  obtain ⟨tk', lf, e1, e2, e3, e4, e5, e6, e7⟩ := i5 k hk2
  rw [hk] at e1; cases e1
  obtain ⟨F, hl⟩ := hl
  have q1 := sp_itemCount (sc := sc) (d := d - 1) (M := X) (by omega)
  rw [i1] at q1
  have q2 := sp_tableOf (sc := sc) (d := d - 1) (M := X) (show k < 3 by omega) (by omega)
  rw [e2] at q2
  have q3 := sp_theight (sc := sc) (d := d - 1) (X := X) (t := C tk - 84) (by omega) (by omega) (by omega)
  rw [(hD.1 (C tk - 84).toNat (by omega)).2.1, hn] at q3
  refine (pq_e (by omega) (by decide) (Nat.le_of_ble_eq_true rfl) ⟨F + 1, sg_X2_goThrough_0.trans ?_⟩)
  rw [q1, q_cI_s, if_pos (by omega), if_pos (by omega), q2, q_cI_s, q3, q_cI_s, hl]
/-- a level behind the first -/
theorem lv_k {sc : List Int} {d dm : Nat} {C P N : Nat → Int} {ls : List (Nat × Nat)} {tp : List (Nat × Nat × Nat)} {md : Nat} {k mid nx : Nat} (hm : mL sc (dm - 1) mid nx k) (hE : ∀ (Y : q_M) r, (∃ F, pr sc (pq sc (dm - 1)) mid F 4 [some (.inr (.inr 49)), some (.inl 0), some (.inl 0), none] [] Y = some r) → pq sc dm mid [.inr (.inr 49)] GF Y = some r) (hN : ∀ X Y, LSt X Y C P N ls tp md ((k : Int) + 1) → ∃ X' Y' x, pq sc (d - 1 - 1) 17 [.inr (.inr 46), .inl ((k + 1 : Nat) : Int)] GF X = some (some (.inl x), GF, X') ∧ pq sc (dm - 1) nx [.inr (.inr 49)] GF Y = some (none, GF, Y') ∧ EN X Y X' Y' C P N ls tp md x ((k : Int) + 1)) (hk1 : 1 ≤ k) (hk2 : k < (qTl C).length) (hd : 9 ≤ d) (hm9 : 9 ≤ dm) {X Y : q_M} (h : LSt X Y C P N ls tp md (k : Int)) : ∃ X' Y' x, pq sc d 17 [.inr (.inr 46), .inl (k : Int)] GF X = some (some (.inl x), GF, X') ∧ pq sc dm mid [.inr (.inr 49)] GF Y = some (none, GF, Y') ∧ EN X Y X' Y' C P N ls tp md x (k : Int) := by
  obtain ⟨i1, i2, i3, i4, i5⟩ := rs_item h.1.1
  obtain ⟨tk, lf, e1, e2, e3, e4, e5, e6, e7⟩ := i5 k hk2
  have hD := h.1.2.1.1 (C tk - 84).toNat (by omega)
  obtain ⟨n, hn⟩ : ∃ n : Nat, Y 52 (C tk - 84).toNat = n := ⟨(Y 52 (C tk - 84).toNat).toNat, by omega⟩
  have hjl : (qTl C).length = (qJ C).2.2.1.length + 1 := by unfold qTl; simp
  obtain ⟨F, G, X', Y', x, q1, q2, en⟩ := lp_T (sc := sc) (d := d - 1) (dm := dm - 1) hm hN hk1 hk2 (by omega) e1 (by omega) ⟨e6, e7⟩ (show n ≤ 10 by omega) (by omega) (by omega) n 0 X Y 0 (by omega) hn h (Or.inl rfl)
  exact ⟨X', Y', x, cl_17 h.1.1 h.1.2.1 hk2 e1 hn ⟨F, q1⟩ (by omega), hE Y _ ⟨G, q2⟩, en⟩
theorem lv_2 {sc : List Int} {d dm : Nat} {X Y : q_M} {C P N : Nat → Int} {ls : List (Nat × Nat)} {tp : List (Nat × Nat × Nat)} {md : Nat} (hn : (qTl C).length = 3) (h : LSt X Y C P N ls tp md 2) (hd : 11 ≤ d) (hm9 : 9 ≤ dm) : ∃ X' Y' x, pq sc d 17 [.inr (.inr 46), .inl 2] GF X = some (some (.inl x), GF, X') ∧ pq sc dm 204 [.inr (.inr 49)] GF Y = some (none, GF, Y') ∧ EN X Y X' Y' C P N ls tp md x 2 := by
  refine lv_k (k := 2) (mid := 204) (nx := 202) mL_204 (fun Y r ⟨F, hF⟩ => (pq_e (by omega) (by decide) (Nat.le_of_ble_eq_true rfl) ⟨F + 1, sg_X12_third_0.trans ?_⟩)) (fun X Y hL => lv_found (n := 2 + 1) hn.symm hL (by omega) (by omega)) (by decide) (by omega) (by omega) hm9 h
  exact hF
theorem lv_1 {sc : List Int} {d dm : Nat} {X Y : q_M} {C P N : Nat → Int} {ls : List (Nat × Nat)} {tp : List (Nat × Nat × Nat)} {md : Nat} (hn : 2 ≤ (qTl C).length) (h : LSt X Y C P N ls tp md 1) (hd : 13 ≤ d) (hm9 : 11 ≤ dm) : ∃ X' Y' x, pq sc d 17 [.inr (.inr 46), .inl 1] GF X = some (some (.inl x), GF, X') ∧ pq sc dm 206 [.inr (.inr 49)] GF Y = some (none, GF, Y') ∧ EN X Y X' Y' C P N ls tp md x 1 := by
  refine lv_k (k := 1) (mid := 206) (nx := 205) mL_206 (fun Y r ⟨F, hF⟩ => (pq_e (by omega) (by decide) (Nat.le_of_ble_eq_true rfl) ⟨F + 1, sg_X12_second_0.trans ?_⟩)) (fun X Y hL => ?_) (by decide) (by omega) (by omega) (by omega) h
  · have i2 := (rs_item hL.1.1).2.1
    have i4 := (rs_item hL.1.1).2.2.2.1
    by_cases z : (qTl C).length = 2
    · obtain ⟨X', Y', x, q1, q2, en⟩ := lv_found (sc := sc) (d := d - 1 - 1) (dm := dm - 1 - 1) (n := 1 + 1) z.symm hL (by omega) (by omega)
      refine ⟨X', Y', x, q1, (pq_e (by omega) (by decide) (Nat.le_of_ble_eq_true rfl) ⟨0 + 1, sg_X12_afterSecond_0.trans ?_⟩), en⟩
      rw [i2, z, if_pos (by decide), q2, q_c0_s]
    · obtain ⟨X', Y', x, q1, q2, en⟩ := lv_2 (sc := sc) (d := d - 1 - 1) (dm := dm - 1 - 1) (by omega) hL (by omega) (by omega)
      refine ⟨X', Y', x, q1, (pq_e (by omega) (by decide) (Nat.le_of_ble_eq_true rfl) ⟨0 + 1, sg_X12_afterSecond_0.trans ?_⟩), en⟩
      rw [i2, if_neg (by omega), q2, q_c0_s]
  · exact hF
/-- the first item -/
theorem mF_207 {sc : List Int} {dm nx n : Nat} {Y : q_M} {l F : Nat} (h1 : 0 ≤ Y 64 0) (h2 : Y 64 0 < 3) (hnx : (nx = 202 ∧ n = 1) ∨ (nx = 206 ∧ ¬ n = 1)) : pr sc (pq sc dm) 207 (F + 1) 2 [some (.inr (.inr 49)), some (.inl (l : Int))] [] Y = if (l : Int) < Y 52 (Y 64 0).toNat then (if Y 49 48 = 0 then q_cI (pq sc dm 197 [.inr (.inr 49), .inl ((0 : Nat) : Int)] GF (q_up (q_up Y 76 0 (l : Int)) 49 47 (q_w (Y 49 47 + 1)))) GF (fun x M1 => if x = 0 then pr sc (pq sc dm) 207 F 2 [some (.inr (.inr 49)), some (.inl (q_w ((l : Int) + 1)))] [] M1 else (if M1 49 26 = 1 then q_c0 (pq sc dm 202 [.inr (.inr 49)] GF M1) GF (fun M4 => pr sc (pq sc dm) 207 F 2 [some (.inr (.inr 49)), some (.inl (q_w ((l : Int) + 1)))] [] M4) else q_c0 (pq sc dm 206 [.inr (.inr 49)] GF M1) GF (fun M3 => pr sc (pq sc dm) 207 F 2 [some (.inr (.inr 49)), some (.inl (q_w ((l : Int) + 1)))] [] M3))) else some (none, GF, Y)) else some (none, GF, Y) := by
  refine sg_X12_first_2.trans ?_
  have z1 : (0 : Int).toNat = 0 := rfl
  have z2 : 0 ≤ Y 64 0 ∧ Y 64 0 < ((3 : Nat) : Int) := ⟨h1, h2⟩
  have z3 : (0 : Nat) ≤ 0 ∧ (0 : Int) < ((3 : Nat) : Int) := by decide
  have z4 : (0 : Nat) ≤ 0 ∧ (0 : Int) < ((4 : Nat) : Int) := by decide
  simp only [z1, if_pos z3, if_pos z4, if_pos z2]
  rfl
theorem lp_0 {sc : List Int} {d dm : Nat} {C P N : Nat → Int} {ls : List (Nat × Nat)} {tp : List (Nat × Nat × Nat)} {md : Nat} {tk nx n : Nat} (hnx : (nx = 202 ∧ (qTl C).length = 1) ∨ (nx = 206 ∧ ¬ (qTl C).length = 1)) (hN : ∀ X Y, LSt X Y C P N ls tp md (((0 : Nat) : Int) + 1) → ∃ X' Y' x, pq sc (d - 1) 17 [.inr (.inr 46), .inl ((0 + 1 : Nat) : Int)] GF X = some (some (.inl x), GF, X') ∧ pq sc dm nx [.inr (.inr 49)] GF Y = some (none, GF, Y') ∧ EN X Y X' Y' C P N ls tp md x (((0 : Nat) : Int) + 1)) (hk : (qTl C)[0]? = some tk) (h84 : 84 ≤ C tk ∧ C tk ≤ 86) (hn : n ≤ 10) (hd : 8 ≤ d) (hm9 : 8 ≤ dm) : ∀ (m l : Nat) (X Y : q_M) (f : Int), l + m = n → Y 52 (C tk - 84).toNat = n → LSt X Y C P N ls tp md ((0 : Nat) : Int) → (f = 0 ∨ f = 1) → ∃ F G X' Y' x, pr sc (pq sc d) 17 F 45 [some (.inr (.inr 46)), some (.inl ((0 : Nat) : Int)), some (.inl (C tk - 84)), some (.inl (n : Int)), some (.inl f), some (.inl (l : Int))] [] X = some (some (.inl x), GF, X') ∧ pr sc (pq sc dm) 207 G 2 [some (.inr (.inr 49)), some (.inl (l : Int))] [] Y = some (none, GF, Y') ∧ EN X Y X' Y' C P N ls tp md x ((0 : Nat) : Int) := by
  intro m
  induction m with
  | zero =>
    intro l X Y f hl hy hL hf
    obtain ⟨i1, i2, i3, i4, i5⟩ := rs_item hL.1.1
    obtain ⟨tk', lf, e1, e2, e3, e4, e5, e6, e7⟩ := i5 0 i3
    rw [hk] at e1; cases e1
    have lt : ¬ (l : Int) < (n : Int) := by omega
    have lf0 : X 37 0 = 0 := (hL.1.1.2.2.2.1.1.2 0 _ rfl).2
    have q1 := sp_isLeft (sc := sc) (d := d) (M := X) (show 0 < 3 by decide) (by omega)
    rw [lf0, if_pos rfl] at q1
    refine ⟨0 + 1, 0 + 1, X, Y, 1, sg_X2_goThrough_45.trans ?_, (mF_207 (by omega) (by omega) hnx).trans ?_, EN_r hL⟩
    · rw [if_neg lt]
      rcases hf with rfl | rfl
      · rw [if_pos rfl, q1, q_cI_s, if_pos rfl]
      · rw [if_neg (by decide)]
    · rw [e4, hy, if_neg lt]
  | succ m ih =>
    intro l X Y f hl hy hL hf
    obtain ⟨i1, i2, i3, i4, i5⟩ := rs_item hL.1.1
    obtain ⟨tk', lf, e1, e2, e3, e4, e5, e6, e7⟩ := i5 0 i3
    rw [hk] at e1; cases e1
    have lt : (l : Int) < (n : Int) := by omega
    have c4 := fun F => mF_207 (sc := sc) (dm := dm) (Y := Y) (l := l) (F := F) (by omega) (by omega) hnx
    simp only [e4, hy, if_pos lt, if_pos hL.2.2.2] at c4
    have sn := hL.1.2.2.2.2
    generalize hs : q_w (Y 49 47 + 1) = s at c4
    obtain ⟨X1, q2, l1, g1, g2⟩ := LSt_load (sc := sc) (d := d) (l := (l : Int)) (Y' := q_up (q_up Y 76 0 (l : Int)) 49 47 s) (s := s) hL hk (by decide) (Or.inr ⟨by omega, by rw [hy]; omega⟩) (fun a h1 h2 => by rw [q_upf h2, q_upf h1]) (fun j hj => by rw [q_up_sn hj, q_up_ne (by decide)]) q_up_s (by rw [q_up_ne (by decide), q_up_s]) (fun j hj => by rw [q_up_ne (by decide), q_up_sn hj]) (by omega)
    obtain ⟨X2, q3, f1⟩ := ev_on0 (sc := sc) (d := d) l1.1.1 (by omega)
    obtain ⟨l2, g3, g4⟩ := LSt_c l1 f1 FE_r
    have gx2 := GX_t g1 g3
    have gy2 := GY_t g2 g4
    obtain ⟨X3, Y3, x, y, q7, q8, hx, g9, hyy⟩ := go_on (sc := sc) (d := d) (dm := dm) (k := 0) hN l2 (by decide) (by omega) (by omega)
    have cs : ∀ F, pr sc (pq sc d) 17 (F + 1) 45 [some (.inr (.inr 46)), some (.inl ((0 : Nat) : Int)), some (.inl (C tk - 84)), some (.inl (n : Int)), some (.inl f), some (.inl (l : Int))] [] X = if x = 0 then some (some (.inl 0), GF, X3) else pr sc (pq sc d) 17 F 45 [some (.inr (.inr 46)), some (.inl ((0 : Nat) : Int)), some (.inl (C tk - 84)), some (.inl (n : Int)), some (.inl 1), some (.inl ((l + 1 : Nat) : Int))] [] X3 := fun F => by
      refine sg_X2_goThrough_45.trans ?_
      rw [if_pos lt, sn, hs, q2, q_c0_s]
      refine (congrArg (fun r => q_cI r GF _) q3).trans ?_
      rw [q_cI_s, if_neg (by decide), q7, q_cI_s, qw1 (by omega)]
    have y52 : ∀ Y' : q_M, GY Y Y' → Y' 52 (C tk - 84).toNat = n := fun Y' g => by rw [g.1 52 (by decide) (by decide)]; exact hy
    rw [q8, qw1 (by omega)] at c4
    simp only [q_cI_s] at c4
    have fin : ∀ Y4, EN X2 (q_up (q_up Y 76 0 (l : Int)) 49 47 s) X3 Y4 C P N ls tp md x (((0 : Nat) : Int) + 1) → (∀ G, pr sc (pq sc dm) 207 (G + 1) 2 [some (.inr (.inr 49)), some (.inl (l : Int))] [] Y = pr sc (pq sc dm) 207 G 2 [some (.inr (.inr 49)), some (.inl ((l + 1 : Nat) : Int))] [] Y4) → ∃ F G X' Y' x, pr sc (pq sc d) 17 F 45 [some (.inr (.inr 46)), some (.inl ((0 : Nat) : Int)), some (.inl (C tk - 84)), some (.inl (n : Int)), some (.inl f), some (.inl (l : Int))] [] X = some (some (.inl x), GF, X') ∧ pr sc (pq sc dm) 207 G 2 [some (.inr (.inr 49)), some (.inl (l : Int))] [] Y = some (none, GF, Y') ∧ EN X Y X' Y' C P N ls tp md x ((0 : Nat) : Int) := by
      intro Y4 en st
      rcases hx with rfl | rfl
      · have e48 : Y4 49 48 = 1 := by
          rcases en.2.2.2 with ⟨z, -⟩ | ⟨-, z⟩
          · exact absurd z (by decide)
          · exact z
        obtain ⟨tk4, lf4, u1, u2, u3, u4, -⟩ := (rs_item en.1.1).2.2.2.2 0 i3
        rw [hk] at u1; cases u1
        refine ⟨0 + 1, 0 + 1 + 1, X3, Y4, 0, ?_, ?_, EN_m (EN_t gx2 gy2 en) (by omega)⟩
        · rw [cs 0, if_pos rfl]
        · rw [st (0 + 1), mF_207 (by omega) (by omega) hnx, if_neg (show ¬ Y4 49 48 = 0 by omega)]
          split <;> rfl
      · have l4 := EN_l en
        obtain ⟨F, G, X', Y', x, q5, q6, en2⟩ := ih (l + 1) X3 Y4 1 (by omega) (y52 Y4 (GY_t gy2 en.2.2.1)) ⟨l4.1, l4.2.1, LV_m l4.2.2.1 (by omega), l4.2.2.2⟩ (Or.inr rfl)
        refine ⟨F + 1, G + 1, X', Y', x, ?_, ?_, EN_t (GX_t gx2 en.2.1) (GY_t gy2 en.2.2.1) en2⟩
        · rw [cs F, if_neg (by decide), q5]
        · rw [st G, q6]
    rcases hyy with ⟨y0, x1, en⟩ | ⟨y1, Y', q9, en⟩
    · refine fin Y3 en (fun G => ?_)
      rw [c4 G, if_pos y0]
    · refine fin Y' en (fun G => ?_)
      rw [c4 G, if_neg (by omega)]
      have e26 : Y3 49 26 = (qTl C).length := by
        rw [g9.2 26 (by decide) (by decide) (by decide) (by decide), g2.2 26 (by decide) (by decide) (by decide) (by decide)]; exact i2
      rcases hnx with ⟨rfl, z⟩ | ⟨rfl, z⟩
      · rw [e26, z, if_pos (by decide), q9, q_c0_s]
      · rw [e26, if_neg (by omega), q9, q_c0_s]
/-- from the first item on -/
theorem lv_0 {sc : List Int} {d dm : Nat} {X Y : q_M} {C P N : Nat → Int} {ls : List (Nat × Nat)} {tp : List (Nat × Nat × Nat)} {md : Nat} (h : LSt X Y C P N ls tp md 0) (hd : 15 ≤ d) (hm9 : 12 ≤ dm) : ∃ X' Y' x, pq sc d 17 [.inr (.inr 46), .inl 0] GF X = some (some (.inl x), GF, X') ∧ pq sc dm 207 [.inr (.inr 49)] GF Y = some (none, GF, Y') ∧ EN X Y X' Y' C P N ls tp md x 0 := by
  obtain ⟨i1, i2, i3, i4, i5⟩ := rs_item h.1.1
  obtain ⟨tk, lf, e1, e2, e3, e4, e5, e6, e7⟩ := i5 0 i3
  have hD := h.1.2.1.1 (C tk - 84).toNat (by omega)
  obtain ⟨n, hn⟩ : ∃ n : Nat, Y 52 (C tk - 84).toNat = n := ⟨(Y 52 (C tk - 84).toNat).toNat, by omega⟩
  have key : ∃ F G X' Y' x, pr sc (pq sc (d - 1)) 17 F 45 [some (.inr (.inr 46)), some (.inl ((0 : Nat) : Int)), some (.inl (C tk - 84)), some (.inl (n : Int)), some (.inl 0), some (.inl ((0 : Nat) : Int))] [] X = some (some (.inl x), GF, X') ∧ pr sc (pq sc (dm - 1)) 207 G 2 [some (.inr (.inr 49)), some (.inl ((0 : Nat) : Int))] [] Y = some (none, GF, Y') ∧ EN X Y X' Y' C P N ls tp md x ((0 : Nat) : Int) := by
    by_cases z : (qTl C).length = 1
    · exact lp_0 (sc := sc) (d := d - 1) (dm := dm - 1) (nx := 202) (Or.inl ⟨rfl, z⟩) (fun X Y hL => lv_found (n := 0 + 1) z.symm hL (by omega) (by omega)) e1 ⟨e6, e7⟩ (show n ≤ 10 by omega) (by omega) (by omega) n 0 X Y 0 (by omega) hn h (Or.inl rfl)
    · exact lp_0 (sc := sc) (d := d - 1) (dm := dm - 1) (nx := 206) (Or.inr ⟨rfl, z⟩) (fun X Y hL => lv_1 (by omega) hL (by omega) (by omega)) e1 ⟨e6, e7⟩ (show n ≤ 10 by omega) (by omega) (by omega) n 0 X Y 0 (by omega) hn h (Or.inl rfl)
  obtain ⟨F, G, X', Y', x, q1, q2, en⟩ := key
  refine ⟨X', Y', x, cl_17 h.1.1 h.1.2.1 i3 e1 hn ⟨F, q1⟩ (by omega), (pq_e (by omega) (by decide) (Nat.le_of_ble_eq_true rfl) ⟨G + 1, sg_X12_first_0.trans ?_⟩), en⟩
  exact q2
