/-! the loops, both sides -/
def SV (X Y : q_M) (C P N : Nat → Int) (ls : List (Nat × Nat)) (tp : List (Nat × Nat × Nat)) (md : Nat) : Prop := RS X Y C P N ls tp md ∧ DB X Y ∧ RN Y ∧ X 46 7 = Y 49 40 ∧ X 46 8 = Y 49 47
def LSt (X Y : q_M) (C P N : Nat → Int) (ls : List (Nat × Nat)) (tp : List (Nat × Nat × Nat)) (md : Nat) (k : Int) : Prop := SV X Y C P N ls tp md ∧ AN X Y C ∧ LV X Y C N k ∧ Y 49 48 = 0
def EN (X Y X' Y' : q_M) (C P N : Nat → Int) (ls : List (Nat × Nat)) (tp : List (Nat × Nat × Nat)) (md : Nat) (x : Int) (k : Int) : Prop := SV X' Y' C P N ls tp md ∧ GX X X' ∧ GY Y Y' ∧ ((x = 1 ∧ AN X' Y' C ∧ LV X' Y' C N k ∧ Y' 49 48 = 0) ∨ (x = 0 ∧ Y' 49 48 = 1))
theorem LV_m {X Y : q_M} {C N : Nat → Int} {k l : Int} (h : LV X Y C N k) (hl : l ≤ k) : LV X Y C N l := fun i x hx hc hi => h i x hx hc (by omega)
theorem LV_all {X Y : q_M} {C N : Nat → Int} {k : Nat} (h : LV X Y C N (k : Int)) (hk : (qTl C).length ≤ k) (l : Int) : LV X Y C N l := by
  intro i x hx hc _
  have : itm C (qTl C) (C x.1) < ((qTl C).length : Int) := itm_r
  exact h i x hx hc (by omega)
theorem LV_fr {X Y X' Y' : q_M} {C N : Nat → Int} {k : Int} (h : LV X Y C N k) (h1 : X' 22 = X 22) (h2 : X' 23 = X 23) (h3 : Y' 76 = Y 76) (h4 : Y' 53 = Y 53) (h5 : Y' 54 = Y 54) : LV X' Y' C N k := by
  intro i x hx hc hi
  have := h i x hx hc hi
  rw [h1, h2, (ob_w (N := N) h3 h4 h5).1, (ob_w h3 h4 h5).2]
  exact this
theorem AN_fr {X Y X' Y' : q_M} {C : Nat → Int} (h : AN X Y C) (h1 : ∀ a, (43 ≤ a ∧ a ≤ 45) ∨ a = 47 ∨ a = 48 → X' a = X a) (h2 : Y' 49 49 = Y 49 49) (h3 : ∀ a, 77 ≤ a → a ≤ 80 → Y' a = Y a) : AN X' Y' C := by
  obtain ⟨n, h⟩ := h
  refine ⟨n, ?_⟩
  unfold AH at h ⊢
  rw [h1 43 (by decide), h1 44 (by decide), h1 45 (by decide), h1 47 (by decide), h1 48 (by decide), h2, h3 77 (by decide) (by decide), h3 78 (by decide) (by decide), h3 79 (by decide) (by decide), h3 80 (by decide) (by decide)]
  exact h
theorem RN_fr {Y Y' : q_M} (h : RN Y) (hg : GY Y Y') : RN Y' := by
  unfold RN at h ⊢
  rw [hg.1 53 (by decide) (by decide)]; exact h
theorem EN_t {X Y : q_M} {C P N : Nat → Int} {ls : List (Nat × Nat)} {tp : List (Nat × Nat × Nat)} {md : Nat} {X1 Y1 X' Y' : q_M} {x k : Int} (h1 : GX X X1) (h2 : GY Y Y1) (h : EN X1 Y1 X' Y' C P N ls tp md x k) : EN X Y X' Y' C P N ls tp md x k := ⟨h.1, GX_t h1 h.2.1, GY_t h2 h.2.2.1, h.2.2.2⟩
theorem EN_m {X Y : q_M} {C P N : Nat → Int} {ls : List (Nat × Nat)} {tp : List (Nat × Nat × Nat)} {md : Nat} {X' Y' : q_M} {x k l : Int} (h : EN X Y X' Y' C P N ls tp md x k) (hl : l ≤ k) : EN X Y X' Y' C P N ls tp md x l := by
  refine ⟨h.1, h.2.1, h.2.2.1, ?_⟩
  rcases h.2.2.2 with ⟨a, b, c, e⟩ | z
  · exact Or.inl ⟨a, b, LV_m c hl, e⟩
  · exact Or.inr z
theorem EN_r {X Y : q_M} {C P N : Nat → Int} {ls : List (Nat × Nat)} {tp : List (Nat × Nat × Nat)} {md : Nat} {k : Int} (h : LSt X Y C P N ls tp md k) : EN X Y X Y C P N ls tp md 1 k := ⟨h.1, GX_r, GY_r, Or.inl ⟨rfl, h.2.1, h.2.2.1, h.2.2.2⟩⟩
theorem EN_l {X Y : q_M} {C P N : Nat → Int} {ls : List (Nat × Nat)} {tp : List (Nat × Nat × Nat)} {md : Nat} {X' Y' : q_M} {k : Int} (h : EN X Y X' Y' C P N ls tp md 1 k) : LSt X' Y' C P N ls tp md k := by
  obtain ⟨h1, h2, h3, h4⟩ := h
  rcases h4 with ⟨-, b, c, e⟩ | ⟨z, -⟩
  · exact ⟨h1, b, c, e⟩
  · exact absurd z (by decide)
/-- a condition was tried -/
theorem LSt_c {X Y : q_M} {C P N : Nat → Int} {ls : List (Nat × Nat)} {tp : List (Nat × Nat × Nat)} {md : Nat} {X' Y' : q_M} {k : Int} (h : LSt X Y C P N ls tp md k) (hx : ∀ a, ¬ a = 32 → X' a = X a) (hy : FE Y Y') : LSt X' Y' C P N ls tp md k ∧ GX X X' ∧ GY Y Y' := by
  obtain ⟨⟨h1, h2, h3, h4, h5⟩, h6, h7, h8⟩ := h
  have gx : GX X X' := fun a e1 e2 e3 e4 => hx a e3
  have gy := FE_G hy
  refine ⟨⟨⟨RS_fr h1 gx (fun i x _ _ => by rw [hx 22 (by decide), hx 23 (by decide)]; exact ⟨rfl, rfl⟩) gy (NW_fe h1.2.2.2.2.2.2.2 hy), DB_fr h2 gx gy, RN_fr h3 gy, ?_, ?_⟩, AN_fr h6 (fun a ha => hx a (by omega)) (hy.2 49 (by decide) (by decide) (by decide)) (fun a e1 e2 => hy.1 a (by omega) (by omega)), LV_fr h7 (hx 22 (by decide)) (hx 23 (by decide)) (hy.1 76 (by decide) (by decide)) (hy.1 53 (by decide) (by decide)) (hy.1 54 (by decide) (by decide)), ?_⟩, gx, gy⟩
  · rw [hx 46 (by decide), hy.2 40 (by decide) (by decide) (by decide)]; exact h4
  · rw [hx 46 (by decide), hy.2 47 (by decide) (by decide) (by decide)]; exact h5
  · rw [hy.2 48 (by decide) (by decide) (by decide)]; exact h8
/-- item k of both -/
theorem rs_item {X Y : q_M} {C P N : Nat → Int} {ls : List (Nat × Nat)} {tp : List (Nat × Nat × Nat)} {md : Nat} (h : RS X Y C P N ls tp md) : X 15 7 = (qTl C).length ∧ Y 49 26 = (qTl C).length ∧ 1 ≤ (qTl C).length ∧ (qTl C).length ≤ 3 ∧ ∀ k, k < (qTl C).length → ∃ tk lf, (qTl C)[k]? = some tk ∧ X 33 k = C tk - 84 ∧ X 37 k = lf ∧ Y 64 k = C tk - 84 ∧ Y 66 k = lf ∧ 84 ≤ C tk ∧ C tk ≤ 86 := by
  obtain ⟨h1, hQ, h3, hC, hM, -⟩ := h
  have hT := hQ.1
  have e1 : (qIts C).length = (qTl C).length := by rw [← qIts_t, List.length_map]
  have e2 : (qMi C).length = (qTl C).length := by rw [← qMi_t, List.length_map]
  have hI := hM.1.2.2.1
  refine ⟨by rw [← e1]; exact hC.1.1, by rw [← e2]; exact hI.1, by unfold qTl; simp, hT.1, fun k hk => ?_⟩
  have g1 : (qMi C)[k]? = some (qMi C)[k] := List.getElem?_eq_getElem (by omega)
  generalize (qMi C)[k] = it at g1
  have g2 : (qIts C)[k]? = some (it.1, it.2.1) := by
    have : qIts C = (qMi C).map (fun t => (t.1, t.2.1)) := by simp [qIts, qMi]
    rw [this, List.getElem?_map, g1]; rfl
  have g3 : (qTl C)[k]? = some it.1 := by rw [← qMi_t, List.getElem?_map, g1]; rfl
  obtain ⟨c1, c2⟩ := hC.1.2 k _ g2
  obtain ⟨m1, m2, m3, -⟩ := hI.2 k it g1
  have := hT.2 it.1 (List.mem_of_getElem? g3)
  exact ⟨it.1, it.2.1, g3, c1, c2, m2, m3, this.1, this.2.1⟩
/-- a line of item k is loaded -/
theorem LSt_load {sc : List Int} {d : Nat} {X Y : q_M} {C P N : Nat → Int} {ls : List (Nat × Nat)} {tp : List (Nat × Nat × Nat)} {md : Nat} {k tk : Nat} {l : Int} {Y' : q_M} {s : Int} (h : LSt X Y C P N ls tp md (k : Int)) (hk : (qTl C)[k]? = some tk) (hk3 : k < 3) (hl : l = -1 ∨ (0 ≤ l ∧ l < Y 52 (C tk - 84).toNat)) (y0 : ∀ a, ¬ a = 76 → ¬ a = 49 → Y' a = Y a) (y1 : ∀ j, ¬ j = 47 → Y' 49 j = Y 49 j) (y2 : Y' 49 47 = s) (y3 : Y' 76 k = l) (y4 : ∀ j, ¬ j = k → Y' 76 j = Y 76 j) (hd : 3 ≤ d) : ∃ X', pq sc d 41 [.inr (.inr 16), .inl (k : Int), .inr (.inr 1), .inl (C tk - 84), .inl l] GF (q_up X 46 8 s) = some (none, GF, X') ∧ LSt X' Y' C P N ls tp md ((k : Int) + 1) ∧ GX X X' ∧ GY Y Y' := by
  obtain ⟨⟨h1, h2, h3, h4, h5⟩, h6, h7, h8⟩ := h
  have gx1 : GX X (q_up X 46 8 s) := fun a _ _ _ e4 => q_upf (by omega)
  have n : ∀ a, ¬ a = 46 → q_up X 46 8 s a = X a := fun a e => q_upf e
  have R1 : RS (q_up X 46 8 s) Y C P N ls tp md := RS_fr h1 gx1 (fun i x _ _ => by rw [n 22 (by decide), n 23 (by decide)]; exact ⟨rfl, rfl⟩) GY_r h1.2.2.2.2.2.2.2
  obtain ⟨X', q1, g1, c1, f1, L1⟩ := ev_load (sc := sc) (d := d) (Y' := Y') R1 (DB_fr h2 gx1 GY_r) (LV_fr h7 (n 22 (by decide)) (n 23 (by decide)) rfl rfl rfl) hk hl y3 y4 (y0 53 (by decide) (by decide)) (y0 54 (by decide) (by decide)) hd
  have gy : GY Y Y' := ⟨fun a e1 e2 => y0 a (by omega) e2, fun j e1 e2 e3 e4 => y1 j (by omega)⟩
  have ht := List.mem_of_getElem? hk
  have hT := h1.2.1.1.2 tk ht
  have hh := h2.1 (C tk - 84).toNat (by omega)
  have nw : NW Y' := by
    refine ⟨fun j hj => ?_, fun m hm => by rw [y0 54 (by decide) (by decide)]; exact h1.2.2.2.2.2.2.2.2 m hm⟩
    by_cases z : j = k
    · subst z; rw [y3]; omega
    · rw [y4 j z]; exact h1.2.2.2.2.2.2.2.1 j hj
  refine ⟨X', q1, ⟨⟨RS_fr R1 g1 c1 gy nw, DB_fr h2 (GX_t gx1 g1) gy, RN_fr h3 gy, ?_, ?_⟩, AN_fr h6 (fun a ha => by rw [f1 a (by omega) (by omega), n a (by omega)]) (y1 49 (by decide)) (fun a e1 e2 => y0 a (by omega) (by omega)), L1, by rw [y1 48 (by decide)]; exact h8⟩, GX_t gx1 g1, gy⟩
  · rw [f1 46 (by decide) (by decide), q_up_sn (by decide), y1 40 (by decide)]; exact h4
  · rw [f1 46 (by decide) (by decide), q_up_s, y2]
/-- on behind item k: class 18 and model 197, then what is next -/
theorem go_on {sc : List Int} {d dm : Nat} {X Y : q_M} {C P N : Nat → Int} {ls : List (Nat × Nat)} {tp : List (Nat × Nat × Nat)} {md : Nat} {k : Nat} {nx : Nat} (hN : ∀ X Y, LSt X Y C P N ls tp md ((k : Int) + 1) → ∃ X' Y' x, pq sc (d - 1) 17 [.inr (.inr 46), .inl ((k + 1 : Nat) : Int)] GF X = some (some (.inl x), GF, X') ∧ pq sc dm nx [.inr (.inr 49)] GF Y = some (none, GF, Y') ∧ EN X Y X' Y' C P N ls tp md x ((k : Int) + 1)) (h : LSt X Y C P N ls tp md ((k : Int) + 1)) (hk : k < 3) (hd : 8 ≤ d) (hm9 : 7 ≤ dm) : ∃ X' Y2 x y, pq sc d 18 [.inr (.inr 46), .inl (k : Int)] GF X = some (some (.inl x), GF, X') ∧ pq sc dm 197 [.inr (.inr 49), .inl (k : Int)] GF Y = some (some (.inl y), GF, Y2) ∧ (x = 0 ∨ x = 1) ∧ GY Y Y2 ∧ ((y = 0 ∧ x = 1 ∧ EN X Y X' Y2 C P N ls tp md x ((k : Int) + 1)) ∨ (y = 1 ∧ ∃ Y', pq sc dm nx [.inr (.inr 49)] GF Y2 = some (none, GF, Y') ∧ EN X Y X' Y' C P N ls tp md x ((k : Int) + 1))) := by
  obtain ⟨X1, Y1, y, q1, q2, hy, f1, f2⟩ := ev_where (sc := sc) (d := d - 1) (dm := dm) h.1.1 h.2.2.1 (by omega) hm9
  obtain ⟨l1, g1, g2⟩ := LSt_c h f1 f2
  rcases hy with rfl | rfl
  · refine ⟨X1, Y1, 1, 0, (pq_e (by omega) (by decide) (Nat.le_of_ble_eq_true rfl) ⟨0 + 1, sg_X2_goOn_0.trans ?_⟩), q2, Or.inr rfl, g2, Or.inl ⟨rfl, rfl, EN_t g1 g2 (EN_r l1)⟩⟩
    rw [q1, q_cI_s, if_pos rfl]
  · obtain ⟨X2, Y2, x, q3, q4, e⟩ := hN X1 Y1 l1
    have hx : x = 0 ∨ x = 1 := by
      rcases e.2.2.2 with ⟨z, -⟩ | ⟨z, -⟩
      · exact Or.inr z
      · exact Or.inl z
    refine ⟨X2, Y1, x, 1, (pq_e (by omega) (by decide) (Nat.le_of_ble_eq_true rfl) ⟨0 + 1, sg_X2_goOn_0.trans ?_⟩), q2, hx, g2, Or.inr ⟨rfl, Y2, q4, EN_t g1 g2 e⟩⟩
    rw [q1, q_cI_s, if_neg (by decide), qw1 (by omega), q3, q_cI_s]
    rcases hx with rfl | rfl
    · rw [if_pos rfl]
    · rw [if_neg (by decide)]
