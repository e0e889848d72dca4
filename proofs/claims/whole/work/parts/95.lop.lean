/-! the loops of items behind the first -/
noncomputable def mT (sc : List Int) (dm nx k : Nat) (f : Int) (Y : q_M) : Option (Option q_V × q_G × q_M) := if Y 49 48 = 0 then (if Y 66 k = 0 then some (none, GF, Y) else (if f = 0 then q_cI (pq sc dm 197 [.inr (.inr 49), .inl (k : Int)] GF (q_up Y 76 k (-1))) GF (fun x M1 => if x = 0 then some (none, GF, M1) else q_c0 (pq sc dm nx [.inr (.inr 49)] GF M1) GF (fun M3 => some (none, GF, M3))) else some (none, GF, Y))) else some (none, GF, Y)
def mL (sc : List Int) (dm mid nx k : Nat) : Prop := (∀ (f : Int) (l : Nat) (Y : q_M) (F : Nat), 0 ≤ Y 64 k → Y 64 k < 3 → pr sc (pq sc dm) mid (F + 1) 4 [some (.inr (.inr 49)), some (.inl f), some (.inl (l : Int)), none] [] Y = if (l : Int) < Y 52 (Y 64 k).toNat then (if Y 49 48 = 0 then q_cI (pq sc dm 203 [.inr (.inr 49), .inl (k : Int)] GF (q_up (q_up Y 76 k (l : Int)) 49 47 (q_w (Y 49 47 + 1)))) GF (fun x M7 => pr sc (pq sc dm) mid F 63 [some (.inr (.inr 49)), some (.inl (if f = 0 then (if x = 0 then 0 else 1) else 1)), some (.inl (l : Int)), some (.inl x)] [] M7) else mT sc dm nx k f Y) else mT sc dm nx k f Y) ∧ (∀ (f x : Int) (l : Nat) (Y : q_M) (F : Nat), pr sc (pq sc dm) mid (F + 1) 63 [some (.inr (.inr 49)), some (.inl f), some (.inl (l : Int)), some (.inl x)] [] Y = if x = 0 then pr sc (pq sc dm) mid F 4 [some (.inr (.inr 49)), some (.inl f), some (.inl (q_w ((l : Int) + 1))), none] [] Y else q_cI (pq sc dm 197 [.inr (.inr 49), .inl (k : Int)] GF Y) GF (fun x2 M1 => if x2 = 0 then pr sc (pq sc dm) mid F 4 [some (.inr (.inr 49)), some (.inl f), some (.inl (q_w ((l : Int) + 1))), none] [] M1 else q_c0 (pq sc dm nx [.inr (.inr 49)] GF M1) GF (fun M3 => pr sc (pq sc dm) mid F 4 [some (.inr (.inr 49)), some (.inl f), some (.inl (q_w ((l : Int) + 1))), none] [] M3)))
theorem q_cIf {α : Type} {r : Option (Option q_V × q_G × q_M)} {G : q_G} {k k' : Int → q_M → Option α} (h : ∀ x M, k x M = k' x M) : q_cI r G k = q_cI r G k' := by
  have : k = k' := by funext x M; exact h x M
  rw [this]
theorem mL_206 {sc : List Int} {dm : Nat} : mL sc dm 206 205 1 := by
  refine ⟨fun f l Y F h1 h2 => ?_, fun f x l Y F => sg_X12_second_63⟩
  refine sg_X12_second_4.trans ?_
  have z1 : (1 : Int).toNat = 1 := rfl
  have z3 : (0 : Nat) ≤ 1 ∧ (1 : Int) < ((3 : Nat) : Int) := by decide
  have z4 : (0 : Nat) ≤ 1 ∧ (1 : Int) < ((4 : Nat) : Int) := by decide
  have z2 : 0 ≤ Y 64 1 ∧ Y 64 1 < ((3 : Nat) : Int) := ⟨h1, h2⟩
  simp only [z1, if_pos z3, if_pos z4, if_pos z2]
  by_cases g1 : (l : Int) < Y 52 (Y 64 1).toNat
  · rw [if_pos g1, if_pos g1]
    by_cases g2 : Y 49 48 = 0
    · rw [if_pos g2, if_pos g2]
      refine q_cIf (fun x M => ?_)
      split
      · split
        · rfl
        · rfl
      · rfl
    · unfold mT; simp only [if_neg g2]
  · rw [if_neg g1, if_neg g1]; rfl
theorem mL_204 {sc : List Int} {dm : Nat} : mL sc dm 204 202 2 := by
  refine ⟨fun f l Y F h1 h2 => ?_, fun f x l Y F => sg_X12_third_63⟩
  refine sg_X12_third_4.trans ?_
  have z1 : (2 : Int).toNat = 2 := rfl
  have z3 : (0 : Nat) ≤ 2 ∧ (2 : Int) < ((3 : Nat) : Int) := by decide
  have z4 : (0 : Nat) ≤ 2 ∧ (2 : Int) < ((4 : Nat) : Int) := by decide
  have z2 : 0 ≤ Y 64 2 ∧ Y 64 2 < ((3 : Nat) : Int) := ⟨h1, h2⟩
  simp only [z1, if_pos z3, if_pos z4, if_pos z2]
  by_cases g1 : (l : Int) < Y 52 (Y 64 2).toNat
  · rw [if_pos g1, if_pos g1]
    by_cases g2 : Y 49 48 = 0
    · rw [if_pos g2, if_pos g2]
      refine q_cIf (fun x M => ?_)
      split
      · split
        · rfl
        · rfl
      · rfl
    · unfold mT; simp only [if_neg g2]
  · rw [if_neg g1, if_neg g1]; rfl
/-- a loop from line l on -/
theorem lp_T {sc : List Int} {d dm : Nat} {C P N : Nat → Int} {ls : List (Nat × Nat)} {tp : List (Nat × Nat × Nat)} {md : Nat} {k tk mid nx n : Nat} (hm : mL sc dm mid nx k) (hN : ∀ X Y, LSt X Y C P N ls tp md ((k : Int) + 1) → ∃ X' Y' x, pq sc (d - 1) 17 [.inr (.inr 46), .inl ((k + 1 : Nat) : Int)] GF X = some (some (.inl x), GF, X') ∧ pq sc dm nx [.inr (.inr 49)] GF Y = some (none, GF, Y') ∧ EN X Y X' Y' C P N ls tp md x ((k : Int) + 1)) (hk1 : 1 ≤ k) (hk2 : k < (qTl C).length) (hk3 : k < 3) (hk : (qTl C)[k]? = some tk) (hj : k - 1 < (qJ C).2.2.1.length) (h84 : 84 ≤ C tk ∧ C tk ≤ 86) (hn : n ≤ 10) (hd : 8 ≤ d) (hm9 : 8 ≤ dm) : ∀ (m l : Nat) (X Y : q_M) (f : Int), l + m = n → Y 52 (C tk - 84).toNat = n → LSt X Y C P N ls tp md (k : Int) → (f = 0 ∨ f = 1) → ∃ F G X' Y' x, pr sc (pq sc d) 17 F 45 [some (.inr (.inr 46)), some (.inl (k : Int)), some (.inl (C tk - 84)), some (.inl (n : Int)), some (.inl f), some (.inl (l : Int))] [] X = some (some (.inl x), GF, X') ∧ pr sc (pq sc dm) mid G 4 [some (.inr (.inr 49)), some (.inl f), some (.inl (l : Int)), none] [] Y = some (none, GF, Y') ∧ EN X Y X' Y' C P N ls tp md x (k : Int) := by
  intro m
  induction m with
  | zero =>
    intro l X Y f hl hy hL hf
    obtain ⟨i1, i2, i3, i4, i5⟩ := rs_item hL.1.1
    obtain ⟨tk', lf, e1, e2, e3, e4, e5, e6, e7⟩ := i5 k hk2
    rw [hk] at e1; cases e1
    have c4 := fun F => hm.1 f l Y F (by omega) (by omega)
    have lt : ¬ (l : Int) < (n : Int) := by omega
    simp only [e4, hy, if_neg lt, mT, if_pos hL.2.2.2, e5] at c4
    rcases hf with rfl | rfl
    · have q1 := sp_isLeft (sc := sc) (d := d) (M := X) hk3 (by omega)
      rw [e3] at q1
      by_cases z : lf = 0
      · rw [if_pos z] at q1 c4
        refine ⟨0 + 1, 0 + 1, X, Y, 1, sg_X2_goThrough_45.trans ?_, c4 0, EN_r hL⟩
        rw [if_neg (by omega), if_pos rfl, q1, q_cI_s, if_pos rfl]
      · rw [if_neg z] at q1 c4
        rw [if_pos rfl] at c4
        have self : q_up X 46 8 (X 46 8) = X := by
          funext a b
          by_cases ha : a = 46
          · subst ha
            by_cases hb : b = 8
            · subst hb; rw [q_up_s]
            · rw [q_up_sn hb]
          · rw [q_upf ha]
        obtain ⟨X1, q2, l1, g1, g2⟩ := LSt_load (sc := sc) (d := d) (l := -1) (Y' := q_up Y 76 k (-1)) (s := X 46 8) hL hk hk3 (Or.inl rfl) (fun a h1 _ => q_upf h1) (fun j _ => q_up_ne (by decide)) (by rw [q_up_ne (by decide)]; exact hL.1.2.2.2.2.symm) q_up_s (fun j hj => q_up_sn hj) (by omega)
        rw [self] at q2
        obtain ⟨X', Y2, x, y, q3, q4, hx, -, hy2⟩ := go_on (sc := sc) (d := d) (dm := dm) hN l1 hk3 (by omega) (by omega)
        have cl : pr sc (pq sc d) 17 (0 + 1) 45 [some (.inr (.inr 46)), some (.inl (k : Int)), some (.inl (C tk - 84)), some (.inl (n : Int)), some (.inl 0), some (.inl (l : Int))] [] X = some (some (.inl x), GF, X') := by
          refine sg_X2_goThrough_45.trans ?_
          rw [if_neg (by omega), if_pos rfl, q1, q_cI_s, if_neg (by decide), q2, q_c0_s, q3, q_cI_s, if_pos hx]
        rcases hy2 with ⟨y0, x1, en⟩ | ⟨y1, Y', q5, en⟩
        · refine ⟨0 + 1, 0 + 1, X', Y2, x, cl, ?_, EN_m (EN_t g1 g2 en) (by omega)⟩
          rw [c4 0, q4, q_cI_s, if_pos y0]
        · refine ⟨0 + 1, 0 + 1, X', Y', x, cl, ?_, EN_m (EN_t g1 g2 en) (by omega)⟩
          rw [c4 0, q4, q_cI_s, if_neg (by omega), q5, q_c0_s]
    · refine ⟨0 + 1, 0 + 1, X, Y, 1, sg_X2_goThrough_45.trans ?_, ?_, EN_r hL⟩
      · rw [if_neg (by omega), if_neg (by decide)]
      · rw [c4 0]
        split
        · rfl
        · rfl
  | succ m ih =>
    intro l X Y f hl hy hL hf
    obtain ⟨i1, i2, i3, i4, i5⟩ := rs_item hL.1.1
    obtain ⟨tk', lf, e1, e2, e3, e4, e5, e6, e7⟩ := i5 k hk2
    rw [hk] at e1; cases e1
    have c4 := fun F => hm.1 f l Y F (by omega) (by omega)
    have lt : (l : Int) < (n : Int) := by omega
    simp only [e4, hy, if_pos lt, if_pos hL.2.2.2] at c4
    have sn := hL.1.2.2.2.2
    generalize hs : q_w (Y 49 47 + 1) = s at c4
    obtain ⟨X1, q2, l1, g1, g2⟩ := LSt_load (sc := sc) (d := d) (l := (l : Int)) (Y' := q_up (q_up Y 76 k (l : Int)) 49 47 s) (s := s) hL hk hk3 (Or.inr ⟨by omega, by rw [hy]; omega⟩) (fun a h1 h2 => by rw [q_upf h2, q_upf h1]) (fun j hj => by rw [q_up_sn hj, q_up_ne (by decide)]) q_up_s (by rw [q_up_ne (by decide), q_up_s]) (fun j hj => by rw [q_up_ne (by decide), q_up_sn hj]) (by omega)
    obtain ⟨X2, Y2, x8, q3, q4, hx8, f1, f2⟩ := ev_on (sc := sc) (d := d) (dm := dm) (j := k - 1) l1.1.1 hj (LV_m l1.2.2.1 (by omega)) (by omega) (by omega)
    rw [show k - 1 + 1 = k by omega] at q3 q4
    obtain ⟨l2, g3, g4⟩ := LSt_c l1 f1 f2
    have c5 := fun (F : Nat) => c4 F
    rw [q4] at c5
    have cs : ∀ F, pr sc (pq sc d) 17 (F + 1) 45 [some (.inr (.inr 46)), some (.inl (k : Int)), some (.inl (C tk - 84)), some (.inl (n : Int)), some (.inl f), some (.inl (l : Int))] [] X = if x8 = 0 then pr sc (pq sc d) 17 F 45 [some (.inr (.inr 46)), some (.inl (k : Int)), some (.inl (C tk - 84)), some (.inl (n : Int)), some (.inl f), some (.inl ((l + 1 : Nat) : Int))] [] X2 else q_cI (pq sc d 18 [.inr (.inr 46), .inl (k : Int)] GF X2) GF (fun x10 M9 => if x10 = 0 then some (some (.inl 0), GF, M9) else pr sc (pq sc d) 17 F 45 [some (.inr (.inr 46)), some (.inl (k : Int)), some (.inl (C tk - 84)), some (.inl (n : Int)), some (.inl 1), some (.inl ((l + 1 : Nat) : Int))] [] M9) := fun F => by
      refine sg_X2_goThrough_45.trans ?_
      rw [if_pos (by omega), sn, hs, q2, q_c0_s, q3, q_cI_s, qw1 (by omega)]
    have y52 : ∀ Y' : q_M, GY Y Y' → Y' 52 (C tk - 84).toNat = n := fun Y' g => by rw [g.1 52 (by decide) (by decide)]; exact hy
    have gx2 := GX_t g1 g3
    have gy2 := GY_t g2 g4
    have c63 := fun (F : Nat) (f' : Int) => hm.2 f' x8 l Y2 F
    rw [qw1 (by omega)] at c63
    rcases hx8 with rfl | rfl
    · -- the own condition isn't true
      obtain ⟨F, G, X', Y', x, q5, q6, en⟩ := ih (l + 1) X2 Y2 f (by omega) (y52 Y2 gy2) ⟨l2.1, l2.2.1, LV_m l2.2.2.1 (by omega), l2.2.2.2⟩ hf
      refine ⟨F + 1, G + 1 + 1, X', Y', x, ?_, ?_, EN_t gx2 gy2 en⟩
      · rw [cs F, if_pos rfl, q5]
      · rw [c5 (G + 1), q_cI_s, c63 G, if_pos rfl]
        rcases hf with rfl | rfl
        · exact q6
        · exact q6
    · have ff : (if f = 0 then (if (1 : Int) = 0 then (0 : Int) else 1) else 1) = 1 := by split <;> rfl
      obtain ⟨X3, Y3, x, y, q7, q8, hx, -, hyy⟩ := go_on (sc := sc) (d := d) (dm := dm) hN l2 hk3 (by omega) (by omega)
      -- what is behind it
      have fin : ∀ Y4, EN X2 Y2 X3 Y4 C P N ls tp md x ((k : Int) + 1) → (∀ G, pr sc (pq sc dm) mid (G + 1) 63 [some (.inr (.inr 49)), some (.inl 1), some (.inl (l : Int)), some (.inl 1)] [] Y2 = pr sc (pq sc dm) mid G 4 [some (.inr (.inr 49)), some (.inl 1), some (.inl ((l + 1 : Nat) : Int)), none] [] Y4) → ∃ F G X' Y' x, pr sc (pq sc d) 17 F 45 [some (.inr (.inr 46)), some (.inl (k : Int)), some (.inl (C tk - 84)), some (.inl (n : Int)), some (.inl f), some (.inl (l : Int))] [] X = some (some (.inl x), GF, X') ∧ pr sc (pq sc dm) mid G 4 [some (.inr (.inr 49)), some (.inl f), some (.inl (l : Int)), none] [] Y = some (none, GF, Y') ∧ EN X Y X' Y' C P N ls tp md x (k : Int) := by
        intro Y4 en st
        rcases hx with rfl | rfl
        · -- stopped
          have e48 : Y4 49 48 = 1 := by
            rcases en.2.2.2 with ⟨z, -⟩ | ⟨-, z⟩
            · exact absurd z (by decide)
            · exact z
          obtain ⟨tk4, lf4, u1, u2, u3, u4, -⟩ := (rs_item en.1.1).2.2.2.2 k hk2
          rw [hk] at u1; cases u1
          have c9 := hm.1 1 (l + 1) Y4 0 (by omega) (by omega)
          refine ⟨0 + 1, 0 + 1 + 1 + 1, X3, Y4, 0, ?_, ?_, EN_m (EN_t gx2 gy2 en) (by omega)⟩
          · rw [cs 0, if_neg (by decide), q7, q_cI_s, if_pos rfl]
          · rw [c5 (0 + 1 + 1), q_cI_s, ff, st (0 + 1), c9]
            unfold mT
            rw [if_neg (show ¬ Y4 49 48 = 0 by omega), if_neg (show ¬ Y4 49 48 = 0 by omega)]
            split <;> rfl
        · have l4 := EN_l en
          obtain ⟨F, G, X', Y', x, q5, q6, en2⟩ := ih (l + 1) X3 Y4 1 (by omega) (y52 Y4 (GY_t gy2 en.2.2.1)) ⟨l4.1, l4.2.1, LV_m l4.2.2.1 (by omega), l4.2.2.2⟩ (Or.inr rfl)
          refine ⟨F + 1, G + 1 + 1, X', Y', x, ?_, ?_, EN_t (GX_t gx2 en.2.1) (GY_t gy2 en.2.2.1) en2⟩
          · rw [cs F, if_neg (by decide), q7, q_cI_s, if_neg (by decide), q5]
          · rw [c5 (G + 1), q_cI_s, ff, st G, q6]
      rcases hyy with ⟨y0, x1, en⟩ | ⟨y1, Y', q9, en⟩
      · refine fin Y3 en (fun G => ?_)
        rw [c63 G 1, if_neg (by decide), q8, q_cI_s, if_pos y0]
      · refine fin Y' en (fun G => ?_)
        rw [c63 G 1, if_neg (by decide), q8, q_cI_s, if_neg (by omega), q9, q_c0_s]
