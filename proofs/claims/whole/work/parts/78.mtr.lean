theorem mu_r {x : Int} (h : 0 ≤ x ∧ x ≤ 2) : (mu x = 0 ↔ x = 0) ∧ (mu x = 1 ↔ x = 2) ∧ (mu x = 2 ↔ x = 1) := by
  unfold mu
  split
  · omega
  · split <;> omega
theorem mk_not {sc : List Int} {d : Nat} {M : q_M} {x : Int} (h : 0 ≤ x ∧ x ≤ 2) (hd : 1 ≤ d) : pq sc d 192 [.inl (mu x)] GF M = some (some (.inl (mu (2 - x))), GF, M) := by
  refine (pq_e (by omega) (by decide) (Nat.le_of_ble_eq_true rfl) ⟨0 + 1, sg_X12_not_0.trans ?_⟩)
  rcases (show x = 0 ∨ x = 1 ∨ x = 2 by omega) with rfl | rfl | rfl
  · rw [if_neg (by decide), q_wid (by decide) (by decide)]; rfl
  · rw [if_pos (by decide)]; rfl
  · rw [if_neg (by decide), q_wid (by decide) (by decide)]; rfl
theorem mk_both {sc : List Int} {d : Nat} {M : q_M} {x y : Int} (h : 0 ≤ x ∧ x ≤ 2) (h' : 0 ≤ y ∧ y ≤ 2) (hd : 1 ≤ d) : pq sc d 193 [.inl (mu x), .inl (mu y)] GF M = some (some (.inl (mu (min x y))), GF, M) := by
  refine (pq_e (by omega) (by decide) (Nat.le_of_ble_eq_true rfl) ⟨0 + 1, sg_X12_both_0.trans ?_⟩)
  rcases (show x = 0 ∨ x = 1 ∨ x = 2 by omega) with rfl | rfl | rfl <;> rcases (show y = 0 ∨ y = 1 ∨ y = 2 by omega) with rfl | rfl | rfl <;> rfl
theorem mk_either {sc : List Int} {d : Nat} {M : q_M} {x y : Int} (h : 0 ≤ x ∧ x ≤ 2) (h' : 0 ≤ y ∧ y ≤ 2) (hd : 1 ≤ d) : pq sc d 194 [.inl (mu x), .inl (mu y)] GF M = some (some (.inl (mu (max x y))), GF, M) := by
  refine (pq_e (by omega) (by decide) (Nat.le_of_ble_eq_true rfl) ⟨0 + 1, sg_X12_either_0.trans ?_⟩)
  rcases (show x = 0 ∨ x = 1 ∨ x = 2 by omega) with rfl | rfl | rfl <;> rcases (show y = 0 ∨ y = 1 ∨ y = 2 by omega) with rfl | rfl | rfl <;> rfl
/-- levels below are kept -/
def LO (lv : Nat) (M M' : q_M) : Prop := ∀ j, j < lv → M' 73 j = M 73 j ∧ M' 74 j = M 74 j ∧ M' 75 j = M 75 j
theorem LO_r {lv : Nat} {M : q_M} : LO lv M M := fun _ _ => ⟨rfl, rfl, rfl⟩
theorem LO_t {lv : Nat} {M M' M'' : q_M} (h : LO lv M M') (h' : LO lv M' M'') : LO lv M M'' := fun j hj => ⟨(h' j hj).1.trans (h j hj).1, (h' j hj).2.1.trans (h j hj).2.1, (h' j hj).2.2.trans (h j hj).2.2⟩
/-- a truth joins the others of its level -/
theorem tr_202 {sc : List Int} {d e lv τ t : Nat} {M : q_M} {a v : Int} (ha : 0 ≤ a ∧ a ≤ 2) (hv : 0 ≤ v ∧ v ≤ 2) (hl : lv < 8) (h74 : M 74 lv = mu a) (h54 : M 49 54 = mu v) (hd : 1 ≤ d) : ∃ M', (∀ F, pr sc (pq sc d) 196 (F + 1) 202 [some (.inr (.inr 49)), none, some (.inl (e : Int)), some (.inl (lv : Int)), some (.inl (τ : Int)), some (.inl (t : Int)), none] [] M = pr sc (pq sc d) 196 F 22 [some (.inr (.inr 49)), none, some (.inl (e : Int)), some (.inl (lv : Int)), some (.inl 0), some (.inl (t : Int)), none] [] M') ∧ FE M M' ∧ LO lv M M' ∧ M' 73 = M 73 ∧ M' 74 lv = mu (min a (if τ % 2 = 1 then 2 - v else v)) := by
  by_cases g : τ % 2 = 1
  · rw [if_pos g]
    refine ⟨q_up (q_up M 49 54 (mu (2 - v))) 74 lv (mu (min a (2 - v))), fun F => sg_X12_truthOf_202.trans ?_, FE_t (FE_us (by omega)) (FE_up (by omega)), fun j hj => ?_, ?_, q_up_s⟩
    · rw [if_pos ⟨rfl, by omega⟩, if_pos (by omega), h54, mk_not hv hd, q_cI_s, if_pos (by omega), Int.toNat_natCast, h74, mk_both ha (by omega) hd, q_cI_s, if_pos (by omega)]
    · rw [q_up_ne (by decide), q_up_ne (by decide), q_up_sn (by omega), q_up_ne (by decide), q_up_ne (by decide), q_up_ne (by decide)]
      exact ⟨rfl, rfl, rfl⟩
    · rw [q_upf (by decide), q_upf (by decide)]
  · rw [if_neg g]
    refine ⟨q_up M 74 lv (mu (min a v)), fun F => sg_X12_truthOf_202.trans ?_, FE_up (by omega), fun j hj => ?_, q_upf (by decide), q_up_s⟩
    · rw [if_pos ⟨rfl, by omega⟩, if_neg (by omega), if_pos (by omega), Int.toNat_natCast, h74, h54, mk_both ha hv hd, q_cI_s, if_pos (by omega)]
    · rw [q_up_ne (by decide), q_up_sn (by omega), q_up_ne (by decide)]
      exact ⟨rfl, rfl, rfl⟩
def XM (sc : List Int) (d : Nat) (M0 : q_M) (C N : Nat → Int) (q : Nat) (tl : List Nat) (f : Nat) : Prop := ∀ (md o p u s r : Nat) (st : List (Int × Int × Int)) (ot : List Nat) (pt : List (Nat × Nat)) (e lv : Nat) (M : q_M), aC C f md o p u s = some (true, r, st, ot, pt) → r ≤ e → e ≤ q → (∀ t ∈ ot, ¬ cst C t → 0 ≤ itm C tl (C t)) → lv ≤ o → o ≤ 4 → FE M0 M →
  (md = 0 → ∀ (τ : Nat) (a : Int), τ < 1000 → τ + f < 1000 → 0 ≤ a ∧ a ≤ 2 → M 74 lv = mu a → ∃ K M', (∀ F, pr sc (pq sc d) 196 (F + K) 22 [some (.inr (.inr 49)), none, some (.inl (e : Int)), some (.inl (lv : Int)), some (.inl (τ : Int)), some (.inl (p : Int)), none] [] M = pr sc (pq sc d) 196 F 22 [some (.inr (.inr 49)), none, some (.inl (e : Int)), some (.inl (lv : Int)), some (.inl 0), some (.inl (r : Int)), none] [] M') ∧ FE M0 M' ∧ LO lv M M' ∧ M' 73 lv = M 73 lv ∧ M' 74 lv = mu (min a (if τ % 2 = 1 then 2 - (aV C (obM C tl M0) (onM C N tl M0) f md p).2 else (aV C (obM C tl M0) (onM C N tl M0) f md p).2))) ∧
  (md = 1 ∨ md = 3 → f < 1000 → ∀ (a : Int), 0 ≤ a ∧ a ≤ 2 → M 74 lv = mu a → ∃ K M', (∀ F, pr sc (pq sc d) 196 (F + K) 22 [some (.inr (.inr 49)), none, some (.inl (e : Int)), some (.inl (lv : Int)), some (.inl 0), some (.inl (p : Int)), none] [] M = pr sc (pq sc d) 196 F 22 [some (.inr (.inr 49)), none, some (.inl (e : Int)), some (.inl (lv : Int)), some (.inl 0), some (.inl (r : Int)), none] [] M') ∧ FE M0 M' ∧ LO lv M M' ∧ M' 73 lv = M 73 lv ∧ M' 74 lv = mu (min a (aV C (obM C tl M0) (onM C N tl M0) f md p).2)) ∧
  (md = 2 → f < 1000 → ∀ (s0 : Int), 0 ≤ s0 ∧ s0 ≤ 2 → M 73 lv = mu s0 → M 74 lv = mu 2 → ∃ K M' s' a', (∀ F, pr sc (pq sc d) 196 (F + K) 22 [some (.inr (.inr 49)), none, some (.inl (e : Int)), some (.inl (lv : Int)), some (.inl 0), some (.inl (p : Int)), none] [] M = pr sc (pq sc d) 196 F 22 [some (.inr (.inr 49)), none, some (.inl (e : Int)), some (.inl (lv : Int)), some (.inl 0), some (.inl (r : Int)), none] [] M') ∧ FE M0 M' ∧ LO lv M M' ∧ M' 73 lv = mu s' ∧ M' 74 lv = mu a' ∧ (0 ≤ s' ∧ s' ≤ 2) ∧ (0 ≤ a' ∧ a' ≤ 2) ∧ max s' a' = max s0 (aV C (obM C tl M0) (onM C N tl M0) f md p).2) ∧
  (md = 4 → f < 1000 → ∀ (s0 a : Int), 0 ≤ s0 ∧ s0 ≤ 2 → 0 ≤ a ∧ a ≤ 2 → M 73 lv = mu s0 → M 74 lv = mu a → ∃ K M' s' a', (∀ F, pr sc (pq sc d) 196 (F + K) 22 [some (.inr (.inr 49)), none, some (.inl (e : Int)), some (.inl (lv : Int)), some (.inl 0), some (.inl (p : Int)), none] [] M = pr sc (pq sc d) 196 F 22 [some (.inr (.inr 49)), none, some (.inl (e : Int)), some (.inl (lv : Int)), some (.inl 0), some (.inl (r : Int)), none] [] M') ∧ FE M0 M' ∧ LO lv M M' ∧ M' 73 lv = mu s' ∧ M' 74 lv = mu a' ∧ (0 ≤ s' ∧ s' ≤ 2) ∧ (0 ≤ a' ∧ a' ≤ 2) ∧ max s' a' = max (max s0 a) (aV C (obM C tl M0) (onM C N tl M0) f md p).2)
theorem XM_s {sc : List Int} {d : Nat} {M0 : q_M} {C P N : Nat → Int} {q : Nat} {its : List aIt} {ous : List aOu} {gts : List Nat} {wf wt : Nat} (h0 : SM M0 C P N q its ous gts wf wt) (hT : TIq C q (its.map (·.1))) (hk : ∀ i, i ≤ q → kR (C i)) (hN : NW M0) (hd : 4 ≤ d) {f : Nat} (ih : XM sc d M0 C N q (its.map (·.1)) f) : XM sc d M0 C N q (its.map (·.1)) (f + 1) := by
  intro md o p u s r st ot pt e lv M hr hre heq hi hlo ho4 hM
  have hq := h0.2.1
  have hS := SM_fe h0 hM
  have htok : ∀ t, t < e → M 58 t = kp (C t) := fun t ht => (hS.1 t (by omega)).1
  have hpr := aC_len _ _ _ _ _ _ _ _ _ _ hr
  have kpi : ∀ (t : Nat) (b k : Int), t < e → kG b → kp b = k → (M 58 t = k ↔ C t = b) := fun t b k ht hb hkk => by rw [htok t ht]; exact kp_i (hk t (by omega)) hb hkk
  have g272 : kG 272 := by unfold kG kR; omega
  have g40 : kG 40 := by unfold kG kR; omega
  have g41 : kG 41 := by unfold kG kR; omega
  have g270 : kG 270 := by unfold kG kR; omega
  have g271 : kG 271 := by unfold kG kR; omega
  unfold aC at hr
  refine ⟨fun hmd τ a hτ hτf ha h74 => ?_, fun hmd hf a ha h74 => ?_, fun hmd hf s0 hs0 h73 h74 => ?_, fun hmd hf s0 a hs0 ha h73 h74 => ?_⟩
  · subst hmd
    have hpr0 := hpr.2.2.2.1 (by omega)
    rw [if_pos rfl] at hr
    unfold aV
    rw [if_pos rfl]
    by_cases c1 : C p = 272
    · rw [if_pos c1] at hr ⊢
      split at hr
      · cases hr
      · rcases aBd_s hr with ⟨q1, st1, ot1, pt1, e1, e2⟩ | ⟨q1, st1, ot1, pt1, e1, e2⟩
        · cases e2
        · next ho =>
          cases e2
          obtain ⟨K, M1, k1, k2, k3, k4, k5⟩ := (ih 0 _ _ _ _ _ _ _ _ e lv M e1 hre heq hi (by omega) (by omega) hM).1 rfl (τ + 1) a (by omega) (by omega) ha h74
          refine ⟨K + 1, M1, fun F => ?_, k2, k3, k4, ?_⟩
          · rw [← k1 F]
            refine sg_X12_truthOf_22.trans ?_
            rw [if_pos (by omega), if_pos (by omega), Int.toNat_natCast, if_pos ((kpi p 272 213 (by omega) g272 (by decide)).mpr c1), qw1 (by omega), qw1 (by omega)]
            rfl
          · rw [k5]
            dsimp only
            congr 1
            split <;> split <;> omega
    · rw [if_neg c1] at hr ⊢
      by_cases c2 : C p = 40
      · rw [if_pos c2] at hr ⊢
        split at hr
        · cases hr
        · rcases aBd_s hr with ⟨q1, st1, ot1, pt1, e1, e2⟩ | ⟨q1, st1, ot1, pt1, e1, e2⟩
          · cases e2
          · next ho =>
            split at e2
            · next c3 =>
              cases e2
              generalize hA : q_up (q_up (q_up M 75 lv (τ : Int)) 73 (lv + 1) 0) 74 (lv + 1) 1 = A
              have fA : FE M A := by rw [← hA]; exact FE_t (FE_up (by omega)) (FE_t (FE_up (by omega)) (FE_up (by omega)))
              have A73 : A 73 (lv + 1) = mu 0 := by rw [← hA, q_up_ne (by decide), q_up_s]; rfl
              have A74 : A 74 (lv + 1) = mu 2 := by rw [← hA, q_up_s]; rfl
              have A75 : A 75 lv = (τ : Int) := by rw [← hA, q_up_ne (by decide), q_up_ne (by decide), q_up_s]
              have Alo : LO lv M A := fun j hj => by
                rw [← hA, q_up_ne (by decide), q_up_sn (by omega), q_up_ne (by decide), q_up_sn (by omega), q_up_ne (by decide), q_up_ne (by decide), q_up_ne (by decide), q_up_ne (by decide), q_up_sn (by omega)]
                exact ⟨rfl, rfl, rfl⟩
              have A73l : A 73 lv = M 73 lv := by rw [← hA, q_up_ne (by decide), q_up_sn (by omega), q_up_ne (by decide)]
              have A74l : A 74 lv = M 74 lv := by rw [← hA, q_up_sn (by omega), q_up_ne (by decide), q_up_ne (by decide)]
              obtain ⟨K, M1, s', a', k1, k2, k3, k4, k5, k6, k7, k8⟩ := (ih 2 _ _ _ _ _ _ _ _ e (lv + 1) A e1 (by omega) heq hi (by omega) (by omega) (FE_t hM fA)).2.2.1 rfl (by omega) 0 (by omega) A73 A74
              have hv := aV_r (C := C) (ob := obM C (its.map (·.1)) M0) (on := onM C N (its.map (·.1)) M0) f 2 (p + 1)
              have k8' : max s' a' = (aV C (obM C (its.map (·.1)) M0) (onM C N (its.map (·.1)) M0) f 2 (p + 1)).2 := by omega
              have k3l := k3 lv (by omega)
              have m74 : q_up M1 49 54 (mu (max s' a')) 74 lv = mu a := by rw [q_up_ne (by decide), k3l.2.1, A74l]; exact h74
              obtain ⟨M2, n1', n2, n3, n4, n5⟩ := tr_202 (sc := sc) (d := d) (e := e) (lv := lv) (τ := τ) (t := q1 + 1) (M := q_up M1 49 54 (mu (max s' a'))) ha (by rw [k8']; exact hv) (by omega) m74 q_up_s (by omega)
              have hpq1 := (aC_len _ _ _ _ _ _ _ _ _ _ e1).2.2.2.1 (by omega)
              have hS1 := SM_fe h0 k2
              have c3' : M1 58 q1 = 41 := by rw [(hS1.1 q1 (by omega)).1, c3]; decide
              refine ⟨1 + 1 + K + 1, M2, fun F => ?_, FE_t k2 (FE_t (FE_us (by omega)) n2), LO_t Alo (LO_t (fun j hj => k3 j (by omega)) (LO_t (fun j hj => by rw [q_up_ne (by decide), q_up_ne (by decide), q_up_ne (by decide)]; exact ⟨rfl, rfl, rfl⟩) n3)), ?_, ?_⟩
              · rw [show F + (1 + 1 + K + 1) = (F + 1 + 1 + K) + 1 by omega]
                refine Eq.trans (sg_X12_truthOf_22.trans (c := pr sc (pq sc d) 196 (F + 1 + 1 + K) 22 [some (.inr (.inr 49)), none, some (.inl (e : Int)), some (.inl ((lv + 1 : Nat) : Int)), some (.inl 0), some (.inl ((p + 1 : Nat) : Int)), none] [] A) ?_) ?_
                · rw [if_pos (by omega), if_pos (by omega), Int.toNat_natCast, if_neg (fun hh => c1 ((kpi p 272 213 (by omega) g272 (by decide)).mp hh)), if_pos ((kpi p 40 40 (by omega) g40 (by decide)).mpr c2), if_pos (by omega), qw1 (by omega), qw1 (by omega), if_pos (by omega), if_pos (by omega), Int.toNat_natCast, Int.toNat_natCast, hA]
                · rw [k1 (F + 1 + 1)]
                  refine Eq.trans (sg_X12_truthOf_22.trans (c := pr sc (pq sc d) 196 (F + 1) 202 [some (.inr (.inr 49)), none, some (.inl (e : Int)), some (.inl (lv : Int)), some (.inl (τ : Int)), some (.inl ((q1 + 1 : Nat) : Int)), none] [] (q_up M1 49 54 (mu (max s' a')))) ?_) (n1' F)
                  rw [if_pos (by omega), if_pos (by omega), Int.toNat_natCast, c3', if_neg (by decide), if_neg (by decide), if_neg (by decide), if_neg (by decide), if_pos rfl, if_pos (by omega), if_pos (by omega), Int.toNat_natCast, k4, k5, mk_either k6 k7 (by omega), q_cI_s, qwn (x := ((lv + 1 : Nat) : Int) + (-1)) (n := lv) (by omega) (by omega), if_pos (by omega), Int.toNat_natCast, k3l.2.2, A75, qw1 (by omega)]
              · rw [n4, q_up_ne (by decide), k3l.1, A73l]
              · rw [n5, k8']
            · cases e2
      · rw [if_neg c2] at hr ⊢
        simp only [Option.some.injEq, Prod.mk.injEq] at hr
        obtain ⟨h1, h2, h3, h4, h5⟩ := hr
        rw [← h4] at hi
        obtain ⟨M1, q1, f1, g1, g2⟩ := mk_compare (sc := sc) (d := d) (p := p) (u := u) hS hT hk (NW_fe hN hM) h1 (by omega) hi (by omega)
        have eo := fun t => ob_fe (C := C) (N := N) (tl := its.map (·.1)) hM (t := t)
        have ecv : cv C (obM C (its.map (·.1)) M) (onM C N (its.map (·.1)) M) p = cv C (obM C (its.map (·.1)) M0) (onM C N (its.map (·.1)) M0) p := by
          unfold cv
          rw [(eo p).1, (eo p).2, (eo ((aOpd C p).2 + 1)).1, (eo ((aOpd C p).2 + 1)).2]
        rw [ecv] at g2
        rw [h2] at q1
        have hcv := cv_r (C := C) (ob := obM C (its.map (·.1)) M0) (on := onM C N (its.map (·.1)) M0) (p := p)
        obtain ⟨M2, n1', n2, n3, n4, n5⟩ := tr_202 (sc := sc) (d := d) (e := e) (lv := lv) (τ := τ) (t := r) (M := M1) ha (show 0 ≤ cv C (obM C (its.map (·.1)) M0) (onM C N (its.map (·.1)) M0) p ∧ cv C (obM C (its.map (·.1)) M0) (onM C N (its.map (·.1)) M0) p ≤ 2 by omega) (by omega) (by rw [g1 74 (by decide)]; exact h74) g2 (by omega)
        have hcmp : ¬ C p = 270 ∧ ¬ C p = 271 ∧ ¬ C p = 41 := by
          have := h1
          unfold aCmp aOpd aCol at this
          refine ⟨fun hh => ?_, fun hh => ?_, fun hh => ?_⟩ <;> rw [if_neg (by omega), if_neg (by omega)] at this <;> simp at this
        refine ⟨1 + 1, M2, fun F => Eq.trans (sg_X12_truthOf_22.trans ?_) (n1' F), FE_t hM (FE_t f1 n2), LO_t (fun j hj => by rw [g1 73 (by decide), g1 74 (by decide), g1 75 (by decide)]; exact ⟨rfl, rfl, rfl⟩) n3, by rw [n4, g1 73 (by decide)], n5⟩
        rw [if_pos (by omega), if_pos (by omega), Int.toNat_natCast, if_neg (fun hh => c1 ((kpi p 272 213 (by omega) g272 (by decide)).mp hh)), if_neg (fun hh => c2 ((kpi p 40 40 (by omega) g40 (by decide)).mp hh)), if_neg (fun hh => hcmp.1 ((kpi p 270 211 (by omega) g270 (by decide)).mp hh)), if_neg (fun hh => hcmp.2.1 ((kpi p 271 212 (by omega) g271 (by decide)).mp hh)), if_neg (fun hh => hcmp.2.2 ((kpi p 41 41 (by omega) g41 (by decide)).mp hh)), q1, q_cI_s]
  · rcases hmd with rfl | rfl
    · rw [if_neg (by decide), if_pos rfl] at hr
      unfold aV
      rw [if_neg (by decide), if_pos rfl]
      rcases aBd_s hr with ⟨q1, st1, ot1, pt1, e1, e2⟩ | ⟨q1, st1, ot1, pt1, e1, e2⟩
      · cases e2
      · rcases aBd_s e2 with ⟨q3, st3, ot3, pt3, e3, e4⟩ | ⟨q3, st3, ot3, pt3, e3, e4⟩
        · cases e4
        · cases e4
          have l3 := aC_len _ _ _ _ _ _ _ _ _ _ e3
          obtain ⟨K, M1, k1, k2, k3, k4, k5⟩ := (ih 0 _ _ _ _ _ _ _ _ e lv M e1 (by omega) heq (fun t ht => hi t (List.mem_append_left _ ht)) hlo ho4 hM).1 rfl 0 a (by omega) (by omega) ha h74
          rw [if_neg (by decide)] at k5
          have hv := aV_r (C := C) (ob := obM C (its.map (·.1)) M0) (on := onM C N (its.map (·.1)) M0) f 0 p
          obtain ⟨K3, M3, m1, m2, m3, m4, m5⟩ := (ih 3 _ _ _ _ _ _ _ _ e lv M1 e3 hre heq (fun t ht => hi t (List.mem_append_right _ ht)) hlo ho4 k2).2.1 (Or.inr rfl) (by omega) _ (by omega) k5
          refine ⟨K3 + K, M3, fun F => ?_, m2, LO_t k3 m3, m4.trans k4, ?_⟩
          · rw [show F + (K3 + K) = F + K3 + K by omega, ← m1 F]; exact k1 (F + K3)
          · rw [m5, aV_q _ _ _ _ _ _ _ _ _ _ e1]
            dsimp only
            congr 1; omega
    · rw [if_neg (by decide), if_neg (by decide), if_neg (by decide), if_pos rfl] at hr
      unfold aV
      rw [if_neg (by decide), if_neg (by decide), if_neg (by decide), if_pos rfl]
      by_cases c1 : C p = 271
      · rw [if_pos c1] at hr ⊢
        rcases aBd_s hr with ⟨q1, st1, ot1, pt1, e1, e2⟩ | ⟨q1, st1, ot1, pt1, e1, e2⟩
        · cases e2
        · rcases aBd_s e2 with ⟨q3, st3, ot3, pt3, e3, e4⟩ | ⟨q3, st3, ot3, pt3, e3, e4⟩
          · cases e4
          · cases e4
            have l1 := (aC_len _ _ _ _ _ _ _ _ _ _ e1).2.2.2.1 (by omega)
            have l3 := aC_len _ _ _ _ _ _ _ _ _ _ e3
            obtain ⟨K, M1, k1, k2, k3, k4, k5⟩ := (ih 0 _ _ _ _ _ _ _ _ e lv M e1 (by omega) heq (fun t ht => hi t (List.mem_append_left _ ht)) hlo ho4 hM).1 rfl 0 a (by omega) (by omega) ha h74
            rw [if_neg (by decide)] at k5
            have hv := aV_r (C := C) (ob := obM C (its.map (·.1)) M0) (on := onM C N (its.map (·.1)) M0) f 0 (p + 1)
            obtain ⟨K3, M3, m1, m2, m3, m4, m5⟩ := (ih 3 _ _ _ _ _ _ _ _ e lv M1 e3 hre heq (fun t ht => hi t (List.mem_append_right _ ht)) hlo ho4 k2).2.1 (Or.inr rfl) (by omega) _ (by omega) k5
            refine ⟨K3 + K + 1, M3, fun F => ?_, m2, LO_t k3 m3, m4.trans k4, ?_⟩
            · rw [show F + (K3 + K + 1) = F + K3 + K + 1 by omega, ← m1 F]
              refine Eq.trans (sg_X12_truthOf_22.trans ?_) (k1 (F + K3))
              rw [if_pos (by omega), if_pos (by omega), Int.toNat_natCast, htok p (by omega), c1, if_neg (by decide), if_neg (by decide), if_neg (by decide), if_pos (by decide), qw1 (by omega)]
              rfl
            · rw [m5, aV_q _ _ _ _ _ _ _ _ _ _ e1]
              dsimp only
              congr 1; omega
      · rw [if_neg c1] at hr ⊢
        cases hr
        exact ⟨0, M, fun F => rfl, hM, LO_r, rfl, by rw [h74]; dsimp only; congr 1; omega⟩
  · subst hmd
    rw [if_neg (by decide), if_neg (by decide), if_pos rfl] at hr
    unfold aV
    rw [if_neg (by decide), if_neg (by decide), if_pos rfl]
    rcases aBd_s hr with ⟨q1, st1, ot1, pt1, e1, e2⟩ | ⟨q1, st1, ot1, pt1, e1, e2⟩
    · cases e2
    · rcases aBd_s e2 with ⟨q3, st3, ot3, pt3, e3, e4⟩ | ⟨q3, st3, ot3, pt3, e3, e4⟩
      · cases e4
      · cases e4
        have l3 := aC_len _ _ _ _ _ _ _ _ _ _ e3
        obtain ⟨K, M1, k1, k2, k3, k4, k5⟩ := (ih 1 _ _ _ _ _ _ _ _ e lv M e1 (by omega) heq (fun t ht => hi t (List.mem_append_left _ ht)) hlo ho4 hM).2.1 (Or.inl rfl) (by omega) 2 (by omega) h74
        have hv := aV_r (C := C) (ob := obM C (its.map (·.1)) M0) (on := onM C N (its.map (·.1)) M0) f 1 p
        obtain ⟨K3, M3, s', a', m1, m2, m3, m4, m5, m6, m7, m8⟩ := (ih 4 _ _ _ _ _ _ _ _ e lv M1 e3 hre heq (fun t ht => hi t (List.mem_append_right _ ht)) hlo ho4 k2).2.2.2 rfl (by omega) s0 _ hs0 (by omega) (k4.trans h73) k5
        refine ⟨K3 + K, M3, s', a', fun F => ?_, m2, LO_t k3 m3, m4, m5, m6, m7, ?_⟩
        · rw [show F + (K3 + K) = F + K3 + K by omega, ← m1 F]; exact k1 (F + K3)
        · rw [m8, aV_q _ _ _ _ _ _ _ _ _ _ e1]
          dsimp only
          omega
  · subst hmd
    rw [if_neg (by decide), if_neg (by decide), if_neg (by decide), if_neg (by decide)] at hr
    unfold aV
    rw [if_neg (by decide), if_neg (by decide), if_neg (by decide), if_neg (by decide)]
    by_cases c1 : C p = 270
    · rw [if_pos c1] at hr ⊢
      rcases aBd_s hr with ⟨q1, st1, ot1, pt1, e1, e2⟩ | ⟨q1, st1, ot1, pt1, e1, e2⟩
      · cases e2
      · rcases aBd_s e2 with ⟨q3, st3, ot3, pt3, e3, e4⟩ | ⟨q3, st3, ot3, pt3, e3, e4⟩
        · cases e4
        · cases e4
          have l1 := (aC_len _ _ _ _ _ _ _ _ _ _ e1).2.2.2.1 (by omega)
          have l3 := aC_len _ _ _ _ _ _ _ _ _ _ e3
          generalize hA : q_up (q_up M 73 lv (mu (max s0 a))) 74 lv 1 = A
          have fA : FE M A := by rw [← hA]; exact FE_t (FE_up (by omega)) (FE_up (by omega))
          have A73 : A 73 lv = mu (max s0 a) := by rw [← hA, q_up_ne (by decide), q_up_s]
          have A74 : A 74 lv = mu 2 := by rw [← hA, q_up_s]; rfl
          have Alo : LO lv M A := fun j hj => by
            rw [← hA, q_up_ne (by decide), q_up_sn (by omega), q_up_sn (by omega), q_up_ne (by decide), q_up_ne (by decide), q_up_ne (by decide)]
            exact ⟨rfl, rfl, rfl⟩
          obtain ⟨K, M1, k1, k2, k3, k4, k5⟩ := (ih 1 _ _ _ _ _ _ _ _ e lv A e1 (by omega) heq (fun t ht => hi t (List.mem_append_left _ ht)) hlo ho4 (FE_t hM fA)).2.1 (Or.inl rfl) (by omega) 2 (by omega) A74
          have hv := aV_r (C := C) (ob := obM C (its.map (·.1)) M0) (on := onM C N (its.map (·.1)) M0) f 1 (p + 1)
          obtain ⟨K3, M3, s', a', m1, m2, m3, m4, m5, m6, m7, m8⟩ := (ih 4 _ _ _ _ _ _ _ _ e lv M1 e3 hre heq (fun t ht => hi t (List.mem_append_right _ ht)) hlo ho4 k2).2.2.2 rfl (by omega) (max s0 a) _ (by omega) (by omega) (k4.trans A73) k5
          refine ⟨K3 + K + 1, M3, s', a', fun F => ?_, m2, LO_t Alo (LO_t k3 m3), m4, m5, m6, m7, ?_⟩
          · rw [show F + (K3 + K + 1) = F + K3 + K + 1 by omega, ← m1 F]
            refine Eq.trans (sg_X12_truthOf_22.trans ?_) (k1 (F + K3))
            rw [if_pos (by omega), if_pos (by omega), Int.toNat_natCast, htok p (by omega), c1, if_neg (by decide), if_neg (by decide), if_pos (by decide), if_pos (by omega), if_pos (by omega), Int.toNat_natCast, h73, h74, mk_either hs0 ha (by omega), q_cI_s, if_pos (by omega), if_pos (by omega), qw1 (by omega), hA]
          · rw [m8, aV_q _ _ _ _ _ _ _ _ _ _ e1]
            dsimp only
            omega
    · rw [if_neg c1] at hr ⊢
      cases hr
      refine ⟨0, M, s0, a, fun F => rfl, hM, LO_r, h73, h74, hs0, ha, ?_⟩
      dsimp only
      omega
theorem XM_all {sc : List Int} {d : Nat} {M0 : q_M} {C P N : Nat → Int} {q : Nat} {its : List aIt} {ous : List aOu} {gts : List Nat} {wf wt : Nat} (h0 : SM M0 C P N q its ous gts wf wt) (hT : TIq C q (its.map (·.1))) (hk : ∀ i, i ≤ q → kR (C i)) (hN : NW M0) (hd : 4 ≤ d) : ∀ f, XM sc d M0 C N q (its.map (·.1)) f := by
  intro f
  induction f with
  | zero => intro md o p u s r st ot pt e lv M hr; cases hr
  | succ f ih => exact XM_s h0 hT hk hN hd ih
/-- the model's truth of tokens -/
theorem mx_truth {sc : List Int} {d : Nat} {M : q_M} {C P N : Nat → Int} {q : Nat} {its : List aIt} {ous : List aOu} {gts : List Nat} {wf wt : Nat} {f md p u s r : Nat} {st : List (Int × Int × Int)} {ot : List Nat} {pt : List (Nat × Nat)} (h0 : SM M C P N q its ous gts wf wt) (hT : TIq C q (its.map (·.1))) (hk : ∀ i, i ≤ q → kR (C i)) (hN : NW M) (hr : aC C f md 0 p u s = some (true, r, st, ot, pt)) (hmd : md = 0 ∨ md = 2) (hf : f < 1000) (hrq : r ≤ q) (hi : ∀ t ∈ ot, ¬ cst C t → 0 ≤ itm C (its.map (·.1)) (C t)) (hd : 5 ≤ d) : ∃ M', pq sc d 196 [.inr (.inr 49), .inl (p : Int), .inl (r : Int)] GF M = some (some (.inl (mu (aV C (obM C (its.map (·.1)) M) (onM C N (its.map (·.1)) M) f md p).2)), GF, M') ∧ FE M M' := by
  generalize hA : q_up (q_up M 73 0 0) 74 0 1 = A
  have fA : FE M A := by rw [← hA]; exact FE_t (FE_up (by omega)) (FE_up (by omega))
  have A73 : A 73 0 = mu 0 := by rw [← hA, q_up_ne (by decide), q_up_s]; rfl
  have A74 : A 74 0 = mu 2 := by rw [← hA, q_up_s]; rfl
  have hX := XM_all (sc := sc) (d := d - 1) h0 hT hk hN (by omega) f md 0 p u s r st ot pt r 0 A hr (Nat.le_refl _) hrq hi (Nat.le_refl _) (by omega) fA
  have hv := aV_r (C := C) (ob := obM C (its.map (·.1)) M) (on := onM C N (its.map (·.1)) M) f md p
  have key : ∃ K M' s' a', (∀ F, pr sc (pq sc (d - 1)) 196 (F + K) 22 [some (.inr (.inr 49)), none, some (.inl (r : Int)), some (.inl 0), some (.inl 0), some (.inl (p : Int)), none] [] A = pr sc (pq sc (d - 1)) 196 F 22 [some (.inr (.inr 49)), none, some (.inl (r : Int)), some (.inl 0), some (.inl 0), some (.inl (r : Int)), none] [] M') ∧ FE M M' ∧ M' 73 0 = mu s' ∧ M' 74 0 = mu a' ∧ (0 ≤ s' ∧ s' ≤ 2) ∧ (0 ≤ a' ∧ a' ≤ 2) ∧ max s' a' = (aV C (obM C (its.map (·.1)) M) (onM C N (its.map (·.1)) M) f md p).2 := by
    rcases hmd with rfl | rfl
    · obtain ⟨K, M1, k1, k2, k3, k4, k5⟩ := hX.1 rfl 0 2 (by omega) (by omega) (by omega) A74
      rw [if_neg (by decide)] at k5
      exact ⟨K, M1, 0, _, k1, k2, k4.trans A73, k5, by omega, by omega, by omega⟩
    · obtain ⟨K, M1, s', a', k1, k2, k3, k4, k5, k6, k7, k8⟩ := hX.2.2.1 rfl hf 0 (by omega) A73 A74
      exact ⟨K, M1, s', a', k1, k2, k4, k5, k6, k7, by omega⟩
  obtain ⟨K, M1, s', a', k1, k2, k3, k4, k5, k6, k7⟩ := key
  refine ⟨M1, (pq_e (by omega) (by decide) (Nat.le_of_ble_eq_true rfl) ⟨0 + 1 + K + 1, sg_X12_truthOf_0.trans ?_⟩), k2⟩
  rw [if_pos (by decide), if_pos (by decide)]
  show pr sc (pq sc (d - 1)) 196 (0 + 1 + K) 22 _ [] (q_up (q_up M 73 0 0) 74 0 1) = _
  rw [hA]
  refine (k1 (0 + 1)).trans (sg_X12_truthOf_22.trans ?_)
  rw [if_neg (by omega), if_pos (by decide), if_pos (by decide)]
  show q_cI (pq sc (d - 1) 194 [.inl (M1 73 0), .inl (M1 74 0)] GF M1) GF _ = _
  rw [k3, k4, mk_either k5 k6 (by omega), q_cI_s, k7]
