/-! the model's values -/
theorem qwn {x : Int} {n : Nat} (h : x = (n : Int)) (hn : n < 2000) : q_w x = (n : Int) := by rw [q_wid (by omega) (by omega)]; exact h
def mu (x : Int) : Int := if x = 0 then 0 else if x = 1 then 2 else 1
/-- the cell of a column's token: item, index -/
def kI (C : Nat → Int) (tl : List Nat) (t : Nat) : Nat := (itm C tl (C t)).toNat
def cI (C : Nat → Int) (tl : List Nat) (M : q_M) (k : Nat) (c : Int) : Nat := (40 * (C (tl.getD k 0) - 84) + 4 * M 76 k + c).toNat
def fB (C : Nat → Int) (tl : List Nat) (M : q_M) (k : Nat) (c : Int) : Int := if M 76 k < 0 then 1 else M 54 (cI C tl M k c)
def fN (C : Nat → Int) (tl : List Nat) (M : q_M) (k : Nat) (c : Int) : Int := if M 76 k < 0 then 0 else if M 54 (cI C tl M k c) = 0 then M 53 (cI C tl M k c) else 0
def obM (C : Nat → Int) (tl : List Nat) (M : q_M) (t : Nat) : Int := if C t = 274 then 1 else if C t = 258 then 0 else fB C tl M (kI C tl t) (C (t + 2) - 97)
def onM (C N : Nat → Int) (tl : List Nat) (M : q_M) (t : Nat) : Int := if C t = 274 then 0 else if C t = 258 then N t else fN C tl M (kI C tl t) (C (t + 2) - 97)
/-- rows that are looked at now; blanks -/
def NW (M : q_M) : Prop := (∀ k, k < 3 → -1 ≤ M 76 k ∧ M 76 k < 10) ∧ ∀ n, n < 120 → M 54 n = 0 ∨ M 54 n = 1
/-- scratch of the model's evaluation -/
def FE (M M' : q_M) : Prop := (∀ a, ¬ (73 ≤ a ∧ a ≤ 75) → ¬ a = 49 → M' a = M a) ∧ (∀ j, ¬ j = 44 → ¬ j = 45 → ¬ j = 54 → M' 49 j = M 49 j)
theorem FE_r {M : q_M} : FE M M := ⟨fun _ _ _ => rfl, fun _ _ _ _ => rfl⟩
theorem FE_t {M M' M'' : q_M} (h : FE M M') (h' : FE M' M'') : FE M M'' := ⟨fun a h1 h2 => (h'.1 a h1 h2).trans (h.1 a h1 h2), fun j h1 h2 h3 => (h'.2 j h1 h2 h3).trans (h.2 j h1 h2 h3)⟩
theorem FE_us {M : q_M} {j : Nat} {v : Int} (hj : j = 44 ∨ j = 45 ∨ j = 54) : FE M (q_up M 49 j v) := ⟨fun a _ h2 => q_upf h2, fun k h1 h2 h3 => q_up_sn (by omega)⟩
theorem FE_up {M : q_M} {k j : Nat} {v : Int} (hk : 73 ≤ k ∧ k ≤ 75) : FE M (q_up M k j v) := ⟨fun a h1 h2 => q_upf (by omega), fun i h1 h2 h3 => q_up_ne (by omega)⟩
theorem SM_fe {M M' : q_M} {C P N : Nat → Int} {q : Nat} {its : List aIt} {ous : List aOu} {gts : List Nat} {wf wt : Nat} (h : SM M C P N q its ous gts wf wt) (hf : FE M M') : SM M' C P N q its ous gts wf wt := by
  obtain ⟨h1, h2, h3, h4, h5, h6, h7⟩ := h
  refine ⟨?_, h2, MI_fr h3 (fun a _ _ => hf.1 a (by omega) (by omega)) (hf.2 26 (by decide) (by decide) (by decide)), MO_fr h4 (hf.1 62 (by decide) (by decide)) (hf.1 63 (by decide) (by decide)) (hf.2 23 (by decide) (by decide) (by decide)), MG_fr h5 (hf.1 69 (by decide) (by decide)) (hf.2 34 (by decide) (by decide) (by decide)), by rw [hf.2 32 (by decide) (by decide) (by decide)]; exact h6, by rw [hf.2 33 (by decide) (by decide) (by decide)]; exact h7⟩
  unfold MK at h1 ⊢
  rw [hf.1 58 (by decide) (by decide), hf.1 59 (by decide) (by decide), hf.1 60 (by decide) (by decide)]; exact h1
theorem NW_fe {M M' : q_M} (h : NW M) (hf : FE M M') : NW M' := by
  unfold NW at h ⊢
  rw [hf.1 76 (by decide) (by decide), hf.1 54 (by decide) (by decide)]; exact h
theorem fB_fe {C : Nat → Int} {tl : List Nat} {M M' : q_M} (hf : FE M M') {k : Nat} {c : Int} : fB C tl M' k c = fB C tl M k c ∧ fN C tl M' k c = fN C tl M k c := by
  unfold fB fN cI
  rw [hf.1 76 (by decide) (by decide), hf.1 54 (by decide) (by decide), hf.1 53 (by decide) (by decide)]
  exact ⟨rfl, rfl⟩
theorem cI_lt {C : Nat → Int} {tl : List Nat} {M : q_M} {q k : Nat} {c : Int} (hT : TIq C q tl) (hN : NW M) (hk : k < tl.length) (hc : 0 ≤ c ∧ c ≤ 3) (hn : 0 ≤ M 76 k) : 0 ≤ 40 * (C (tl.getD k 0) - 84) + 4 * M 76 k + c ∧ 40 * (C (tl.getD k 0) - 84) + 4 * M 76 k + c < 120 ∧ 0 ≤ C (tl.getD k 0) - 84 ∧ C (tl.getD k 0) - 84 ≤ 2 := by
  have hl := hT.1
  have h1 := hN.1 k (by omega)
  have e : tl.getD k 0 = tl[k] := by rw [List.getD_eq_getElem?_getD, List.getElem?_eq_getElem hk]; rfl
  have h2 := hT.2 tl[k] (List.getElem_mem hk)
  rw [e]
  omega
theorem mk_fetch {sc : List Int} {d : Nat} {M : q_M} {C P N : Nat → Int} {q : Nat} {its : List aIt} {ous : List aOu} {gts : List Nat} {wf wt : Nat} {k : Nat} {c : Int} (h : SM M C P N q its ous gts wf wt) (hT : TIq C q (its.map (·.1))) (hN : NW M) (hk : k < its.length) (hc : 0 ≤ c ∧ c ≤ 3) (hd : 1 ≤ d) : ∃ M', pq sc d 191 [.inr (.inr 49), .inl (k : Int), .inl c] GF M = some (none, GF, M') ∧ FE M M' ∧ (∀ a, ¬ a = 49 → M' a = M a) ∧ M' 49 54 = M 49 54 ∧ M' 49 44 = fB C (its.map (·.1)) M k c ∧ M' 49 45 = fN C (its.map (·.1)) M k c := by
  have hl : its.length ≤ 3 := by have := hT.1; rw [List.length_map] at this; exact this
  unfold fB fN
  have f0 : ∀ v w : Int, FE M (q_up (q_up M 49 44 v) 49 45 w) := fun v w => FE_t (FE_us (by omega)) (FE_us (by omega))
  by_cases g : M 76 k < 0
  · rw [if_pos g, if_pos g]
    refine ⟨q_up (q_up M 49 44 1) 49 45 0, (pq_e (by omega) (by decide) (Nat.le_of_ble_eq_true rfl) ⟨0 + 1, sg_X12_fetch_0.trans ?_⟩), f0 _ _, fun a ha => by rw [q_upf ha, q_upf ha], by rw [q_up_sn (by decide), q_up_sn (by decide)], by rw [q_up_sn (by decide), q_up_s], q_up_s⟩
    rw [if_pos (by omega), Int.toNat_natCast, if_pos g, if_neg (by decide)]
  · rw [if_neg g, if_neg g]
    have hb := cI_lt (c := c) hT hN (by rw [List.length_map]; exact hk) hc (by omega)
    have ho : its[k]? = some its[k] := List.getElem?_eq_getElem hk
    have e64 := (h.2.2.1.2 k _ ho).2.1
    have egd : (its.map (·.1)).getD k 0 = its[k].1 := by rw [List.getD_eq_getElem?_getD, List.getElem?_map, ho]; rfl
    unfold cI
    rw [egd] at hb ⊢
    have h76 := hN.1 k (by omega)
    generalize hn : (40 * (C its[k].1 - 84) + 4 * M 76 k + c).toNat = n
    have hnI : 40 * (C its[k].1 - 84) + 4 * M 76 k + c = (n : Int) := by omega
    have h54 := hN.2 n (by omega)
    have hix : q_w (q_w (q_w (40 * (M 64 k)) + (q_w (4 * (M 76 k)))) + c) = (n : Int) := by
      rw [e64, q_wid (x := 40 * (C its[k].1 - 84)) (by omega) (by omega), q_wid (x := 4 * M 76 k) (by omega) (by omega), q_wid (x := 40 * (C its[k].1 - 84) + 4 * M 76 k) (by omega) (by omega), q_wid (by omega) (by omega)]
      exact hnI
    have s0 : ∀ F, pr sc (pq sc (d - 1)) 191 (F + 1) 0 [some (.inr (.inr 49)), some (.inl (k : Int)), some (.inl c), none] [] M = pr sc (pq sc (d - 1)) 191 F 52 [some (.inr (.inr 49)), none, none, some (.inl (n : Int))] [] (q_up (q_up M 49 44 0) 49 45 0) := by
      intro F
      refine sg_X12_fetch_0.trans ?_
      rw [if_pos (by omega), Int.toNat_natCast, if_neg g, if_pos rfl, if_pos (by omega), if_pos (by omega), hix]
    have e54 : q_up (q_up M 49 44 0) 49 45 0 54 n = M 54 n := by rw [q_up_ne (by decide), q_up_ne (by decide)]
    have e53 : q_up (q_up M 49 44 0) 49 45 0 53 n = M 53 n := by rw [q_up_ne (by decide), q_up_ne (by decide)]
    by_cases z : M 54 n = 0
    · rw [if_pos z]
      refine ⟨q_up (q_up (q_up (q_up M 49 44 0) 49 45 0) 49 44 (M 54 n)) 49 45 (M 53 n), pq_e (by omega) (by decide) (Nat.le_of_ble_eq_true rfl) ⟨0 + 1 + 1, (s0 _).trans (sg_X12_fetch_52.trans ?_)⟩, FE_t (f0 0 0) (FE_t (FE_us (by omega)) (FE_us (by omega))), fun a ha => by rw [q_upf ha, q_upf ha, q_upf ha, q_upf ha], by rw [q_up_sn (by decide), q_up_sn (by decide), q_up_sn (by decide), q_up_sn (by decide)], by rw [q_up_sn (by decide), q_up_s], q_up_s⟩
      rw [if_pos (by omega), Int.toNat_natCast, e54, e53, if_pos h54, if_pos (by omega), if_pos z, if_pos (by omega)]
    · rw [if_neg z]
      refine ⟨q_up (q_up (q_up (q_up M 49 44 0) 49 45 0) 49 44 (M 54 n)) 49 45 0, pq_e (by omega) (by decide) (Nat.le_of_ble_eq_true rfl) ⟨0 + 1 + 1, (s0 _).trans (sg_X12_fetch_52.trans ?_)⟩, FE_t (f0 0 0) (FE_t (FE_us (by omega)) (FE_us (by omega))), fun a ha => by rw [q_upf ha, q_upf ha, q_upf ha, q_upf ha], by rw [q_up_sn (by decide), q_up_sn (by decide), q_up_sn (by decide), q_up_sn (by decide)], by rw [q_up_sn (by decide), q_up_s], q_up_s⟩
      rw [if_pos (by omega), Int.toNat_natCast, e54, if_pos h54, if_pos (by omega), if_neg z]
theorem mk_operand {sc : List Int} {d : Nat} {M : q_M} {C P N : Nat → Int} {q : Nat} {its : List aIt} {ous : List aOu} {gts : List Nat} {wf wt : Nat} {t r : Nat} (h : SM M C P N q its ous gts wf wt) (hT : TIq C q (its.map (·.1))) (hk : ∀ i, i ≤ q → kR (C i)) (hN : NW M) (ho : aOpd C t = (true, r)) (hr : r ≤ q) (hi : ¬ cst C t → 0 ≤ itm C (its.map (·.1)) (C t)) (hd : 2 ≤ d) : ∃ M', pq sc d 190 [.inr (.inr 49), .inl (t : Int)] GF M = some (some (.inl ((r : Int) - t)), GF, M') ∧ FE M M' ∧ (∀ a, ¬ a = 49 → M' a = M a) ∧ M' 49 54 = M 49 54 ∧ M' 49 44 = obM C (its.map (·.1)) M t ∧ M' 49 45 = onM C N (its.map (·.1)) M t ∧ t < r ∧ r ≤ t + 3 := by
  have hq := h.2.1
  have f0 : ∀ v w : Int, FE M (q_up (q_up M 49 44 v) 49 45 w) := fun v w => FE_t (FE_us (by omega)) (FE_us (by omega))
  unfold obM onM
  unfold aOpd at ho
  by_cases hc : C t = 258 ∨ C t = 274
  · rw [if_pos hc] at ho
    simp only [Prod.mk.injEq, true_and] at ho
    have k58 := (h.1 t (by omega)).1
    have j1 := kp_i (hk t (by omega)) (b := 274) (k := 215) (by unfold kG kR; omega) (by decide)
    have j2 := kp_i (hk t (by omega)) (b := 258) (k := 1) (by unfold kG kR; omega) (by decide)
    by_cases c1 : C t = 274
    · rw [if_pos c1, if_pos c1]
      refine ⟨q_up (q_up M 49 44 1) 49 45 0, (pq_e (by omega) (by decide) (Nat.le_of_ble_eq_true rfl) ⟨0 + 1, sg_X12_takeOperand_0.trans ?_⟩), f0 _ _, fun a ha => by rw [q_upf ha, q_upf ha], by rw [q_up_sn (by decide), q_up_sn (by decide)], by rw [q_up_sn (by decide), q_up_s], q_up_s, by omega, by omega⟩
      rw [if_pos (by omega), Int.toNat_natCast, k58, if_pos (j1.mpr c1), if_neg (by decide), show (r : Int) - (t : Int) = 1 by omega]
    · have c2 : C t = 258 := by omega
      have k60 := (h.1 t (by omega)).2.2 c2
      rw [if_neg c1, if_pos c2, if_neg c1, if_pos c2]
      refine ⟨q_up (q_up (q_up M 49 44 0) 49 45 0) 49 45 (N t), (pq_e (by omega) (by decide) (Nat.le_of_ble_eq_true rfl) ⟨0 + 1, sg_X12_takeOperand_0.trans ?_⟩), FE_t (f0 _ _) (FE_us (by omega)), fun a ha => by rw [q_upf ha, q_upf ha, q_upf ha], by rw [q_up_sn (by decide), q_up_sn (by decide), q_up_sn (by decide)], by rw [q_up_sn (by decide), q_up_sn (by decide), q_up_s], q_up_s, by omega, by omega⟩
      rw [if_pos (by omega), Int.toNat_natCast, k58, if_neg (fun e => c1 (j1.mp e)), if_pos rfl, if_pos (by omega), if_pos (j2.mpr c2), if_pos (by omega), k60, show (r : Int) - (t : Int) = 1 by omega]
  · rw [if_neg hc] at ho
    obtain ⟨hct, e3, -⟩ := aCol_ct (C := C) (p := t) (by rw [ho])
    rw [ho] at hct e3
    dsimp only at hct e3
    obtain ⟨h1, h2, h3, h4, h5⟩ := hct
    have hi := hi hc
    have k58 := (h.1 t (by omega)).1
    rw [kp_a ⟨h1, h2⟩] at k58
    rw [if_neg (by omega), if_neg (by omega), if_neg (by omega), if_neg (by omega)]
    have hir := itm_r (C := C) (tl := its.map (·.1)) (a := C t)
    rw [List.length_map] at hir
    have eK : itm C (its.map (·.1)) (C t) = (kI C (its.map (·.1)) t : Int) := by unfold kI; omega
    have f1 := f0 0 0
    have hS1 := SM_fe h f1
    have q1 := mk_itemOf (sc := sc) (d := d - 1) hS1 hT ⟨h1, h2⟩ (by omega) (by omega)
    have q2 := mk_columnOf (sc := sc) (d := d - 1) hS1 (tok := t) ⟨h1, h2, h3, h4, by omega⟩ (by omega)
    rw [eK] at q1
    obtain ⟨M3, q3, f3, g3, g4, g5, g6⟩ := mk_fetch (sc := sc) (d := d - 1) (k := kI C (its.map (·.1)) t) (c := C (t + 2) - 97) hS1 hT (NW_fe hN f1) (by omega) (by omega) (by omega)
    have eB := fB_fe (C := C) (tl := its.map (·.1)) f1 (k := kI C (its.map (·.1)) t) (c := C (t + 2) - 97)
    refine ⟨M3, (pq_e (by omega) (by decide) (Nat.le_of_ble_eq_true rfl) ⟨0 + 1, sg_X12_takeOperand_0.trans ?_⟩), FE_t f1 f3, fun a ha => by rw [g3 a ha, q_upf ha, q_upf ha], by rw [g4, q_up_sn (by decide), q_up_sn (by decide)], by rw [g5, eB.1], by rw [g6, eB.2], by omega, by omega⟩
    rw [if_pos (by omega), Int.toNat_natCast, k58, if_neg (by omega), if_pos rfl, if_pos (by omega), if_neg (by omega), q1, q_cI_s, q2, q_cI_s, q3, q_c0_s, show (r : Int) - (t : Int) = 3 by omega]
theorem ob_fe {C N : Nat → Int} {tl : List Nat} {M M' : q_M} (hf : FE M M') {t : Nat} : obM C tl M' t = obM C tl M t ∧ onM C N tl M' t = onM C N tl M t := by
  unfold obM onM
  have := fB_fe (C := C) (tl := tl) hf (k := kI C tl t) (c := C (t + 2) - 97)
  rw [this.1, this.2]
  exact ⟨rfl, rfl⟩
theorem ob_r {C : Nat → Int} {tl : List Nat} {M : q_M} {t : Nat} (hN : NW M) (hn : cI C tl M (kI C tl t) (C (t + 2) - 97) < 120) : obM C tl M t = 0 ∨ obM C tl M t = 1 := by
  unfold obM fB
  split
  · exact Or.inr rfl
  · split
    · exact Or.inl rfl
    · split
      · exact Or.inr rfl
      · exact hN.2 _ hn
theorem isv {c a b i : Int} (h : i = if c = 61 then (if a = b then 1 else 0) else if c = 60 then (if a < b then 1 else 0) else (if b < a then 1 else 0)) : (i = 0 → 0 = if c = 61 then (if a = b then (2 : Int) else 0) else if c = 60 then (if a < b then 2 else 0) else (if b < a then 2 else 0)) ∧ (¬ i = 0 → 2 = if c = 61 then (if a = b then (2 : Int) else 0) else if c = 60 then (if a < b then 2 else 0) else (if b < a then 2 else 0)) := by
  by_cases c1 : c = 61
  · rw [if_pos c1] at h ⊢
    by_cases e : a = b
    · rw [if_pos e] at h ⊢; omega
    · rw [if_neg e] at h ⊢; omega
  · rw [if_neg c1] at h ⊢
    by_cases c2 : c = 60
    · rw [if_pos c2] at h ⊢
      by_cases e : a < b
      · rw [if_pos e] at h ⊢; omega
      · rw [if_neg e] at h ⊢; omega
    · rw [if_neg c2] at h ⊢
      by_cases e : b < a
      · rw [if_pos e] at h ⊢; omega
      · rw [if_neg e] at h ⊢; omega
/-- a comparison -/
theorem mk_compare {sc : List Int} {d : Nat} {M : q_M} {C P N : Nat → Int} {q : Nat} {its : List aIt} {ous : List aOu} {gts : List Nat} {wf wt : Nat} {p u : Nat} (h : SM M C P N q its ous gts wf wt) (hT : TIq C q (its.map (·.1))) (hk : ∀ i, i ≤ q → kR (C i)) (hN : NW M) (ho : (aCmp C p u).1 = true) (hq2 : (aCmp C p u).2.1 ≤ q) (hi : ∀ t ∈ (aCmp C p u).2.2.2, ¬ cst C t → 0 ≤ itm C (its.map (·.1)) (C t)) (hd : 3 ≤ d) : ∃ M', pq sc d 195 [.inr (.inr 49), .inl (p : Int)] GF M = some (some (.inl ((aCmp C p u).2.1 : Int)), GF, M') ∧ FE M M' ∧ (∀ a, ¬ a = 49 → M' a = M a) ∧ M' 49 54 = mu (cv C (obM C (its.map (·.1)) M) (onM C N (its.map (·.1)) M) p) := by
  have hq := h.2.1
  unfold aCmp at ho hq2 hi ⊢
  unfold cv
  rcases h1 : aOpd C p with ⟨b, r⟩
  rw [h1] at ho hq2 hi
  rcases b with _ | _
  · simp at ho
  · dsimp only at ho hq2 hi ⊢
    by_cases hc : C r = 273
    · rw [if_pos hc] at ho hq2 hi ⊢
      by_cases hd2 : C (r + 1) = 274
      · rw [if_pos hd2] at hq2 hi ⊢
        dsimp only at hq2 ⊢
        obtain ⟨M1, q1, f1, g1, g2, g3, g4, g5, g6⟩ := mk_operand (sc := sc) (d := d - 1) h hT hk hN h1 (by omega) (hi p (by simp)) (by omega)
        have k58 : M1 58 r = 214 := by rw [g1 58 (by decide), (h.1 r (by omega)).1, hc]; decide
        rw [if_pos hc]
        by_cases z : obM C (its.map (·.1)) M p = 0
        · rw [if_pos z]
          refine ⟨q_up M1 49 54 0, (pq_e (by omega) (by decide) (Nat.le_of_ble_eq_true rfl) ⟨0 + 1, sg_X12_compare_0.trans ?_⟩), FE_t f1 (FE_us (by omega)), fun a ha => by rw [q_upf ha, g1 a ha], by rw [q_up_s]; decide⟩
          rw [q1, q_cI_s, qwn (x := (p : Int) + ((r : Int) - p)) (n := r) (by omega) (by omega), if_pos (by omega), Int.toNat_natCast, if_pos k58, if_pos (by rw [g3]; exact z), qwn (x := (r : Int) + 2) (n := r + 2) (by omega) (by omega)]
        · rw [if_neg z]
          refine ⟨q_up M1 49 54 1, (pq_e (by omega) (by decide) (Nat.le_of_ble_eq_true rfl) ⟨0 + 1, sg_X12_compare_0.trans ?_⟩), FE_t f1 (FE_us (by omega)), fun a ha => by rw [q_upf ha, g1 a ha], by rw [q_up_s]; decide⟩
          rw [q1, q_cI_s, qwn (x := (p : Int) + ((r : Int) - p)) (n := r) (by omega) (by omega), if_pos (by omega), Int.toNat_natCast, if_pos k58, if_neg (by rw [g3]; exact z), qwn (x := (r : Int) + 2) (n := r + 2) (by omega) (by omega)]
      · rw [if_neg hd2] at ho; simp at ho
    · rw [if_neg hc] at ho hq2 hi ⊢
      by_cases hd2 : C r = 61 ∨ C r = 60 ∨ C r = 62
      · rw [if_pos hd2] at ho hq2 hi ⊢
        rcases h2 : aOpd C (r + 1) with ⟨b, r2⟩
        rw [h2] at ho hq2 hi
        rcases b with _ | _
        · simp at ho
        · dsimp only at hq2 hi ⊢
          have hrr := aOpd_len h2
          obtain ⟨M1, q1, f1, g1, g2, g3, g4, g5, g6⟩ := mk_operand (sc := sc) (d := d - 1) h hT hk hN h1 (by omega) (hi p (by simp)) (by omega)
          obtain ⟨M3, q3, f3, k1, k2, k3, k4, k5, k6⟩ := mk_operand (sc := sc) (d := d - 1) (SM_fe h f1) hT hk (NW_fe hN f1) h2 (by omega) (hi (r + 1) (by simp)) (by omega)
          have eo := ob_fe (C := C) (N := N) (tl := its.map (·.1)) f1 (t := r + 1)
          rw [eo.1] at k3
          rw [eo.2] at k4
          have kk : M1 58 r = C r := by
            rw [g1 58 (by decide), (h.1 r (by omega)).1]
            unfold kp
            rw [if_neg (by omega), if_neg (by omega), if_neg (by omega), if_neg (by omega), if_neg (by omega), if_neg (by omega)]
          generalize hob1 : obM C (its.map (·.1)) M p = b1 at *
          generalize hob2 : obM C (its.map (·.1)) M (r + 1) = b2 at *
          generalize hon1 : onM C N (its.map (·.1)) M p = n1' at *
          generalize hon2 : onM C N (its.map (·.1)) M (r + 1) = n2' at *
          -- to 131
          have s1 : ∃ is : Int, (is = if C r = 61 then (if n1' = n2' then 1 else 0) else if C r = 60 then (if n1' < n2' then 1 else 0) else (if n2' < n1' then 1 else 0)) ∧ ∀ F, pr sc (pq sc (d - 1)) 195 (F + 1) 0 [some (.inr (.inr 49)), some (.inl (p : Int)), none, none, none, none, none] [] M = pr sc (pq sc (d - 1)) 195 F 131 [some (.inr (.inr 49)), none, some (.inl (r2 : Int)), some (.inl b1), none, none, some (.inl is)] [] M3 := by
            refine ⟨_, rfl, fun F => sg_X12_compare_0.trans ?_⟩
            rw [q1, q_cI_s, qwn (x := (p : Int) + ((r : Int) - p)) (n := r) (by omega) (by omega), if_pos (by omega), Int.toNat_natCast, kk, if_neg (by omega), if_pos (by omega), qw1 (by omega), q3, q_cI_s, qwn (x := ((r + 1 : Nat) : Int) + ((r2 : Int) - ((r + 1 : Nat) : Int))) (n := r2) (by omega) (by omega), g3, g4, k4]
            by_cases c1 : C r = 61
            · rw [if_pos c1, if_pos c1]
              by_cases e : n1' = n2'
              · rw [if_pos e, if_pos e]
              · rw [if_neg e, if_neg e]
            · rw [if_neg c1, if_neg c1]
              by_cases c2 : C r = 60
              · rw [if_pos c2, if_pos c2]
                by_cases e : n1' < n2'
                · rw [if_pos e, if_pos e]
                · rw [if_neg e, if_neg e]
              · rw [if_neg c2, if_neg c2]
                by_cases e : n2' < n1'
                · rw [if_pos e, if_pos e]
                · rw [if_neg e, if_neg e]
          obtain ⟨is, his, s1⟩ := s1
          have fin : ∀ v : Int, pr sc (pq sc (d - 1)) 195 (0 + 1) 131 [some (.inr (.inr 49)), none, some (.inl (r2 : Int)), some (.inl b1), none, none, some (.inl is)] [] M3 = some (some (.inl (r2 : Int)), GF, q_up M3 49 54 (mu v)) → (v = if C r = 273 then (if b1 = 0 then 0 else 2) else if b1 = 0 ∧ b2 = 0 then (if C r = 61 then (if n1' = n2' then 2 else 0) else if C r = 60 then (if n1' < n2' then 2 else 0) else (if n2' < n1' then 2 else 0)) else 1) → ∃ M', pq sc d 195 [.inr (.inr 49), .inl (p : Int)] GF M = some (some (.inl (r2 : Int)), GF, M') ∧ FE M M' ∧ (∀ a, ¬ a = 49 → M' a = M a) ∧ M' 49 54 = mu (if C r = 273 then (if b1 = 0 then 0 else 2) else if b1 = 0 ∧ b2 = 0 then (if C r = 61 then (if n1' = n2' then 2 else 0) else if C r = 60 then (if n1' < n2' then 2 else 0) else (if n2' < n1' then 2 else 0)) else 1) := by
            intro v hst hv
            rw [← hv]
            exact ⟨_, pq_e (by omega) (by decide) (Nat.le_of_ble_eq_true rfl) ⟨0 + 1 + 1, (s1 _).trans hst⟩, FE_t f1 (FE_t f3 (FE_us (by omega))), fun a ha => by rw [q_upf ha, k1 a ha, g1 a ha], q_up_s⟩
          by_cases z1 : b1 = 0
          · by_cases z2 : b2 = 0
            · by_cases zi : is = 0
              · refine fin 0 (sg_X12_compare_131.trans ?_) ?_
                · rw [if_pos z1, if_pos (by rw [k3]; exact z2), if_pos zi]; rfl
                · rw [if_neg hc, if_pos ⟨z1, z2⟩]
                  exact (isv his).1 zi
              · refine fin 2 (sg_X12_compare_131.trans ?_) ?_
                · rw [if_pos z1, if_pos (by rw [k3]; exact z2), if_neg zi]; rfl
                · rw [if_neg hc, if_pos ⟨z1, z2⟩]
                  exact (isv his).2 zi
            · refine fin 1 (sg_X12_compare_131.trans ?_) ?_
              · rw [if_pos z1, if_neg (by rw [k3]; exact z2)]; rfl
              · rw [if_neg hc, if_neg (fun e : b1 = 0 ∧ b2 = 0 => z2 e.2)]
          · refine fin 1 (sg_X12_compare_131.trans ?_) ?_
            · rw [if_neg z1]; rfl
            · rw [if_neg hc, if_neg (fun e : b1 = 0 ∧ b2 = 0 => z1 e.1)]
      · rw [if_neg hd2] at ho; simp at ho
