/-! the class's result -/
def b01 (x : Int) : Prop := x = 0 ∨ x = 1
theorem sp_has {sc : List Int} {d : Nat} {X : q_M} {r k w h : Nat} (hr : r < h) (hh : X 43 3 = h) (h30 : h ≤ 30) (hk : k < w) (hw : X 43 2 = w) (h4 : w ≤ 4) (hd : 1 ≤ d) : pq sc d 4 [.inr (.inr 43), .inl (r : Int), .inl (k : Int)] GF X = some (some (.inl 1), GF, X) := by
  refine (pq_e (by omega) (by decide) (Nat.le_of_ble_eq_true rfl) ⟨0 + 1, sg_X0_has_0.trans ?_⟩)
  rw [if_neg (by omega), if_pos (by omega), if_pos (by omega), if_neg (by omega), if_pos (by omega), if_pos (by omega)]
theorem ix4 {r k : Nat} (hr : r < 30) (hk : k < 4) : q_w (q_w ((r : Int) * 4) + k) = ((4 * r + k : Nat) : Int) := by
  rw [q_wid (x := (r : Int) * 4) (by omega) (by omega), q_wid (by omega) (by omega)]; omega
theorem sp_unkAt {sc : List Int} {d : Nat} {X : q_M} {r k w h : Nat} (hr : r < h) (hh : X 43 3 = h) (h30 : h ≤ 30) (hk : k < w) (hw : X 43 2 = w) (h4 : w ≤ 4) (hb : b01 (X 45 (4 * r + k))) (hd : 2 ≤ d) : pq sc d 5 [.inr (.inr 43), .inl (r : Int), .inl (k : Int)] GF X = some (some (.inl (X 45 (4 * r + k))), GF, X) := by
  refine (pq_e (by omega) (by decide) (Nat.le_of_ble_eq_true rfl) ⟨0 + 1, sg_X0_unknownAt_0.trans ?_⟩)
  rw [sp_has hr hh h30 hk hw h4 (by omega), q_cI_s, if_neg (by decide), ix4 (by omega) (by omega), if_pos (by omega), Int.toNat_natCast]
  rcases hb with hb | hb
  · rw [hb, if_pos rfl]
  · rw [hb, if_neg (by decide)]
theorem sp_numAt {sc : List Int} {d : Nat} {X : q_M} {r k w h : Nat} (hr : r < h) (hh : X 43 3 = h) (h30 : h ≤ 30) (hk : k < w) (hw : X 43 2 = w) (h4 : w ≤ 4) (hd : 2 ≤ d) : pq sc d 6 [.inr (.inr 43), .inl (r : Int), .inl (k : Int)] GF X = some (some (.inr (.inl (X 44 (4 * r + k)))), GF, X) := by
  refine (pq_e (by omega) (by decide) (Nat.le_of_ble_eq_true rfl) ⟨0 + 1, sg_X0_numberAt_0.trans ?_⟩)
  rw [sp_has hr hh h30 hk hw h4 (by omega), q_cI_s, if_neg (by decide), ix4 (by omega) (by omega), if_pos (by omega), Int.toNat_natCast]
theorem sp_set {sc : List Int} {d : Nat} {X : q_M} {r k w h : Nat} {n u : Int} (hr : r < h) (hh : X 43 3 = h) (h30 : h ≤ 30) (hk : k < w) (hw : X 43 2 = w) (h4 : w ≤ 4) (hu : b01 u) (hd : 2 ≤ d) : pq sc d 7 [.inr (.inr 43), .inl (r : Int), .inl (k : Int), .inr (.inl n), .inl u] GF X = some (none, GF, q_up (q_up X 44 (4 * r + k) (if u = 0 then n else 0)) 45 (4 * r + k) u) := by
  refine (pq_e (by omega) (by decide) (Nat.le_of_ble_eq_true rfl) ⟨0 + 1, sg_X0_set_0.trans ?_⟩)
  rw [sp_has hr hh h30 hk hw h4 (by omega), q_cI_s, if_neg (by decide), ix4 (by omega) (by omega)]
  by_cases z : u = 0
  · rw [if_pos z, if_pos (by omega), if_pos (by omega), if_pos (Or.inr (Or.inl ⟨rfl, hu⟩)), if_pos z, Int.toNat_natCast]
  · rw [if_neg z, if_pos (by omega), if_pos (by omega), if_pos (Or.inr (Or.inl ⟨rfl, hu⟩)), if_neg z, Int.toNat_natCast]
/-- a cell's number and unknown, at the beginning and with one more tallied -/
def begN (k b v : Int) : Int := if k = 275 then (if b = 0 then v else 0) else 0
def begU (k b : Int) : Int := if k = 275 then b else if k = 266 then 0 else 1
def talN (k n u b v : Int) : Int := if k = 266 then q_w6 (n + 1) else if k = 275 then n else if b = 0 then (if u = 0 then (if k = 267 then q_w6 (n + v) else if k = 268 then (if 0 < (if n < v then (-1 : Int) else if v < n then 1 else 0) then v else n) else (if (if n < v then (-1 : Int) else if v < n then 1 else 0) < 0 then v else n)) else v) else n
def talU (k u b : Int) : Int := if k = 266 then 0 else if k = 275 then u else if b = 0 then 0 else u
theorem sp_joined {sc : List Int} {d : Nat} {X : q_M} {k n v : Int} (hd : 2 ≤ d) : pq sc d 25 [.inl k, .inr (.inl n), .inr (.inl v)] GF X = some (some (.inr (.inl (if k = 267 then q_w6 (n + v) else if k = 268 then (if 0 < (if n < v then (-1 : Int) else if v < n then 1 else 0) then v else n) else (if (if n < v then (-1 : Int) else if v < n then 1 else 0) < 0 then v else n)))), GF, X) := by
  have mn : pq sc (d - 1) 228 [.inr (.inl n), .inr (.inl v)] GF X = some (some (.inr (.inl (if 0 < (if n < v then (-1 : Int) else if v < n then 1 else 0) then v else n))), GF, X) := by
    refine (pq_e (by omega) (by decide) (Nat.le_of_ble_eq_true rfl) ⟨0 + 1, sg_J9_min_f86c9_0.trans ?_⟩)
    by_cases g : 0 < (if n < v then (-1 : Int) else if v < n then 1 else 0)
    · rw [if_pos g, if_pos g]
    · rw [if_neg g, if_neg g]
  have mx : pq sc (d - 1) 226 [.inr (.inl n), .inr (.inl v)] GF X = some (some (.inr (.inl (if (if n < v then (-1 : Int) else if v < n then 1 else 0) < 0 then v else n))), GF, X) := by
    refine (pq_e (by omega) (by decide) (Nat.le_of_ble_eq_true rfl) ⟨0 + 1, sg_J9_max_f86c9_0.trans ?_⟩)
    by_cases g : (if n < v then (-1 : Int) else if v < n then 1 else 0) < 0
    · rw [if_pos g, if_pos g]
    · rw [if_neg g, if_neg g]
  refine (pq_e (by omega) (by decide) (Nat.le_of_ble_eq_true rfl) ⟨0 + 1, sg_X2_joined_0.trans ?_⟩)
  by_cases c1 : k = 267
  · rw [if_pos c1, if_pos c1]
  · rw [if_neg c1, if_neg c1]
    by_cases c2 : k = 268
    · rw [if_pos c2, mn, q_cL_s, if_pos c2]
    · rw [if_neg c2, mx, q_cL_s, if_neg c2]
theorem sp_tally {sc : List Int} {d : Nat} {X : q_M} {r k w h u : Nat} {kd col b v : Int} (hr : r < h) (hh : X 43 3 = h) (h30 : h ≤ 30) (hk : k < w) (hw : X 43 2 = w) (h4 : w ≤ 4) (hcol : ¬ kd = 266 → col = (u : Int) ∧ u < 130 ∧ X 23 u = b ∧ (b = 0 → X 22 u = v)) (hb : b01 b) (hu : b01 (X 45 (4 * r + k))) (h0 : kd = 275 ∨ (X 45 (4 * r + k) = 1 → X 44 (4 * r + k) = 0) ∨ True) (hd : 3 ≤ d) : ∃ X', pq sc d 24 [.inr (.inr 46), .inl (r : Int), .inl (k : Int), .inl kd, .inl col] GF X = some (none, GF, X') ∧ (∀ a, ¬ a = 44 → ¬ a = 45 → X' a = X a) ∧ (∀ j, ¬ j = 4 * r + k → X' 44 j = X 44 j ∧ X' 45 j = X 45 j) ∧ X' 44 (4 * r + k) = talN kd (X 44 (4 * r + k)) (X 45 (4 * r + k)) b v ∧ X' 45 (4 * r + k) = talU kd (X 45 (4 * r + k)) b := by
  have q1 := sp_numAt (sc := sc) (d := d - 1) hr hh h30 hk hw h4 (by omega)
  have q2 := sp_unkAt (sc := sc) (d := d - 1) hr hh h30 hk hw h4 hu (by omega)
  have fr : ∀ (n : Int), (∀ a, ¬ a = 44 → ¬ a = 45 → q_up (q_up X 44 (4 * r + k) n) 45 (4 * r + k) 0 a = X a) ∧ (∀ j, ¬ j = 4 * r + k → q_up (q_up X 44 (4 * r + k) n) 45 (4 * r + k) 0 44 j = X 44 j ∧ q_up (q_up X 44 (4 * r + k) n) 45 (4 * r + k) 0 45 j = X 45 j) := fun n => ⟨fun a h1 h2 => by rw [q_upf h2, q_upf h1], fun j hj => by rw [q_up_ne (by decide), q_up_sn hj, q_up_sn hj, q_up_ne (by decide)]; exact ⟨rfl, rfl⟩⟩
  have vl : ∀ (n : Int), q_up (q_up X 44 (4 * r + k) n) 45 (4 * r + k) 0 44 (4 * r + k) = n ∧ q_up (q_up X 44 (4 * r + k) n) 45 (4 * r + k) 0 45 (4 * r + k) = 0 := fun n => ⟨by rw [q_up_ne (by decide), q_up_s], q_up_s⟩
  unfold talN talU
  by_cases c1 : kd = 266
  · have q3 := sp_set (sc := sc) (d := d - 1) (n := q_w6 (X 44 (4 * r + k) + 1)) (u := 0) hr hh h30 hk hw h4 (Or.inl rfl) (by omega)
    rw [if_pos rfl] at q3
    rw [if_pos c1, if_pos c1]
    refine ⟨_, (pq_e (by omega) (by decide) (Nat.le_of_ble_eq_true rfl) ⟨0 + 1, sg_X2_tally_0.trans ?_⟩), (fr _).1, (fr _).2, (vl _).1, (vl _).2⟩
    rw [q1, q_cL_s, if_pos c1, q3, q_c0_s]
  · rw [if_neg c1, if_neg c1]
    by_cases c2 : kd = 275
    · rw [if_pos c2, if_pos c2]
      refine ⟨X, (pq_e (by omega) (by decide) (Nat.le_of_ble_eq_true rfl) ⟨0 + 1, sg_X2_tally_0.trans ?_⟩), fun _ _ _ => rfl, fun _ _ => ⟨rfl, rfl⟩, rfl, rfl⟩
      rw [q1, q_cL_s, if_neg c1, if_pos c2]
    · rw [if_neg c2, if_neg c2]
      obtain ⟨e1, e2, e3, e4⟩ := hcol c1
      subst e1
      have q4 := sp_unknownOfN (sc := sc) (d := d - 1) e2 e3 (by omega)
      by_cases z : b = 0
      · have q5 := sp_numberOf (sc := sc) (d := d - 1) (M := X) e2 (by omega)
        rw [e4 z] at q5
        rw [if_pos z] at q4
        rw [if_pos z, if_pos z]
        by_cases z2 : X 45 (4 * r + k) = 0
        · rw [if_pos z2]
          have q6 := sp_joined (sc := sc) (d := d - 1) (X := X) (k := kd) (n := X 44 (4 * r + k)) (v := v) (by omega)
          have q3 := sp_set (sc := sc) (d := d - 1) (n := (if kd = 267 then q_w6 (X 44 (4 * r + k) + v) else if kd = 268 then (if 0 < (if X 44 (4 * r + k) < v then (-1 : Int) else if v < X 44 (4 * r + k) then 1 else 0) then v else X 44 (4 * r + k)) else (if (if X 44 (4 * r + k) < v then (-1 : Int) else if v < X 44 (4 * r + k) then 1 else 0) < 0 then v else X 44 (4 * r + k)))) (u := 0) hr hh h30 hk hw h4 (Or.inl rfl) (by omega)
          rw [if_pos rfl] at q3
          refine ⟨_, (pq_e (by omega) (by decide) (Nat.le_of_ble_eq_true rfl) ⟨0 + 1, sg_X2_tally_0.trans ?_⟩), (fr _).1, (fr _).2, (vl _).1, (vl _).2⟩
          rw [q1, q_cL_s, if_neg c1, if_neg c2, q4, q_cI_s, if_pos rfl, q5, q_cI_s, q2, q_cI_s, if_pos z2, q6, q_cL_s, q3, q_c0_s]
        · rw [if_neg z2]
          have q3 := sp_set (sc := sc) (d := d - 1) (n := v) (u := 0) hr hh h30 hk hw h4 (Or.inl rfl) (by omega)
          rw [if_pos rfl] at q3
          refine ⟨_, (pq_e (by omega) (by decide) (Nat.le_of_ble_eq_true rfl) ⟨0 + 1, sg_X2_tally_0.trans ?_⟩), (fr _).1, (fr _).2, (vl _).1, (vl _).2⟩
          rw [q1, q_cL_s, if_neg c1, if_neg c2, q4, q_cI_s, if_pos rfl, q5, q_cI_s, q2, q_cI_s, if_neg z2, q3, q_c0_s]
      · rw [if_neg z] at q4
        rw [if_neg z, if_neg z]
        refine ⟨X, (pq_e (by omega) (by decide) (Nat.le_of_ble_eq_true rfl) ⟨0 + 1, sg_X2_tally_0.trans ?_⟩), fun _ _ _ => rfl, fun _ _ => ⟨rfl, rfl⟩, rfl, rfl⟩
        rw [q1, q_cL_s, if_neg c1, if_neg c2, q4, q_cI_s, if_neg (by decide)]
/-! the model's result -/
def gatN (k n u b v : Int) : Int := if k = 266 then q_w6 (n + 1) else if b = 0 then (if k = 267 then q_w6 (n + v) else if u = 0 then (if k = 275 then v else if k = 268 then (if (if v < n then (-1 : Int) else if n < v then 1 else 0) < 0 then v else n) else (if 0 < (if v < n then (-1 : Int) else if n < v then 1 else 0) then v else n)) else v) else n
def gatU (k u b : Int) : Int := if k = 266 then u else if b = 0 then 0 else u
theorem mk_gather {sc : List Int} {d : Nat} {Y : q_M} {n : Nat} {k b v : Int} (hn : n < 120) (hk : (266 ≤ k ∧ k ≤ 269) ∨ k = 275) (h44 : ¬ k = 266 → Y 49 44 = b ∧ (b = 0 → Y 49 45 = v)) (hd : 1 ≤ d) : ∃ Y', pq sc d 201 [.inr (.inr 49), .inl (n : Int), .inl (mko k)] GF Y = some (none, GF, Y') ∧ (∀ a, ¬ a = 77 → ¬ a = 78 → Y' a = Y a) ∧ (∀ j, ¬ j = n → Y' 77 j = Y 77 j ∧ Y' 78 j = Y 78 j) ∧ Y' 78 n = gatN k (Y 78 n) (Y 77 n) b v ∧ Y' 77 n = gatU k (Y 77 n) b := by
  have hnb : 0 ≤ (n : Int) ∧ (n : Int) < ((120 : Nat) : Int) := by omega
  have fr : ∀ (x : Int), (∀ a, ¬ a = 77 → ¬ a = 78 → q_up (q_up Y 77 n 0) 78 n x a = Y a) ∧ (∀ j, ¬ j = n → q_up (q_up Y 77 n 0) 78 n x 77 j = Y 77 j ∧ q_up (q_up Y 77 n 0) 78 n x 78 j = Y 78 j) ∧ q_up (q_up Y 77 n 0) 78 n x 78 n = x ∧ q_up (q_up Y 77 n 0) 78 n x 77 n = 0 := fun x => ⟨fun a h1 h2 => by rw [q_upf h2, q_upf h1], fun j hj => by rw [q_up_ne (by decide), q_up_sn hj, q_up_sn hj, q_up_ne (by decide)]; exact ⟨rfl, rfl⟩, q_up_s, by rw [q_up_ne (by decide), q_up_s]⟩
  have fr0 : (∀ a, ¬ a = 77 → ¬ a = 78 → q_up Y 77 n 0 a = Y a) ∧ (∀ j, ¬ j = n → q_up Y 77 n 0 77 j = Y 77 j ∧ q_up Y 77 n 0 78 j = Y 78 j) ∧ q_up Y 77 n 0 78 n = Y 78 n ∧ q_up Y 77 n 0 77 n = 0 := ⟨fun a h1 h2 => q_upf h1, fun j hj => ⟨q_up_sn hj, q_up_ne (by decide)⟩, q_up_ne (by decide), q_up_s⟩
  unfold gatN gatU
  by_cases c1 : k = 266
  · rw [if_pos c1, if_pos c1]
    refine ⟨q_up Y 78 n (q_w6 (Y 78 n + 1)), (pq_e (by omega) (by decide) (Nat.le_of_ble_eq_true rfl) ⟨0 + 1, sg_X12_gather_0.trans ?_⟩), fun a h1 h2 => q_upf h2, fun j hj => ⟨q_up_ne (by decide), q_up_sn hj⟩, q_up_s, q_up_ne (by decide)⟩
    rw [c1, if_pos (by decide), if_pos hnb, if_pos hnb, Int.toNat_natCast]
  · obtain ⟨e1, e2⟩ := h44 c1
    rw [if_neg c1, if_neg c1]
    have m207 : ¬ mko k = 207 := by unfold mko; split <;> omega
    by_cases z : b = 0
    · have e2 := e2 z
      rw [if_pos z, if_pos z]
      by_cases c2 : k = 267
      · rw [if_pos c2]
        refine ⟨_, (pq_e (by omega) (by decide) (Nat.le_of_ble_eq_true rfl) ⟨0 + 1, sg_X12_gather_0.trans ?_⟩), (fr _).1, (fr _).2.1, (fr _).2.2.1, (fr _).2.2.2⟩
        rw [if_neg m207, if_pos (by rw [e1]; exact z), if_pos hnb, if_pos hnb, c2, if_pos (by decide), if_pos hnb, if_pos hnb, Int.toNat_natCast, e2]
      · rw [if_neg c2]
        have m208 : ¬ mko k = 208 := by unfold mko; split <;> omega
        by_cases z2 : Y 77 n = 0
        · rw [if_pos z2]
          by_cases c3 : k = 275
          · rw [if_pos c3]
            refine ⟨_, (pq_e (by omega) (by decide) (Nat.le_of_ble_eq_true rfl) ⟨0 + 1, sg_X12_gather_0.trans ?_⟩), (fr _).1, (fr _).2.1, (fr _).2.2.1, (fr _).2.2.2⟩
            rw [if_neg m207, if_pos (by rw [e1]; exact z), if_pos hnb, if_pos hnb, if_neg m208, Int.toNat_natCast, if_pos z2, c3, if_pos (by decide), if_pos hnb, e2]
          · rw [if_neg c3]
            have m0 : ¬ mko k = 0 := by unfold mko; split <;> omega
            by_cases c4 : k = 268
            · rw [if_pos c4]
              by_cases g : (if v < Y 78 n then (-1 : Int) else if Y 78 n < v then 1 else 0) < 0
              · rw [if_pos g]
                refine ⟨_, (pq_e (by omega) (by decide) (Nat.le_of_ble_eq_true rfl) ⟨0 + 1, sg_X12_gather_0.trans ?_⟩), (fr _).1, (fr _).2.1, (fr _).2.2.1, (fr _).2.2.2⟩
                rw [if_neg m207, if_pos (by rw [e1]; exact z), if_pos hnb, if_pos hnb, if_neg m208, Int.toNat_natCast, if_pos z2, if_neg m0, c4, if_pos (by decide), if_pos hnb, e2, if_pos g, if_pos hnb]
              · rw [if_neg g]
                refine ⟨_, (pq_e (by omega) (by decide) (Nat.le_of_ble_eq_true rfl) ⟨0 + 1, sg_X12_gather_0.trans ?_⟩), fr0.1, fr0.2.1, fr0.2.2.1, fr0.2.2.2⟩
                rw [if_neg m207, if_pos (by rw [e1]; exact z), if_pos hnb, if_pos hnb, if_neg m208, Int.toNat_natCast, if_pos z2, if_neg m0, c4, if_pos (by decide), if_pos hnb, e2, if_neg g, if_neg (by decide)]
            · rw [if_neg c4]
              have c5 : k = 269 := by omega
              by_cases g : 0 < (if v < Y 78 n then (-1 : Int) else if Y 78 n < v then 1 else 0)
              · rw [if_pos g]
                refine ⟨_, (pq_e (by omega) (by decide) (Nat.le_of_ble_eq_true rfl) ⟨0 + 1, sg_X12_gather_0.trans ?_⟩), (fr _).1, (fr _).2.1, (fr _).2.2.1, (fr _).2.2.2⟩
                rw [if_neg m207, if_pos (by rw [e1]; exact z), if_pos hnb, if_pos hnb, if_neg m208, Int.toNat_natCast, if_pos z2, if_neg m0, c5, if_neg (by decide), if_pos (by decide), if_pos hnb, e2, if_pos g, if_pos hnb]
              · rw [if_neg g]
                refine ⟨_, (pq_e (by omega) (by decide) (Nat.le_of_ble_eq_true rfl) ⟨0 + 1, sg_X12_gather_0.trans ?_⟩), fr0.1, fr0.2.1, fr0.2.2.1, fr0.2.2.2⟩
                rw [if_neg m207, if_pos (by rw [e1]; exact z), if_pos hnb, if_pos hnb, if_neg m208, Int.toNat_natCast, if_pos z2, if_neg m0, c5, if_neg (by decide), if_pos (by decide), if_pos hnb, e2, if_neg g]
        · rw [if_neg z2]
          refine ⟨_, (pq_e (by omega) (by decide) (Nat.le_of_ble_eq_true rfl) ⟨0 + 1, sg_X12_gather_0.trans ?_⟩), (fr _).1, (fr _).2.1, (fr _).2.2.1, (fr _).2.2.2⟩
          rw [if_neg m207, if_pos (by rw [e1]; exact z), if_pos hnb, if_pos hnb, if_neg m208, Int.toNat_natCast, if_neg z2, if_pos hnb, e2]
    · rw [if_neg z, if_neg z]
      refine ⟨Y, (pq_e (by omega) (by decide) (Nat.le_of_ble_eq_true rfl) ⟨0 + 1, sg_X12_gather_0.trans ?_⟩), fun _ _ _ => rfl, fun _ _ => ⟨rfl, rfl⟩, rfl, rfl⟩
      rw [if_neg m207, if_neg (by rw [e1]; exact z)]
/-- a new cell comes to the same -/
theorem cell_new {k b v : Int} (hk : (266 ≤ k ∧ k ≤ 269) ∨ k = 275) (hb : b01 b) (hv : b = 0 → -2147483648 ≤ v ∧ v < 2147483648) : talN k (begN k b v) (begU k b) b v = gatN k 0 (if k = 266 then 0 else 1) b v ∧ talU k (begU k b) b = gatU k (if k = 266 then 0 else 1) b := by
  unfold talN talU gatN gatU begN begU
  by_cases c1 : k = 266
  · subst c1; simp
  · simp only [if_neg c1]
    by_cases c2 : k = 275
    · subst c2
      rcases hb with rfl | rfl
      · simp
      · simp
    · simp only [if_neg c2]
      rcases hb with rfl | rfl
      · have := hv rfl
        by_cases c3 : k = 267
        · subst c3; simp; rw [q_w6id (by omega) (by omega)]
        · simp [c3]
      · simp
/-- a cell that is there comes to the same -/
theorem cell_old {k n u b v : Int} (hk : (266 ≤ k ∧ k ≤ 269) ∨ k = 275) (hb : b01 b) (hu : b01 u) (hv : b = 0 → -2147483648 ≤ v ∧ v < 2147483648) (h0 : u = 1 → n = 0) (h6 : k = 266 → u = 0) (h5 : k = 275 → u = b ∧ (b = 0 → n = v)) : talN k n u b v = gatN k n u b v ∧ talU k u b = gatU k u b := by
  unfold talN talU gatN gatU
  by_cases c1 : k = 266
  · subst c1; simp; exact (h6 rfl).symm
  · simp only [if_neg c1]
    by_cases c2 : k = 275
    · obtain ⟨h1, h2⟩ := h5 c2
      subst c2; subst h1
      rcases hb with rfl | rfl
      · simp; exact h2 rfl
      · simp
    · simp only [if_neg c2]
      rcases hb with rfl | rfl
      · have hv' := hv rfl
        rcases hu with rfl | rfl
        · by_cases c3 : k = 267
          · subst c3; simp
          · simp only [if_neg c3, if_true]
            refine ⟨?_, trivial⟩
            rcases (show v < n ∨ v = n ∨ n < v by omega) with g | g | g
            · have e1 : (if n < v then (-1 : Int) else if v < n then 1 else 0) = 1 := by rw [if_neg (by omega), if_pos g]
              have e2 : (if v < n then (-1 : Int) else if n < v then 1 else 0) = -1 := if_pos g
              rw [e1, e2]
              by_cases c4 : k = 268
              · simp [c4]
              · simp [c4]
            · subst g
              simp
            · have e1 : (if n < v then (-1 : Int) else if v < n then 1 else 0) = -1 := if_pos g
              have e2 : (if v < n then (-1 : Int) else if n < v then 1 else 0) = 1 := by rw [if_neg (by omega), if_pos g]
              rw [e1, e2]
              by_cases c4 : k = 268
              · simp [c4]
              · simp [c4]
        · have hn := h0 rfl
          subst hn
          by_cases c3 : k = 267
          · subst c3; simp; rw [q_w6id (by omega) (by omega)]
          · simp [c3]
      · simp
