/-! the small machine's values, locals and worlds as the big one's -/
def q_cv (ad : Nat → Nat) (v : q_V) : Value := match v with
  | .inl x => .int (Int32.ofInt x)
  | .inr (.inl x) => .long (Int64.ofInt x)
  | .inr (.inr k) => .ref (ad k)
def q_ov (n : Nat) (v : q_V) : Prop := match v with
  | .inl x => q_r x
  | .inr (.inl x) => q_r6 x
  | .inr (.inr k) => k < n ∨ 1000 ≤ k
def q_sv (P : q_P) (ad : Nat → Nat) (ci : Nat) (rs : List Nat) (f : Nat → Int) (j : Nat) : Value := if q_ft P ci j = 4 then (match rs[j]? with
  | some (k + 1) => .ref (ad k)
  | _ => .null) else .int (Int32.ofInt (f j))
def q_ca (t : Nat) (f : Nat → Int) : (Nat → Int32) ⊕ (Nat → Int64) ⊕ (Nat → UInt32) ⊕ (Nat → UInt64) ⊕ (Nat → Option Nat) := if t = 3 then .inr (.inl (fun j => Int64.ofInt (f j))) else .inl (fun j => Int32.ofInt (f j))
def q_c (P : q_P) (cT : Nat → ClassId) (ad : Nat → Nat) (sh : q_S) (f : Nat → Int) : va_E := match sh with
  | .inl (t, n) => .inl (cT t, n, q_ca t f)
  | .inr (ci, rs) => .inr (ci, (List.range (q_nf P ci)).map (q_sv P ad ci rs f))
def q_ws (P : q_P) (cT : Nat → ClassId) (ad : Nat → Nat) (G : q_G) (M : q_M) : va_W := G.mapIdx (fun k sh => (ad k, q_c P cT ad sh (M k)))
def q_oM (G : q_G) (M : q_M) : Prop := ∀ k j : Nat, q_r6 (M k j) ∧ ((∀ n : Nat, G[k]? ≠ some (Sum.inl (3, n))) → q_r (M k j))
def q_oG (P : q_P) (G : q_G) : Prop := G.length ≤ 900 ∧ (∀ (k ci : Nat) (rs : List Nat), G[k]? = some (Sum.inr (ci, rs)) → rs.length = q_nf P ci ∧ ci < 13 ∧ ∀ j r : Nat, rs[j]? = some (r + 1) → r < G.length) ∧ ∀ k t n : Nat, G[k]? = some (Sum.inl (t, n)) → t ≤ 3 ∧ n ≤ 1000
def q_adx (n : Nat) (ad ad' : Nat → Nat) : Prop := ∀ k, (k < n ∨ 1000 ≤ k) → ad' k = ad k
def q_lc (ad : Nat → Nat) (ls : Array Slot) (l : q_L) : Prop := ls.size = l.length ∧ lv_wf ls ∧ ∀ (i : Nat) (v : q_V), l[i]? = some (some v) → ls[i]? = some (Slot.val (q_cv ad v))
def q_tys (cT : Nat → ClassId) : List (ClassId × FieldType) := [(cT 0, .int), (cT 1, .boolean), (cT 2, .char), (cT 3, .long)]
theorem q_ws_get {P : q_P} {cT : Nat → ClassId} {ad : Nat → Nat} {G : q_G} {M : q_M} {k : Nat} {sh : q_S} (h : G[k]? = some sh) : (q_ws P cT ad G M)[k]? = some (ad k, q_c P cT ad sh (M k)) := by
  simp [q_ws, List.getElem?_mapIdx, h]
theorem q_ws_inv {P : q_P} {cT : Nat → ClassId} {ad : Nat → Nat} {G : q_G} {M : q_M} {k : Nat} {q : Nat × va_E} (h : (q_ws P cT ad G M)[k]? = some q) : ∃ sh, G[k]? = some sh ∧ q = (ad k, q_c P cT ad sh (M k)) := by
  simp only [q_ws, List.getElem?_mapIdx, Option.map_eq_some_iff] at h
  obtain ⟨sh, h1, h2⟩ := h
  exact ⟨sh, h1, h2.symm⟩
theorem q_ws_len {P : q_P} {cT : Nat → ClassId} {ad : Nat → Nat} {G : q_G} {M : q_M} : (q_ws P cT ad G M).length = G.length := by simp [q_ws]
theorem q_c_ext {P : q_P} {cT : Nat → ClassId} {ad ad' : Nat → Nat} {sh : q_S} {f : Nat → Int} (h : ∀ (ci : Nat) (rs : List Nat), sh = .inr (ci, rs) → ∀ j r : Nat, rs[j]? = some (r + 1) → ad' r = ad r) : q_c P cT ad' sh f = q_c P cT ad sh f := by
  match sh, h with
  | .inl (t, n), _ => rfl
  | .inr (ci, rs), h =>
    have : q_sv P ad' ci rs f = q_sv P ad ci rs f := by
      funext j
      unfold q_sv
      split
      · rcases hj : rs[j]? with _ | (_ | r)
        · rfl
        · rfl
        · show Value.ref (ad' r) = Value.ref (ad r)
          rw [h ci rs rfl j r hj]
      · rfl
    simp only [q_c, this]
/-- the same world under addresses that agree -/
theorem q_ws_ext {P : q_P} {cT : Nat → ClassId} {ad ad' : Nat → Nat} {G : q_G} {M : q_M} (hG : q_oG P G) (h : q_adx G.length ad ad') : q_ws P cT ad' G M = q_ws P cT ad G M := by
  apply List.ext_getElem?
  intro k
  simp only [q_ws, List.getElem?_mapIdx]
  rcases hk : G[k]? with _ | sh
  · rfl
  · simp only [Option.map_some, Option.some.injEq, Prod.mk.injEq]
    have hl : k < G.length := (List.getElem?_eq_some_iff.mp hk).1
    exact ⟨h k (Or.inl hl), q_c_ext (fun ci rs e j r hr => h r (Or.inl ((hG.2.1 k ci rs (e ▸ hk)).2.2 j r hr)))⟩
theorem q_adx.rf {n : Nat} {ad : Nat → Nat} : q_adx n ad ad := fun _ _ => rfl
theorem q_adx.tr {n n' : Nat} {ad ad' ad'' : Nat → Nat} (h : q_adx n ad ad') (hn : n ≤ n') (h' : q_adx n' ad' ad'') : q_adx n ad ad'' := fun k hk => (h' k (by omega)).trans (h k hk)
theorem q_cv_ext {n : Nat} {ad ad' : Nat → Nat} {v : q_V} (h : q_adx n ad ad') (hv : q_ov n v) : q_cv ad' v = q_cv ad v := by
  match v, hv with
  | .inl x, _ => rfl
  | .inr (.inl x), _ => rfl
  | .inr (.inr k), hv => show Value.ref (ad' k) = Value.ref (ad k); rw [h k hv]
theorem q_map_ext {n : Nat} {ad ad' : Nat → Nat} {st : List q_V} (h : q_adx n ad ad') (hv : ∀ v ∈ st, q_ov n v) : st.map (q_cv ad') = st.map (q_cv ad) := List.map_congr_left fun v hm => q_cv_ext h (hv v hm)
theorem q_ov_mono {n n' : Nat} {v : q_V} (h : q_ov n v) (hn : n ≤ n') : q_ov n' v := by
  match v, h with
  | .inl x, h => exact h
  | .inr (.inl x), h => exact h
  | .inr (.inr k), h => exact h.elim (fun h => Or.inl (Nat.lt_of_lt_of_le h hn)) Or.inr
/-! locals -/
def q_as (ad : Nat → Nat) (l : q_L) : List (Nat × Value) := (List.range l.length).filterMap (fun i => (l.getD i none).map (fun v => (i, q_cv ad v)))
theorem q_as_mem {ad : Nat → Nat} {l : q_L} {q : Nat × Value} : q ∈ q_as ad l ↔ ∃ (i : Nat) (v : q_V), l[i]? = some (some v) ∧ q = (i, q_cv ad v) := by
  simp only [q_as, List.mem_filterMap, List.mem_range, Option.map_eq_some_iff]
  constructor
  · rintro ⟨i, hi, v, hv, rfl⟩
    refine ⟨i, v, ?_, rfl⟩
    rw [List.getD_eq_getElem?_getD] at hv
    rw [List.getElem?_eq_getElem hi] at hv ⊢
    simp only [Option.getD_some] at hv
    rw [hv]
  · rintro ⟨i, v, hv, rfl⟩
    refine ⟨i, (List.getElem?_eq_some_iff.mp hv).1, v, ?_, rfl⟩
    rw [List.getD_eq_getElem?_getD, hv]
    rfl
theorem q_lc.has {ad : Nat → Nat} {ls : Array Slot} {l : q_L} (h : q_lc ad ls l) : lv_has ls l.length (q_as ad l) := by
  refine ⟨h.1, h.2.1, fun q hq => ?_⟩
  obtain ⟨i, v, hv, rfl⟩ := q_as_mem.mp hq
  exact h.2.2 i v hv
theorem q_lc.ext {n : Nat} {ad ad' : Nat → Nat} {ls : Array Slot} {l : q_L} (h : q_lc ad ls l) (ha : q_adx n ad ad') (ho : ∀ v, some v ∈ l → q_ov n v) : q_lc ad' ls l :=
  ⟨h.1, h.2.1, fun i v hv => by rw [q_cv_ext ha (ho v (List.mem_of_getElem? hv))]; exact h.2.2 i v hv⟩
theorem q_cvcat (ad : Nat → Nat) (v : q_V) : (q_cv ad v).category = q_cat v := by
  match v with
  | .inl x => rfl
  | .inr (.inl x) => rfl
  | .inr (.inr k) => rfl
theorem q_nl_use {l : q_L} {k i : Nat} {v : q_V} (h : q_nl l k = true) (hv : l[i]? = some (some v)) (hi : i + 1 = k) : ¬ q_cat v = 2 := by
  subst hi
  simp only [q_nl, List.getD_eq_getElem?_getD, hv, Option.getD_some] at h
  match v, h with
  | .inl x, _ => simp [q_cat]
  | .inr (.inl x), h => simp at h
  | .inr (.inr k), _ => simp [q_cat]
theorem q_sto_lc {ad : Nat → Nat} {ls' : Array Slot} {l l' : q_L} {k : Nat} {v : q_V} (hs : q_sto l k v = some l') (hc : lv_has ls' l.length ((k, q_cv ad v) :: (q_as ad l).filter (fun q => !(q.1 == k) && !(q.1 + 1 == k && q.2.category == 2)))) : q_lc ad ls' l' := by
  unfold q_sto at hs
  split at hs
  · next h =>
    cases hs
    refine ⟨by rw [hc.1]; simp, hc.2.1, fun i v' hv => ?_⟩
    by_cases hik : i = k
    · subst hik
      rw [List.getElem?_set_self h.1] at hv
      cases hv
      exact hc.2.2 _ List.mem_cons_self
    · rw [List.getElem?_set_ne (Ne.symm hik)] at hv
      refine hc.2.2 (i, q_cv ad v') (List.mem_cons_of_mem _ (List.mem_filter.mpr ⟨q_as_mem.mpr ⟨i, v', hv, rfl⟩, ?_⟩))
      have h2 := fun e => q_nl_use h.2 hv e
      simp only [Bool.and_eq_true, Bool.not_eq_true', beq_eq_false_iff_ne, ne_eq, Bool.and_eq_false_iff, q_cvcat]
      refine ⟨hik, ?_⟩
      by_cases e : i + 1 = k
      · exact Or.inr (h2 e)
      · exact Or.inl e
  · cases hs
theorem q_sto2_lc {ad : Nat → Nat} {ls' : Array Slot} {l l' : q_L} {k : Nat} {v : q_V} (hs : q_sto2 l k v = some l') (hc : lv_has ls' l.length ((k, q_cv ad v) :: (q_as ad l).filter (fun q => !(q.1 == k) && (!(q.1 == k + 1) && !(q.1 + 1 == k && q.2.category == 2))))) : q_lc ad ls' l' := by
  unfold q_sto2 at hs
  split at hs
  · next h =>
    cases hs
    refine ⟨by rw [hc.1]; simp, hc.2.1, fun i v' hv => ?_⟩
    by_cases hi1 : i = k + 1
    · subst hi1
      rw [List.getElem?_set_self (by simp; exact h.1)] at hv
      cases hv
    · rw [List.getElem?_set_ne (Ne.symm hi1)] at hv
      by_cases hik : i = k
      · subst hik
        rw [List.getElem?_set_self (by omega)] at hv
        cases hv
        exact hc.2.2 _ List.mem_cons_self
      · rw [List.getElem?_set_ne (Ne.symm hik)] at hv
        refine hc.2.2 (i, q_cv ad v') (List.mem_cons_of_mem _ (List.mem_filter.mpr ⟨q_as_mem.mpr ⟨i, v', hv, rfl⟩, ?_⟩))
        have h2 := fun e => q_nl_use h.2 hv e
        simp only [Bool.and_eq_true, Bool.not_eq_true', beq_eq_false_iff_ne, ne_eq, Bool.and_eq_false_iff, q_cvcat]
        refine ⟨hik, hi1, ?_⟩
        by_cases e : i + 1 = k
        · exact Or.inr (h2 e)
        · exact Or.inl e
  · cases hs
theorem q_sto_len {l l' : q_L} {k : Nat} {v : q_V} (hs : q_sto l k v = some l') : k < l.length ∧ l'.length = l.length ∧ ∀ w, some w ∈ l' → some w ∈ l ∨ w = v := by
  unfold q_sto at hs
  split at hs
  · next h =>
    cases hs
    refine ⟨h.1, by simp, fun w hw => ?_⟩
    rcases List.mem_or_eq_of_mem_set hw with h | h
    · exact Or.inl h
    · exact Or.inr (Option.some.inj h)
  · cases hs
theorem q_sto2_len {l l' : q_L} {k : Nat} {v : q_V} (hs : q_sto2 l k v = some l') : k + 1 < l.length ∧ l'.length = l.length ∧ ∀ w, some w ∈ l' → some w ∈ l ∨ w = v := by
  unfold q_sto2 at hs
  split at hs
  · next h =>
    cases hs
    refine ⟨h.1, by simp, fun w hw => ?_⟩
    rcases List.mem_or_eq_of_mem_set hw with h | h
    · rcases List.mem_or_eq_of_mem_set h with h | h
      · exact Or.inl h
      · exact Or.inr (Option.some.inj h)
    · cases h
  · cases hs
/-! numbers -/
theorem q_toI {x : Int} (h : q_r x) : (Int32.ofInt x).toInt = x := by
  rw [Int32.toInt_ofInt]
  show Int.bmod x 4294967296 = x
  exact Int.bmod_eq_of_le (by have := h.1; omega) (by have := h.2; omega)
theorem q_toL {x : Int} (h : q_r6 x) : (Int64.ofInt x).toInt = x := by
  rw [Int64.toInt_ofInt]
  show Int.bmod x 18446744073709551616 = x
  exact Int.bmod_eq_of_le (by have := h.1; omega) (by have := h.2; omega)
theorem q_w_r (x : Int) : q_r (q_w x) := by
  unfold q_w q_r
  constructor
  · have := Int.le_bmod (x := x) (m := 4294967296) (by decide); omega
  · have := Int.bmod_lt (x := x) (m := 4294967296) (by decide); omega
theorem q_w6_r (x : Int) : q_r6 (q_w6 x) := by
  unfold q_w6 q_r6
  constructor
  · have := Int.le_bmod (x := x) (m := 18446744073709551616) (by decide); omega
  · have := Int.bmod_lt (x := x) (m := 18446744073709551616) (by decide); omega
theorem q_w_id {x : Int} (h : q_r x) : q_w x = x := Int.bmod_eq_of_le (by have := h.1; omega) (by have := h.2; omega)
theorem q_w6_id {x : Int} (h : q_r6 x) : q_w6 x = x := Int.bmod_eq_of_le (by have := h.1; omega) (by have := h.2; omega)
theorem q_ofw (x : Int) : Int32.ofInt (q_w x) = Int32.ofInt x := by
  apply Int32.toInt_inj.mp
  rw [Int32.toInt_ofInt, Int32.toInt_ofInt]
  show (Int.bmod (Int.bmod x 4294967296) 4294967296) = Int.bmod x 4294967296
  exact Int.bmod_bmod
theorem q_ofw6 (x : Int) : Int64.ofInt (q_w6 x) = Int64.ofInt x := by
  apply Int64.toInt_inj.mp
  rw [Int64.toInt_ofInt, Int64.toInt_ofInt]
  show (Int.bmod (Int.bmod x 18446744073709551616) 18446744073709551616) = Int.bmod x 18446744073709551616
  exact Int.bmod_bmod
theorem q_lt {x y : Int} (hx : q_r x) (hy : q_r y) : Int32.ofInt x < Int32.ofInt y ↔ x < y := by rw [Int32.lt_iff_toInt_lt, q_toI hx, q_toI hy]
theorem q_le {x y : Int} (hx : q_r x) (hy : q_r y) : Int32.ofInt x ≤ Int32.ofInt y ↔ x ≤ y := by rw [Int32.le_iff_toInt_le, q_toI hx, q_toI hy]
theorem q_eq {x y : Int} (hx : q_r x) (hy : q_r y) : Int32.ofInt x = Int32.ofInt y ↔ x = y := by rw [← Int32.toInt_inj, q_toI hx, q_toI hy]
theorem q_0r : q_r 0 := ⟨by decide, by decide⟩
theorem q_in {i : Int} {n : Nat} (hr : q_r i) (h : 0 ≤ i ∧ i < (n : Int)) : vp_in (Int32.ofInt i) n ∧ (Int32.ofInt i).toNatClampNeg = i.toNat := by
  refine ⟨vp_in_iff.mpr (by rw [q_toI hr]; exact h), ?_⟩
  show (Int32.ofInt i).toInt.toNat = i.toNat
  rw [q_toI hr]
