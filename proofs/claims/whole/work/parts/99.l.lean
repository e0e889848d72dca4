/-! the law's loop -/
theorem q_dks {orc : q_O} {P : q_P} {ini : Bool} {kc ks co : Nat} {I : q_I} {sp : List Nat} (n : Nat) (b : Bool) (rm : q_I) (l : q_L) (st : List q_V) (G : q_G) (M : q_M) (ca sa : Nat) : q_den orc P ini kc ks co I sp n b rm l st G M ca sa = q_dk orc P ini kc ks co I sp (fun pc T => some (pc, T)) n b rm l st G M ca sa := by
  rw [q_dk_eq]
  generalize q_den orc P ini kc ks co I sp n b rm l st G M ca sa = x
  rcases x with _ | ⟨pc, T⟩ <;> rfl
theorem lw_cmp (x : Int) : (if x < x then -1 else if x < x then 1 else 0 : Int) = 0 := by rw [if_neg (Int.lt_irrefl x), if_neg (Int.lt_irrefl x)]
theorem q_gD {sc : List Int} {j : Nat} (h : ∀ x ∈ sc, q_r x) : q_r (sc.getD j 0) := by
  rw [List.getD_eq_getElem?_getD]
  rcases hj : sc[j]? with _ | x
  · exact q_0r
  · exact h x (List.mem_of_getElem? hj)
def lw_ok (sc : List Int) (pc : Int) (i : Int) (M : q_M) (ca sa : Nat) : Prop := ∃ (a b : Option q_V) (M' : q_M) (ca' sa' : Nat), q_den (lo sc 30) (pg_P sc) false 600128 7301098 13 pI_L_law [489] 1000 false (q_seek pc pI_L_law) [some (.inr (.inr 3000)), some (.inr (.inr 0)), some (.inr (.inr 49)), some (.inr (.inr 81)), some (.inl i), none, none] [] GF M ca sa = some (489, [some (.inr (.inr 3000)), some (.inr (.inr 0)), some (.inr (.inr 49)), some (.inr (.inr 81)), some (.inl i), a, b], [], GF, M', ca', sa') ∧ Rel M' M' ∧ ca' ≤ ca + 1 ∧ sa' ≤ sa + 6
set_option maxHeartbeats 1000000 in
theorem lw_c0 {sc : List Int} {i : Int} {M : q_M} {ca sa : Nat} (hsc : ∀ x ∈ sc, q_r x) (hi : 0 ≤ i ∧ i + 3 ≤ (sc.length : Int)) (hl : sc.length ≤ 192) (hr : Rel M M) (hca : ca + 1 ≤ 600128) (hsa : sa + 6 ≤ 7301098) : lw_ok sc 104 i M ca sa := by
  have w1 : 0 ≤ q_w (i + 1) ∧ q_w (i + 1) < (sc.length : Int) := by rw [q_wid (by omega) (by omega)]; omega
  have w2 : 0 ≤ q_w (i + 2) ∧ q_w (i + 2) < (sc.length : Int) := by rw [q_wid (by omega) (by omega)]; omega
  obtain ⟨M1, M2, x, q1, q2, h⟩ := lo_declare (sc := sc) (d := 30) (t := (sc.getD (q_w (i + 1) : Int).toNat 0)) (w := (sc.getD (q_w (i + 2) : Int).toNat 0)) hr (by omega)
  refine ⟨none, none, M2, ca + 0 + 0, sa + 0 + 0, ?_, h, by omega, by omega⟩
  rw [q_dks, lg_c0, if_pos w1, if_pos w2, if_pos (show ca + 0 ≤ 600128 ∧ sa + 0 ≤ 7301098 by omega), q1, q_cI_s, if_pos w1, if_pos w2, if_pos (show ca + 0 + 0 ≤ 600128 ∧ sa + 0 + 0 ≤ 7301098 by omega), q2, q_cI_s, if_pos rfl]
set_option maxHeartbeats 1000000 in
theorem lw_c1 {sc : List Int} {i : Int} {M : q_M} {ca sa : Nat} (hsc : ∀ x ∈ sc, q_r x) (hi : 0 ≤ i ∧ i + 3 ≤ (sc.length : Int)) (hl : sc.length ≤ 192) (hr : Rel M M) (hca : ca + 1 ≤ 600128) (hsa : sa + 6 ≤ 7301098) : lw_ok sc 141 i M ca sa := by
  have w1 : 0 ≤ q_w (i + 1) ∧ q_w (i + 1) < (sc.length : Int) := by rw [q_wid (by omega) (by omega)]; omega
  obtain ⟨M1, M2, x, q1, q2, h⟩ := lo_value (sc := sc) (d := 30) (v := (sc.getD (q_w (i + 1) : Int).toNat 0)) (q_gD hsc) hr (by omega)
  refine ⟨none, none, M2, ca + 0 + 0, sa + 0 + 0, ?_, h, by omega, by omega⟩
  rw [q_dks, lg_c1, if_pos w1, if_pos (show ca + 0 ≤ 600128 ∧ sa + 0 ≤ 7301098 by omega), q1, q_cI_s, if_pos w1, if_pos (show ca + 0 + 0 ≤ 600128 ∧ sa + 0 + 0 ≤ 7301098 by omega), q2, q_cI_s, if_pos rfl]
set_option maxHeartbeats 1000000 in
theorem lw_c2 {sc : List Int} {i : Int} {M : q_M} {ca sa : Nat} (hsc : ∀ x ∈ sc, q_r x) (hi : 0 ≤ i ∧ i + 3 ≤ (sc.length : Int)) (hl : sc.length ≤ 192) (hr : Rel M M) (hca : ca + 1 ≤ 600128) (hsa : sa + 6 ≤ 7301098) : lw_ok sc 166 i M ca sa := by
  obtain ⟨M1, M2, x, q1, q2, h⟩ := lo_nothing (sc := sc) (d := 30) hr (by omega)
  refine ⟨none, none, M2, ca + 0 + 0, sa + 0 + 0, ?_, h, by omega, by omega⟩
  rw [q_dks, lg_c2, if_pos (show ca + 0 ≤ 600128 ∧ sa + 0 ≤ 7301098 by omega), q1, q_cI_s, if_pos (show ca + 0 + 0 ≤ 600128 ∧ sa + 0 + 0 ≤ 7301098 by omega), q2, q_cI_s, if_pos rfl]
set_option maxHeartbeats 1000000 in
theorem lw_c3 {sc : List Int} {i : Int} {M : q_M} {ca sa : Nat} (hsc : ∀ x ∈ sc, q_r x) (hi : 0 ≤ i ∧ i + 3 ≤ (sc.length : Int)) (hl : sc.length ≤ 192) (hr : Rel M M) (hca : ca + 1 ≤ 600128) (hsa : sa + 6 ≤ 7301098) : lw_ok sc 179 i M ca sa := by
  have w1 : 0 ≤ q_w (i + 1) ∧ q_w (i + 1) < (sc.length : Int) := by rw [q_wid (by omega) (by omega)]; omega
  obtain ⟨M1, M2, k, r, q1, q2, q3, ok, h⟩ := lo_row (sc := sc) (d := 30) (t := (sc.getD (q_w (i + 1) : Int).toNat 0)) hr (by omega)
  refine ⟨some (.inl k), some (.inl r), M2, ca + 1 + 0 + 0, sa + 6 + 0 + 0, ?_, h, by omega, by omega⟩
  rw [q_dks, lg_c3, if_pos w1, if_pos (show ca + 1 ≤ 600128 ∧ sa + 6 ≤ 7301098 by omega), q1, q_cI_s, if_pos w1, if_pos (show ca + 1 + 0 ≤ 600128 ∧ sa + 6 + 0 ≤ 7301098 by omega), q2, q_cI_s, if_pos (show ca + 1 + 0 + 0 ≤ 600128 ∧ sa + 6 + 0 + 0 ≤ 7301098 by omega), q3, q_cI_s, if_pos rfl]
  by_cases hk : k = 0
  · have e : M2 81 (0 : Int).toNat = r := ok hk
    rw [if_pos hk, if_pos (show 0 ≤ (0 : Int) ∧ (0 : Int) < ((1 : Nat) : Int) by decide), e, if_pos (lw_cmp r)]
  · rw [if_neg hk]
set_option maxHeartbeats 1000000 in
theorem lw_c4 {sc : List Int} {i : Int} {M : q_M} {ca sa : Nat} (hsc : ∀ x ∈ sc, q_r x) (hi : 0 ≤ i ∧ i + 3 ≤ (sc.length : Int)) (hl : sc.length ≤ 192) (hr : Rel M M) (hca : ca + 1 ≤ 600128) (hsa : sa + 6 ≤ 7301098) : lw_ok sc 235 i M ca sa := by
  have w1 : 0 ≤ q_w (i + 1) ∧ q_w (i + 1) < (sc.length : Int) := by rw [q_wid (by omega) (by omega)]; omega
  obtain ⟨M1, M2, x, q1, q2, h⟩ := lo_drop (sc := sc) (d := 30) (t := (sc.getD (q_w (i + 1) : Int).toNat 0)) hr (by omega)
  refine ⟨none, none, M2, ca + 0 + 0, sa + 0 + 0, ?_, h, by omega, by omega⟩
  rw [q_dks, lg_c4, if_pos w1, if_pos (show ca + 0 ≤ 600128 ∧ sa + 0 ≤ 7301098 by omega), q1, q_cI_s, if_pos w1, if_pos (show ca + 0 + 0 ≤ 600128 ∧ sa + 0 + 0 ≤ 7301098 by omega), q2, q_cI_s, if_pos rfl]
set_option maxHeartbeats 1000000 in
theorem lw_c5 {sc : List Int} {i : Int} {M : q_M} {ca sa : Nat} (hsc : ∀ x ∈ sc, q_r x) (hi : 0 ≤ i ∧ i + 3 ≤ (sc.length : Int)) (hl : sc.length ≤ 192) (hr : Rel M M) (hca : ca + 1 ≤ 600128) (hsa : sa + 6 ≤ 7301098) : lw_ok sc 260 i M ca sa := by
  have w1 : 0 ≤ q_w (i + 1) ∧ q_w (i + 1) < (sc.length : Int) := by rw [q_wid (by omega) (by omega)]; omega
  obtain ⟨M1, M2, x, q1, q2, h⟩ := lo_ask (sc := sc) (d := 30) (c := (sc.getD (q_w (i + 1) : Int).toNat 0) % 65536) hr (by omega)
  refine ⟨none, none, M2, ca + 0 + 0, sa + 0 + 0, ?_, h, by omega, by omega⟩
  rw [q_dks, lg_c5, if_pos w1, if_pos (show ca + 0 ≤ 600128 ∧ sa + 0 ≤ 7301098 by omega), q1, q_cI_s, if_pos w1, if_pos (show ca + 0 + 0 ≤ 600128 ∧ sa + 0 + 0 ≤ 7301098 by omega), q2, q_cI_s, if_pos rfl]
set_option maxHeartbeats 1000000 in
theorem lw_c6 {sc : List Int} {i : Int} {M : q_M} {ca sa : Nat} (hsc : ∀ x ∈ sc, q_r x) (hi : 0 ≤ i ∧ i + 3 ≤ (sc.length : Int)) (hl : sc.length ≤ 192) (hr : Rel M M) (hca : ca + 1 ≤ 600128) (hsa : sa + 6 ≤ 7301098) : lw_ok sc 287 i M ca sa := by
  obtain ⟨M1, M2, k, r, q1, q2, q3, ok, h⟩ := lo_compile (sc := sc) (d := 30) hr (by omega)
  refine ⟨some (.inl k), some (.inl r), M2, ca + 1 + 0 + 0, sa + 6 + 0 + 0, ?_, h, by omega, by omega⟩
  rw [q_dks, lg_c6, if_pos (show ca + 1 ≤ 600128 ∧ sa + 6 ≤ 7301098 by omega), q1, q_cI_s, if_pos (show ca + 1 + 0 ≤ 600128 ∧ sa + 6 + 0 ≤ 7301098 by omega), q2, q_cI_s, if_pos (show ca + 1 + 0 + 0 ≤ 600128 ∧ sa + 6 + 0 + 0 ≤ 7301098 by omega), q3, q_cI_s, if_pos rfl]
  by_cases hk : k = 0
  · have e : M2 81 (0 : Int).toNat = r := ok hk
    rw [if_pos hk, if_pos (show 0 ≤ (0 : Int) ∧ (0 : Int) < ((1 : Nat) : Int) by decide), e, if_pos (lw_cmp r)]
  · rw [if_neg hk]
set_option maxHeartbeats 1000000 in
theorem lw_c7 {sc : List Int} {i : Int} {M : q_M} {ca sa : Nat} (hsc : ∀ x ∈ sc, q_r x) (hi : 0 ≤ i ∧ i + 3 ≤ (sc.length : Int)) (hl : sc.length ≤ 192) (hr : Rel M M) (hca : ca + 1 ≤ 600128) (hsa : sa + 6 ≤ 7301098) : lw_ok sc 331 i M ca sa := by
  obtain ⟨M1, M2, x, q1, q2, h⟩ := lo_place (sc := sc) (d := 30) hr (by omega)
  refine ⟨none, none, M2, ca + 0 + 0, sa + 0 + 0, ?_, h, by omega, by omega⟩
  rw [q_dks, lg_c7, if_pos (show ca + 0 ≤ 600128 ∧ sa + 0 ≤ 7301098 by omega), q1, q_cI_s, if_pos (show ca + 0 + 0 ≤ 600128 ∧ sa + 0 + 0 ≤ 7301098 by omega), q2, q_cI_s, if_pos rfl]
set_option maxHeartbeats 1000000 in
theorem lw_c8 {sc : List Int} {i : Int} {M : q_M} {ca sa : Nat} (hsc : ∀ x ∈ sc, q_r x) (hi : 0 ≤ i ∧ i + 3 ≤ (sc.length : Int)) (hl : sc.length ≤ 192) (hr : Rel M M) (hca : ca + 1 ≤ 600128) (hsa : sa + 6 ≤ 7301098) : lw_ok sc 344 i M ca sa := by
  obtain ⟨M1, M2, k, r, q1, q2, q3, ok, h⟩ := lo_run (sc := sc) (d := 30) hr (by omega)
  refine ⟨some (.inl k), some (.inl r), M2, ca + 1 + 0 + 0, sa + 6 + 0 + 0, ?_, h, by omega, by omega⟩
  rw [q_dks, lg_c8, if_pos (show ca + 1 ≤ 600128 ∧ sa + 6 ≤ 7301098 by omega), q1, q_cI_s, if_pos (show ca + 1 + 0 ≤ 600128 ∧ sa + 6 + 0 ≤ 7301098 by omega), q2, q_cI_s, if_pos (show ca + 1 + 0 + 0 ≤ 600128 ∧ sa + 6 + 0 + 0 ≤ 7301098 by omega), q3, q_cI_s, if_pos rfl]
  by_cases hk : k = 0
  · have e : M2 81 (0 : Int).toNat = r := ok hk
    rw [if_pos hk, if_pos (show 0 ≤ (0 : Int) ∧ (0 : Int) < ((1 : Nat) : Int) by decide), e, if_pos (lw_cmp r)]
  · rw [if_neg hk]
set_option maxHeartbeats 1000000 in
theorem lw_c9 {sc : List Int} {i : Int} {M : q_M} {ca sa : Nat} (hsc : ∀ x ∈ sc, q_r x) (hi : 0 ≤ i ∧ i + 3 ≤ (sc.length : Int)) (hl : sc.length ≤ 192) (hr : Rel M M) (hca : ca + 1 ≤ 600128) (hsa : sa + 6 ≤ 7301098) : lw_ok sc 388 i M ca sa := by
  obtain ⟨M1, M2, x, q1, q2, h⟩ := lo_looked (sc := sc) (d := 30) hr (by omega)
  refine ⟨none, none, M2, ca + 0 + 0, sa + 0 + 0, ?_, h, by omega, by omega⟩
  rw [q_dks, lg_c9, if_pos (show ca + 0 ≤ 600128 ∧ sa + 0 ≤ 7301098 by omega), q1, q_cI_s, if_pos (show ca + 0 + 0 ≤ 600128 ∧ sa + 0 + 0 ≤ 7301098 by omega), q2, q_cI_s, if_pos rfl]
set_option maxHeartbeats 1000000 in
theorem lw_c10 {sc : List Int} {i : Int} {M : q_M} {ca sa : Nat} (hsc : ∀ x ∈ sc, q_r x) (hi : 0 ≤ i ∧ i + 3 ≤ (sc.length : Int)) (hl : sc.length ≤ 192) (hr : Rel M M) (hca : ca + 1 ≤ 600128) (hsa : sa + 6 ≤ 7301098) : lw_ok sc 401 i M ca sa := by
  obtain ⟨M1, M2, x, q1, q2, h⟩ := lo_rows (sc := sc) (d := 30) hr (by omega)
  refine ⟨none, none, M2, ca + 0 + 0, sa + 0 + 0, ?_, h, by omega, by omega⟩
  rw [q_dks, lg_c10, if_pos (show ca + 0 ≤ 600128 ∧ sa + 0 ≤ 7301098 by omega), q1, q_cI_s, if_pos (show ca + 0 + 0 ≤ 600128 ∧ sa + 0 + 0 ≤ 7301098 by omega), q2, q_cI_s, if_pos rfl]
set_option maxHeartbeats 1000000 in
theorem lw_c11 {sc : List Int} {i : Int} {M : q_M} {ca sa : Nat} (hsc : ∀ x ∈ sc, q_r x) (hi : 0 ≤ i ∧ i + 3 ≤ (sc.length : Int)) (hl : sc.length ≤ 192) (hr : Rel M M) (hca : ca + 1 ≤ 600128) (hsa : sa + 6 ≤ 7301098) : lw_ok sc 414 i M ca sa := by
  have w1 : 0 ≤ q_w (i + 1) ∧ q_w (i + 1) < (sc.length : Int) := by rw [q_wid (by omega) (by omega)]; omega
  have w2 : 0 ≤ q_w (i + 2) ∧ q_w (i + 2) < (sc.length : Int) := by rw [q_wid (by omega) (by omega)]; omega
  obtain ⟨M1, M2, x, q1, q2, h⟩ := lo_isNull (sc := sc) (d := 30) (r := (sc.getD (q_w (i + 1) : Int).toNat 0)) (k := (sc.getD (q_w (i + 2) : Int).toNat 0)) hr (by omega)
  refine ⟨none, none, M2, ca + 0 + 0, sa + 0 + 0, ?_, h, by omega, by omega⟩
  rw [q_dks, lg_c11, if_pos w1, if_pos w2, if_pos (show ca + 0 ≤ 600128 ∧ sa + 0 ≤ 7301098 by omega), q1, q_cI_s, if_pos w1, if_pos w2, if_pos (show ca + 0 + 0 ≤ 600128 ∧ sa + 0 + 0 ≤ 7301098 by omega), q2, q_cI_s, if_pos rfl]
set_option maxHeartbeats 1000000 in
theorem lw_c12 {sc : List Int} {i : Int} {M : q_M} {ca sa : Nat} (hsc : ∀ x ∈ sc, q_r x) (hi : 0 ≤ i ∧ i + 3 ≤ (sc.length : Int)) (hl : sc.length ≤ 192) (hr : Rel M M) (hca : ca + 1 ≤ 600128) (hsa : sa + 6 ≤ 7301098) : lw_ok sc 451 i M ca sa := by
  have w1 : 0 ≤ q_w (i + 1) ∧ q_w (i + 1) < (sc.length : Int) := by rw [q_wid (by omega) (by omega)]; omega
  have w2 : 0 ≤ q_w (i + 2) ∧ q_w (i + 2) < (sc.length : Int) := by rw [q_wid (by omega) (by omega)]; omega
  obtain ⟨M1, M2, x, q1, q2, h⟩ := lo_result (sc := sc) (d := 30) (r := (sc.getD (q_w (i + 1) : Int).toNat 0)) (k := (sc.getD (q_w (i + 2) : Int).toNat 0)) hr (by omega)
  refine ⟨none, none, M2, ca + 0 + 0, sa + 0 + 0, ?_, h, by omega, by omega⟩
  rw [q_dks, lg_c12, if_pos w1, if_pos w2, if_pos (show ca + 0 ≤ 600128 ∧ sa + 0 ≤ 7301098 by omega), q1, q_cL_s, if_pos w1, if_pos w2, if_pos (show ca + 0 + 0 ≤ 600128 ∧ sa + 0 + 0 ≤ 7301098 by omega), q2, q_cL_s, if_pos (lw_cmp x)]
def lw_pc (c : Nat) : Nat := [104, 141, 166, 179, 235, 260, 287, 331, 344, 388, 401, 414, 451].getD c 489
theorem lw_case {sc : List Int} {i : Int} {M : q_M} {ca sa : Nat} (hsc : ∀ x ∈ sc, q_r x) (hi : 0 ≤ i ∧ i + 3 ≤ (sc.length : Int)) (hl : sc.length ≤ 192) (hr : Rel M M) (hca : ca + 1 ≤ 600128) (hsa : sa + 6 ≤ 7301098) : ∀ c, c < 13 → lw_ok sc (lw_pc c : Int) i M ca sa
  | 0, _ => lw_c0 hsc hi hl hr hca hsa
  | 1, _ => lw_c1 hsc hi hl hr hca hsa
  | 2, _ => lw_c2 hsc hi hl hr hca hsa
  | 3, _ => lw_c3 hsc hi hl hr hca hsa
  | 4, _ => lw_c4 hsc hi hl hr hca hsa
  | 5, _ => lw_c5 hsc hi hl hr hca hsa
  | 6, _ => lw_c6 hsc hi hl hr hca hsa
  | 7, _ => lw_c7 hsc hi hl hr hca hsa
  | 8, _ => lw_c8 hsc hi hl hr hca hsa
  | 9, _ => lw_c9 hsc hi hl hr hca hsa
  | 10, _ => lw_c10 hsc hi hl hr hca hsa
  | 11, _ => lw_c11 hsc hi hl hr hca hsa
  | 12, _ => lw_c12 hsc hi hl hr hca hsa
  | c + 13, h => absurd h (by omega)
set_option maxRecDepth 20000 in
theorem lg_l39 {α : Type} {sc : List Int} {orc : q_O} {M : q_M} {ca sa : Nat} {k : Nat → q_T → Option α} {i : Int} : q_dk orc (pg_P sc) false 600128 7301098 13 pI_L_law [39] k 1000 false (q_seek (32 : Int) pI_L_law) [some (.inr (.inr 3000)), some (.inr (.inr 0)), some (.inr (.inr 49)), some (.inr (.inr 81)), some (.inl (i)), none, none] [] GF M ca sa =
  if 0 ≤ i ∧ i < (sc.length : Int) then
  k 39 ([some (.inr (.inr 3000)), some (.inr (.inr 0)), some (.inr (.inr 49)), some (.inr (.inr 81)), some (.inl (i)), none, none], [.inl ((sc.getD (i : Int).toNat 0) % 16)], GF, M, ca, sa)
  else none := by
  rfl
