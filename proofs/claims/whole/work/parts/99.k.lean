/-! what the statement gives of the start -/
theorem ls_t {args : Array Value} {s : State} (hts : ∀ w ∈ lw_tbl, w.before args s = true) {i : Nat} {w : Cond} (h : tables_1[i]? = some w) : w.before args s = true := hts w (List.mem_append_right _ (List.mem_of_getElem? h))
set_option maxRecDepth 100000 in
theorem ls_in : ∀ k ∈ List.range 13, ∀ q, vwCl[k]? = some q → tables_1[[276, 256, 296, 115, 226, 109, 146, 36, 73, 87, 57, 28, 1163].getD k 0]? = some (.instantiable q.1 q.2.2) := by
  intro k hk q hq
  have hk : k < 13 := List.mem_range.mp hk
  match k, hk, hq with
  | 0, _, hq => cases hq; decide +kernel
  | 1, _, hq => cases hq; decide +kernel
  | 2, _, hq => cases hq; decide +kernel
  | 3, _, hq => cases hq; decide +kernel
  | 4, _, hq => cases hq; decide +kernel
  | 5, _, hq => cases hq; decide +kernel
  | 6, _, hq => cases hq; decide +kernel
  | 7, _, hq => cases hq; decide +kernel
  | 8, _, hq => cases hq; decide +kernel
  | 9, _, hq => cases hq; decide +kernel
  | 10, _, hq => cases hq; decide +kernel
  | 11, _, hq => cases hq; decide +kernel
  | 12, _, hq => cases hq; decide +kernel
/-- classes and array classes, as the tables have them -/
theorem ls_K {args : Array Value} {s : State} (hts : ∀ w ∈ lw_tbl, w.before args s = true) (c0 : ClassId) : ∃ (D : va_G) (cT : Nat → ClassId), va_K D vwCl (q_tys cT) s := by
  have hW : ∀ w ∈ q_WT, w.before args s = true := fun w hw => hts w (List.mem_filter.mp hw).1
  have h0 : ∀ k : Nat, ∃ z : ClassId × (Nat → Nat), ∀ q, vwCl[k]? = some q → u_Kn s q.1 q.2.1 q.2.2 z.1 z.2 := by
    intro k
    rcases hq : vwCl[k]? with _ | ⟨C, T, N⟩
    · exact ⟨(c0, fun _ => 0), fun q h => by cases h⟩
    · have hk : k < 13 := (List.getElem?_eq_some_iff.mp hq).1
      obtain ⟨-, -, -, hin, -⟩ := pg_Cok (sc := []) k C T N hq
      obtain ⟨cC, iS, h⟩ := u_known (C := C) (T := T) (N := N) (n := N) hW hin (ls_t hts (ls_in k (List.mem_range.mpr hk) _ hq))
      exact ⟨(cC, iS), fun q h' => by cases h'; exact h⟩
  obtain ⟨f, hf⟩ := Classical.axiomOfChoice h0
  have ha : ∀ ty : FieldType, (∀ C, ty ≠ .object C) → Cond.arrayClass ty ∈ q_WT → ∃ cA : ClassId, ArrOfT s cA ty ∧ va_RA s cA ty := by
    intro ty hty hw
    obtain ⟨cA, kA, comp, h1, h2, h3⟩ := Cond.arrayClass_spec (args := args) (first := s) (o := none) (s := s) (idx := []) (hW _ hw)
    refine ⟨cA, fun n z => ⟨fun k h => (by cases h), kA, h2, comp, h3⟩, ?_⟩
    cases ty with
    | object C => exact absurd rfl (hty C)
    | _ => exact h1
  obtain ⟨w1, w2, w3, w4⟩ := pg_Aok
  obtain ⟨t0, a0⟩ := ha .int (fun C h => by cases h) w1
  obtain ⟨t1, a1⟩ := ha .boolean (fun C h => by cases h) w2
  obtain ⟨t2, a2⟩ := ha .char (fun C h => by cases h) w3
  obtain ⟨t3, a3⟩ := ha .long (fun C h => by cases h) w4
  refine ⟨(fun k => (f k).1, fun k => (f k).2), fun t => [t0, t1, t2, t3].getD t t0, fun k q h => hf k q h, fun k q h => ?_⟩
  match k, h with
  | 0, h => cases h; exact a0
  | 1, h => cases h; exact a1
  | 2, h => cases h; exact a2
  | 3, h => cases h; exact a3
  | k + 4, h => cases h
def ls_tm (i : Nat) : Term := match pg_SR[i]? with
  | some r => .string r.1 r.2.1
  | none => .arg 0
def ls_v (i : Nat) : Term := .field (ls_tm i) "java/lang/String" "value" "[B"
def ls_len : List Nat := pg_SB.map List.length
def ls_byt : List (List Int32) := pg_SB.map (List.map Int32.ofInt)
def ls_X (i : Nat) : List Cond := [.exactly (ls_tm i) "java/lang/String", .eq (.field (ls_tm i) "java/lang/String" "coder" "B") (.int 0), .arrayOf (ls_v i) .byte, .eq (.length (ls_v i)) (.int (Int32.ofNat (ls_len.getD i 0)))] ++ ((List.range (ls_len.getD i 0)).map (fun j => Cond.eq (.elem (ls_v i) (.int (Int32.ofNat j))) (.int ((ls_byt.getD i []).getD j 0))) ++ (List.range i).map (fun j => Cond.not (.eq (ls_tm j) (ls_tm i))))
set_option maxRecDepth 100000 in
theorem ls_Xok : (flatC (Jvm.Cond.and given_1 narrow_1)).drop 56 = (List.range 22).flatMap ls_X := by decide +kernel
theorem ls_Xin {i : Nat} {w : Cond} (hi : i < 22) (h : w ∈ ls_X i) : w ∈ flatC (Jvm.Cond.and given_1 narrow_1) := List.mem_of_mem_drop (i := 56) (by rw [ls_Xok]; exact List.mem_flatMap.mpr ⟨i, List.mem_range.mpr hi, h⟩)
set_option maxRecDepth 100000 in
theorem ls_lt : ∀ i ∈ List.range 22, ls_len.getD i 0 < 2 ^ 31 := by decide +kernel
set_option maxRecDepth 100000 in
theorem ls_SR : ∀ r ∈ pg_SR, pg_SR[r.2.2.2]? = some r ∧ r.2.2.2 < 22 ∧ tables_1[[529, 565, 606, 659, 660, 661, 662, 663, 664, 665, 666, 667, 668, 669, 670, 671, 672, 673, 691, 997, 1024, 1155].getD r.2.2.2 0]? = some (.stringRef r.1 r.2.1 r.2.2.1) := by decide +kernel
set_option maxRecDepth 100000 in
theorem ls_NW : ∀ w ∈ pg_NW, ∃ i ∈ [37, 58, 74, 88, 110, 116, 277, 909, 945], tables_1[i]? = some (.methodLinkNest w.1 w.2.1 w.2.2.1 w.2.2.2) := by decide +kernel
set_option maxRecDepth 100000 in
theorem ls_DL : ∀ x ∈ q_DL, ∃ i ∈ [491, 492, 493, 494, 495, 496], tables_1[i]? = some (.declares x) := by decide +kernel
set_option maxRecDepth 100000 in
theorem ls_CL : ∀ x ∈ q_CL, ∃ i ∈ [490, 558, 1148], tables_1[i]? = some (.castable x x) := by decide +kernel
set_option maxRecDepth 100000 in
theorem ls_NC : ∀ x ∈ q_NC, ∃ i ∈ [24, 40], (flatC (Jvm.Cond.and given_1 narrow_1))[i]? = some (.not (.castable x.1 x.2)) := by decide +kernel
set_option maxRecDepth 100000 in
theorem ls_ZS : ∀ z ∈ q_ZS, (∃ i ∈ [515, 517, 636], tables_1[i]? = some (.laysStatic z.1 z.2.1 z.2.2)) ∧ (∃ i ∈ [14, 21], tables_1[i]? = some (.initialized z.1)) ∧ ∃ i ∈ [4, 5, 7], (flatC (Jvm.Cond.and given_1 narrow_1))[i]? = some (.isRef (.static z.1 z.2.1 z.2.2)) := by decide +kernel
set_option maxRecDepth 100000 in
theorem ls_CS : tables_1[620]? = some (.laysStatic "java/lang/String" "COMPACT_STRINGS" "Z") ∧ tables_1[19]? = some (.initialized "java/lang/String") ∧ (flatC (Jvm.Cond.and given_1 narrow_1))[6]? = some (.eq (.static "java/lang/String" "COMPACT_STRINGS" "Z") (.int 1)) := by decide +kernel
/-- the start's surroundings -/
theorem ls_E {args : Array Value} {s : State} {b L : Nat} {xs : Nat → Int32} {sc : List Int} (hts : ∀ w ∈ lw_tbl, w.before args s = true) (hgv : (Jvm.Cond.and given_1 narrow_1).before args s = true) (hX : va_X b L xs s s.heap) (hbl : b < s.heap.size) (hL : sc.length = L) (hL2 : L < 1000) (hsc : ∀ j, j < L → Int32.ofInt (sc.getD j 0) = xs j) : ∃ ad : Nat → Nat, ad 3000 = b ∧ q_E (pg_P sc) pg_NW pg_SR ad (fun q => s.heap.size ≤ q) s s.heap := by
  have hA : ∀ a : Nat, a < s.heap.size → ¬ (fun q : Nat => s.heap.size ≤ q) a := fun a h => Nat.not_le.mpr h
  have hF : ∀ w ∈ flatC (Jvm.Cond.and given_1 narrow_1), w.before args s = true := flat_of_before _ hgv
  have hFi : ∀ {i : Nat} {w : Cond}, (flatC (Jvm.Cond.and given_1 narrow_1))[i]? = some w → w.before args s = true := fun h => hF _ (List.mem_of_getElem? h)
  obtain ⟨adK, adV, hS, hT⟩ := vk_Sof (args := args) (s := s) (N := 22) (tm := ls_tm) (len := ls_len) (byt := ls_byt) (A := fun q => s.heap.size ≤ q) (fun i hi => ls_lt i (List.mem_range.mpr hi))
    (fun i hi => hF _ (ls_Xin hi (List.mem_append_left _ List.mem_cons_self)))
    (fun i hi => hF _ (ls_Xin hi (List.mem_append_left _ (List.mem_cons_of_mem _ List.mem_cons_self))))
    (fun i hi => hF _ (ls_Xin hi (List.mem_append_left _ (List.mem_cons_of_mem _ (List.mem_cons_of_mem _ List.mem_cons_self)))))
    (fun i hi => hF _ (ls_Xin hi (List.mem_append_left _ (List.mem_cons_of_mem _ (List.mem_cons_of_mem _ (List.mem_cons_of_mem _ List.mem_cons_self))))))
    (fun i hi j hj => hF _ (ls_Xin hi (List.mem_append_right _ (List.mem_append_left _ (List.mem_map.mpr ⟨j, List.mem_range.mpr hj, rfl⟩)))))
    (fun i j hi hj hij => by
      rcases Nat.lt_or_gt_of_ne hij with h | h
      · exact Or.inl (hF _ (ls_Xin hj (List.mem_append_right _ (List.mem_append_right _ (List.mem_map.mpr ⟨i, List.mem_range.mpr h, rfl⟩)))))
      · exact Or.inr (hF _ (ls_Xin hi (List.mem_append_right _ (List.mem_append_right _ (List.mem_map.mpr ⟨j, List.mem_range.mpr h, rfl⟩)))))) hA
  have e3 : (fun k : Nat => if k = 3000 then b else if 2000 ≤ k then adV (k - 2000) else adK (k - 1000)) 3000 = b := if_pos rfl
  have e1 : ∀ i, i < 22 → (fun k : Nat => if k = 3000 then b else if 2000 ≤ k then adV (k - 2000) else adK (k - 1000)) (1000 + i) = adK i := fun i hi => by
    show (if 1000 + i = 3000 then b else if 2000 ≤ 1000 + i then adV (1000 + i - 2000) else adK (1000 + i - 1000)) = adK i
    rw [if_neg (by omega), if_neg (by omega), Nat.add_sub_cancel_left]
  have e2 : ∀ i, i < 22 → (fun k : Nat => if k = 3000 then b else if 2000 ≤ k then adV (k - 2000) else adK (k - 1000)) (2000 + i) = adV i := fun i hi => by
    show (if 2000 + i = 3000 then b else if 2000 ≤ 2000 + i then adV (2000 + i - 2000) else adK (2000 + i - 1000)) = adV i
    rw [if_neg (by omega), if_pos (by omega), Nat.add_sub_cancel_left]
  generalize (fun k : Nat => if k = 3000 then b else if 2000 ≤ k then adV (k - 2000) else adK (k - 1000)) = ad at e1 e2 e3
  refine ⟨ad, e3, fun w hw => ?_, fun r hr => ?_, ⟨fun i hi => ?_, fun i j hi hj h => ?_⟩, ?_, ?_, fun z hz => ?_, fun x hx => ?_, fun x hx => ?_, fun x hx => ?_⟩
  · obtain ⟨i, -, h⟩ := ls_NW w hw
    exact va_Nw.of rfl (ls_t hts h)
  · obtain ⟨h1, h2, h3⟩ := ls_SR r hr
    rw [e1 _ h2]
    refine vk_R.of (ls_t hts h3) ?_
    have h4 := hT _ h2
    unfold ls_tm at h4
    rw [h1] at h4
    exact h4
  · have hi : i < 22 := hi
    show va_O "java/lang/String" (ad (1000 + i)) _ s s.heap ∧ va_OF "java/lang/String" "coder" "B" (.int 0) (ad (1000 + i)) _ s s.heap ∧ va_OF "java/lang/String" "value" "[B" (.ref (ad (2000 + i))) (ad (1000 + i)) _ s s.heap ∧ va_T .byte (ad (2000 + i)) (ls_len.getD i 0) (fun j => .int ((ls_byt.getD i []).getD j 0)) _ s s.heap
    rw [e1 i hi, e2 i hi]
    exact hS.1 i hi
  · have h : ad (1000 + i) = ad (1000 + j) := h
    rw [e1 i hi, e1 j hj] at h
    exact hS.2 i j hi hj h
  · exact va_Zof (ls_t hts ls_CS.1) (ls_t hts ls_CS.2.1) (va_eqt (hFi ls_CS.2.2)) hA
  · obtain ⟨scr, x1, x2, x3, x4, x5⟩ := hX
    refine ⟨scr, by rw [e3]; exact x1, x2, x3, ?_, ?_, fun j hj => ?_, ?_⟩
    · show sc.length ≤ _
      omega
    · show _ = Int32.ofNat sc.length
      rw [x4, hL]
    · have hj : j < sc.length := hj
      rw [x5 j (by omega)]
      show some (Value.int (xs j)) = some (Value.int (Int32.ofInt (sc.getD j 0)))
      rw [hsc j (by omega)]
    · rw [e3]; exact hA b hbl
  · obtain ⟨⟨i, -, h1⟩, ⟨j, -, h2⟩, k, -, h3⟩ := ls_ZS z hz
    exact vx_Zqof (ls_t hts h1) (ls_t hts h2) (hFi h3) hA
  · obtain ⟨i, -, h⟩ := ls_DL x hx
    exact va_Nw.of rfl (ls_t hts h)
  · obtain ⟨i, -, h⟩ := ls_CL x hx
    exact va_Nw.of rfl (ls_t hts h)
  · obtain ⟨i, -, h⟩ := ls_NC x hx
    exact va_Nc.of (hFi h)
