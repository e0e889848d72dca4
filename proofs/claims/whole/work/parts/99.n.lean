/-! the claim -/
theorem lw_first {p : Program} {l0 : Launch} {e : Env} {s : State} {m : MethodId} {below : List Frame} {meth : Method} {c : Code} {b : Nat} {D : va_G} {cT : Nat → ClassId} {sc : List Int} (hl0 : l0.stackTraces = false) (h1 : sc.length ≤ 192) (h2 : ∀ x ∈ sc, q_r x) (X : q_X p s m #[Value.ref b] meth c pg_Rn 13 cL_law 7 false D cT (fun q => s.heap.size ≤ q)) (hrt : meth.sig.returnType = ret) (hlocks : meth.locks = false) {M : q_M} (hd : q_den (lo sc 30) (pg_P sc) false 600128 7301098 13 in_I [23] 1000 false (q_seek (0 : Int) in_I) [some (.inr (.inr 3000)), none, none, none, none, none, none] [] [] (fun _ _ => 0) 0 0 = some (23, in_l, [], GF, M, 82, 4713)) (hr : Rel M M) {ad : Nat → Nat} {ls : Array Slot} (Y : q_Y (pg_P sc) pg_NW pg_SR s 7 D cT (fun q => s.heap.size ≤ q) ad [some (.inr (.inr 3000)), none, none, none, none, none, none] [] [] (fun _ _ => 0) s.heap [] ls) : W p l0 e room_1 s m #[Value.ref b] below meth c s.heap [] 0 0 (lw_Z below #[Value.ref b] s) (F0 m 0 ls []) := by
  refine lw_seg (I := in_I) (sp := [23]) (st := []) (pc := 0) (pc' := 23) (T := (in_l, [], GF, M, 82, 4713)) hl0 (by omega) h2 X in_Iok Y hd (fun ad1 H1 locs1 ls1 ha hle Y1 => ?_)
  have Y2 : q_Y (pg_P sc) pg_NW pg_SR s 7 D cT (fun q => s.heap.size ≤ q) ad1 [some (.inr (.inr 3000)), some (.inr (.inr 0)), some (.inr (.inr 49)), some (.inr (.inr 81)), some (.inl ((0 : Nat) : Int)), none, none] [] GF M H1 locs1 ls1 := Y1
  exact lw_loop hl0 h1 h2 X hrt hlocks (sc.length + 1) 0 M 82 4713 ad1 H1 locs1 ls1 (by omega) (by omega) (by omega) (by omega) hr Y2
set_option maxHeartbeats 4000000 in
theorem whole_start {p : Program} {e : Env} {s : State} {m : MethodId} {below : List Frame} {meth : Method} {c : Code} (l : Launch) (hl0 : l.stackTraces = false) {b L : Nat} {xs : Nat → Int32} (hL : L ≤ 192) (C0 : lw_At p s m meth c b L xs) : W p l e room_1 s m #[Value.ref b] below meth c s.heap [] 0 0 (lw_Z below #[Value.ref b] s) (entryFrame m ([Value.ref b] : List Value).toArray 7) := by
  obtain ⟨hx, hb, hr, hml, hown, hts, hX, hbl, hlocks, hgv⟩ := C0
  obtain ⟨D, cT, hK⟩ := ls_K hts m.cls
  have hlen : ((List.range L).map (fun j => (xs j).toInt)).length = L := by simp
  have hsc : ∀ x ∈ (List.range L).map (fun j => (xs j).toInt), q_r x := by
    intro x hx
    obtain ⟨j, -, rfl⟩ := List.mem_map.mp hx
    have h9 : q_r ((xs j).toInt) := ⟨by have := Int32.le_toInt (xs j); omega, by have := Int32.toInt_lt (xs j); omega⟩
    exact h9
  have hget : ∀ j, j < L → Int32.ofInt (((List.range L).map (fun j => (xs j).toInt)).getD j 0) = xs j := by
    intro j hj
    rw [List.getD_eq_getElem?_getD, List.getElem?_map, List.getElem?_range hj]
    exact Int32.ofInt_toInt _
  generalize (List.range L).map (fun j => (xs j).toInt) = sc at hlen hsc hget
  obtain ⟨ad, e3, hE⟩ := ls_E hts hgv hX hbl hlen (by omega) hget
  subst e3
  have X : q_X p s m #[Value.ref (ad 3000)] meth c pg_Rn 13 cL_law 7 false D cT (fun q => s.heap.size ≤ q) := ⟨hx, hb, hml, hown, fun w hw => hts w (List.mem_filter.mp hw).1, hK, fun q h => h, fun h => by cases h⟩
  show W p l e room_1 s m #[Value.ref (ad 3000)] below meth c s.heap [] 0 0 (lw_Z below #[Value.ref (ad 3000)] s) (entryFrame m (([.inr (.inr 3000)] : List q_V).map (q_cv ad)).toArray 7)
  rw [lg_entry_eq]
  obtain ⟨hl1, hl2, hl3⟩ := q_lc_entry (ad := ad) (as := [.inr (.inr 3000)]) (n := 7) (Nat.le_of_ble_eq_true rfl)
  generalize (lg_sl (([.inr (.inr 3000)] : List q_V).map (q_cv ad)) ++ List.replicate (7 - (lg_sl (([.inr (.inr 3000)] : List q_V).map (q_cv ad))).length) Slot.unset).toArray = ls at hl1 ⊢
  have Y : q_Y (pg_P sc) pg_NW pg_SR s 7 D cT (fun q => s.heap.size ≤ q) ad [some (.inr (.inr 3000)), none, none, none, none, none, none] [] [] (fun _ _ => 0) s.heap [] ls := by
    refine ⟨fun k q h => (by simp [q_ws] at h), ⟨fun i j p q h => (by simp [q_ws] at h), fun k q h => (by simp [q_ws] at h)⟩, va_S.rf, ⟨(by decide), fun k ci rs h => (by simp at h), fun k t n h => (by simp at h)⟩, fun k j => ⟨q_r_6 q_0r, fun _ => q_0r⟩, hl1, fun v hv => ?_, fun v hv => absurd hv List.not_mem_nil, rfl, hE⟩
    have h9 := List.mem_singleton.mp (hl3 v hv)
    subst h9
    exact Or.inr (by decide)
  exact lw_first hl0 (by omega) hsc X hr hlocks in_5 in_R Y
