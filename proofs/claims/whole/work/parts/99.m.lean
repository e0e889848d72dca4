/-! THE CLAIM OUT OF ONE WALK OF THE LAW'S BODY. Your part is whole_start (and what it stands on); all else here is the same for every law, but numbers. -/
def R_law : String := "QueryLoopsLaw"
def lw_P (b : Addr) (xs : List Int32) (args : Array Value) (s : State) : Prop := args = #[.ref b] ∧ s.IntsAt b xs ∧ xs.length ≤ 192 ∧ (Jvm.Cond.and given_1 narrow_1).before args s = true
def lw_Q (_ : Array Value) (s : State) (o : Outcome) (t : State) : Prop := o = .returned (some (.int 1)) ∧ Framed s o t [] 600128 7301098
def lw_Z (below : List Frame) (a : Array Value) (s : State) : State → Prop := fun t => ∃ o, t.status = .running ∧ Ended t below o ∧ lw_Q a s o t
/-- the law's own end, with 1 on the stack, nothing written that was there before, its room as the claim has it -/
theorem lw_ret {p : Program} {l : Launch} {e : Env} {s : State} {m : MethodId} {below : List Frame} {meth : Method} {c : Code} {b : Nat} (hx : p.tables.exec = Jvm.exec) (hb : c.code = code) (hr : meth.sig.returnType = ret) (hlocks : meth.locks = false) {pc : Nat} {H : Heap} {ls : Array Slot} (hdg : decode code pc = .ok (.ireturn, 1)) : W p l e room_1 s m #[Value.ref b] below meth c H [] 600128 7301098 (lw_Z below #[Value.ref b] s) (F0 m pc ls [.int 1]) := by
  intro T hT X
  obtain ⟨fs, hret, hrun, hended, hW, hframe⟩ := X.leave (v := some (.int 1)) (hlocks := hlocks) (fun h => by rw [hr] at h; cases h)
  have hmeth' : T.vm.method? m = some meth := X.method'
  refine ⟨T.setFrames fs, ?_, .returned (some (.int 1)), hrun, hended, rfl, ⟨_, rfl⟩, hW, hframe⟩
  jvm_step X.here [X.here.top, hx, hb, hdg, hmeth', hr, ret, narrow_b1]
  (try refine ⟨rfl, ?_⟩); (try refine ⟨rfl, ?_⟩)
  first | (intro acts; rw [hret _ acts rfl rfl rfl]) | rw [hret _ _ rfl rfl rfl]
  exact Steps.refl _
/-- what holds at the law's entry: the machine, the code, the tables' words (any of lw_tbl by 'hts w (by decide +kernel)'), the script of L ints xs at the cell b, what the Statement gives of the start (any of its parts by flat_of_before) -/
def lw_At (p : Program) (s : State) (m : MethodId) (meth : Method) (c : Code) (b L : Nat) (xs : Nat → Int32) : Prop :=
  p.tables.exec = Jvm.exec ∧ c.code = code ∧ meth.sig.returnType = ret ∧ c.maxLocals = 7 ∧ s.vm.findClass R_law = some m.cls ∧ (∀ w ∈ lw_tbl, w.before #[Value.ref b] s = true) ∧ va_X b L xs s s.heap ∧ b < s.heap.size ∧ meth.locks = false ∧ (Jvm.Cond.and given_1 narrow_1).before #[Value.ref b] s = true
/-! the law's loop over the machine -/
theorem lw_d29 : decode cL_law 29 = .ok (.if_icmp .gt 466, 3) := by decide +kernel
theorem lw_d39 : decode cL_law 39 = .ok (.tableswitch 450 0 12 #[65, 102, 127, 140, 196, 221, 248, 292, 305, 349, 362, 375, 412], 65) := by decide +kernel
theorem lw_d495 : decode cL_law 495 = .ok (.iconst 1, 1) := by decide +kernel
theorem lw_d496 : decode cL_law 496 = .ok (.ireturn, 1) := by decide +kernel
theorem lw_tab : ∀ c, c < 13 → (#[65, 102, 127, 140, 196, 221, 248, 292, 305, 349, 362, 375, 412] : Array Int)[c]? = some ((lw_pc c : Int) - 39) := by decide
section LWL
variable {p : Program} {l0 : Launch} {e : Env} {s : State} {m : MethodId} {below : List Frame} {meth : Method} {c : Code} {b : Nat} {D : va_G} {cT : Nat → ClassId} {sc : List Int}
/-- a segment of the law -/
theorem lw_seg {I : q_I} (hl0 : l0.stackTraces = false) (h1 : sc.length < 1000) (h2 : ∀ x ∈ sc, q_r x) (X : q_X p s m #[Value.ref b] meth c pg_Rn 13 cL_law 7 false D cT (fun q => s.heap.size ≤ q)) (hI : q_Iok cL_law I) {sp : List Nat} {l : q_L} {st : List q_V} {G : q_G} {M : q_M} {ca sa pc pc' : Nat} {T : q_T} {ad : Nat → Nat} {H : Heap} {locs : List Loc} {ls : Array Slot} {Q : State → Prop} (Y : q_Y (pg_P sc) pg_NW pg_SR s 7 D cT (fun q => s.heap.size ≤ q) ad l st G M H locs ls) (hd : q_den (lo sc 30) (pg_P sc) false 600128 7301098 13 I sp 1000 false (q_seek (pc : Int) I) l st G M ca sa = some (pc', T))
    (kk : q_KK p l0 e room_1 s m #[Value.ref b] below meth c Q (pg_P sc) pg_NW pg_SR 7 D cT (fun q => s.heap.size ≤ q) ad G pc' T) : W p l0 e room_1 s m #[Value.ref b] below meth c H locs ca sa Q (F0 m pc ls (st.map (q_cv ad))) := by
  obtain ⟨a1, a2, a3⟩ := q_seek_ok (t := (pc : Int)) hI.1
  exact q_den_s X (pg_Tb h1 h2) (lo_hO (d := 30) hl0 h1 h2 (by omega)) (by show 33 ≤ 2048; omega) (by show 64 * 33 ≤ 84000; omega) (Nat.le_refl _) (Nat.le_refl _) hI 1000 false _ l st G M ca sa ad H locs ls pc pc' T a1 a2 (fun q l' hq => by have := a3 q l' hq; omega) Y hd kk
/-- the loop's end: i goes on -/
theorem lw_inc (hl0 : l0.stackTraces = false) (h1 : sc.length ≤ 192) (h2 : ∀ x ∈ sc, q_r x) (X : q_X p s m #[Value.ref b] meth c pg_Rn 13 cL_law 7 false D cT (fun q => s.heap.size ≤ q)) {i : Nat} (hi : i + 3 ≤ sc.length) {x y : Option q_V} {M : q_M} {ca sa : Nat} {ad : Nat → Nat} {H : Heap} {locs : List Loc} {ls : Array Slot} {Q : State → Prop} (Y : q_Y (pg_P sc) pg_NW pg_SR s 7 D cT (fun q => s.heap.size ≤ q) ad [some (.inr (.inr 3000)), some (.inr (.inr 0)), some (.inr (.inr 49)), some (.inr (.inr 81)), some (.inl (i : Int)), x, y] [] GF M H locs ls)
    (k : ∀ (ad : Nat → Nat) (H : Heap) (locs : List Loc) (ls : Array Slot), q_Y (pg_P sc) pg_NW pg_SR s 7 D cT (fun q => s.heap.size ≤ q) ad [some (.inr (.inr 3000)), some (.inr (.inr 0)), some (.inr (.inr 49)), some (.inr (.inr 81)), some (.inl ((i + 3 : Nat) : Int)), none, none] [] GF M H locs ls → W p l0 e room_1 s m #[Value.ref b] below meth c H locs ca sa Q (F0 m 23 ls [])) : W p l0 e room_1 s m #[Value.ref b] below meth c H locs ca sa Q (F0 m 489 ls []) := by
  have em : q_mask [0, 1, 2, 3, 4] [some (.inr (.inr 3000)), some (.inr (.inr 0)), some (.inr (.inr 49)), some (.inr (.inr 81)), some (.inl (i : Int)), x, y] = [some (.inr (.inr 3000)), some (.inr (.inr 0)), some (.inr (.inr 49)), some (.inr (.inr 81)), some (.inl (i : Int)), none, none] := rfl
  have Y1 : q_Y (pg_P sc) pg_NW pg_SR s 7 D cT (fun q => s.heap.size ≤ q) ad [some (.inr (.inr 3000)), some (.inr (.inr 0)), some (.inr (.inr 49)), some (.inr (.inr 81)), some (.inl (i : Int)), none, none] [] GF M H locs ls := by
    rw [← em]
    exact Y.lc (fun v hv => by cases hv) ⟨by rw [q_mask_len]; exact Y.2.2.2.2.2.1.1, Y.2.2.2.2.2.1.2.1, fun i v hv => Y.2.2.2.2.2.1.2.2 i v (q_mask_get hv)⟩ (fun v hv => by
      obtain ⟨i, hi⟩ := List.getElem?_of_mem hv
      exact Y.2.2.2.2.2.2.1 v (List.mem_of_getElem? (q_mask_get hi))) (by rw [q_mask_len]; exact Y.2.2.2.2.2.2.2.2.1)
  have hd : q_den (lo sc 30) (pg_P sc) false 600128 7301098 13 pI_L_law [23] 1000 false (q_seek ((489 : Nat) : Int) pI_L_law) [some (.inr (.inr 3000)), some (.inr (.inr 0)), some (.inr (.inr 49)), some (.inr (.inr 81)), some (.inl (i : Int)), none, none] [] GF M ca sa = some (23, [some (.inr (.inr 3000)), some (.inr (.inr 0)), some (.inr (.inr 49)), some (.inr (.inr 81)), some (.inl ((i + 3 : Nat) : Int)), none, none], [], GF, M, ca, sa) := by
    have e3 : q_w ((i : Int) + 3) = ((i + 3 : Nat) : Int) := (q_wid (by omega) (by omega)).trans (by omega)
    rw [q_dks, ← e3]
    exact lg_inc
  exact lw_seg hl0 (by omega) h2 X pK_L_law (pc := 489) Y1 hd (fun ad1 H1 locs1 ls1 ha hle Y2 => k ad1 H1 locs1 ls1 Y2)
set_option maxHeartbeats 4000000 in
/-- once round -/
theorem lw_iter (hl0 : l0.stackTraces = false) (h1 : sc.length ≤ 192) (h2 : ∀ x ∈ sc, q_r x) (X : q_X p s m #[Value.ref b] meth c pg_Rn 13 cL_law 7 false D cT (fun q => s.heap.size ≤ q)) (hrt : meth.sig.returnType = ret) (hlocks : meth.locks = false) {i : Nat} (hi : i ≤ 400) {M : q_M} {ca sa : Nat} (hca : ca + 1 ≤ 600128) (hsa : sa + 6 ≤ 7301098) (hr : Rel M M) {ad : Nat → Nat} {H : Heap} {locs : List Loc} {ls : Array Slot} (Y : q_Y (pg_P sc) pg_NW pg_SR s 7 D cT (fun q => s.heap.size ≤ q) ad [some (.inr (.inr 3000)), some (.inr (.inr 0)), some (.inr (.inr 49)), some (.inr (.inr 81)), some (.inl (i : Int)), none, none] [] GF M H locs ls)
    (k : i + 3 ≤ sc.length → ∀ (M : q_M) (ca' sa' : Nat) (ad : Nat → Nat) (H : Heap) (locs : List Loc) (ls : Array Slot), ca' ≤ ca + 1 → sa' ≤ sa + 6 → Rel M M → q_Y (pg_P sc) pg_NW pg_SR s 7 D cT (fun q => s.heap.size ≤ q) ad [some (.inr (.inr 3000)), some (.inr (.inr 0)), some (.inr (.inr 49)), some (.inr (.inr 81)), some (.inl ((i + 3 : Nat) : Int)), none, none] [] GF M H locs ls → W p l0 e room_1 s m #[Value.ref b] below meth c H locs ca' sa' (lw_Z below #[Value.ref b] s) (F0 m 23 ls [])) : W p l0 e room_1 s m #[Value.ref b] below meth c H locs ca sa (lw_Z below #[Value.ref b] s) (F0 m 23 ls []) := by
  have hx := X.1
  have hb := X.2.1
  have d1 : q_den (lo sc 30) (pg_P sc) false 600128 7301098 13 pI_L_law [29] 1000 false (q_seek ((23 : Nat) : Int) pI_L_law) [some (.inr (.inr 3000)), some (.inr (.inr 0)), some (.inr (.inr 49)), some (.inr (.inr 81)), some (.inl (i : Int)), none, none] [] GF M ca sa = some (29, [some (.inr (.inr 3000)), some (.inr (.inr 0)), some (.inr (.inr 49)), some (.inr (.inr 81)), some (.inl (i : Int)), none, none], [.inl (q_w ((sc.length : Int) - 3)), .inl (i : Int)], GF, M, ca, sa) := by
    rw [q_dks]
    exact lg_head
  refine lw_seg hl0 (by omega) h2 X pK_L_law (pc := 23) Y d1 (fun ad1 H1 locs1 ls1 ha hle Y1 => ?_)
  dsimp only at Y1 ⊢
  have ew : q_w ((sc.length : Int) - 3) = (sc.length : Int) - 3 := q_wid (by omega) (by omega)
  refine q_icmp_s (tgt := 495) (rest := []) hx hb (x := (i : Int)) (y := q_w ((sc.length : Int) - 3)) ⟨by omega, by omega⟩ (q_w_r _) lw_d29 (by decide) (fun _ => ?_) (fun hle2 => ?_)
  · refine va_forget (fun q hq => Y1.2.2.1.2.2 q hq) ?_
    refine W.widen (k := 600128) (n := 7301098) (by omega) (by omega) ?_
    refine lv_iconst (v := 1) hx hb lw_d495 (by decide) ?_
    exact lw_ret hx hb hrt hlocks lw_d496
  · have hi3 : i + 3 ≤ sc.length := by
      have : ¬ q_w ((sc.length : Int) - 3) < (i : Int) := hle2
      rw [ew] at this; omega
    have Y1' := Y1.st (st' := []) (fun v hv => by cases hv)
    have d2 : q_den (lo sc 30) (pg_P sc) false 600128 7301098 13 pI_L_law [39] 1000 false (q_seek ((32 : Nat) : Int) pI_L_law) [some (.inr (.inr 3000)), some (.inr (.inr 0)), some (.inr (.inr 49)), some (.inr (.inr 81)), some (.inl (i : Int)), none, none] [] GF M ca sa = some (39, [some (.inr (.inr 3000)), some (.inr (.inr 0)), some (.inr (.inr 49)), some (.inr (.inr 81)), some (.inl (i : Int)), none, none], [.inl (sc.getD i 0 % 16)], GF, M, ca, sa) := by
      rw [q_dks]
      refine lg_l39.trans ?_
      rw [if_pos (by omega)]
      rfl
    refine lw_seg hl0 (by omega) h2 X pK_L_law (pc := 32) Y1' d2 (fun ad2 H2 locs2 ls2 ha2 hlf Y2 => ?_)
    dsimp only at Y2 ⊢
    obtain ⟨v, hv⟩ : ∃ v : Nat, sc.getD i 0 % 16 = (v : Int) := ⟨(sc.getD i 0 % 16).toNat, by omega⟩
    have hv16 : v < 16 := by omega
    rw [hv] at Y2 ⊢
    have et : (Int32.ofInt (v : Int)).toInt = (v : Int) := q_toI ⟨by omega, by omega⟩
    have Y2' := Y2.st (st' := []) (fun v hv => by cases hv)
    have eR := hr
    by_cases h13 : v < 13
    · refine lv_tableIn (off := (lw_pc v : Int) - 39) (tgt := lw_pc v) hx hb lw_d39 (by rw [et]; omega) (by rw [et]; omega) (by rw [et, Int.sub_zero, Int.toNat_natCast]; exact lw_tab v h13) (by omega) ?_
      obtain ⟨x, y, M', ca', sa', d3, r3, c3, s3⟩ := lw_case (sc := sc) (i := (i : Int)) (M := M) (ca := ca) (sa := sa) h2 ⟨by omega, by omega⟩ h1 hr hca hsa v h13
      refine lw_seg hl0 (by omega) h2 X pK_L_law (pc := lw_pc v) Y2' d3 (fun ad3 H3 locs3 ls3 ha3 hl3 Y3 => ?_)
      exact lw_inc hl0 h1 h2 X hi3 Y3 (fun ad4 H4 locs4 ls4 Y4 => k hi3 M' ca' sa' ad4 H4 locs4 ls4 c3 s3 r3 Y4)
    · refine lv_tableOut (tgt := 489) hx hb lw_d39 (Or.inr (by rw [et]; omega)) (by decide) ?_
      exact lw_inc hl0 h1 h2 X hi3 Y2' (fun ad4 H4 locs4 ls4 Y4 => k hi3 M ca sa ad4 H4 locs4 ls4 (by omega) (by omega) hr Y4)
theorem lw_loop (hl0 : l0.stackTraces = false) (h1 : sc.length ≤ 192) (h2 : ∀ x ∈ sc, q_r x) (X : q_X p s m #[Value.ref b] meth c pg_Rn 13 cL_law 7 false D cT (fun q => s.heap.size ≤ q)) (hrt : meth.sig.returnType = ret) (hlocks : meth.locks = false) : ∀ (n i : Nat) (M : q_M) (ca sa : Nat) (ad : Nat → Nat) (H : Heap) (locs : List Loc) (ls : Array Slot), sc.length < i + n → i ≤ 200 → ca ≤ 82 + i → sa ≤ 4713 + 6 * i → Rel M M → q_Y (pg_P sc) pg_NW pg_SR s 7 D cT (fun q => s.heap.size ≤ q) ad [some (.inr (.inr 3000)), some (.inr (.inr 0)), some (.inr (.inr 49)), some (.inr (.inr 81)), some (.inl (i : Int)), none, none] [] GF M H locs ls → W p l0 e room_1 s m #[Value.ref b] below meth c H locs ca sa (lw_Z below #[Value.ref b] s) (F0 m 23 ls []) := by
  intro n
  induction n with
  | zero =>
    intro i M ca sa ad H locs ls hn hi hca hsa hr Y
    exact lw_iter hl0 h1 h2 X hrt hlocks (by omega) (by omega) (by omega) hr Y (fun h3 => absurd h3 (by omega))
  | succ n ih =>
    intro i M ca sa ad H locs ls hn hi hca hsa hr Y
    exact lw_iter hl0 h1 h2 X hrt hlocks (by omega) (by omega) (by omega) hr Y (fun h3 M' ca' sa' ad' H' locs' ls' c3 s3 hr' Y' => ih (i + 3) M' ca' sa' ad' H' locs' ls' (by omega) (by omega) (by omega) (by omega) hr' Y')
end LWL
