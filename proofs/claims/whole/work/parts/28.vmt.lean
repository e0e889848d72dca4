/-- how a method that may throw ends -/
def q_QX (P : q_P) (D : va_G) (cT : Nat → ClassId) (ad : Nat → Nat) (G : q_G) (M : q_M) (sz : Nat) (rx : q_Rx) : Array Value → State → Outcome → State → Prop := match rx with
  | .inl (r, G', M') => q_Post P D cT ad G M sz r G' M'
  | .inr _ => fun _ _ _ _ => False
def q_XX (P : q_P) (D : va_G) (cT : Nat → ClassId) (ad : Nat → Nat) (G : q_G) (M : q_M) (sz : Nat) (cl : Nat → String) (rx : q_Rx) : String → State → State → Prop := match rx with
  | .inl _ => fun _ _ _ => False
  | .inr (pc, G', M') => q_XC P D cT ad G M sz (cl pc) G' M'
/-- a place where a method throws: new, dup, ldc, invokespecial, athrow -/
def q_site (cc : ByteArray) (own : String) (SR : q_SRt) (pc ik is ic : Nat) (cls : String) : Prop :=
  decode cc pc = .ok (.new ik, 3) ∧ decode cc (pc + 3) = .ok (.dup, 1) ∧ decode cc (pc + 4) = .ok (.ldc is, 2) ∧ decode cc (pc + 6) = .ok (.invokespecial ic, 3) ∧ decode cc (pc + 9) = .ok (.athrow, 1) ∧ (∃ (tx : String) (j : Nat), (own, is, tx, j) ∈ SR) ∧ Cond.classLink own ik cls ∈ q_WT ∧ Cond.initialized cls ∈ q_WT ∧ cls ∈ q_CL ∧
  (vx_atS own ic cls q_nm2).all (fun w => (goodWord w && decide (w ∈ tables_1)) || decide (w = .castable cls cls) || q_DL.any (fun y => decide (w = .declares y))) = true ∧ (∀ w ∈ Cond.classLink own ik cls :: Cond.initialized cls :: vx_atS own ic cls q_nm2, vx_ot w = true) ∧ Bundle.fit cls = true
theorem q_nm2_fit : ∀ n ∈ q_nm2, Bundle.fit n = true := by decide +kernel
section QG
variable {p : Program} {l0 : Launch} {e : Env} {R : Room} {s : State} {m : MethodId} {args : Array Value} {below : List Frame} {meth : Method} {c : Code}
variable {P : q_P} {NW : List (String × Nat × MethodName × String)} {SR : q_SRt} {Rn : Nat → String} {cc : ByteArray} {nL : Nat} {D : va_G} {cT : Nat → ClassId} {d : Nat} {orc : q_O} {ym : q_ym} {mr : q_R} {rt : Option FieldType}
set_option maxHeartbeats 4000000 in
theorem q_throw {ad0 : Nat → Nat} {G0 : q_G} {M0 : q_M} {Qc : Array Value → State → Outcome → State → Prop} {ad : Nat → Nat} {l : q_L} {G' : q_G} {M' : q_M} {H : Heap} {locs : List Loc} {ls : Array Slot} {pc ik is ic : Nat} {cls : String} (hl0 : l0.stackTraces = false) (X : q_X p s m args meth c Rn mr.1 cc nL mr.2.1 D cT (va_A (q_ws P cT ad0 G0 M0) s.heap.size)) (hsi : q_site cc (Rn mr.1) SR pc ik is ic cls) (hout : ∀ x ∈ c.exceptionTable.toList, False) (hRf : 10 ≤ R.frames) (hRl : 200 ≤ R.locals) (hRc : 1 ≤ R.cells) (hRs : 6 ≤ R.slots) (hlocks : meth.locks = false)
    (Y : q_Y P NW SR s nL D cT (va_A (q_ws P cT ad0 G0 M0) s.heap.size) ad l [] G' M' H locs ls) (ha : q_adx G0.length ad0 ad) (hle : G0.length ≤ G'.length) : W p l0 e R s m args below meth c H locs 0 0 (vx_MQ below Qc (q_XC P D cT ad0 G0 M0 s.heap.size cls G' M') args s 1 6 (va_A (q_ws P cT ad0 G0 M0) s.heap.size)) (F0 m pc ls []) := by
  obtain ⟨d0, d3, d4, d6, d9, ⟨tx, j, hm⟩, hk, hini, hcl, hall, hgood, hfit⟩ := hsi
  have hX := X
  obtain ⟨hx, hb, hml, hown, hts, hK, hA, hin⟩ := X
  have hE9 := Y.2.2.2.2.2.2.2.2.2.2.2.2.2
  refine vx_throwS (names := q_nm2) (A := va_A (q_ws P cT ad0 G0 M0) s.heap.size) hx hb hl0 hown hfit q_nm2_fit (hts _ hk) (hts _ hini) (Y.2.2.2.2.2.2.2.2.2.2.1 _ hm) (q_hat (Rn mr.1) cls ic hX (Or.inr ⟨_, hE9⟩) hcl hall) hgood ?_ ?_ Y.2.2.1 ?_ d0 d3 d4 d6 d9 (fun x hx => (hout x hx).elim) ?_ ?_ (by omega) (by omega) hlocks ?_ Y.2.2.1.2.2 (by omega) (by omega)
  · exact hE9.2.1 _ (List.mem_cons_of_mem _ List.mem_cons_self)
  · exact hE9.2.1 _ (List.mem_cons_of_mem _ (List.mem_cons_of_mem _ List.mem_cons_self))
  · rw [hml, Y.2.2.2.2.2.1.1]; exact Y.2.2.2.2.2.2.2.2.1
  · show 2 + 3 < R.frames; omega
  · show 0 + (13 * (2 + 1) + 43) ≤ R.locals; omega
  · intro t hal hsz hkp
    refine ⟨rfl, ⟨ad, ha, Y.1.kept (fun k q hq => ?_), Y.2.1, Y.2.2.2.1, Y.2.2.2.2.1, hle⟩, Nat.le_trans Y.2.2.1.1 hsz, fun q h1 h2 => ?_⟩
    · exact hkp _ (Y.1 k q hq).lt
    · rw [hkp q (Nat.lt_of_lt_of_le h1 Y.2.2.1.1)]
      exact Y.2.2.1.2.1 q h1 h2
set_option maxHeartbeats 4000000 in
/-- a method of the tables that may throw -/
theorem q_vmet {mid : Nat} {th : List Nat} {cl : Nat → String} {MT : Nat → q_R} (hl0 : l0.stackTraces = false) (hTb : q_Tb P ym NW SR Rn) (hO : ∀ mid, q_Sd l0 P NW SR d (q_mm P mid).2.1 (q_mm P mid).2.2 (ym mid) (orc mid)) (hd : 10 ≤ d) (hpl : plainName (ym mid).1.cls = true) (hhn : q_hh (ym mid).1 = none) (hI : q_Iok (ym mid).2.1 (MT mid).2.2.2.1) (hRn : Rn (MT mid).1 = (ym mid).1.cls) (hini : (MT mid).2.1 = false)
    (hsi : ∀ pc ∈ th, ∃ ik is ic : Nat, q_site (ym mid).2.1 (Rn (MT mid).1) SR pc ik is ic (cl pc))
    (D : va_G) (cT : Nat → ClassId) (ad : Nat → Nat) (as : List q_V) (G : q_G) (M : q_M) (rx : q_Rx) (hlen : (q_ent as).length ≤ (ym mid).2.2.1) (hF : ∃ F, q_drx orc P (ym mid).2.2.2 (MT mid) th F 0 (q_entry (ym mid).2.2.1 as) [] G M = some rx) (hG : q_oG P G) (hM : q_oM G M) (has : ∀ v ∈ as, q_ov G.length v) (sz : Nat) :
    vx_Met l0 (ym mid).1 (q_mW (ym mid)) (q_rm (d + 1) 1 6) (q_Pre P NW SR D cT ad as G M sz) (q_QX P D cT ad G M sz rx) (q_XX P D cT ad G M sz cl rx) 1 6 (va_A (q_ws P cT ad G M) sz) := by
  obtain ⟨F, hF⟩ := hF
  refine vx_ofW (cc := (ym mid).2.1) (maxL := (ym mid).2.2.1) (ret := (ym mid).2.2.2) (ws' := q_WT) hpl (by unfold q_mW q_cw; rw [hhn]) ?_
  intro p e s m args below meth c s₁ B hml hout hv
  obtain ⟨rfl, hsz, hP, hK, hD0, hE⟩ := hv
  subst hsz
  have hts := atoms_spec (ws := q_mW (ym mid)) B.pre
  have hown : s.vm.findClass (Rn (MT mid).1) = some m.cls := by rw [hRn]; exact findClass_of_methodNamed B.named
  have hA : ∀ q : Nat, s.heap.size ≤ q → va_A (q_ws P cT ad G M) s.heap.size q := fun q h => Or.inr h
  have X : q_X p s m (as.map (q_cv ad)).toArray meth c Rn (MT mid).1 (ym mid).2.1 (ym mid).2.2.1 (MT mid).2.1 D cT (va_A (q_ws P cT ad G M) s.heap.size) := ⟨B.exec, B.bytes, hml, hown, fun w hw => hts w (List.mem_cons_of_mem _ hw), hK, hA, fun h => by rw [hini] at h; cases h⟩
  rw [lg_entry_eq]
  obtain ⟨hl1, hl2, hl3⟩ := q_lc_entry (ad := ad) hlen
  generalize (lg_sl (as.map (q_cv ad)) ++ List.replicate ((ym mid).2.2.1 - (lg_sl (as.map (q_cv ad))).length) Slot.unset).toArray = ls at hl1 ⊢
  have Y : q_Y P NW SR s (ym mid).2.2.1 D cT (va_A (q_ws P cT ad G M) s.heap.size) ad (q_entry (ym mid).2.2.1 as) [] G M s.heap [] ls := ⟨hP, hD0.self, va_S.rf, hG, hM, hl1, fun v hv => has v (hl3 v hv), fun v hv => by simp at hv, hl2, hE⟩
  refine q_drx_s (th := th) (ad0 := ad) (G0 := G) (rx := rx) X hTb hO (Nat.le_refl _) (Nat.le_refl _) hI B.returns B.notSynchronized ?_ ?_ F 0 _ [] G M ad s.heap [] ls Y q_adx.rf (Nat.le_refl _) hF
  · rintro r G' M' rfl t ad' locs a1 a2 a3 a4 a5 a6 a7 a8
    exact ⟨⟨ad', a6, rfl, a1, a2, a4, a5, a7, a8⟩, a3.F rfl⟩
  · rintro pc' G' M' rfl hth ad' l H locs ls' Y' ha' hle'
    obtain ⟨ik, is, ic, hs⟩ := hsi pc' hth
    exact q_throw hl0 X hs hout (by show 10 ≤ d + 1; omega) (by show 200 ≤ 64 * (d + 1); omega) (Nat.le_refl 1) (Nat.le_refl 6) B.notSynchronized Y' ha' hle'
end QG
set_option maxRecDepth 100000 in
theorem ps_row82 : q_site cX11_row RX11 pg_SR 82 116 118 120 "java/lang/IllegalArgumentException" := ⟨by decide +kernel, by decide +kernel, by decide +kernel, by decide +kernel, by decide +kernel, ⟨_, 0, List.mem_cons_self⟩, pt_in_ok (i := 488) (by decide +kernel), pt_in_ok (i := 17) (by decide +kernel), by decide +kernel, by decide +kernel, by decide +kernel, by decide +kernel⟩
set_option maxRecDepth 100000 in
theorem ps_row97 : q_site cX11_row RX11 pg_SR 97 123 125 127 "java/lang/IllegalStateException" := ⟨by decide +kernel, by decide +kernel, by decide +kernel, by decide +kernel, by decide +kernel, ⟨"the table is full", 1, by decide +kernel⟩, pt_in_ok (i := 556) (by decide +kernel), pt_in_ok (i := 18) (by decide +kernel), by decide +kernel, by decide +kernel, by decide +kernel, by decide +kernel⟩
set_option maxRecDepth 100000 in
theorem ps_compile81 : q_site cX11_compile RX11 pg_SR 81 116 152 120 "java/lang/IllegalArgumentException" := ⟨by decide +kernel, by decide +kernel, by decide +kernel, by decide +kernel, by decide +kernel, ⟨"the text is ill", 19, by decide +kernel⟩, pt_in_ok (i := 488) (by decide +kernel), pt_in_ok (i := 17) (by decide +kernel), by decide +kernel, by decide +kernel, by decide +kernel, by decide +kernel⟩
set_option maxRecDepth 100000 in
theorem ps_run7 : q_site cX11_run RX11 pg_SR 7 123 160 127 "java/lang/IllegalStateException" := ⟨by decide +kernel, by decide +kernel, by decide +kernel, by decide +kernel, by decide +kernel, ⟨"there is no query", 20, by decide +kernel⟩, pt_in_ok (i := 556) (by decide +kernel), pt_in_ok (i := 18) (by decide +kernel), by decide +kernel, by decide +kernel, by decide +kernel, by decide +kernel⟩
set_option maxRecDepth 100000 in
theorem ps_run35 : q_site cX11_run RX11 pg_SR 35 165 167 169 "java/lang/UnsupportedOperationException" := ⟨by decide +kernel, by decide +kernel, by decide +kernel, by decide +kernel, by decide +kernel, ⟨"the result would have too many rows", 21, by decide +kernel⟩, pt_in_ok (i := 1146) (by decide +kernel), pt_in_ok (i := 26) (by decide +kernel), by decide +kernel, by decide +kernel, by decide +kernel, by decide +kernel⟩
