/-! the law's own three methods: a call that may throw, in a try -/
theorem q_lc_dead {ad : Nat → Nat} {ls2 : Array Slot} {l : q_L} {k : Nat} {x : Value} (hsn : l[k]? = some none) (hnl : q_nl l k = true) (hc : lv_has ls2 l.length ((k, x) :: (q_as ad l).filter (fun q => !(q.1 == k) && !(q.1 + 1 == k && q.2.category == 2)))) : q_lc ad ls2 l := by
  refine ⟨hc.1, hc.2.1, fun i v' hv => ?_⟩
  have hik : i ≠ k := fun e => by rw [e, hsn] at hv; cases hv
  refine hc.2.2 (i, q_cv ad v') (List.mem_cons_of_mem _ (List.mem_filter.mpr ⟨q_as_mem.mpr ⟨i, v', hv, rfl⟩, ?_⟩))
  have h2 := fun e => q_nl_use hnl hv e
  simp only [Bool.and_eq_true, Bool.not_eq_true', beq_eq_false_iff_ne, ne_eq, Bool.and_eq_false_iff, q_cvcat]
  refine ⟨hik, ?_⟩
  by_cases e : i + 1 = k
  · exact Or.inr (h2 e)
  · exact Or.inl e
section QL
variable {l0 : Launch} {P : q_P} {NW : List (String × Nat × MethodName × String)} {SR : q_SRt} {Rn : Nat → String} {d : Nat} {orc : q_O} {ym : q_ym}
/-- a segment without calls, up to a return -/
theorem q_tail {p : Program} {e : Env} {R : Room} {s : State} {m : MethodId} {args : Array Value} {below : List Frame} {meth : Method} {c : Code} {cc : ByteArray} {nL : Nat} {D : va_G} {cT : Nat → ClassId} {A : Nat → Prop} {I : q_I} {ad : Nat → Nat} {l l2 : q_L} {st : List q_V} {G : q_G} {M M2 : q_M} {H : Heap} {locs : List Loc} {ls : Array Slot} {pc pcr : Nat} {k : Int} {Qc : Array Value → State → Outcome → State → Prop} (X : q_X p s m args meth c Rn 13 cc nL false D cT A) (hTb : q_Tb P ym NW SR Rn) (hO : ∀ mid, q_Sd l0 P NW SR d (q_mm P mid).2.1 (q_mm P mid).2.2 (ym mid) (orc mid)) (hRf : d + 1 ≤ R.frames) (hRl : 64 * (d + 1) ≤ R.locals) (hRc : 1 ≤ R.cells) (hRs : 6 ≤ R.slots) (hI : q_Iok cc I) (hrt : meth.sig.returnType = some .int) (hlocks : meth.locks = false)
    (Y : q_Y P NW SR s nL D cT A ad l st G M H locs ls) (hden : q_den orc P false 1 6 13 I [pcr] 1000 false (q_seek (pc : Int) I) l st G M 1 6 = some (pcr, l2, [.inl k], G, M2, 1, 6)) (hr : decode cc pcr = .ok (.ireturn, 1))
    (hQ : ∀ (t : State) (ad' : Nat → Nat) (locs : List Loc), va_P D vwCl (q_ws P cT ad' G M2) t.heap → va_D A (q_ws P cT ad' G M2) → va_S A s.heap t.heap locs → q_oG P G → q_oM G M2 → q_adx G.length ad ad' → q_ov G.length (.inl k) → Qc args s (.returned (some (.int (Int32.ofInt k)))) t) : W p l0 e R s m args below meth c H locs 1 6 (MQ below Qc args s 1 6 A) (F0 m pc ls (st.map (q_cv ad))) := by
  obtain ⟨a1, a2, a3⟩ := q_seek_ok (t := (pc : Int)) hI.1
  refine q_den_s X hTb hO hRf hRl hRc hRs hI 1000 false _ l st G M 1 6 ad H locs ls pc pcr _ a1 a2 (fun q l' hq => by have := a3 q l' hq; omega) Y hden (fun ad1 H1 locs1 ls1 ha1 hle1 Y1 => ?_)
  exact q_end_s (r := some (.inl k)) X.1 X.2.1 hrt hlocks hr rfl Y1 (fun t ht hv => hQ t ad1 locs1 (by rw [ht]; exact Y1.1) Y1.2.1 (by rw [ht]; exact Y1.2.2.1) Y1.2.2.2.1 Y1.2.2.2.2.1 ha1 (hv _ rfl))
set_option maxHeartbeats 4000000 in
theorem q_lmet {mid mx : Nat} {hh : List (Nat × Nat × Nat × Nat)} (hhh : q_hh (ym mid).1 = some hh) {I : q_I} (hI : q_Iok (ym mid).2.1 I) (hpl : plainName (ym mid).1.cls = true) (hRn : Rn 13 = (ym mid).1.cls) (hret0 : (ym mid).2.2.2 = some .int) (hTb : q_Tb P ym NW SR Rn) (hO : ∀ mid, q_Sd l0 P NW SR d (q_mm P mid).2.1 (q_mm P mid).2.2 (ym mid) (orc mid))
    {as as' rest : List q_V} {a : Nat} {G : q_G} {M M2 : q_M} {l1 : q_L} {pcC idx sl : Nat} {rs : List Nat} {rx : q_Rx} {cl : Nat → String} {k : Int} (hlen : (q_ent as).length ≤ (ym mid).2.2.1)
    (h1 : q_den orc P false 1 6 13 I [pcC] 1000 false (q_seek (0 : Int) I) (q_entry (ym mid).2.2.1 as) [] G M 0 0 = some (pcC, l1, (.inr (.inr a) :: as').reverse ++ rest, G, M, 0, 0)) (hcat : (rest.map q_cat).sum ≤ 8) (hGa : G[a]? = some (.inr (11, rs)))
    (hdc : decode (ym mid).2.1 pcC = .ok (.invokevirtual idx, 3)) (w1 : Cond.methodLink (Rn 13) idx (ym mx).1 ∈ q_WT) (w2 : Cond.instanceMethod (ym mx).1 ∈ q_WT) (w3 : Cond.selects (ym mx).1.cls (ym mx).1 (ym mx).1 ∈ q_WT) (w4 : Cond.initialized (ym mx).1.cls ∈ q_WT) (w5 : q_cw (ym mx) ∈ q_WT) (w6 : q_hh (ym mx).1 = none) (w7 : (ym mx).1.cls ≠ "java/lang/invoke/MethodHandle" ∧ (ym mx).1.cls ≠ "java/lang/invoke/VarHandle" ∧ (parseMethodDescriptor (ym mx).1.desc).map (fun d => d.parameters.length) = some as'.length) (w8 : (ym mx).2.2.1 ≤ 40) (w9 : (ym mx).1.cls = RX11)
    (hV : ∀ (D : va_G) (cT : Nat → ClassId) (ad : Nat → Nat) (sz : Nat), vx_Met l0 (ym mx).1 (q_mW (ym mx)) (q_rm (d + 1) 1 6) (q_Pre P NW SR D cT ad (.inr (.inr a) :: as') G M sz) (q_QX P D cT ad G M sz rx) (q_XX P D cT ad G M sz cl rx) 1 6 (va_A (q_ws P cT ad G M) sz))
    (hret : ∀ (r : Option q_V) (G1 : q_G) (M1 : q_M), rx = .inl (r, G1, M1) → G1 = G ∧ ∃ (x : Int) (pcr : Nat) (l2 : q_L), r = some (.inl x) ∧ q_den orc P false 1 6 13 I [pcr] 1000 false (q_seek ((pcC + 3 : Nat) : Int) I) l1 (.inl x :: rest) G M1 1 6 = some (pcr, l2, [.inl k], G, M2, 1, 6) ∧ decode (ym mid).2.1 pcr = .ok (.ireturn, 1))
    (hthr : ∀ (pcx : Nat) (G1 : q_G) (M1 : q_M), rx = .inr (pcx, G1, M1) → G1 = G ∧ ∃ (pre suf : List ExceptionTableEntry) (x : ExceptionTableEntry) (pcr : Nat) (l2 : q_L), tableOf hh = pre ++ x :: suf ∧ (∀ z ∈ pre, z.catchType ≠ 0 ∧ ∃ nm : String, Cond.classLink (Rn 13) z.catchType nm ∈ q_WT ∧ (cl pcx, nm) ∈ q_NC) ∧ covers x pcC = true ∧ x.catchType ≠ 0 ∧ Cond.classLink (Rn 13) x.catchType (cl pcx) ∈ q_WT ∧ cl pcx ∈ q_CL ∧ (∃ sl : Fin 4, decode (ym mid).2.1 x.handlerPc = .ok (.astore_n sl, 1) ∧ sl.val < l1.length ∧ l1[sl.val]? = some none ∧ q_nl l1 sl.val = true) ∧ q_den orc P false 1 6 13 I [pcr] 1000 false (q_seek ((x.handlerPc + 1 : Nat) : Int) I) l1 [] G M1 1 6 = some (pcr, l2, [.inl k], G, M2, 1, 6) ∧ decode (ym mid).2.1 pcr = .ok (.ireturn, 1))
    (D : va_G) (cT : Nat → ClassId) (ad : Nat → Nat) (hG : q_oG P G) (hM : q_oM G M) (has : ∀ v ∈ as, q_ov G.length v) (sz : Nat) : Met l0 (ym mid).1 (q_mW (ym mid)) (q_rm (d + 2) 1 6) (q_Pre P NW SR D cT ad as G M sz) (q_Post P D cT ad G M sz (some (.inl k)) G M2) 1 6 (va_A (q_ws P cT ad G M) sz) := by
  refine va_MetW (hh := hh) (cc := (ym mid).2.1) (maxL := (ym mid).2.2.1) (ret := (ym mid).2.2.2) (ws' := q_WT) hpl (by unfold q_mW q_cw; rw [hhh]) ?_
  intro p e s m args below meth c s₁ B hml hv
  obtain ⟨rfl, hsz, hP, hK, hD0, hE⟩ := hv
  subst hsz
  have hts0 := atoms_spec (ws := q_mW (ym mid)) B.pre
  have hts : ∀ w ∈ q_WT, w.before (as.map (q_cv ad)).toArray s = true := fun w hw => hts0 w (List.mem_cons_of_mem _ hw)
  have htab : c.exceptionTable.toList = tableOf hh := vx_table (x := (ym mid).1) (bytes := (ym mid).2.1) (maxL' := (ym mid).2.2.1) (ret' := (ym mid).2.2.2) B (by
    have := hts0 _ List.mem_cons_self
    unfold q_cw at this
    rw [hhh] at this
    exact this)
  have hown : s.vm.findClass (Rn 13) = some m.cls := by rw [hRn]; exact findClass_of_methodNamed B.named
  have hA : ∀ q : Nat, s.heap.size ≤ q → va_A (q_ws P cT ad G M) s.heap.size q := fun q h => Or.inr h
  have hx := B.exec
  have hb := B.bytes
  have hrt : meth.sig.returnType = some .int := by rw [← hret0]; exact B.returns
  have hlocks := B.notSynchronized
  have X : q_X p s m (as.map (q_cv ad)).toArray meth c Rn 13 (ym mid).2.1 (ym mid).2.2.1 false D cT (va_A (q_ws P cT ad G M) s.heap.size) := ⟨hx, hb, hml, hown, hts, hK, hA, fun h => by cases h⟩
  rw [lg_entry_eq]
  obtain ⟨hl1, hl2, hl3⟩ := q_lc_entry (ad := ad) hlen
  generalize (lg_sl (as.map (q_cv ad)) ++ List.replicate ((ym mid).2.2.1 - (lg_sl (as.map (q_cv ad))).length) Slot.unset).toArray = ls at hl1 ⊢
  have Y : q_Y P NW SR s (ym mid).2.2.1 D cT (va_A (q_ws P cT ad G M) s.heap.size) ad (q_entry (ym mid).2.2.1 as) [] G M s.heap [] ls := ⟨hP, hD0.self, va_S.rf, hG, hM, hl1, fun v hv => has v (hl3 v hv), fun v hv => by simp at hv, hl2, hE⟩
  obtain ⟨s1, s2, s3⟩ := q_seek_ok (t := (0 : Int)) hI.1
  have f1 : d + 1 ≤ (headSpec (q_mW (ym mid)) (q_rm (d + 2) 1 6)).room.frames := by show d + 1 ≤ d + 2; omega
  have f2 : 64 * (d + 1) ≤ (headSpec (q_mW (ym mid)) (q_rm (d + 2) 1 6)).room.locals := by show 64 * (d + 1) ≤ 64 * (d + 2); omega
  refine q_den_s X hTb hO f1 f2 (Nat.le_refl 1) (Nat.le_refl 6) hI 1000 false _ _ [] G M 0 0 ad s.heap [] ls 0 pcC _ s1 s2 (fun q l' hq => by have := s3 q l' hq; omega) Y h1 (fun ad1 H1 locs1 ls1 ha1 hle1 Y1 => ?_)
  dsimp only at Y1 ⊢
  have hrest : ∀ v ∈ rest, q_ov G.length v := fun v hv => Y1.2.2.2.2.2.2.2.1 v (List.mem_append_right _ hv)
  have hsz1 : ls1.size = (ym mid).2.2.1 := by rw [Y1.2.2.2.2.2.1.1]; exact Y1.2.2.2.2.2.2.2.2.1
  have hws1 : q_ws P cT ad1 G M = q_ws P cT ad G M := q_ws_ext hG ha1
  have hAA : ∀ q, va_A (q_ws P cT ad1 G M) H1.size q → va_A (q_ws P cT ad G M) s.heap.size q := by
    rintro q (⟨k, e0, h⟩ | h)
    · exact Y1.2.1.2 k _ h
    · exact hA q (Nat.le_trans Y1.2.2.1.1 h)
  have hrecv : ∃ cellB : Cell, H1[ad1 a]? = some cellB ∧ cellB.vm.isStatics = false ∧ s.vm.findClass (ym mx).1.cls = some cellB.cls := by
    rw [w9]
    exact va_recv hK Y1.1 (ci := 11) rfl (q_ws_get hGa)
  have hstk : (F0 m pcC ls1 (((.inr (.inr a) :: as').reverse ++ rest).map (q_cv ad1))).stack = (as'.map (q_cv ad1)).reverse ++ .ref (ad1 a) :: rest.map (q_cv ad1) := by
    show ((.inr (.inr a) :: as').reverse ++ rest).map (q_cv ad1) = _
    simp [q_cv]
  have hcw : q_mW (ym mx) = Cond.code (ym mx).1 (ym mx).2.1 (ym mx).2.2.1 (ym mx).2.2.2 :: q_WT := by unfold q_mW q_cw; rw [w6]
  have hgood : GoodIn q_WT (wsV (Rn 13) idx (ym mx).1.cls (ym mx).1 (q_mW (ym mx))) := by
    intro w hw
    rcases List.mem_append.mp hw with h | h
    · simp only [List.mem_cons, List.not_mem_nil, or_false] at h
      rcases h with rfl | rfl | rfl | rfl
      · exact q_WT_good _ w1
      · exact q_WT_good _ w2
      · exact q_WT_good _ w3
      · exact q_WT_good _ w4
    · exact q_mW_good w5 w h
  have hrun := vx_runV (m := m) (As := as'.map (q_cv ad1)) (rest := rest.map (q_cv ad1)) (g := F0 m pcC ls1 (((.inr (.inr a) :: as').reverse ++ rest).map (q_cv ad1))) (H := H1) (locs := locs1) (cells := 0) (slots := 0) (below := below) (meth := meth) (R := (headSpec (q_mW (ym mid)) (q_rm (d + 2) 1 6)).room) (e := e) ⟨hx, hb, hml, hown, hts⟩ (hV D cT ad1 H1.size) (cwV as'.length hts hgood hcw rfl rfl ⟨rfl, w7⟩ ⟨by show d + 1 + 1 ≤ d + 2; omega, by show 8 + ((ym mx).2.2.1 + 11) + 64 * (d + 1) ≤ 64 * (d + 2); omega⟩) ⟨q_Pre_blind, hrecv, q_PcU (as := .inr (.inr a) :: as') hK hA Y1⟩ rfl (by simp) hsz1 hstk (lv_room (by rw [q_cats]; exact hcat)) hdc ⟨Nat.le_refl 1, Nat.le_refl 6⟩
  intro T hT XT
  -- the world behind the call
  have hworld : ∀ (t T' st₀ : State) (L : List Loc) (ad' : Nat → Nat) (M1 : q_M) (st' : List q_V), st₀.heap = H1 → T'.heap = t.heap → (∀ q ∈ L, va_A (q_ws P cT ad1 G M) H1.size q.base) → q_adx G.length ad1 ad' → va_P D vwCl (q_ws P cT ad' G M1) t.heap → va_D (va_A (q_ws P cT ad1 G M) H1.size) (q_ws P cT ad' G M1) → q_oM G M1 → va_F (va_A (q_ws P cT ad1 G M) H1.size) st₀ t → (∀ v ∈ st', q_ov G.length v) → q_Y P NW SR s (ym mid).2.2.1 D cT (va_A (q_ws P cT ad G M) s.heap.size) ad' l1 st' G M1 T'.heap (locs1 ++ L) ls1 := by
    intro t T' st₀ L ad' M1 st' h0 e1 hL ha hP' hD' hM' hF hst
    obtain ⟨hz, hk⟩ := hF
    rw [h0] at hz hk
    refine ⟨by rw [e1]; exact hP', hD'.weaken (fun k q _ h => hAA _ h), ⟨Nat.le_trans Y1.2.2.1.1 (by rw [e1]; exact hz), fun q g1 g2 => by rw [e1, hk q (Nat.lt_of_lt_of_le g1 Y1.2.2.1.1) (fun z => g2 (hAA q z))]; exact Y1.2.2.1.2.1 q g1 g2, fun q hq => ?_⟩, hG, hM', Y1.2.2.2.2.2.1.ext ha Y1.2.2.2.2.2.2.1, Y1.2.2.2.2.2.2.1, hst, Y1.2.2.2.2.2.2.2.2.1, ?_⟩
    · rcases List.mem_append.mp hq with h | h
      · exact Y1.2.2.1.2.2 q h
      · exact hAA _ (hL q h)
    · obtain ⟨a1, a2, a3, a4⟩ := Y1.2.2.2.2.2.2.2.2.2
      have g1 : ∀ i, ad' (1000 + i) = ad1 (1000 + i) := fun i => ha _ (Or.inr (by omega))
      have g2 : ∀ i, ad' (2000 + i) = ad1 (2000 + i) := fun i => ha _ (Or.inr (by omega))
      refine ⟨a1, fun r hr => by rw [g1]; exact a2 r hr, ?_, a4.1, by rw [ha 3000 (Or.inr (by decide))]; exact a4.2⟩
      simp only [g1, g2]
      exact a3
  have hfinal : ∀ (ad' : Nat → Nat), q_adx G.length ad1 ad' → ∀ (t : State) (ad2 : Nat → Nat) (locs : List Loc), va_P D vwCl (q_ws P cT ad2 G M2) t.heap → va_D (va_A (q_ws P cT ad G M) s.heap.size) (q_ws P cT ad2 G M2) → va_S (va_A (q_ws P cT ad G M) s.heap.size) s.heap t.heap locs → q_oG P G → q_oM G M2 → q_adx G.length ad' ad2 → q_ov G.length (.inl k) → q_Post P D cT ad G M s.heap.size (some (.inl k)) G M2 (as.map (q_cv ad)).toArray s (.returned (some (.int (Int32.ofInt k)))) t := by
    intro ad' ha t ad2 locs b1 b2 b3 b4 b5 b6 b7
    exact ⟨⟨ad2, (ha1.tr (Nat.le_refl _) ha).tr (Nat.le_refl _) b6, rfl, b1, b2, b4, b5, Nat.le_refl _, fun v hv => by cases hv; exact b7⟩, b3.F rfl⟩
  rcases hrun T hT XT with ⟨v, st₀, t, T', L, h0, X', hL, e1, e2, hq, stp⟩ | ⟨q, st₀, t, T', L, E, ce, h0, X', hL, e1, e2, hxc, hce, hcv, hcl, stp⟩
  · rcases rx with ⟨r, G1, M1⟩ | z
    · obtain ⟨rfl, x, pcr, l2, rfl, hden, hdr⟩ := hret r G1 M1 rfl
      obtain ⟨⟨ad', ha, hv, hP', hD', hG', hM', hle, hrv⟩, hF⟩ := hq
      cases hv
      have Y2 := hworld t T' st₀ L ad' M1 (.inl x :: rest) h0 e1 hL ha hP' hD' hM' hF (q_cons (hrv _ rfl) hrest)
      have hW := q_tail (pc := pcC + 3) (below := below) (meth := meth) (R := (headSpec (q_mW (ym mid)) (q_rm (d + 2) 1 6)).room) (e := e) (l0 := l0) X hTb hO f1 f2 (Nat.le_refl 1) (Nat.le_refl 6) hI hrt hlocks Y2 hden hdr (hfinal ad' ha)
      obtain ⟨t2, c1, c2⟩ := hW T' rfl X'
      refine ⟨t2, stp t2 ?_, c2⟩
      have e9 : (.inl x :: rest : List q_V).map (q_cv ad') = (some (Value.int (Int32.ofInt x))).toList ++ rest.map (q_cv ad1) := by
        rw [List.map_cons, q_map_ext ha hrest]; rfl
      rw [e9] at c1
      exact c1
    · exact hq.elim
  · rcases rx with z | ⟨pcx, G1, M1⟩
    · exact hxc.elim
    · obtain ⟨rfl, pre, suf, x, pcr, l2, hsplit, hpass, hcov, hct, hlk, hCL, ⟨sl, hdh, hsl, hsn, hnl⟩, hden, hdr⟩ := hthr pcx G1 M1 rfl
      obtain ⟨rfl, ⟨ad', ha, hP', hD', hG', hM', hle⟩, hF⟩ := hxc
      have Y2 := hworld t T' st₀ L ad' M1 [] h0 e1 hL ha hP' hD' hM' hF (fun v hv => by cases hv)
      have hE9 := Y1.2.2.2.2.2.2.2.2.2.2.2.2.2
      have hW : vx_W p l0 e (headSpec (q_mW (ym mid)) (q_rm (d + 2) 1 6)).room s m (as.map (q_cv ad)).toArray below meth c T'.heap (locs1 ++ L) 1 6 (MQ below (q_Post P D cT ad G1 M s.heap.size (some (.inl k)) G1 M2) (as.map (q_cv ad)).toArray s 1 6 (va_A (q_ws P cT ad G1 M) s.heap.size)) (F0 m pcC ls1 (rest.map (q_cv ad1))) q := by
        refine vx_catch hown pre x suf (htab.trans hsplit) (fun z hz => Or.inr ⟨(hpass z hz).1, ?_⟩) hcov hct (hts _ hlk) (va_Nw.use rfl (hE9.2.2.2.1 _ hCL)) (by rw [e1]; exact hce) hcv hcl ?_
        · obtain ⟨-, nm, w, n⟩ := hpass z hz
          exact ⟨nm, hts _ w, hE9.2.2.2.2 _ n⟩
        · have hn := Y2.2.2.2.2.2.2.2.2.1
          refine lv_astore_n (nL := l1.length) hx hb hdh rfl Y2.2.2.2.2.2.1.has hsl rfl (fun ls2 hl9 => ?_)
          have Y3 := Y2.lc (st' := []) (fun v hv => by cases hv) (q_lc_dead hsn hnl hl9) Y2.2.2.2.2.2.2.1 hn
          exact q_tail (pc := x.handlerPc + 1) (l0 := l0) X hTb hO f1 f2 (Nat.le_refl 1) (Nat.le_refl 6) hI hrt hlocks Y3 hden hdr (hfinal ad' ha)
      obtain ⟨t2, c1, c2⟩ := hW T' rfl X'
      exact ⟨t2, stp.trans c1, c2⟩
end QL
