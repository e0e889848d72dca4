/-! calls: a callee's contract over the small machine's answer -/
abbrev q_ym : Type := Nat → MethodName × ByteArray × Nat × Option FieldType
/-- a method's table of exceptions, where it has one -/
def q_hh (y : MethodName) : Option (List (Nat × Nat × Nat × Nat)) := if y.cls = "QueryLoopsLaw" then (if y.name = "row" then some [(0, 9, 12, 13), (0, 9, 15, 15)] else if y.name = "compile" then some [(0, 8, 11, 13)] else if y.name = "run" then some [(0, 8, 11, 15), (0, 8, 14, 24)] else none) else none
def q_cw (Y : MethodName × ByteArray × Nat × Option FieldType) : Cond := match q_hh Y.1 with
  | some hh => .codeWith Y.1 Y.2.1 Y.2.2.1 Y.2.2.2 hh
  | none => .code Y.1 Y.2.1 Y.2.2.1 Y.2.2.2
def q_mW (Y : MethodName × ByteArray × Nat × Option FieldType) : List Cond := q_cw Y :: q_WT
def q_rm (d mc ms : Nat) : Room := { frames := d, cells := mc, slots := ms, locals := 64 * d }
def q_Pre (P : q_P) (NW : List (String × Nat × MethodName × String)) (SR : q_SRt) (D : va_G) (cT : Nat → ClassId) (ad : Nat → Nat) (as : List q_V) (G : q_G) (M : q_M) (sz : Nat) : Array Value → State → Prop := va_Pc (as.map (q_cv ad)) (fun U => U.heap.size = sz ∧ va_P D vwCl (q_ws P cT ad G M) U.heap ∧ va_K D vwCl (q_tys cT) U ∧ va_D (fun _ => True) (q_ws P cT ad G M) ∧ q_E P NW SR ad (va_A (q_ws P cT ad G M) sz) U U.heap)
def q_Pst (P : q_P) (D : va_G) (cT : Nat → ClassId) (ad : Nat → Nat) (G : q_G) (M : q_M) (sz : Nat) (r : Option q_V) (G' : q_G) (M' : q_M) (oc : Outcome) (t : State) : Prop := ∃ ad' : Nat → Nat, q_adx G.length ad ad' ∧ oc = .returned (r.map (q_cv ad')) ∧ va_P D vwCl (q_ws P cT ad' G' M') t.heap ∧ va_D (va_A (q_ws P cT ad G M) sz) (q_ws P cT ad' G' M') ∧ q_oG P G' ∧ q_oM G' M' ∧ G.length ≤ G'.length ∧ (∀ v, r = some v → q_ov G'.length v)
def q_Post (P : q_P) (D : va_G) (cT : Nat → ClassId) (ad : Nat → Nat) (G : q_G) (M : q_M) (sz : Nat) (r : Option q_V) (G' : q_G) (M' : q_M) : Array Value → State → Outcome → State → Prop := fun _ st oc t => q_Pst P D cT ad G M sz r G' M' oc t ∧ va_F (va_A (q_ws P cT ad G M) sz) st t
/-- what the small machine says of a method is so, with d frames left -/
def q_Sd (l0 : Launch) (P : q_P) (NW : List (String × Nat × MethodName × String)) (SR : q_SRt) (d mc ms : Nat) (Y : MethodName × ByteArray × Nat × Option FieldType) (f : List q_V → q_G → q_M → Option (Option q_V × q_G × q_M)) : Prop :=
  ∀ (D : va_G) (cT : Nat → ClassId) (ad : Nat → Nat) (as : List q_V) (G : q_G) (M : q_M) (r : Option q_V) (G' : q_G) (M' : q_M), f as G M = some (r, G', M') → q_oG P G → q_oM G M → (∀ v ∈ as, q_ov G.length v) →
    ∀ sz, Met l0 Y.1 (q_mW Y) (q_rm d mc ms) (q_Pre P NW SR D cT ad as G M sz) (q_Post P D cT ad G M sz r G' M') mc ms (va_A (q_ws P cT ad G M) sz)
theorem q_Pre_blind {P : q_P} {NW : List (String × Nat × MethodName × String)} {SR : q_SRt} {D : va_G} {cT : Nat → ClassId} {ad : Nat → Nat} {as : List q_V} {G : q_G} {M : q_M} {sz : Nat} : FrameBlind (q_Pre P NW SR D cT ad as G M sz) := by
  intro a U g mk h
  obtain ⟨h0, h1, h2, h3, h4, e1, e2, e3, e4, e5⟩ := h
  exact ⟨h0, h1, h2, va_K.moved (u := U) (U := U.calling g mk a) (Vm.Alike.refl U.vm) h3, h4, fun w hw => va_Nw.same rfl (show U.vm = (U.calling g mk a).vm from rfl) (e1 w hw), fun r hr => vk_R.same (show (U.calling g mk a).vm = U.vm from rfl) (e2 r hr), vk_S.moved (u := U) (U := U.calling g mk a) (Vm.Alike.refl U.vm) e3, va_Z.moved (u := U) (U := U.calling g mk a) (Vm.Alike.refl U.vm) e4, va_T.moved (u := U) (U := U.calling g mk a) (Vm.Alike.refl U.vm) e5.1, fun z hz => vx_Zq.moved (u := U) (U := U.calling g mk a) (Vm.Alike.refl U.vm) (e5.2.1 z hz), fun x hx => va_Nw.same rfl (show U.vm = (U.calling g mk a).vm from rfl) (e5.2.2.1 x hx), fun x hx => va_Nw.same rfl (show U.vm = (U.calling g mk a).vm from rfl) (e5.2.2.2.1 x hx), fun x hx => va_Nc.moved (u := U) (U := U.calling g mk a) (Vm.Alike.refl U.vm) (e5.2.2.2.2 x hx)⟩
/-- the table of calls is right -/
def q_Mok (P : q_P) (ym : q_ym) (NW : List (String × Nat × MethodName × String)) (Rn : Nat → String) : Prop := ∀ co idx w na mid : Nat, q_mk P co idx = some (w, na, mid) →
  (w = 9 ∧ na = 1 ∧ Cond.methodLink (Rn co) idx Lib.objectInit ∈ q_WT ∧ Cond.instanceMethod Lib.objectInit ∈ q_WT ∧ Cond.code Lib.objectInit ⟨#[0xb1]⟩ 1 none ∈ q_WT) ∨
  (w ≠ 9 ∧ q_cw (ym mid) ∈ q_WT ∧ (q_hh (ym mid).1 = none ∨ w = 5) ∧ Cond.initialized (ym mid).1.cls ∈ q_WT ∧ (ym mid).1.cls ≠ "java/lang/invoke/MethodHandle" ∧ (ym mid).1.cls ≠ "java/lang/invoke/VarHandle" ∧ (ym mid).2.2.1 ≤ 40 ∧
    ((w = 0 ∧ 1 ≤ na ∧ Cond.methodLink (Rn co) idx (ym mid).1 ∈ q_WT ∧ Cond.instanceMethod (ym mid).1 ∈ q_WT ∧ Cond.selects (ym mid).1.cls (ym mid).1 (ym mid).1 ∈ q_WT ∧ (parseMethodDescriptor (ym mid).1.desc).map (fun d => d.parameters.length) = some (na - 1) ∧ (((q_mm P mid).1 = 100 ∧ (ym mid).1.cls = "java/lang/String") ∨ ((q_mm P mid).1 ≠ 100 ∧ ∀ q, vwCl[(q_mm P mid).1]? = some q → q.1 = (ym mid).1.cls))) ∨
     (w = 1 ∧ Cond.methodLink (Rn co) idx (ym mid).1 ∈ q_WT ∧ Cond.static (ym mid).1 ∈ q_WT ∧ (parseMethodDescriptor (ym mid).1.desc).map (fun d => d.parameters.length) = some na) ∨
     (w = 2 ∧ 1 ≤ na ∧ Cond.methodLink (Rn co) idx (ym mid).1 ∈ q_WT ∧ Cond.instanceMethod (ym mid).1 ∈ q_WT ∧ (ym mid).1.name = "<init>" ∧ (ym mid).2.2.2 = none ∧ (parseMethodDescriptor (ym mid).1.desc).map (fun d => d.parameters.length) = some (na - 1)) ∨
     (w = 5 ∧ (∃ hh, q_hh (ym mid).1 = some hh) ∧ Cond.methodLink (Rn co) idx (ym mid).1 ∈ q_WT ∧ Cond.static (ym mid).1 ∈ q_WT ∧ (parseMethodDescriptor (ym mid).1.desc).map (fun d => d.parameters.length) = some na) ∨
     (w = 3 ∧ (∃ h, (Rn co, idx, (ym mid).1, h) ∈ NW) ∧ Cond.static (ym mid).1 ∈ q_WT ∧ (parseMethodDescriptor (ym mid).1.desc).map (fun d => d.parameters.length) = some na) ∨
     (w = 4 ∧ 1 ≤ na ∧ (∃ h, (Rn co, idx, (ym mid).1, h) ∈ NW) ∧ Cond.instanceMethod (ym mid).1 ∈ q_WT ∧ (ym mid).1.name = "<init>" ∧ (ym mid).2.2.2 = none ∧ (parseMethodDescriptor (ym mid).1.desc).map (fun d => d.parameters.length) = some (na - 1))))
theorem q_WT_good : GoodIn q_WT q_WT := fun w hw => ⟨hw, good_of_word (List.mem_filter.mp hw).2⟩
theorem q_mW_good {Y : MethodName × ByteArray × Nat × Option FieldType} (h : q_cw Y ∈ q_WT) : GoodIn q_WT (q_mW Y) := fun w hw => (List.mem_cons.mp hw).elim (fun e => e ▸ q_WT_good _ h) (fun h => q_WT_good w h)
section QI
variable {p : Program} {l0 : Launch} {e : Env} {R : Room} {s : State} {m : MethodId} {args : Array Value} {below : List Frame} {meth : Method} {c : Code} {Q : State → Prop}
variable {P : q_P} {NW : List (String × Nat × MethodName × String)} {SR : q_SRt} {Rn : Nat → String} {co : Nat} {cc : ByteArray} {nL : Nat} {ini : Bool} {D : va_G} {cT : Nat → ClassId} {A : Nat → Prop} {ad : Nat → Nat} {l : q_L} {st : List q_V} {G : q_G} {M : q_M} {H : Heap} {locs : List Loc} {ls : Array Slot} {ca sa pc len idx kc ks : Nat} {T : q_T}
/-- behind a call -/
theorem q_fin {mc ms : Nat} {as rest : List q_V} {rr : Option q_V} {G' : q_G} {M' : q_M} {av : Array Value} (Y : q_Y P NW SR s nL D cT A ad l st G M H locs ls) (hr : va_Run p l0 e R s m args below meth c H locs ca sa mc ms (F0 m pc ls (st.map (q_cv ad))) (rest.map (q_cv ad)) (q_Post P D cT ad G M H.size rr G' M' av) (va_A (q_ws P cT ad G M) H.size))
    (hA : ∀ q, s.heap.size ≤ q → A q) (hrest : ∀ v ∈ rest, q_ov G.length v)
    (kk : q_KK p l0 e R s m args below meth c Q P NW SR nL D cT A ad G (pc + 3) (l, rr.toList ++ rest, G', M', ca + mc, sa + ms)) : W p l0 e R s m args below meth c H locs ca sa Q (F0 m pc ls (st.map (q_cv ad))) := by
  have hAA : ∀ q, va_A (q_ws P cT ad G M) H.size q → A q := by
    rintro q (⟨k, e0, h⟩ | h)
    · exact Y.2.1.2 k _ h
    · exact hA q (Nat.le_trans Y.2.2.1.1 h)
  intro T hT X
  obtain ⟨v, st₀, t, T', L, h0, X', hL, e1, e2, ⟨⟨ad', ha, hv, hP', hD', hG', hM', hle, hrv⟩, hz, hk⟩, stp⟩ := hr T hT X
  cases hv
  rw [h0] at hz hk
  have hS' : va_S A s.heap T'.heap (locs ++ L) := ⟨Nat.le_trans Y.2.2.1.1 (by rw [e1]; exact hz), fun q h1 h2 => by rw [e1, hk q (Nat.lt_of_lt_of_le h1 Y.2.2.1.1) (fun z => h2 (hAA q z))]; exact Y.2.2.1.2.1 q h1 h2, fun q hq => by
      rcases List.mem_append.mp hq with h | h
      · exact Y.2.2.1.2.2 q h
      · exact hAA _ (hL q h)⟩
  have hrest' : rest.map (q_cv ad') = rest.map (q_cv ad) := q_map_ext ha hrest
  have Yn : q_Y P NW SR s nL D cT A ad' l (rr.toList ++ rest) G' M' T'.heap (locs ++ L) ls := by
    refine ⟨by rw [e1]; exact hP', hD'.weaken (fun k q _ h => hAA _ h), hS', hG', hM', Y.2.2.2.2.2.1.ext ha Y.2.2.2.2.2.2.1, fun v hv => q_ov_mono (Y.2.2.2.2.2.2.1 v hv) hle, fun v hv => ?_, Y.2.2.2.2.2.2.2.2.1, ?_⟩
    · rcases List.mem_append.mp hv with h | h
      · exact hrv v (by cases rr with
          | none => simp at h
          | some w => simp at h; rw [h])
      · exact q_ov_mono (hrest v h) hle
    · obtain ⟨a1, a2, a3, a4⟩ := Y.2.2.2.2.2.2.2.2.2
      have f1 : ∀ i, ad' (1000 + i) = ad (1000 + i) := fun i => ha _ (Or.inr (by omega))
      have f2 : ∀ i, ad' (2000 + i) = ad (2000 + i) := fun i => ha _ (Or.inr (by omega))
      refine ⟨a1, fun r hr => by rw [f1]; exact a2 r hr, ?_, a4.1, by rw [ha 3000 (Or.inr (by decide))]; exact a4.2⟩
      simp only [f1, f2]
      exact a3
  have hW := kk ad' T'.heap (locs ++ L) ls ha hle Yn
  obtain ⟨t2, a1, b1⟩ := hW T' rfl X'
  refine ⟨t2, stp t2 ?_, b1⟩
  have e9 : (rr.toList ++ rest).map (q_cv ad') = (rr.map (q_cv ad')).toList ++ rest.map (q_cv ad) := by
    rw [List.map_append, hrest']
    cases rr <;> rfl
  simp only [e9] at a1
  exact a1
theorem q_take {na : Nat} (h : na ≤ st.length) : st.map (q_cv ad) = (((st.take na).reverse).map (q_cv ad)).reverse ++ (st.drop na).map (q_cv ad) := by
  rw [← List.map_reverse, List.reverse_reverse, ← List.map_append, List.take_append_drop]
theorem q_cats : ∀ (r : List q_V), (r.map (q_cv ad)).map (fun v => v.category) = r.map q_cat := fun r => by
  rw [List.map_map]
  exact List.map_congr_left (fun v _ => q_cvcat ad v)
end QI
