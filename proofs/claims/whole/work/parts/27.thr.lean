/-! methods that may throw: what the small machine comes to, or where it throws -/
abbrev q_Rx : Type := (Option q_V × q_G × q_M) ⊕ (Nat × q_G × q_M)
def q_drx (orc : q_O) (P : q_P) (rt : Option FieldType) (mr : q_R) (th : List Nat) : Nat → Nat → q_L → List q_V → q_G → q_M → Option q_Rx
  | 0, _, _, _, _, _ => none
  | F + 1, pc, l, st, G, M => match q_den orc P mr.2.1 0 0 mr.1 mr.2.2.2.1 (mr.2.2.2.2.map (·.1)) 1000 false (q_seek (pc : Int) mr.2.2.2.1) l st G M 0 0 with
    | none => none
    | some (pc', l', st', G', M', ca', sa') => if ca' = 0 ∧ sa' = 0 then (if pc' ∈ th then (if st' = [] then some (.inr (pc', G', M')) else none) else match q_seek (pc' : Int) mr.2.2.2.1 with
      | [] => none
      | (_, ins, _) :: _ => if q_isr ins = true then (match q_end rt ins st' with
          | some r => some (.inl (r, G', M'))
          | none => none)
        else q_drx orc P rt mr th F pc' (q_mask (((mr.2.2.2.2.find? (fun q => q.1 == pc')).map (·.2)).getD []) l') st' G' M') else none
section QF
variable {p : Program} {l0 : Launch} {e : Env} {R : Room} {s : State} {m : MethodId} {args : Array Value} {below : List Frame} {meth : Method} {c : Code}
variable {P : q_P} {NW : List (String × Nat × MethodName × String)} {SR : q_SRt} {Rn : Nat → String} {cc : ByteArray} {nL : Nat} {D : va_G} {cT : Nat → ClassId} {A : Nat → Prop} {d : Nat} {orc : q_O} {ym : q_ym} {mr : q_R} {rt : Option FieldType}
set_option maxHeartbeats 4000000 in
theorem q_drx_s {th : List Nat} {ad0 : Nat → Nat} {G0 : q_G} {rx : q_Rx} {Qc : Array Value → State → Outcome → State → Prop} {XC : String → State → State → Prop} (X : q_X p s m args meth c Rn mr.1 cc nL mr.2.1 D cT A) (hTb : q_Tb P ym NW SR Rn) (hO : ∀ mid, q_Sd l0 P NW SR d (q_mm P mid).2.1 (q_mm P mid).2.2 (ym mid) (orc mid)) (hRf : d + 1 ≤ R.frames) (hRl : 64 * (d + 1) ≤ R.locals) (hI : q_Iok cc mr.2.2.2.1) (hrt : meth.sig.returnType = rt) (hlocks : meth.locks = false)
    (hQ : ∀ (r : Option q_V) (G' : q_G) (M' : q_M), rx = .inl (r, G', M') → ∀ (t : State) (ad : Nat → Nat) (locs : List Loc), va_P D vwCl (q_ws P cT ad G' M') t.heap → va_D A (q_ws P cT ad G' M') → va_S A s.heap t.heap locs → q_oG P G' → q_oM G' M' → q_adx G0.length ad0 ad → G0.length ≤ G'.length → (∀ v, r = some v → q_ov G'.length v) → Qc args s (.returned (r.map (q_cv ad))) t)
    (hT : ∀ (pc' : Nat) (G' : q_G) (M' : q_M), rx = .inr (pc', G', M') → pc' ∈ th → ∀ (ad : Nat → Nat) (l : q_L) (H : Heap) (locs : List Loc) (ls : Array Slot), q_Y P NW SR s nL D cT A ad l [] G' M' H locs ls → q_adx G0.length ad0 ad → G0.length ≤ G'.length → W p l0 e R s m args below meth c H locs 0 0 (vx_MQ below Qc XC args s 1 6 A) (F0 m pc' ls [])) :
    ∀ (F pc : Nat) (l : q_L) (st : List q_V) (G : q_G) (M : q_M) (ad : Nat → Nat) (H : Heap) (locs : List Loc) (ls : Array Slot), q_Y P NW SR s nL D cT A ad l st G M H locs ls → q_adx G0.length ad0 ad → G0.length ≤ G.length → q_drx orc P rt mr th F pc l st G M = some rx → W p l0 e R s m args below meth c H locs 0 0 (vx_MQ below Qc XC args s 1 6 A) (F0 m pc ls (st.map (q_cv ad))) := by
  intro F
  induction F with
  | zero => intro pc l st G M ad H locs ls _ _ _ h; cases h
  | succ F ih =>
    intro pc l st G M ad H locs ls Y ha hle h
    unfold q_drx at h
    split at h
    · cases h
    · next pc' l' st' G1 M1 ca' sa' hden =>
      obtain ⟨a1, a2, a3⟩ := q_seek_ok (t := (pc : Int)) hI.1
      refine q_den_s X hTb hO hRf hRl (Nat.zero_le _) (Nat.zero_le _) hI 1000 false _ l st G M 0 0 ad H locs ls pc pc' _ a1 a2 (fun q l' hq => by have := a3 q l' hq; omega) Y hden (fun ad1 H1 locs1 ls1 ha1 hle1 Y1 => ?_)
      dsimp only at hle1 Y1 ⊢
      split at h
      · next h0 =>
        obtain ⟨rfl, rfl⟩ := h0
        split at h
        · next hth =>
          split at h
          · next hst =>
            subst hst
            cases h
            exact hT _ _ _ rfl hth ad1 l' H1 locs1 ls1 Y1 (ha.tr hle ha1) (Nat.le_trans hle hle1)
          · cases h
        · split at h
          · cases h
          · next p0 ins ln tl hsk =>
            obtain ⟨b1, b2, b3⟩ := q_seek_ok (t := (pc' : Int)) hI.1
            have hp0 : p0 = pc' := by have := b3 _ _ hsk; dsimp only at this; omega
            subst hp0
            obtain ⟨hd, hln, -⟩ := hI.2 _ (b2 _ (by rw [hsk]; exact List.mem_cons_self))
            dsimp only at hd hln
            split at h
            · next hr =>
              split at h
              · next r' he =>
                cases h
                refine W.widen (k := 1) (n := 6) (by omega) (by omega) ?_
                rw [q_isr_ln hr] at hln
                subst hln
                refine vx_ret ?_
                exact q_end_s X.1 X.2.1 hrt hlocks hd he Y1 (fun t ht hv => hQ _ _ _ rfl t ad1 locs1 (by rw [ht]; exact Y1.1) Y1.2.1 (by rw [ht]; exact Y1.2.2.1) Y1.2.2.2.1 Y1.2.2.2.2.1 (ha.tr hle ha1) (Nat.le_trans hle hle1) hv)
              · cases h
            · refine ih _ _ _ _ _ ad1 H1 locs1 ls1 ?_ (ha.tr hle ha1) (Nat.le_trans hle hle1) h
              exact Y1.lc Y1.2.2.2.2.2.2.2.1 ⟨by rw [q_mask_len]; exact Y1.2.2.2.2.2.1.1, Y1.2.2.2.2.2.1.2.1, fun i v hv => Y1.2.2.2.2.2.1.2.2 i v (q_mask_get hv)⟩ (fun v hv => by
                obtain ⟨i, hi⟩ := List.getElem?_of_mem hv
                exact Y1.2.2.2.2.2.2.1 v (List.mem_of_getElem? (q_mask_get hi))) (by rw [q_mask_len]; exact Y1.2.2.2.2.2.2.2.2.1)
      · cases h
/-- what a throw leaves: the class thrown, the world -/
def q_XC (P : q_P) (D : va_G) (cT : Nat → ClassId) (ad : Nat → Nat) (G : q_G) (M : q_M) (sz : Nat) (cls : String) (G' : q_G) (M' : q_M) : String → State → State → Prop := fun E st t => E = cls ∧ (∃ ad' : Nat → Nat, q_adx G.length ad ad' ∧ va_P D vwCl (q_ws P cT ad' G' M') t.heap ∧ va_D (va_A (q_ws P cT ad G M) sz) (q_ws P cT ad' G' M') ∧ q_oG P G' ∧ q_oM G' M' ∧ G.length ≤ G'.length) ∧ va_F (va_A (q_ws P cT ad G M) sz) st t
def q_nm2 : List String := ["java/lang/RuntimeException", "java/lang/Exception"]
/-- a throw's words -/
theorem q_hat (own cls : String) (ic : Nat) (hx : q_X p s m args meth c Rn mr.1 cc nL mr.2.1 D cT A) (hE : q_E9 P (0 : Nat) A s s.heap ∨ ∃ a, q_E9 P a A s s.heap) (hc : cls ∈ q_CL) (hall : (vx_atS own ic cls q_nm2).all (fun w => (goodWord w && decide (w ∈ tables_1)) || decide (w = .castable cls cls) || q_DL.any (fun y => decide (w = .declares y))) = true) : ∀ w ∈ vx_atS own ic cls q_nm2, w.before args s = true := by
  intro w hw
  have h := List.all_eq_true.mp hall w hw
  simp only [Bool.or_eq_true, Bool.and_eq_true, decide_eq_true_eq, List.any_eq_true] at h
  obtain ⟨a, hE⟩ : ∃ a, q_E9 P a A s s.heap := hE.elim (fun h => ⟨0, h⟩) id
  rcases h with (⟨h1, h2⟩ | h1) | ⟨y, hy, h1⟩
  · exact hx.2.2.2.2.1 w (List.mem_filter.mpr ⟨List.mem_append_right _ h2, h1⟩)
  · subst h1
    exact va_Nw.use rfl (hE.2.2.2.1 cls hc)
  · subst h1
    exact va_Nw.use rfl (hE.2.2.1 y hy)
end QF
