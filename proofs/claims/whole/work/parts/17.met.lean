section QE
variable {p : Program} {l0 : Launch} {e : Env} {R : Room} {s : State} {m : MethodId} {args : Array Value} {below : List Frame} {meth : Method} {c : Code}
variable {P : q_P} {NW : List (String × Nat × MethodName × String)} {SR : q_SRt} {Rn : Nat → String} {cc : ByteArray} {nL : Nat} {D : va_G} {cT : Nat → ClassId} {A : Nat → Prop} {kc ks d : Nat} {orc : q_O} {ym : q_ym} {mr : q_R} {rt : Option FieldType}
/-- a return -/
theorem q_end_s {Qc : Array Value → State → Outcome → State → Prop} {ins : Instr} {ad : Nat → Nat} {l : q_L} {st : List q_V} {G : q_G} {M : q_M} {H : Heap} {locs : List Loc} {ls : Array Slot} {pc : Nat} {r : Option q_V} (hx : p.tables.exec = Jvm.exec) (hb : c.code = cc) (hrt : meth.sig.returnType = rt) (hlocks : meth.locks = false) (hd : decode cc pc = .ok (ins, 1)) (he : q_end rt ins st = some r) (Y : q_Y P NW SR s nL D cT A ad l st G M H locs ls)
    (hq : ∀ t : State, t.heap = H → (∀ v, r = some v → q_ov G.length v) → Qc args s (.returned (r.map (q_cv ad))) t) : W p l0 e R s m args below meth c H locs kc ks (MQ below Qc args s kc ks A) (F0 m pc ls (st.map (q_cv ad))) := by
  have hf : ∀ q ∈ locs, A q.base := Y.2.2.1.2.2
  have hst := Y.2.2.2.2.2.2.2.1
  unfold q_end at he
  split at he
  · next x => cases he; exact W.iret hx hb hrt (fun t ht _ => hq t ht (fun v hv => by cases hv; exact hst _ List.mem_cons_self)) hf hd
  · next x =>
    split at he
    · next h => cases he; exact W.zret hx hb hrt (q_fit_bool h).1 (fun t ht _ => hq t ht (fun v hv => by cases hv; exact hst _ List.mem_cons_self)) hf hd
    · cases he
  · next x =>
    split at he
    · next h =>
      cases he
      refine W.zret hx hb hrt ?_ (fun t ht _ => hq t ht (fun v hv => by cases hv; exact hst _ List.mem_cons_self)) hf hd
      obtain ⟨n, rfl⟩ : ∃ n : Nat, x = (n : Int) := ⟨x.toNat, by omega⟩
      exact (pk_charN (q := n) (by omega)).1
    · cases he
  · next x =>
    split at he
    · next h =>
      cases he
      refine W.zret hx hb hrt ?_ (fun t ht _ => hq t ht (fun v hv => by cases hv; exact hst _ List.mem_cons_self)) hf hd
      rcases h with rfl | rfl <;> decide +kernel
    · cases he
  · next x => cases he; exact W.lret hx hb hrt (fun t ht _ => hq t ht (fun v hv => by cases hv; exact hst _ List.mem_cons_self)) hf hd
  · next n k => cases he; exact W.aret hx hb hrt (Or.inl ⟨n, rfl⟩) (Or.inr ⟨_, rfl⟩) (fun t ht _ => hq t ht (fun v hv => by cases hv; exact hst _ List.mem_cons_self)) hf hd
  · cases he; exact W.vret hx hb hrt (fun t ht _ => hq t ht (fun v hv => by cases hv)) hf hd
  · cases he
theorem q_isr_ln {ins : Instr} (h : q_isr ins = true) : q_ln ins = 1 := by
  cases ins <;> simp [q_isr] at h <;> rfl
set_option maxHeartbeats 4000000 in
theorem q_drv_s {ad0 : Nat → Nat} {G0 : q_G} {M0 : q_M} {r : Option q_V} {G' : q_G} {M' : q_M} {Qc : Array Value → State → Outcome → State → Prop} (X : q_X p s m args meth c Rn mr.1 cc nL mr.2.1 D cT A) (hTb : q_Tb P ym NW SR Rn) (hO : ∀ mid, q_Sd l0 P NW SR d (q_mm P mid).2.1 (q_mm P mid).2.2 (ym mid) (orc mid)) (hRf : d + 1 ≤ R.frames) (hRl : 64 * (d + 1) ≤ R.locals) (hkc : kc ≤ R.cells) (hks : ks ≤ R.slots) (hI : q_Iok cc mr.2.2.2.1) (hrt : meth.sig.returnType = rt) (hlocks : meth.locks = false)
    (hQ : ∀ (t : State) (ad : Nat → Nat) (locs : List Loc), va_P D vwCl (q_ws P cT ad G' M') t.heap → va_D A (q_ws P cT ad G' M') → va_S A s.heap t.heap locs → q_oG P G' → q_oM G' M' → q_adx G0.length ad0 ad → G0.length ≤ G'.length → (∀ v, r = some v → q_ov G'.length v) → Qc args s (.returned (r.map (q_cv ad))) t) :
    ∀ (F pc : Nat) (l : q_L) (st : List q_V) (G : q_G) (M : q_M) (ca sa : Nat) (ad : Nat → Nat) (H : Heap) (locs : List Loc) (ls : Array Slot), q_Y P NW SR s nL D cT A ad l st G M H locs ls → q_adx G0.length ad0 ad → G0.length ≤ G.length → q_drv orc P kc ks rt mr F pc l st G M ca sa = some (r, G', M') → W p l0 e R s m args below meth c H locs ca sa (MQ below Qc args s kc ks A) (F0 m pc ls (st.map (q_cv ad))) := by
  intro F
  induction F with
  | zero => intro pc l st G M ca sa ad H locs ls _ _ _ h; cases h
  | succ F ih =>
    intro pc l st G M ca sa ad H locs ls Y ha hle h
    unfold q_drv at h
    split at h
    · cases h
    · next pc' l' st' G1 M1 ca' sa' hden =>
      obtain ⟨a1, a2, a3⟩ := q_seek_ok (t := (pc : Int)) hI.1
      refine q_den_s X hTb hO hRf hRl hkc hks hI 1000 false _ l st G M ca sa ad H locs ls pc pc' _ a1 a2 (fun q l' hq => by have := a3 q l' hq; omega) Y hden (fun ad1 H1 locs1 ls1 ha1 hle1 Y1 => ?_)
      dsimp only at hle1 Y1 ⊢
      split at h
      · cases h
      · next p0 ins ln tl hsk =>
        obtain ⟨b1, b2, b3⟩ := q_seek_ok (t := (pc' : Int)) hI.1
        have hp0 : p0 = pc' := by have := b3 _ _ hsk; dsimp only at this; omega
        subst hp0
        obtain ⟨hd, hln, -⟩ := hI.2 _ (b2 _ (by rw [hsk]; exact List.mem_cons_self))
        dsimp only at hd hln
        split at h
        · next hr =>
          split at h
          · next hc =>
            split at h
            · next r' he =>
              cases h
              refine W.widen hc.1 hc.2 ?_
              rw [q_isr_ln hr] at hln
              subst hln
              exact q_end_s X.1 X.2.1 hrt hlocks hd he Y1 (fun t ht hv => hQ t ad1 locs1 (by rw [ht]; exact Y1.1) Y1.2.1 (by rw [ht]; exact Y1.2.2.1) Y1.2.2.2.1 Y1.2.2.2.2.1 (ha.tr hle ha1) (Nat.le_trans hle hle1) hv)
            · cases h
          · cases h
        · refine ih _ _ _ _ _ _ _ ad1 H1 locs1 ls1 ?_ (ha.tr hle ha1) (Nat.le_trans hle hle1) h
          exact Y1.lc Y1.2.2.2.2.2.2.2.1 ⟨by rw [q_mask_len]; exact Y1.2.2.2.2.2.1.1, Y1.2.2.2.2.2.1.2.1, fun i v hv => Y1.2.2.2.2.2.1.2.2 i v (q_mask_get hv)⟩ (fun v hv => by
            obtain ⟨i, hi⟩ := List.getElem?_of_mem hv
            exact Y1.2.2.2.2.2.2.1 v (List.mem_of_getElem? (q_mask_get hi))) (by rw [q_mask_len]; exact Y1.2.2.2.2.2.2.2.2.1)
/-- the table of methods is right -/
def q_MTok (ym : q_ym) (MT : Nat → q_R) (Rn : Nat → String) : Prop := ∀ mid, (MT mid).2.2.2.1 = [] ∨ (plainFor (ym mid).1 = true ∧ q_hh (ym mid).1 = none ∧ q_Iok (ym mid).2.1 (MT mid).2.2.2.1 ∧ Rn (MT mid).1 = (ym mid).1.cls ∧ ((MT mid).2.1 = true → (ym mid).1.name = "<init>"))
theorem q_lc_entry {ad : Nat → Nat} {as : List q_V} {n : Nat} (h : (q_ent as).length ≤ n) : q_lc ad (lg_sl (as.map (q_cv ad)) ++ List.replicate (n - (lg_sl (as.map (q_cv ad))).length) Slot.unset).toArray (q_entry n as) ∧ (q_entry n as).length = n ∧ ∀ v, some v ∈ q_entry n as → v ∈ as := by
  have h1 := lv_entry (as.map (q_cv ad)) (n := n) (by rw [q_ent_len]; exact h)
  have hlen : (q_entry n as).length = n := by simp [q_entry]; omega
  have key : ∀ (i : Nat) (v : q_V), (q_entry n as)[i]? = some (some v) → (q_ent as)[i]? = some (some v) := by
    intro i v hv
    unfold q_entry at hv
    by_cases hi : i < (q_ent as).length
    · rw [List.getElem?_append_left hi] at hv; exact hv
    · rw [List.getElem?_append_right (by omega)] at hv
      have := List.eq_of_mem_replicate (List.mem_of_getElem? hv)
      cases this
  refine ⟨⟨by rw [h1.1, hlen], h1.2.1, fun i v hv => ?_⟩, hlen, fun v hv => ?_⟩
  · have := (q_ent_get (ad := ad) as 0 i v (key i v hv)).1
    rw [Nat.zero_add] at this
    exact h1.2.2 _ this
  · obtain ⟨i, hi⟩ := List.getElem?_of_mem hv
    exact (q_ent_get (ad := ad) as 0 i v (key i v hi)).2
set_option maxHeartbeats 4000000 in
theorem q_met {MT : Nat → q_R} {ex : q_X9} (hEx : ∀ mid g, ex mid = some g → ∀ d, 3 ≤ d → q_Sd l0 P NW SR d (q_mm P mid).2.1 (q_mm P mid).2.2 (ym mid) g) (hTb : q_Tb P ym NW SR Rn) (hMT : q_MTok ym MT Rn) (hO : ∀ mid, q_Sd l0 P NW SR d (q_mm P mid).2.1 (q_mm P mid).2.2 (ym mid) (q_f P ym MT ex d mid)) (mid : Nat) : q_Sd l0 P NW SR (d + 1) (q_mm P mid).2.1 (q_mm P mid).2.2 (ym mid) (q_f P ym MT ex (d + 1) mid) := by
  intro D cT ad as G M r G' M' hf hG hM has sz
  rcases hex : ex mid with _ | g
  case some =>
    simp only [q_f, hex] at hf
    split at hf
    · next h3 => exact hEx mid g hex (d + 1) h3 D cT ad as G M r G' M' hf hG hM has sz
    · cases hf
  obtain ⟨hlen, F, hF⟩ := (q_f_iff hex).mp hf
  rcases hMT mid with hnil | ⟨hpl, hhn, hI, hRn, hini⟩
  · exfalso
    cases F with
    | zero => cases hF
    | succ F =>
      unfold q_drv at hF
      rw [hnil] at hF
      cases hF
  · refine va_MetF (cc := (ym mid).2.1) (maxL := (ym mid).2.2.1) (ret := (ym mid).2.2.2) (ws' := q_WT) hpl (by unfold q_mW q_cw; rw [hhn]) ?_
    intro p e s m args below meth c s₁ B hml hv
    obtain ⟨rfl, hsz, hP, hK, hD0, hE⟩ := hv
    subst hsz
    have hts := atoms_spec (ws := q_mW (ym mid)) B.pre
    have hown : s.vm.findClass (Rn (MT mid).1) = some m.cls := by rw [hRn]; exact findClass_of_methodNamed B.named
    have hnm := (name_of_methodNamed B.named B.method).1
    have hA : ∀ q : Nat, s.heap.size ≤ q → va_A (q_ws P cT ad G M) s.heap.size q := fun q h => Or.inr h
    have X : q_X p s m (as.map (q_cv ad)).toArray meth c Rn (MT mid).1 (ym mid).2.1 (ym mid).2.2.1 (MT mid).2.1 D cT (va_A (q_ws P cT ad G M) s.heap.size) := ⟨B.exec, B.bytes, hml, hown, fun w hw => hts w (List.mem_cons_of_mem _ hw), hK, hA, fun h => by rw [hnm]; exact hini h⟩
    rw [lg_entry_eq]
    obtain ⟨hl1, hl2, hl3⟩ := q_lc_entry (ad := ad) hlen
    generalize (lg_sl (as.map (q_cv ad)) ++ List.replicate ((ym mid).2.2.1 - (lg_sl (as.map (q_cv ad))).length) Slot.unset).toArray = ls at hl1 ⊢
    have Y : q_Y P NW SR s (ym mid).2.2.1 D cT (va_A (q_ws P cT ad G M) s.heap.size) ad (q_entry (ym mid).2.2.1 as) [] G M s.heap [] ls := ⟨hP, hD0.self, va_S.rf, hG, hM, hl1, fun v hv => has v (hl3 v hv), fun v hv => by simp at hv, hl2, hE⟩
    exact q_drv_s (ad0 := ad) (G0 := G) (M0 := M) X hTb hO (Nat.le_refl _) (Nat.le_refl _) (Nat.le_refl _) (Nat.le_refl _) hI B.returns B.notSynchronized (fun t ad' locs a1 a2 a3 a4 a5 a6 a7 a8 => ⟨⟨ad', a6, rfl, a1, a2, a4, a5, a7, a8⟩, a3.F rfl⟩) F 0 _ [] G M 0 0 ad s.heap [] ls Y q_adx.rf (Nat.le_refl _) hF
theorem q_all {MT : Nat → q_R} {ex : q_X9} (hEx : ∀ mid g, ex mid = some g → ∀ d, 3 ≤ d → q_Sd l0 P NW SR d (q_mm P mid).2.1 (q_mm P mid).2.2 (ym mid) g) (hTb : q_Tb P ym NW SR Rn) (hMT : q_MTok ym MT Rn) : ∀ d mid, q_Sd l0 P NW SR d (q_mm P mid).2.1 (q_mm P mid).2.2 (ym mid) (q_f P ym MT ex d mid)
  | 0 => fun mid D cT ad as G M r G' M' h => by cases h
  | d + 1 => q_met hEx hTb hMT (q_all hEx hTb hMT d)
end QE
