/-! from stop to stop -/
def q_ctg : q_I → Bool
  | [] => true
  | [_] => true
  | q :: r :: l => decide (r.1 = q.1 + q.2.2) && q_ctg (r :: l)
def q_off (ins : Instr) : Int := match ins with
  | .if_icmp _ off => off
  | .ifCond _ off => off
  | _ => 0
/-- the list of instructions is the code's -/
def q_Iok (cc : ByteArray) (I : q_I) : Prop := q_ctg I = true ∧ ∀ q ∈ I, decode cc q.1 = .ok (q.2.1, q.2.2) ∧ q.2.2 = q_ln q.2.1 ∧ 0 ≤ (q.1 : Int) + q_off q.2.1
theorem q_ctg_tl {q : Nat × Instr × Nat} {l : q_I} (h : q_ctg (q :: l) = true) : q_ctg l = true := by
  cases l with
  | nil => rfl
  | cons r l => simp only [q_ctg, Bool.and_eq_true] at h; exact h.2
theorem q_ctg_nx {q r : Nat × Instr × Nat} {l : q_I} (h : q_ctg (q :: r :: l) = true) : r.1 = q.1 + q.2.2 := by
  simp only [q_ctg, Bool.and_eq_true, decide_eq_true_eq] at h; exact h.1
theorem q_seek_ok {t : Int} : ∀ {I : q_I}, q_ctg I = true → q_ctg (q_seek t I) = true ∧ (∀ q ∈ q_seek t I, q ∈ I) ∧ ∀ q l, q_seek t I = q :: l → (q.1 : Int) = t
  | [], _ => ⟨rfl, fun _ h => h, fun _ _ h => by cases h⟩
  | q :: l, h => by
    unfold q_seek
    split
    · next he => exact ⟨h, fun _ h => h, fun r l' e => by cases e; exact he⟩
    · obtain ⟨a, b, c⟩ := q_seek_ok (t := t) (q_ctg_tl h)
      exact ⟨a, fun r hr => List.mem_cons_of_mem _ (b r hr), c⟩
def q_cP (c : ClassFile.Cond) (x y : Int) : Prop := match c with
  | .eq => x = y
  | .ne => ¬ x = y
  | .lt => x < y
  | .ge => ¬ x < y
  | .gt => y < x
  | .le => ¬ y < x
theorem q_br_or {α : Type} {c : ClassFile.Cond} {x y : Int} {a b r : α} (h : q_br c x y a b = r) : (q_cP c x y ∧ a = r) ∨ (¬ q_cP c x y ∧ b = r) := by
  cases c <;> simp only [q_br, q_cP] at h ⊢ <;> split at h <;> rename_i hc <;> first | exact Or.inl ⟨hc, h⟩ | exact Or.inr ⟨hc, h⟩ | exact Or.inr ⟨fun z => z hc, h⟩
theorem q_ck_or {α : Type} {rk : Nat} {r : Option (Option q_V × q_G × q_M)} {G : q_G} {k : List q_V → q_M → Option α} {z : α} (h : q_ck rk r G k = some z) : ∃ (v : Option q_V) (M' : q_M), r = some (v, G, M') ∧ k v.toList M' = some z := by
  unfold q_ck at h
  split at h
  · unfold q_c0 at h
    split at h
    · split at h
      · next e => subst e; exact ⟨_, _, rfl, h⟩
      · cases h
    · cases h
  · unfold q_cI at h
    split at h
    · split at h
      · next e => subst e; exact ⟨_, _, rfl, h⟩
      · cases h
    · cases h
  · unfold q_cL at h
    split at h
    · split at h
      · next e => subst e; exact ⟨_, _, rfl, h⟩
      · cases h
    · cases h
  · unfold q_cR at h
    split at h
    · split at h
      · next e => subst e; exact ⟨_, _, rfl, h⟩
      · cases h
    · cases h
theorem q_iv_or {α : Type} {orc : q_O} {P : q_P} {kc ks : Nat} {ws : List Nat} {co idx : Nat} {l : q_L} {st : List q_V} {G : q_G} {M : q_M} {ca sa : Nat} {k : List q_V → q_M → Nat → Nat → Option α} {z : α} (h : q_iv orc P kc ks ws co idx st G M ca sa k = some z) : ∃ (st' : List q_V) (M' : q_M) (ca' sa' : Nat), q_call orc P kc ks ws co idx l st G M ca sa = some (l, st', G, M', ca', sa') ∧ k st' M' ca' sa' = some z := by
  unfold q_iv at h
  split at h
  · next w na mid hmk =>
    split at h
    · next hc =>
      obtain ⟨h1, h2, h3, h4, h5⟩ := hc
      split at h
      · next hc2 =>
        obtain ⟨h6, h7⟩ := hc2
        obtain ⟨v, M', e1, e2⟩ := q_ck_or h
        refine ⟨_, M', _, _, ?_, e2⟩
        unfold q_call
        rw [hmk]
        dsimp only
        rw [if_pos ⟨h1, h3, h4⟩, if_neg h2, if_pos ⟨h5, h6, h7⟩, e1]
      · cases h
    · cases h
  · cases h
section QD
variable {p : Program} {l0 : Launch} {e : Env} {R : Room} {s : State} {m : MethodId} {args : Array Value} {below : List Frame} {meth : Method} {c : Code} {Q : State → Prop}
variable {P : q_P} {NW : List (String × Nat × MethodName × String)} {SR : q_SRt} {Rn : Nat → String} {co : Nat} {cc : ByteArray} {nL : Nat} {ini : Bool} {D : va_G} {cT : Nat → ClassId} {A : Nat → Prop} {kc ks d : Nat} {orc : q_O} {ym : q_ym}
theorem q_icmp_s {H : Heap} {locs : List Loc} {ls : Array Slot} {ca sa pc tgt : Nat} {rest : List Value} {cd : ClassFile.Cond} {off : Int} {x y : Int} (hx : p.tables.exec = Jvm.exec) (hb : c.code = cc) (hxr : q_r x) (hyr : q_r y) (hd : decode cc pc = .ok (.if_icmp cd off, 3)) (ht : (pc : Int) + off = (tgt : Int))
    (kt : q_cP cd x y → W p l0 e R s m args below meth c H locs ca sa Q (F0 m tgt ls rest)) (kf : ¬ q_cP cd x y → W p l0 e R s m args below meth c H locs ca sa Q (F0 m (pc + 3) ls rest)) : W p l0 e R s m args below meth c H locs ca sa Q (F0 m pc ls (.int (Int32.ofInt y) :: .int (Int32.ofInt x) :: rest)) := by
  cases cd with
  | eq => exact lv_icmp_eq hx hb hd ht (fun h => kt ((q_eq hxr hyr).mp h)) (fun h => kf (fun z => h ((q_eq hxr hyr).mpr z)))
  | ne => exact lv_icmp_ne hx hb hd ht (fun h => kt (fun z => h ((q_eq hxr hyr).mpr z))) (fun h => kf (fun z => z ((q_eq hxr hyr).mp h)))
  | lt => exact lv_icmp_lt hx hb hd ht (fun h => kt ((q_lt hxr hyr).mp h)) (fun h => kf (fun z => h ((q_lt hxr hyr).mpr z)))
  | ge => exact lv_icmp_ge hx hb hd ht (fun h => kt (by have := (q_le hyr hxr).mp h; show ¬ x < y; omega)) (fun h => kf (fun z => h ((q_le hyr hxr).mpr (by have z : ¬ x < y := z; omega))))
  | gt => exact lv_icmp_gt hx hb hd ht (fun h => kt ((q_lt hyr hxr).mp h)) (fun h => kf (fun z => h ((q_lt hyr hxr).mpr z)))
  | le => exact lv_icmp_le hx hb hd ht (fun h => kt (by have := (q_le hxr hyr).mp h; show ¬ y < x; omega)) (fun h => kf (fun z => h ((q_le hxr hyr).mpr (by have z : ¬ y < x := z; omega))))
theorem q_if_s {H : Heap} {locs : List Loc} {ls : Array Slot} {ca sa pc tgt : Nat} {rest : List Value} {cd : ClassFile.Cond} {off : Int} {x : Int} (hx : p.tables.exec = Jvm.exec) (hb : c.code = cc) (hxr : q_r x) (hd : decode cc pc = .ok (.ifCond cd off, 3)) (ht : (pc : Int) + off = (tgt : Int))
    (kt : q_cP cd x 0 → W p l0 e R s m args below meth c H locs ca sa Q (F0 m tgt ls rest)) (kf : ¬ q_cP cd x 0 → W p l0 e R s m args below meth c H locs ca sa Q (F0 m (pc + 3) ls rest)) : W p l0 e R s m args below meth c H locs ca sa Q (F0 m pc ls (.int (Int32.ofInt x) :: rest)) := by
  have hyr : q_r 0 := q_0r
  have e0 : Int32.ofInt 0 = (0 : Int32) := rfl
  have h1 := q_eq hxr hyr
  have h2 := q_lt hxr hyr
  have h3 := q_le hyr hxr
  have h4 := q_lt hyr hxr
  have h5 := q_le hxr hyr
  rw [e0] at h1 h2 h3 h4 h5
  cases cd with
  | eq => exact lv_if_eq hx hb hd ht (fun h => kt (h1.mp h)) (fun h => kf (fun z => h (h1.mpr z)))
  | ne => exact lv_if_ne hx hb hd ht (fun h => kt (fun z => h (h1.mpr z))) (fun h => kf (fun z => z (h1.mp h)))
  | lt => exact lv_if_lt hx hb hd ht (fun h => kt (h2.mp h)) (fun h => kf (fun z => h (h2.mpr z)))
  | ge => exact lv_if_ge hx hb hd ht (fun h => kt (by have := h3.mp h; show ¬ x < 0; omega)) (fun h => kf (fun z => h (h3.mpr (by have z : ¬ x < 0 := z; omega))))
  | gt => exact lv_if_gt hx hb hd ht (fun h => kt (h4.mp h)) (fun h => kf (fun z => h (h4.mpr z)))
  | le => exact lv_if_le hx hb hd ht (fun h => kt (by have := h5.mp h; show ¬ 0 < x; omega)) (fun h => kf (fun z => h (h5.mpr (by have z : ¬ 0 < x := z; omega))))
set_option maxHeartbeats 4000000 in
theorem q_den_s {I : q_I} {sp : List Nat} (X : q_X p s m args meth c Rn co cc nL ini D cT A) (hTb : q_Tb P ym NW SR Rn) (hO : ∀ mid, q_Sd l0 P NW SR d (q_mm P mid).2.1 (q_mm P mid).2.2 (ym mid) (orc mid)) (hRf : d + 1 ≤ R.frames) (hRl : 64 * (d + 1) ≤ R.locals) (hkc : kc ≤ R.cells) (hks : ks ≤ R.slots) (hI : q_Iok cc I) :
    ∀ (n : Nat) (b : Bool) (rm : q_I) (l : q_L) (st : List q_V) (G : q_G) (M : q_M) (ca sa : Nat) (ad : Nat → Nat) (H : Heap) (locs : List Loc) (ls : Array Slot) (pc pc' : Nat) (T : q_T), q_ctg rm = true → (∀ q ∈ rm, q ∈ I) → (∀ q l', rm = q :: l' → q.1 = pc) → q_Y P NW SR s nL D cT A ad l st G M H locs ls → q_den orc P ini kc ks co I sp n b rm l st G M ca sa = some (pc', T) →
      q_KK p l0 e R s m args below meth c Q P NW SR nL D cT A ad G pc' T → W p l0 e R s m args below meth c H locs ca sa Q (F0 m pc ls (st.map (q_cv ad))) := by
  intro n
  induction n with
  | zero => intro b rm l st G M ca sa ad H locs ls pc pc' T _ _ _ _ h; cases h
  | succ n ih =>
    intro b rm l st G M ca sa ad H locs ls pc pc' T hct hin hpc Y h kk
    have hx := X.1
    have hb := X.2.1
    unfold q_den at h
    split at h
    · cases h
    · next pc0 ins len tl =>
      have e0 : pc0 = pc := hpc _ _ rfl
      subst e0
      obtain ⟨hd, hln, htg⟩ := hI.2 _ (hin _ List.mem_cons_self)
      dsimp only at hd hln htg
      have hctl := q_ctg_tl hct
      have hintl : ∀ q ∈ tl, q ∈ I := fun q hq => hin q (List.mem_cons_of_mem _ hq)
      have hnx : ∀ q l', tl = q :: l' → q.1 = pc0 + len := fun q l' hq => by subst hq; exact q_ctg_nx hct
      split at h
      · cases h
        exact q_go Y kk Y.2.2.2.2.2.2.2.1
      · have jump : ∀ (off : Int) (r : List q_V) (b' : Bool) (tgt : Nat), (∀ v ∈ r, q_ov G.length v) → q_den orc P ini kc ks co I sp n b' (q_seek ((pc0 : Int) + off) I) l r G M ca sa = some (pc', T) → (pc0 : Int) + off = (tgt : Int) → W p l0 e R s m args below meth c H locs ca sa Q (F0 m tgt ls (r.map (q_cv ad))) := by
          intro off r b' tgt hr hj ht
          obtain ⟨a1, a2, a3⟩ := q_seek_ok (t := (pc0 : Int) + off) hI.1
          exact ih b' _ l r G M ca sa ad H locs ls tgt pc' T a1 a2 (fun q l' hq => by have := a3 q l' hq; omega) (Y.st hr) hj kk
        have tgtof : ∀ (off : Int) (r : List q_V) (b' : Bool), q_den orc P ini kc ks co I sp n b' (q_seek ((pc0 : Int) + off) I) l r G M ca sa = some (pc', T) → ∃ tgt : Nat, (pc0 : Int) + off = (tgt : Int) := by
          intro off r b' hj
          rcases hsk : q_seek ((pc0 : Int) + off) I with _ | ⟨q, l'⟩
          · rw [hsk] at hj
            cases n with
            | zero => cases hj
            | succ n => cases hj
          · exact ⟨q.1, ((q_seek_ok (t := (pc0 : Int) + off) hI.1).2.2 q l' hsk).symm⟩
        split at h
        · next off =>
          obtain ⟨tgt, ht⟩ := tgtof off st true h
          subst hln
          exact lv_goto hx hb hd ht (jump off st true tgt Y.2.2.2.2.2.2.2.1 h ht)
        · next cd off =>
          subst hln
          split at h
          · next y x r =>
            obtain ⟨hy, h1⟩ := q_tl Y.2.2.2.2.2.2.2.1 rfl
            obtain ⟨hxr, hr⟩ := q_tl h1 rfl
            obtain ⟨tgt, ht⟩ : ∃ tgt : Nat, (pc0 : Int) + off = (tgt : Int) := ⟨((pc0 : Int) + off).toNat, (Int.toNat_of_nonneg htg).symm⟩
            rcases q_br_or h with ⟨hc, hj⟩ | ⟨hc, hj⟩
            · exact q_icmp_s hx hb hxr hy hd ht (fun _ => jump off r true tgt hr hj ht) (fun z => absurd hc z)
            · exact q_icmp_s hx hb hxr hy hd ht (fun z => absurd z hc) (fun _ => ih true tl l r G M ca sa ad H locs ls _ pc' T hctl hintl hnx (Y.st hr) hj kk)
          · cases h
        · next cd off =>
          subst hln
          split at h
          · next x r =>
            obtain ⟨hxr, hr⟩ := q_tl Y.2.2.2.2.2.2.2.1 rfl
            obtain ⟨tgt, ht⟩ : ∃ tgt : Nat, (pc0 : Int) + off = (tgt : Int) := ⟨((pc0 : Int) + off).toNat, (Int.toNat_of_nonneg htg).symm⟩
            rcases q_br_or h with ⟨hc, hj⟩ | ⟨hc, hj⟩
            · exact q_if_s hx hb hxr hd ht (fun _ => jump off r true tgt hr hj ht) (fun z => absurd hc z)
            · exact q_if_s hx hb hxr hd ht (fun z => absurd z hc) (fun _ => ih true tl l r G M ca sa ad H locs ls _ pc' T hctl hintl hnx (Y.st hr) hj kk)
          · cases h
        · next i =>
          subst hln
          obtain ⟨st', M', ca', sa', hcall, hk⟩ := q_iv_or (l := l) h
          exact q_call_s X hTb.2.2.2.2.2.2 hO hRf hRl hkc hks Y hcall (fun ad1 H1 locs1 ls1 ha hle Y1 => ih true tl l st' G M' ca' sa' ad1 H1 locs1 ls1 _ pc' T hctl hintl hnx Y1 hk (fun ad2 H2 locs2 ls2 ha2 hle2 Y2 => kk ad2 H2 locs2 ls2 (ha.tr hle ha2) (Nat.le_trans hle hle2) Y2)) hd (Or.inl ⟨rfl, rfl⟩)
        · next i =>
          subst hln
          obtain ⟨st', M', ca', sa', hcall, hk⟩ := q_iv_or (l := l) h
          exact q_call_s X hTb.2.2.2.2.2.2 hO hRf hRl hkc hks Y hcall (fun ad1 H1 locs1 ls1 ha hle Y1 => ih true tl l st' G M' ca' sa' ad1 H1 locs1 ls1 _ pc' T hctl hintl hnx Y1 hk (fun ad2 H2 locs2 ls2 ha2 hle2 Y2 => kk ad2 H2 locs2 ls2 (ha.tr hle ha2) (Nat.le_trans hle hle2) Y2)) hd (Or.inr (Or.inl ⟨rfl, rfl⟩))
        · split at h
          · next l' st' G' M' ca' sa' hstp =>
            refine q_stp_s X hTb hO hRf hRl hkc hks Y hstp hd hln (fun ad1 H1 locs1 ls1 ha hle Y1 => ?_)
            exact ih true tl l' st' G' M' ca' sa' ad1 H1 locs1 ls1 _ pc' T hctl hintl hnx Y1 h (fun ad2 H2 locs2 ls2 ha2 hle2 Y2 => kk ad2 H2 locs2 ls2 (ha.tr hle ha2) (Nat.le_trans hle hle2) Y2)
          · cases h
end QD
