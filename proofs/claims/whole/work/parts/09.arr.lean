section QA
variable {p : Program} {l0 : Launch} {e : Env} {R : Room} {s : State} {m : MethodId} {args : Array Value} {below : List Frame} {meth : Method} {c : Code} {Q : State → Prop}
variable {P : q_P} {NW : List (String × Nat × MethodName × String)} {SR : q_SRt} {Rn : Nat → String} {co : Nat} {cc : ByteArray} {nL : Nat} {ini : Bool} {D : va_G} {cT : Nat → ClassId} {A : Nat → Prop} {ad : Nat → Nat} {l : q_L} {st : List q_V} {G : q_G} {M : q_M} {H : Heap} {locs : List Loc} {ls : Array Slot} {ca sa pc len idx : Nat} {T : q_T}
/-- reading an int, a boolean, a char out of an array -/
theorem q_ald_s {t : Nat} (Y : q_Y P NW SR s nL D cT A ad l st G M H locs ls) (ht3 : t ≠ 3) (hs : q_ald t l st G M ca sa = some T) (kk : q_KK p l0 e R s m args below meth c Q P NW SR nL D cT A ad G (pc + 1) T)
    (hw : ∀ (a n : Nat) (f : Nat → Int32) (i : Int32) (rest : List Value), (q_ws P cT ad G M)[a]? = some (ad a, .inl (cT t, n, .inl f)) → vp_in i n → W p l0 e R s m args below meth c H locs ca sa Q (F0 m (pc + 1) ls (.int (f i.toNatClampNeg) :: rest)) → W p l0 e R s m args below meth c H locs ca sa Q (F0 m pc ls (.int i :: .ref (ad a) :: rest))) : W p l0 e R s m args below meth c H locs ca sa Q (F0 m pc ls (st.map (q_cv ad))) := by
  unfold q_ald at hs
  split at hs
  · next i a r =>
    obtain ⟨hir, h1⟩ := q_tl Y.2.2.2.2.2.2.2.1 rfl
    obtain ⟨ha, hr⟩ := q_tl h1 rfl
    split at hs
    · next t' n hG =>
      split at hs
      · next ht =>
        subst ht
        split at hs
        · next hi =>
          cases hs
          obtain ⟨h2, h3⟩ := q_in hir hi
          have hg := q_ws_get (P := P) (cT := cT) (ad := ad) (M := M) hG
          simp only [q_c, q_ca, if_neg ht3] at hg
          refine hw a n _ (Int32.ofInt i) (r.map (q_cv ad)) hg h2 ?_
          rw [h3]
          exact q_go Y kk (q_cons (show q_ov G.length (.inl (M a i.toNat)) from (Y.2.2.2.2.1 a _).2 (fun n' h => by rw [hG] at h; cases h; exact ht3 rfl)) hr)
        · cases hs
      · cases hs
    · cases hs
  · cases hs
theorem q_sb_get {i : Nat} {bs : List Int} (h : (q_sb P)[i]? = some bs) : i < (q_sb P).length ∧ ((q_sb P).map List.length).getD i 0 = bs.length ∧ ((q_sb P).map (List.map Int32.ofInt)).getD i [] = bs.map Int32.ofInt := by
  refine ⟨(List.getElem?_eq_some_iff.mp h).1, ?_, ?_⟩
  · rw [List.getD_eq_getElem?_getD, List.getElem?_map, h]; rfl
  · rw [List.getD_eq_getElem?_getD, List.getElem?_map, h]; rfl
def q_Sok (P : q_P) : Prop := (∀ bs ∈ q_sb P, bs.length < 1000 ∧ ∀ b ∈ bs, 0 ≤ b ∧ b < 128) ∧ (q_sc P).length < 1000 ∧ ∀ x ∈ q_sc P, q_r x
theorem q_bald_s (X : q_X p s m args meth c Rn co cc nL ini D cT A) (hSo : q_Sok P) (Y : q_Y P NW SR s nL D cT A ad l st G M H locs ls) (hs : q_bald P l st G M ca sa = some T) (kk : q_KK p l0 e R s m args below meth c Q P NW SR nL D cT A ad G (pc + 1) T) (hd : decode cc pc = .ok (.baload, 1)) : W p l0 e R s m args below meth c H locs ca sa Q (F0 m pc ls (st.map (q_cv ad))) := by
  obtain ⟨hx, hb, hml, hown, hts, hK, hA, hin⟩ := X
  unfold q_bald at hs
  split at hs
  · next i a r =>
    obtain ⟨hir, h1⟩ := q_tl Y.2.2.2.2.2.2.2.1 rfl
    obtain ⟨ha, hr⟩ := q_tl h1 rfl
    split at hs
    · next h2000 =>
      split at hs
      · next bs hbs =>
        split at hs
        · next hi =>
          cases hs
          obtain ⟨k, rfl⟩ : ∃ k, a = 2000 + k := ⟨a - 2000, by omega⟩
          rw [show 2000 + k - 2000 = k by omega] at hbs
          obtain ⟨h2, h3, h4⟩ := q_sb_get hbs
          obtain ⟨h5, h6⟩ := q_in hir hi
          have hK9 := ((Y.2.2.2.2.2.2.2.2.2.2.2.1).1 k h2).2.2.2
          rw [h3, h4] at hK9
          have hlt : i.toNat < bs.length := by omega
          have hbm := hSo.1 bs (List.mem_of_getElem? hbs)
          have hv : bs.getD i.toNat 0 = bs[i.toNat] := by rw [List.getD_eq_getElem?_getD, List.getElem?_eq_getElem hlt]; rfl
          have hbb := hbm.2 _ (List.getElem_mem hlt)
          refine va_tb hx hb hK9 Y.2.2.1 (v := .int (Int32.ofInt (bs.getD i.toNat 0))) h5 ?_ hd ?_
          · rw [h6]
            show Value.int ((bs.map Int32.ofInt).getD i.toNat 0) = _
            rw [List.getD_eq_getElem?_getD, List.getElem?_map, List.getElem?_eq_getElem hlt, hv]; rfl
          · exact q_go Y kk (q_cons (show q_r (bs.getD i.toNat 0) by rw [hv]; exact ⟨by omega, by omega⟩) hr)
        · cases hs
      · cases hs
    · exact q_ald_s Y (by decide) hs kk (fun a n f i rest hg hi hk => va_zald hx hb hK Y.1 a 1 hg rfl hi hd hk)
  · cases hs
theorem q_iald_s (X : q_X p s m args meth c Rn co cc nL ini D cT A) (hSo : q_Sok P) (Y : q_Y P NW SR s nL D cT A ad l st G M H locs ls) (hs : q_iald P l st G M ca sa = some T) (kk : q_KK p l0 e R s m args below meth c Q P NW SR nL D cT A ad G (pc + 1) T) (hd : decode cc pc = .ok (.iaload, 1)) : W p l0 e R s m args below meth c H locs ca sa Q (F0 m pc ls (st.map (q_cv ad))) := by
  obtain ⟨hx, hb, hml, hown, hts, hK, hA, hin⟩ := X
  unfold q_iald at hs
  split at hs
  · next i a r =>
    obtain ⟨hir, h1⟩ := q_tl Y.2.2.2.2.2.2.2.1 rfl
    obtain ⟨ha, hr⟩ := q_tl h1 rfl
    split at hs
    · next h3000 =>
      subst h3000
      split at hs
      · next hi =>
        cases hs
        obtain ⟨h5, h6⟩ := q_in hir hi
        have hK9 := Y.2.2.2.2.2.2.2.2.2.2.2.2.2.1
        have hlt : i.toNat < (q_sc P).length := by omega
        have hv : (q_sc P).getD i.toNat 0 = (q_sc P)[i.toNat] := by rw [List.getD_eq_getElem?_getD, List.getElem?_eq_getElem hlt]; rfl
        refine va_ti hx hb hK9 Y.2.2.1 (v := .int (Int32.ofInt ((q_sc P).getD i.toNat 0))) h5 (by rw [h6]) hd ?_
        exact q_go Y kk (q_cons (show q_r ((q_sc P).getD i.toNat 0) by rw [hv]; exact hSo.2.2 _ (List.getElem_mem hlt)) hr)
      · cases hs
    · exact q_ald_s Y (by decide) hs kk (fun a n f i rest hg hi hk => va_iald hx hb hK Y.1 a 0 hg rfl hi hd hk)
  · cases hs
theorem q_lald_s (X : q_X p s m args meth c Rn co cc nL ini D cT A) (Y : q_Y P NW SR s nL D cT A ad l st G M H locs ls) (hs : q_lald l st G M ca sa = some T) (kk : q_KK p l0 e R s m args below meth c Q P NW SR nL D cT A ad G (pc + 1) T) (hd : decode cc pc = .ok (.laload, 1)) : W p l0 e R s m args below meth c H locs ca sa Q (F0 m pc ls (st.map (q_cv ad))) := by
  obtain ⟨hx, hb, hml, hown, hts, hK, hA, hin⟩ := X
  unfold q_lald at hs
  split at hs
  · next i a r =>
    obtain ⟨hir, h1⟩ := q_tl Y.2.2.2.2.2.2.2.1 rfl
    obtain ⟨ha, hr⟩ := q_tl h1 rfl
    split at hs
    · next t' n hG =>
      split at hs
      · next ht =>
        subst ht
        split at hs
        · next hi =>
          cases hs
          obtain ⟨h2, h3⟩ := q_in hir hi
          have hg := q_ws_get (P := P) (cT := cT) (ad := ad) (M := M) hG
          simp only [q_c, q_ca, if_true] at hg
          refine va_lald hx hb hK Y.1 a 3 hg rfl h2 hd ?_
          rw [h3]
          exact q_go Y kk (q_cons (show q_ov G.length (.inr (.inl (M a i.toNat))) from (Y.2.2.2.2.1 a _).1) hr)
        · cases hs
      · cases hs
    · cases hs
  · cases hs
theorem q_nar_b {x : Int} (h : x = 0 ∨ x = 1) : vp_nar .boolean (Int32.ofInt x) = Int32.ofInt x := by rcases h with rfl | rfl <;> decide +kernel
theorem q_nar_c {x : Int} (h : 0 ≤ x ∧ x < 65536) : vp_nar .char (Int32.ofInt x) = Int32.ofInt x := by
  obtain ⟨n, rfl⟩ : ∃ n : Nat, x = (n : Int) := ⟨x.toNat, by omega⟩
  have e0 : Int32.ofInt (n : Int) = nI n := rfl
  have h2 := (pk_charN (q := n) (by omega)).1
  unfold vp_nar
  rw [e0, h2]
theorem q_upd {f : Nat → Int} {j : Nat} {x : Int} : upd (fun k => Int32.ofInt (f k)) j (Int32.ofInt x) = fun k => Int32.ofInt (if k = j then x else f k) := by
  funext k
  unfold upd
  split <;> rfl
theorem q_updL {f : Nat → Int} {j : Nat} {x : Int} : vp_updL (fun k => Int64.ofInt (f k)) j (Int64.ofInt x) = fun k => Int64.ofInt (if k = j then x else f k) := by
  funext k
  unfold vp_updL
  split <;> rfl
theorem q_ast_s {t : Nat} (Y : q_Y P NW SR s nL D cT A ad l st G M H locs ls) (ht3 : t ≠ 3) (hs : q_ast t l st G M ca sa = some T) (kk : q_KK p l0 e R s m args below meth c Q P NW SR nL D cT A ad G (pc + 1) T)
    (hw : ∀ (a n : Nat) (f : Nat → Int32) (i : Int32) (x : Int) (rest : List Value), (q_ws P cT ad G M)[a]? = some (ad a, .inl (cT t, n, .inl f)) → vp_in i n → (t = 0 ∨ (t = 1 ∧ (x = 0 ∨ x = 1)) ∨ (t = 2 ∧ 0 ≤ x ∧ x < 65536)) → (∀ (H1 : Heap) (locs1 : List Loc), va_P D vwCl ((q_ws P cT ad G M).set a (ad a, .inl (cT t, n, .inl (upd f i.toNatClampNeg (Int32.ofInt x))))) H1 → va_D A ((q_ws P cT ad G M).set a (ad a, .inl (cT t, n, .inl (upd f i.toNatClampNeg (Int32.ofInt x))))) → va_S A s.heap H1 locs1 → W p l0 e R s m args below meth c H1 locs1 ca sa Q (F0 m (pc + 1) ls rest)) → W p l0 e R s m args below meth c H locs ca sa Q (F0 m pc ls (.int (Int32.ofInt x) :: .int i :: .ref (ad a) :: rest))) : W p l0 e R s m args below meth c H locs ca sa Q (F0 m pc ls (st.map (q_cv ad))) := by
  unfold q_ast at hs
  split at hs
  · next x i a r =>
    obtain ⟨hxr, h0⟩ := q_tl Y.2.2.2.2.2.2.2.1 rfl
    obtain ⟨hir, h1⟩ := q_tl h0 rfl
    obtain ⟨ha, hr⟩ := q_tl h1 rfl
    split at hs
    · next t' n hG =>
      split at hs
      · next ht =>
        subst ht
        split at hs
        · next hi =>
          split at hs
          · next hfit =>
            cases hs
            obtain ⟨h2, h3⟩ := q_in hir hi
            have hg := q_ws_get (P := P) (cT := cT) (ad := ad) (M := M) hG
            simp only [q_c, q_ca, if_neg ht3] at hg
            refine hw a n _ (Int32.ofInt i) x (r.map (q_cv ad)) hg h2 hfit (fun H1 locs1 hP1 hD1 hS1 => ?_)
            rw [h3, q_upd] at hP1 hD1
            have e1 := q_ws_set (P := P) (cT := cT) (ad := ad) (M := M) (M' := q_up M a i.toNat x) hG q_up_o
            rw [q_up_k] at e1
            simp only [q_c, q_ca, if_neg ht3] at e1
            rw [e1] at hP1 hD1
            exact kk ad H1 locs1 ls q_adx.rf (Nat.le_refl _) ⟨hP1, hD1, hS1, Y.2.2.2.1, q_oM_up Y.2.2.2.2.1 (q_r_6 hxr) (fun _ => hxr), Y.2.2.2.2.2.1, Y.2.2.2.2.2.2.1, hr, Y.2.2.2.2.2.2.2.2.1, Y.2.2.2.2.2.2.2.2.2⟩
          · cases hs
        · cases hs
      · cases hs
    · cases hs
  · cases hs
theorem q_last_s (X : q_X p s m args meth c Rn co cc nL ini D cT A) (Y : q_Y P NW SR s nL D cT A ad l st G M H locs ls) (hs : q_last l st G M ca sa = some T) (kk : q_KK p l0 e R s m args below meth c Q P NW SR nL D cT A ad G (pc + 1) T) (hd : decode cc pc = .ok (.lastore, 1)) : W p l0 e R s m args below meth c H locs ca sa Q (F0 m pc ls (st.map (q_cv ad))) := by
  obtain ⟨hx, hb, hml, hown, hts, hK, hA, hin⟩ := X
  unfold q_last at hs
  split at hs
  · next x i a r =>
    obtain ⟨hxr, h0⟩ := q_tl Y.2.2.2.2.2.2.2.1 rfl
    obtain ⟨hir, h1⟩ := q_tl h0 rfl
    obtain ⟨ha, hr⟩ := q_tl h1 rfl
    split at hs
    · next t' n hG =>
      split at hs
      · next ht =>
        subst ht
        split at hs
        · next hi =>
          cases hs
          obtain ⟨h2, h3⟩ := q_in hir hi
          have hg := q_ws_get (P := P) (cT := cT) (ad := ad) (M := M) hG
          simp only [q_c, q_ca, if_true] at hg
          refine va_last hx hb hK Y.1 Y.2.1 Y.2.2.1 a 3 hg rfl h2 hd (fun H1 locs1 hP1 hD1 hS1 => ?_)
          rw [h3, q_updL] at hP1 hD1
          have e1 := q_ws_set (P := P) (cT := cT) (ad := ad) (M := M) (M' := q_up M a i.toNat x) hG q_up_o
          rw [q_up_k] at e1
          simp only [q_c, q_ca, if_true] at e1
          rw [e1] at hP1 hD1
          exact kk ad H1 locs1 ls q_adx.rf (Nat.le_refl _) ⟨hP1, hD1, hS1, Y.2.2.2.1, q_oM_up Y.2.2.2.2.1 hxr (fun h => absurd hG (h n)), Y.2.2.2.2.2.1, Y.2.2.2.2.2.2.1, hr, Y.2.2.2.2.2.2.2.2.1, Y.2.2.2.2.2.2.2.2.2⟩
        · cases hs
      · cases hs
    · cases hs
  · cases hs
theorem q_tys_get {t : Nat} (h : t ≤ 3) : ∃ ty, (q_tys cT)[t]? = some (cT t, ty) := by
  match t, h with
  | 0, _ => exact ⟨_, rfl⟩
  | 1, _ => exact ⟨_, rfl⟩
  | 2, _ => exact ⟨_, rfl⟩
  | 3, _ => exact ⟨_, rfl⟩
theorem q_len_s (X : q_X p s m args meth c Rn co cc nL ini D cT A) (hSo : q_Sok P) (Y : q_Y P NW SR s nL D cT A ad l st G M H locs ls) (hs : q_len P l st G M ca sa = some T) (kk : q_KK p l0 e R s m args below meth c Q P NW SR nL D cT A ad G (pc + 1) T) (hd : decode cc pc = .ok (.arraylength, 1)) : W p l0 e R s m args below meth c H locs ca sa Q (F0 m pc ls (st.map (q_cv ad))) := by
  obtain ⟨hx, hb, hml, hown, hts, hK, hA, hin⟩ := X
  unfold q_len at hs
  split at hs
  · next a r =>
    obtain ⟨ha, hr⟩ := q_tl Y.2.2.2.2.2.2.2.1 rfl
    split at hs
    · next h3000 =>
      subst h3000
      cases hs
      have := hSo.2.1
      exact va_tlen hx hb (Y.2.2.2.2.2.2.2.2.2.2.2.2.2.1) Y.2.2.1 (v := Int32.ofInt ((q_sc P).length : Int)) rfl hd (q_go Y kk (q_cons (show q_r ((q_sc P).length : Int) from ⟨by omega, by omega⟩) hr))
    split at hs
    · next h2000 =>
      split at hs
      · next bs hbs =>
        cases hs
        obtain ⟨k, rfl⟩ : ∃ k, a = 2000 + k := ⟨a - 2000, by omega⟩
        rw [show 2000 + k - 2000 = k by omega] at hbs
        obtain ⟨h2, h3, h4⟩ := q_sb_get hbs
        have hK9 := ((Y.2.2.2.2.2.2.2.2.2.2.2.1).1 k h2).2.2.2
        rw [h3, h4] at hK9
        have hbm := hSo.1 bs (List.mem_of_getElem? hbs)
        exact va_tlen hx hb hK9 Y.2.2.1 (v := Int32.ofInt (bs.length : Int)) rfl hd (q_go Y kk (q_cons (show q_r (bs.length : Int) from ⟨by omega, by omega⟩) hr))
      · cases hs
    · split at hs
      · next t n hG =>
        cases hs
        obtain ⟨h2, h3⟩ := Y.2.2.2.1.2.2 a t n hG
        obtain ⟨ty, hty⟩ := q_tys_get (cT := cT) h2
        exact va_alen hx hb hK Y.1 a t (q_ws_get hG) hty (v := Int32.ofInt (n : Int)) rfl hd (q_go Y kk (q_cons (show q_r (n : Int) from ⟨by omega, by omega⟩) hr))
      · cases hs
  · cases hs
end QA
