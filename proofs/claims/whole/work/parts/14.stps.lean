def q_ln (ins : Instr) : Nat := match ins with
  | .iload _ => 2
  | .lload _ => 2
  | .aload _ => 2
  | .istore _ => 2
  | .lstore _ => 2
  | .astore _ => 2
  | .iinc _ _ => 3
  | .bipush _ => 2
  | .sipush _ => 3
  | .ldc _ => 2
  | .getstatic _ => 3
  | .getfield _ => 3
  | .putfield _ => 3
  | .newarray _ => 2
  | .new _ => 3
  | .invokevirtual _ => 3
  | .invokestatic _ => 3
  | .invokespecial _ => 3
  | .goto _ => 3
  | .if_icmp _ _ => 3
  | .ifCond _ _ => 3
  | .tableswitch _ _ _ _ => 65
  | _ => 1
def q_Tb (P : q_P) (ym : q_ym) (NW : List (String × Nat × MethodName × String)) (SR : q_SRt) (Rn : Nat → String) : Prop := q_Fok P Rn ∧ q_Cok P Rn ∧ q_Nok P Rn ∧ q_Lok P SR Rn ∧ q_Aok ∧ q_Sok P ∧ q_Mok P ym NW Rn
section QT
variable {p : Program} {l0 : Launch} {e : Env} {R : Room} {s : State} {m : MethodId} {args : Array Value} {below : List Frame} {meth : Method} {c : Code} {Q : State → Prop}
variable {P : q_P} {NW : List (String × Nat × MethodName × String)} {SR : q_SRt} {Rn : Nat → String} {co : Nat} {cc : ByteArray} {nL : Nat} {ini : Bool} {D : va_G} {cT : Nat → ClassId} {A : Nat → Prop} {ad : Nat → Nat} {l : q_L} {st : List q_V} {G : q_G} {M : q_M} {H : Heap} {locs : List Loc} {ls : Array Slot} {ca sa pc len idx kc ks d : Nat} {T : q_T} {orc : q_O} {ym : q_ym}
theorem q_push_s {b : Bool} {v : q_V} (Y : q_Y P NW SR s nL D cT A ad l st G M H locs ls) (hs : q_push b v l st G M ca sa = some T) (kk : q_KK p l0 e R s m args below meth c Q P NW SR nL D cT A ad G (pc + len) T)
    (hw : b = true → q_ov G.length v ∧ (W p l0 e R s m args below meth c H locs ca sa Q (F0 m (pc + len) ls (q_cv ad v :: st.map (q_cv ad))) → W p l0 e R s m args below meth c H locs ca sa Q (F0 m pc ls (st.map (q_cv ad))))) : W p l0 e R s m args below meth c H locs ca sa Q (F0 m pc ls (st.map (q_cv ad))) := by
  unfold q_push at hs
  split at hs
  · next h =>
    cases hs
    exact (hw h).2 (q_go Y kk (q_cons (hw h).1 Y.2.2.2.2.2.2.2.1))
  · cases hs
set_option maxHeartbeats 4000000 in
theorem q_stp_s {ins : Instr} (X : q_X p s m args meth c Rn co cc nL ini D cT A) (hTb : q_Tb P ym NW SR Rn) (hO : ∀ mid, q_Sd l0 P NW SR d (q_mm P mid).2.1 (q_mm P mid).2.2 (ym mid) (orc mid)) (hRf : d + 1 ≤ R.frames) (hRl : 64 * (d + 1) ≤ R.locals) (hkc : kc ≤ R.cells) (hks : ks ≤ R.slots) (Y : q_Y P NW SR s nL D cT A ad l st G M H locs ls) (hs : q_stp orc P ini kc ks co ins l st G M ca sa = some T)
    (hd : decode cc pc = .ok (ins, len)) (hl : len = q_ln ins) (kk : q_KK p l0 e R s m args below meth c Q P NW SR nL D cT A ad G (pc + len) T) : W p l0 e R s m args below meth c H locs ca sa Q (F0 m pc ls (st.map (q_cv ad))) := by
  obtain ⟨hF, hC, hNo, hLo, hAo, hSo, hMo⟩ := hTb
  have hX := X
  obtain ⟨hx, hb, hml, hown, hts, hK, hA, hin⟩ := X
  subst hl
  have hst := Y.2.2.2.2.2.2.2.1
  cases ins with
  | iload_n k => exact q_ldI_s Y hs kk (fun x h => lv_iload_n hx hb hd rfl h)
  | iload k => exact q_ldI_s Y hs kk (fun x h => lv_iload hx hb hd h)
  | lload_n k => exact q_ldL_s Y hs kk (fun x h => lv_lload_n hx hb hd rfl h)
  | lload k => exact q_ldL_s Y hs kk (fun x h => lv_lload hx hb hd h)
  | aload_n k => exact q_ldR_s Y hs kk (fun x h => lv_aload_n hx hb hd rfl h)
  | aload k => exact q_ldR_s Y hs kk (fun x h => lv_aload hx hb hd h)
  | istore_n k =>
    simp only [q_stp, q_stI] at hs
    split at hs
    · next x r =>
      split at hs
      · next l' hl' =>
        cases hs
        obtain ⟨h1, h2⟩ := q_tl hst rfl
        exact q_sto_s Y h1 h2 hl' kk (fun lv lv' a b c' k' => lv_istore_n hx hb hd rfl a b c' k')
      · cases hs
    · cases hs
  | istore k =>
    simp only [q_stp, q_stI] at hs
    split at hs
    · next x r =>
      split at hs
      · next l' hl' =>
        cases hs
        obtain ⟨h1, h2⟩ := q_tl hst rfl
        exact q_sto_s Y h1 h2 hl' kk (fun lv lv' a b c' k' => lv_istore hx hb hd a b c' k')
      · cases hs
    · cases hs
  | lstore_n k =>
    simp only [q_stp, q_stL] at hs
    split at hs
    · next x r =>
      split at hs
      · next l' hl' =>
        cases hs
        obtain ⟨h1, h2⟩ := q_tl hst rfl
        exact q_sto2_s Y h1 h2 hl' kk (fun lv lv' a b c' k' => lv_lstore_n hx hb hd rfl a b c' k')
      · cases hs
    · cases hs
  | lstore k =>
    simp only [q_stp, q_stL] at hs
    split at hs
    · next x r =>
      split at hs
      · next l' hl' =>
        cases hs
        obtain ⟨h1, h2⟩ := q_tl hst rfl
        exact q_sto2_s Y h1 h2 hl' kk (fun lv lv' a b c' k' => lv_lstore hx hb hd a b c' k')
      · cases hs
    · cases hs
  | astore_n k =>
    simp only [q_stp, q_stR] at hs
    split at hs
    · next x r =>
      split at hs
      · next l' hl' =>
        cases hs
        obtain ⟨h1, h2⟩ := q_tl hst rfl
        exact q_sto_s Y h1 h2 hl' kk (fun lv lv' a b c' k' => lv_astore_n hx hb hd rfl a b c' k')
      · cases hs
    · cases hs
  | astore k =>
    simp only [q_stp, q_stR] at hs
    split at hs
    · next x r =>
      split at hs
      · next l' hl' =>
        cases hs
        obtain ⟨h1, h2⟩ := q_tl hst rfl
        exact q_sto_s Y h1 h2 hl' kk (fun lv lv' a b c' k' => lv_astore hx hb hd a b c' k')
      · cases hs
    · cases hs
  | iinc k cn =>
    simp only [q_stp] at hs
    split at hs
    · next x hx0 =>
      split at hs
      · next l' hl' =>
        cases hs
        have hk := q_getD hx0
        have hxr : q_r x := Y.2.2.2.2.2.2.1 _ (List.mem_of_getElem? hk)
        obtain ⟨h1, h2, h3⟩ := q_sto_len hl'
        have hn := Y.2.2.2.2.2.2.2.2.1
        obtain ⟨j, hj⟩ := List.getElem?_of_mem (q_as_mem (ad := ad).mpr ⟨k, .inl x, hk, rfl⟩)
        refine lv_iinc hx hb hd (hn ▸ Y.2.2.2.2.2.1.has) hj (v := Int32.ofInt (q_w (x + cn))) (by rw [q_ofw, Int32.ofInt_add]) (hn ▸ h1) rfl (fun ls' hl9 => ?_)
        exact kk ad H locs ls' q_adx.rf (Nat.le_refl _) (Y.lc hst (q_sto_lc (v := .inl (q_w (x + cn))) hl' (by rw [hn]; exact hl9)) (fun w hw => (h3 w hw).elim (Y.2.2.2.2.2.2.1 w) (fun e => e ▸ (show q_r _ from q_w_r _))) (h2.trans hn))
      · cases hs
    · cases hs
  | iconst n => exact q_push_s Y hs kk (fun h => ⟨by have := of_decide_eq_true h; exact ⟨by omega, by omega⟩, lv_iconst hx hb hd rfl⟩)
  | bipush n => exact q_push_s Y hs kk (fun h => ⟨by have := of_decide_eq_true h; exact ⟨by omega, by omega⟩, lv_bipush hx hb hd (q_b8 (of_decide_eq_true h))⟩)
  | sipush n => exact q_push_s Y hs kk (fun h => ⟨by have := of_decide_eq_true h; exact ⟨by omega, by omega⟩, lv_sipush hx hb hd (q_s16 (of_decide_eq_true h))⟩)
  | lconst n => exact q_push_s Y hs kk (fun h => ⟨by show q_r6 _; have := n.isLt; exact ⟨by omega, by omega⟩, lv_lconst hx hb hd rfl⟩)
  | ldc i =>
    simp only [q_stp] at hs
    split at hs
    · next v hv =>
      cases hs
      rcases hLo _ _ _ hv with ⟨x, rfl, hr, hw⟩ | ⟨j, tx, rfl, hm⟩
      · exact lv_ldc hx hb hown (hts _ hw) hd (q_go Y kk (q_cons (show q_ov G.length (.inl x) from hr) hst))
      · exact va_ldcS hx hb hown (Y.2.2.2.2.2.2.2.2.2.2.1 _ hm) hd (q_go Y kk (q_cons (show q_ov G.length (.inr (.inr (1000 + j))) from Or.inr (by omega)) hst))
    · cases hs
  | getstatic i =>
    simp only [q_stp] at hs
    split at hs
    · next j hv =>
      cases hs
      rcases hF _ _ _ _ hv with ⟨h, -⟩ | ⟨-, hw⟩ | ⟨h, -⟩
      · exact absurd h (by decide)
      · exact va_gets hx hb (Y.2.2.2.2.2.2.2.2.2.2.2.2.1) Y.2.2.1 hown (hts _ hw) (fun _ h => h) hd (q_go Y kk (q_cons (show q_ov G.length (.inl 1) from ⟨by decide, by decide⟩) hst))
      · exact absurd h (by decide)
    · cases hs
  | iadd => exact q_ii_s (f := fun x y => some (q_w (x + y))) Y hs kk (fun x y z rest hx1 hy1 hz => by cases hz; exact ⟨q_w_r _, fun k => lv_iadd hx hb hd (by rw [← Int32.ofInt_add, ← q_ofw]; exact k)⟩)
  | isub => exact q_ii_s (f := fun x y => some (q_w (x - y))) Y hs kk (fun x y z rest hx1 hy1 hz => by cases hz; exact ⟨q_w_r _, fun k => lv_isub hx hb hd (by rw [← Int32.ofInt_sub, ← q_ofw]; exact k)⟩)
  | imul => exact q_ii_s (f := fun x y => some (q_w (x * y))) Y hs kk (fun x y z rest hx1 hy1 hz => by cases hz; exact ⟨q_w_r _, fun k => lv_imul hx hb hd (by rw [← Int32.ofInt_mul, ← q_ofw]; exact k)⟩)
  | irem => exact q_ii_s Y hs kk (fun x y z rest hx1 hy1 hz => by
      split at hz
      · next h => cases hz; obtain ⟨rfl, h0⟩ := h; exact ⟨q_emr x 2 (by decide) (by decide), fun k => lv_irem hx hb hd (by decide +kernel) (by rw [q_rem2 hx1 h0]; exact k)⟩
      · cases hz)
  | iand => exact q_ii_s Y hs kk (fun x y z rest hx1 hy1 hz => by
      split at hz
      · next h => cases hz; subst h; exact ⟨q_emr x 16 (by decide) (by decide), fun k => lv_iand hx hb hd (by rw [pk_and _ 4 (by decide +kernel), q_modI x 4 16 rfl (by decide)]; exact k)⟩
      · split at hz
        · next h => cases hz; subst h; exact ⟨q_emr x 256 (by decide) (by decide), fun k => lv_iand hx hb hd (by rw [pk_and _ 8 (by decide +kernel), q_modI x 8 256 rfl (by decide)]; exact k)⟩
        · cases hz)
  | ishr => exact q_ii_s Y hs kk (fun x y z rest hx1 hy1 hz => by
      split at hz
      · next h => cases hz; subst h; exact ⟨hx1, fun k => lv_ishr hx hb hd (by rw [show Int32.ofInt 0 = (0 : Int32) from rfl, sb_shr0]; exact k)⟩
      · cases hz)
  | ineg =>
    simp only [q_stp] at hs
    split at hs
    · next x r =>
      cases hs
      obtain ⟨h1, h2⟩ := q_tl hst rfl
      exact lv_ineg hx hb hd (by
        have := q_go Y kk (q_cons (show q_ov G.length (.inl (q_w (-x))) from q_w_r _) h2)
        simp only [List.map_cons, q_cv, q_ofw, Int32.ofInt_neg] at this
        exact this)
    · cases hs
  | i2c =>
    simp only [q_stp] at hs
    split at hs
    · next x r =>
      cases hs
      obtain ⟨h1, h2⟩ := q_tl hst rfl
      exact lv_i2c hx hb hd (v := Int32.ofInt (x % 65536)) (by rw [pk_char]; exact q_modI x 16 65536 rfl (by decide)) (q_go Y kk (q_cons (show q_ov G.length (.inl (x % 65536)) from q_emr x 65536 (by decide) (by decide)) h2))
    · cases hs
  | i2b =>
    simp only [q_stp] at hs
    split at hs
    · next x r =>
      split at hs
      · next hb8 =>
        cases hs
        obtain ⟨h1, h2⟩ := q_tl hst rfl
        exact lv_i2b hx hb hd (q_i2b hb8) (q_go Y kk (q_cons (show q_ov G.length (.inl x) from h1) h2))
      · cases hs
    · cases hs
  | i2l =>
    simp only [q_stp] at hs
    split at hs
    · next x r =>
      cases hs
      obtain ⟨h1, h2⟩ := q_tl hst rfl
      exact lv_i2l hx hb hd (q_i2l h1) (q_go Y kk (q_cons (show q_ov G.length (.inr (.inl x)) from q_r_6 h1) h2))
    · cases hs
  | ladd =>
    simp only [q_stp] at hs
    split at hs
    · next y x r =>
      cases hs
      obtain ⟨h1, h2⟩ := q_tl hst rfl
      obtain ⟨h3, h4⟩ := q_tl h2 rfl
      exact lv_ladd hx hb hd (by
        have := q_go Y kk (q_cons (show q_ov G.length (.inr (.inl (q_w6 (x + y)))) from q_w6_r _) h4)
        simp only [List.map_cons, q_cv, q_ofw6, Int64.ofInt_add] at this
        exact this)
    · cases hs
  | lcmp =>
    simp only [q_stp] at hs
    split at hs
    · next y x r =>
      cases hs
      obtain ⟨h1, h2⟩ := q_tl hst rfl
      obtain ⟨h3, h4⟩ := q_tl h2 rfl
      refine W.lcmp hx hb hd ?_
      have e1 : lg_cmp (Int64.ofInt x) (Int64.ofInt y) = Int32.ofInt (if x < y then -1 else if y < x then 1 else 0) := by
        unfold lg_cmp
        have a1 : Int64.ofInt x > Int64.ofInt y ↔ y < x := q_l6 h1 h3
        have a2 : Int64.ofInt x = Int64.ofInt y ↔ x = y := by rw [← Int64.toInt_inj, q_toL h3, q_toL h1]
        by_cases c1 : x < y
        · rw [if_neg (by rw [a1]; omega), if_neg (by rw [a2]; omega), if_pos c1]; rfl
        · rw [if_neg c1]
          by_cases c2 : y < x
          · rw [if_pos (a1.mpr c2), if_pos c2]; rfl
          · rw [if_neg (by rw [a1]; exact c2), if_pos (a2.mpr (by omega)), if_neg c2]; rfl
      rw [e1]
      exact q_go Y kk (q_cons (show q_ov G.length (.inl _) from by
        show q_r _
        split
        · exact ⟨by decide, by decide⟩
        · split <;> exact ⟨by decide, by decide⟩) h4)
    · cases hs
  | dup =>
    simp only [q_stp] at hs
    split at hs
    · next v r =>
      split at hs
      · next hc =>
        cases hs
        obtain ⟨h1, h2⟩ := q_tl hst rfl
        exact lv_dup hx hb hd (by rw [q_cvcat]; exact hc) (q_go Y kk (q_cons h1 (q_cons h1 h2)))
      · cases hs
    · cases hs
  | pop =>
    simp only [q_stp] at hs
    split at hs
    · next v r =>
      split at hs
      · next hc =>
        cases hs
        obtain ⟨h1, h2⟩ := q_tl hst rfl
        exact lv_pop hx hb hd (by rw [q_cvcat]; exact hc) (q_go Y kk h2)
      · cases hs
    · cases hs
  | dup2 =>
    simp only [q_stp] at hs
    split at hs
    · next v w r =>
      split at hs
      · next hc =>
        cases hs
        obtain ⟨h1, h2⟩ := q_tl hst rfl
        obtain ⟨h3, h4⟩ := q_tl h2 rfl
        exact lv_dup2_11 hx hb hd (by rw [q_cvcat]; exact hc.1) (by rw [q_cvcat]; exact hc.2) (q_go Y kk (q_cons h1 (q_cons h3 (q_cons h1 (q_cons h3 h4)))))
      · cases hs
    · cases hs
  | getfield i => exact q_get_s hX hF hC Y hs kk hd
  | putfield i => exact q_put_s hX hF hC Y hs kk hd
  | iaload => exact q_iald_s hX hSo Y hs kk hd
  | baload => exact q_bald_s hX hSo Y hs kk hd
  | caload => exact q_ald_s Y (by decide) hs kk (fun a n f i rest hg hi hk => va_cald hx hb hK Y.1 a 2 hg rfl hi hd hk)
  | laload => exact q_lald_s hX Y hs kk hd
  | iastore => exact q_ast_s Y (by decide) hs kk (fun a n f i x rest hg hi _ hk => va_iast hx hb hK Y.1 Y.2.1 Y.2.2.1 a 0 hg rfl hi hd hk)
  | bastore => exact q_ast_s Y (by decide) hs kk (fun a n f i x rest hg hi hf hk => va_zast hx hb hK Y.1 Y.2.1 Y.2.2.1 a 1 hg rfl hi hd (by
      have : x = 0 ∨ x = 1 := by rcases hf with h | h | h <;> first | exact absurd h (by decide) | exact h.2 | exact absurd h.1 (by decide)
      rw [q_nar_b this]; exact hk))
  | castore => exact q_ast_s Y (by decide) hs kk (fun a n f i x rest hg hi hf hk => va_cast hx hb hK Y.1 Y.2.1 Y.2.2.1 a 2 hg rfl hi hd (by
      have : 0 ≤ x ∧ x < 65536 := by rcases hf with h | h | h <;> first | exact absurd h (by decide) | exact absurd h.1 (by decide) | exact h.2
      rw [q_nar_c this]; exact hk))
  | lastore => exact q_last_s hX Y hs kk hd
  | arraylength => exact q_len_s hX hSo Y hs kk hd
  | newarray a => exact q_newa_s hX hAo hkc hks Y hs kk hd
  | new i => exact q_new_s hX hC hNo hkc hks Y hs kk hd
  | invokespecial i => exact q_call_s hX hMo hO hRf hRl hkc hks Y hs kk hd (Or.inr (Or.inr ⟨rfl, rfl⟩))
  | _ => exact absurd hs (by simp [q_stp])
end QT
