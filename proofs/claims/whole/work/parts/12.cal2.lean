section QJ
variable {p : Program} {l0 : Launch} {e : Env} {R : Room} {s : State} {m : MethodId} {args : Array Value} {below : List Frame} {meth : Method} {c : Code} {Q : State → Prop}
variable {P : q_P} {NW : List (String × Nat × MethodName × String)} {SR : q_SRt} {Rn : Nat → String} {co : Nat} {cc : ByteArray} {nL : Nat} {ini : Bool} {D : va_G} {cT : Nat → ClassId} {A : Nat → Prop} {ad : Nat → Nat} {l : q_L} {st : List q_V} {G : q_G} {M : q_M} {H : Heap} {locs : List Loc} {ls : Array Slot} {ca sa pc len idx kc ks d : Nat} {T : q_T} {orc : q_O} {ym : q_ym}
theorem q_PcU {as : List q_V} (hK : va_K D vwCl (q_tys cT) s) (hA : ∀ q, s.heap.size ≤ q → A q) (Y : q_Y P NW SR s nL D cT A ad l st G M H locs ls) : ∀ U : State, U.heap = H → s.WarmedH U.vm → q_Pre P NW SR D cT ad as G M H.size (as.map (q_cv ad)).toArray U := by
  intro U hU hW
  have hAA : ∀ q, va_A (q_ws P cT ad G M) H.size q → A q := by
    rintro q (⟨k, e0, h⟩ | h)
    · exact Y.2.1.2 k _ h
    · exact hA q (Nat.le_trans Y.2.2.1.1 h)
  exact ⟨rfl, by rw [hU], by rw [hU]; exact Y.1, va_K.moved hW.alike hK, Y.2.1.weaken (fun _ _ _ _ => trivial), Y.2.2.2.2.2.2.2.2.2.go (n := 0) Y.2.2.1 hW hU hAA q_adx.rf⟩
theorem q_call_s {ws : List Nat} {ins : Instr} (X : q_X p s m args meth c Rn co cc nL ini D cT A) (hMo : q_Mok P ym NW Rn) (hO : ∀ mid, q_Sd l0 P NW SR d (q_mm P mid).2.1 (q_mm P mid).2.2 (ym mid) (orc mid)) (hRf : d + 1 ≤ R.frames) (hRl : 64 * (d + 1) ≤ R.locals) (hkc : kc ≤ R.cells) (hks : ks ≤ R.slots) (Y : q_Y P NW SR s nL D cT A ad l st G M H locs ls) (hs : q_call orc P kc ks ws co idx l st G M ca sa = some T) (kk : q_KK p l0 e R s m args below meth c Q P NW SR nL D cT A ad G (pc + 3) T)
    (hd : decode cc pc = .ok (ins, 3)) (hins : (ins = .invokevirtual idx ∧ ws = [0]) ∨ (ins = .invokestatic idx ∧ ws = [1, 3, 5]) ∨ (ins = .invokespecial idx ∧ ws = [2, 4, 9])) : W p l0 e R s m args below meth c H locs ca sa Q (F0 m pc ls (st.map (q_cv ad))) := by
  obtain ⟨hx, hb, hml, hown, hts, hK, hA, hin⟩ := X
  have hsz : ls.size = nL := by rw [Y.2.2.2.2.2.1.1]; exact Y.2.2.2.2.2.2.2.2.1
  unfold q_call at hs
  split at hs
  · next w na mid hmk =>
    split at hs
    · next h =>
      obtain ⟨hw, hna, hcat⟩ := h
      have hrest : ∀ v ∈ st.drop na, q_ov G.length v := fun v hv => Y.2.2.2.2.2.2.2.1 v (List.mem_of_mem_drop hv)
      have hcat' : (((st.drop na).map (q_cv ad)).map (fun v => v.category)).sum ≤ 8 := by rw [q_cats]; exact hcat
      rcases hMo _ _ _ _ _ hmk with ⟨hw9, hna1, hl1, hl2, hl3⟩ | ⟨hw9, hcode, hhn, hini, hmh, hvh, hml40, hcase⟩
      · rw [if_pos hw9] at hs
        subst hw9; subst hna1
        split at hs
        · next a r =>
          cases hs
          rcases hins with ⟨-, h⟩ | ⟨-, h⟩ | ⟨h, -⟩
          · rw [h] at hw; exact absurd hw (by decide)
          · rw [h] at hw; exact absurd hw (by decide)
          · subst h
            obtain ⟨-, hr⟩ := q_tl Y.2.2.2.2.2.2.2.1 rfl
            have hcat2 : ((r.map (q_cv ad)).map (fun v => v.category)).sum ≤ 8 := hcat'
            refine W.objInit hx hb hown (hts _ hl1) (hts _ hl2) (hts _ hl3) (a := ad a) (rest := r.map (q_cv ad)) rfl (by rw [hml]; exact hsz) rfl hd (by omega) ?_ (q_go Y kk hr)
            have := lv_room (m := m) (pc := pc) (ls := ls) (rest := r.map (q_cv ad)) hcat2
            have e9 : (F0 m pc ls ((Sum.inr (Sum.inr a) :: r).map (q_cv ad))).monitorRoom = (F0 m pc ls (r.map (q_cv ad))).monitorRoom := rfl
            omega
        · cases hs
      · rw [if_neg hw9] at hs
        split at hs
        · next h2 =>
          obtain ⟨hrc, hc1, hc2⟩ := h2
          split at hs
          · next rr G' M' horc =>
            cases hs
            have has : ∀ v ∈ (st.take na).reverse, q_ov G.length v := fun v hv => Y.2.2.2.2.2.2.2.1 v (List.mem_of_mem_take (List.mem_reverse.mp hv))
            have g5 := hO mid D cT ad _ G M rr G' M' horc Y.2.2.2.1 Y.2.2.2.2.1 has
            have hMet := g5 H.size
            have hU := q_PcU (as := (st.take na).reverse) hK hA Y
            have hstk := q_take (ad := ad) hna
            have hgood := q_mW_good hcode
            have hR9 : (q_rm d (q_mm P mid).2.1 (q_mm P mid).2.2).frames + 1 ≤ R.frames ∧ 8 + ((ym mid).2.2.1 + 11) + (q_rm d (q_mm P mid).2.1 (q_mm P mid).2.2).locals ≤ R.locals := ⟨hRf, by show 8 + ((ym mid).2.2.1 + 11) + 64 * d ≤ R.locals; omega⟩
            have hroom : 2 * (F0 m pc ls (st.map (q_cv ad))).monitorRoom + (((st.drop na).map (q_cv ad)).map fun v => v.category).sum ≤ 8 := lv_room hcat'
            have hcs : ca + (q_mm P mid).2.1 ≤ R.cells ∧ sa + (q_mm P mid).2.2 ≤ R.slots := ⟨by omega, by omega⟩
            have fin := fun (av : Array Value) (hr : va_Run p l0 e R s m args below meth c H locs ca sa (q_mm P mid).2.1 (q_mm P mid).2.2 (F0 m pc ls (st.map (q_cv ad))) ((st.drop na).map (q_cv ad)) (q_Post P D cT ad G M H.size rr G' M' av) (va_A (q_ws P cT ad G M) H.size)) => q_fin (as := []) Y hr hA hrest kk
            have hlen : (st.take na).reverse.length = na := by simp; omega
            have hcd : w ≠ 5 → q_mW (ym mid) = Cond.code (ym mid).1 (ym mid).2.1 (ym mid).2.2.1 (ym mid).2.2.2 :: q_WT := fun h5 => by
              unfold q_mW q_cw
              rw [hhn.resolve_right h5]
            rcases hcase with ⟨rfl, hn1, k1, k2, k3, k4, k5⟩ | ⟨rfl, k1, k2, k3⟩ | ⟨rfl, hn1, k1, k2, k3, k4, k5⟩ | ⟨rfl, ⟨hh, k0⟩, k1, k2, k3⟩ | ⟨rfl, ⟨hh, k1⟩, k2, k3⟩ | ⟨rfl, hn1, ⟨hh, k1⟩, k2, k3, k4, k5⟩
            · rcases hins with ⟨hi, -⟩ | ⟨-, h⟩ | ⟨-, h⟩
              · subst hi
                have hrc : q_rc P G (q_mm P mid).1 (st.take na).reverse = true := ((hrc.resolve_left (by decide)).resolve_left (by decide)).resolve_left (by decide)
                rcases hta : (st.take na).reverse with _ | ⟨v0, as'⟩
                · rw [hta] at hrc; exact absurd hrc (by simp [q_rc])
                · rw [hta] at hrc hU hMet hstk hlen
                  rcases v0 with x | x | a
                  · exact absurd hrc (by simp [q_rc])
                  · exact absurd hrc (by simp [q_rc])
                  · have hrecv : ∃ cellB : Cell, H[ad a]? = some cellB ∧ cellB.vm.isStatics = false ∧ s.vm.findClass (ym mid).1.cls = some cellB.cls := by
                      rcases k5 with ⟨k5, k6⟩ | ⟨k5, k6⟩
                      · simp only [q_rc, k5, if_true, decide_eq_true_eq] at hrc
                        obtain ⟨i, rfl⟩ : ∃ i, a = 1000 + i := ⟨a - 1000, by omega⟩
                        rw [k6]
                        exact vk_recv (i := i) (Y.2.2.2.2.2.2.2.2.2.2.2.1) (by omega) Y.2.2.1
                      · simp only [q_rc, if_neg k5] at hrc
                        rcases hGa : G[a]? with _ | (x | ⟨cj, rs⟩)
                        · rw [hGa] at hrc; simp at hrc
                        · rw [hGa] at hrc; simp at hrc
                        · rw [hGa] at hrc
                          simp only [decide_eq_true_eq] at hrc
                          obtain ⟨-, hc13, -⟩ := Y.2.2.2.1.2.1 a cj rs hGa
                          obtain ⟨C, T0, N, hcl⟩ := q_cl13 hc13
                          have := va_recv hK Y.1 hcl (q_ws_get hGa)
                          rw [← k6 (C, T0, N) (by rw [← hrc]; exact hcl)]
                          exact this
                    have hstk2 : (F0 m pc ls (st.map (q_cv ad))).stack = (as'.map (q_cv ad)).reverse ++ .ref (ad a) :: (st.drop na).map (q_cv ad) := by
                      show st.map (q_cv ad) = _
                      rw [hstk]
                      simp [q_cv]
                    refine fin _ (va_runV (As := as'.map (q_cv ad)) (rest := (st.drop na).map (q_cv ad)) ⟨hx, hb, hml, hown, hts⟩ hMet (cwV (na - 1) hts ?_ (hcd (by decide)) rfl rfl ⟨rfl, hmh, hvh, k4⟩ hR9) ⟨q_Pre_blind, hrecv, hU⟩ rfl (by simp at hlen ⊢; omega) hsz hstk2 hroom hd hcs)
                    intro w hw
                    rcases List.mem_append.mp hw with h | h
                    · simp only [List.mem_cons, List.not_mem_nil, or_false] at h
                      rcases h with rfl | rfl | rfl | rfl
                      · exact q_WT_good _ k1
                      · exact q_WT_good _ k2
                      · exact q_WT_good _ k3
                      · exact q_WT_good _ hini
                    · exact hgood w h
              · rw [h] at hw; exact absurd hw (by decide)
              · rw [h] at hw; exact absurd hw (by decide)
            · rcases hins with ⟨-, h⟩ | ⟨hi, -⟩ | ⟨-, h⟩
              · rw [h] at hw; exact absurd hw (by decide)
              · subst hi
                exact fin _ (va_runS (As := (st.take na).reverse.map (q_cv ad)) (rest := (st.drop na).map (q_cv ad)) ⟨hx, hb, hml, hown, hts⟩ hMet ⟨callB_of na hts hgood (hcd (by decide)) rfl rfl (hts _ hini) (hts _ k1) ⟨hmh, hvh, k3⟩ hR9, hts _ k2⟩ ⟨q_Pre_blind, hU⟩ rfl (by simp only [List.length_map]; exact hlen) hsz hstk hroom hd hcs)
              · rw [h] at hw; exact absurd hw (by decide)
            · rcases hins with ⟨-, h⟩ | ⟨-, h⟩ | ⟨hi, -⟩
              · rw [h] at hw; exact absurd hw (by decide)
              · rw [h] at hw; exact absurd hw (by decide)
              · subst hi
                have hrc : q_rc P G (q_mm P mid).1 (st.take na).reverse = true := ((hrc.resolve_left (by decide)).resolve_left (by decide)).resolve_left (by decide)
                rcases hta : (st.take na).reverse with _ | ⟨v0, as'⟩
                · rw [hta] at hrc; exact absurd hrc (by simp [q_rc])
                · rw [hta] at hrc hU hMet hstk hlen
                  rcases v0 with x | x | a
                  · exact absurd hrc (by simp [q_rc])
                  · exact absurd hrc (by simp [q_rc])
                  · have hstk2 : (F0 m pc ls (st.map (q_cv ad))).stack = (as'.map (q_cv ad)).reverse ++ .ref (ad a) :: (st.drop na).map (q_cv ad) := by
                      show st.map (q_cv ad) = _
                      rw [hstk]
                      simp [q_cv]
                    exact fin _ (va_runI (As := as'.map (q_cv ad)) (rest := (st.drop na).map (q_cv ad)) ⟨hx, hb, hml, hown, hts⟩ hMet ⟨k4 ▸ callB_of (na - 1) hts hgood (hcd (by decide)) rfl rfl (hts _ hini) (hts _ k1) ⟨hmh, hvh, k5⟩ hR9, k3, hts _ k2⟩ ⟨q_Pre_blind, hU⟩ rfl (by simp at hlen ⊢; omega) hsz hstk2 hroom hd hcs)
            · rcases hins with ⟨-, h⟩ | ⟨hi, -⟩ | ⟨-, h⟩
              · rw [h] at hw; exact absurd hw (by decide)
              · subst hi
                have hcw : q_mW (ym mid) = Cond.codeWith (ym mid).1 (ym mid).2.1 (ym mid).2.2.1 (ym mid).2.2.2 hh :: q_WT := by
                  unfold q_mW q_cw
                  rw [k0]
                refine fin _ (vx_runSW (As := (st.take na).reverse.map (q_cv ad)) (rest := (st.drop na).map (q_cv ad)) ⟨hx, hb, hml, hown, hts⟩ hMet (vx_cwSW na hts ?_ hcw rfl rfl ⟨hmh, hvh, k3⟩ hR9) ⟨q_Pre_blind, hU⟩ rfl (by simp only [List.length_map]; exact hlen) hsz hstk hroom hd hcs)
                intro w hw
                rcases List.mem_append.mp hw with h | h
                · simp only [List.mem_cons, List.not_mem_nil, or_false] at h
                  rcases h with rfl | rfl | rfl
                  · exact q_WT_good _ k1
                  · exact q_WT_good _ k2
                  · exact q_WT_good _ hini
                · exact hgood w h
              · rw [h] at hw; exact absurd hw (by decide)
            · rcases hins with ⟨-, h⟩ | ⟨hi, -⟩ | ⟨-, h⟩
              · rw [h] at hw; exact absurd hw (by decide)
              · subst hi
                exact fin _ (va_runSN (host := hh) (As := (st.take na).reverse.map (q_cv ad)) (rest := (st.drop na).map (q_cv ad)) ⟨hx, hb, hml, hown, hts⟩ hMet ⟨va_cnB na hts hgood (hcd (by decide)) rfl rfl (Y.2.2.2.2.2.2.2.2.2.1 _ k1) (hts _ hini) ⟨hmh, hvh, k3⟩ hR9, hts _ k2, trivial⟩ ⟨q_Pre_blind, hU⟩ rfl (by simp only [List.length_map]; exact hlen) hsz hstk hroom hd hcs)
              · rw [h] at hw; exact absurd hw (by decide)
            · rcases hins with ⟨-, h⟩ | ⟨-, h⟩ | ⟨hi, -⟩
              · rw [h] at hw; exact absurd hw (by decide)
              · rw [h] at hw; exact absurd hw (by decide)
              · subst hi
                have hrc : q_rc P G (q_mm P mid).1 (st.take na).reverse = true := ((hrc.resolve_left (by decide)).resolve_left (by decide)).resolve_left (by decide)
                rcases hta : (st.take na).reverse with _ | ⟨v0, as'⟩
                · rw [hta] at hrc; exact absurd hrc (by simp [q_rc])
                · rw [hta] at hrc hU hMet hstk hlen
                  rcases v0 with x | x | a
                  · exact absurd hrc (by simp [q_rc])
                  · exact absurd hrc (by simp [q_rc])
                  · have hstk2 : (F0 m pc ls (st.map (q_cv ad))).stack = (as'.map (q_cv ad)).reverse ++ .ref (ad a) :: (st.drop na).map (q_cv ad) := by
                      show st.map (q_cv ad) = _
                      rw [hstk]
                      simp [q_cv]
                    exact fin _ (va_runIN (host := hh) (As := as'.map (q_cv ad)) (rest := (st.drop na).map (q_cv ad)) ⟨hx, hb, hml, hown, hts⟩ hMet ⟨k4 ▸ va_cnB (na - 1) hts hgood (hcd (by decide)) rfl rfl (Y.2.2.2.2.2.2.2.2.2.1 _ k1) (hts _ hini) ⟨hmh, hvh, k5⟩ hR9, k3, hts _ k2⟩ ⟨q_Pre_blind, hU⟩ rfl (by simp at hlen ⊢; omega) hsz hstk2 hroom hd hcs)
          · cases hs
        · cases hs
    · cases hs
  · cases hs
end QJ
