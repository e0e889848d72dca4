section QM
variable {p : Program} {l0 : Launch} {e : Env} {R : Room} {s : State} {m : MethodId} {args : Array Value} {below : List Frame} {meth : Method} {c : Code} {Q : State → Prop}
variable {P : q_P} {NW : List (String × Nat × MethodName × String)} {SR : q_SRt} {Rn : Nat → String} {co : Nat} {cc : ByteArray} {nL : Nat} {ini : Bool} {D : va_G} {cT : Nat → ClassId} {A : Nat → Prop} {ad : Nat → Nat} {l : q_L} {st : List q_V} {G : q_G} {M : q_M} {H : Heap} {locs : List Loc} {ls : Array Slot} {ca sa pc len idx : Nat} {T : q_T}
theorem q_cl13 {ci : Nat} (h : ci < 13) : ∃ (C : String) (T : u_T) (N : Nat), vwCl[ci]? = some (C, T, N) := by
  have hl : ci < vwCl.length := h
  exact ⟨vwCl[ci].1, vwCl[ci].2.1, vwCl[ci].2.2, by rw [List.getElem?_eq_getElem hl]⟩
theorem q_get_s (X : q_X p s m args meth c Rn co cc nL ini D cT A) (hF : q_Fok P Rn) (hC : q_Cok P Rn) (Y : q_Y P NW SR s nL D cT A ad l st G M H locs ls) (hs : q_get P co idx l st G M ca sa = some T) (kk : q_KK p l0 e R s m args below meth c Q P NW SR nL D cT A ad G (pc + 3) T) (hd : decode cc pc = .ok (.getfield idx, 3)) : W p l0 e R s m args below meth c H locs ca sa Q (F0 m pc ls (st.map (q_cv ad))) := by
  obtain ⟨hx, hb, hml, hown, hts, hK, hA, hin⟩ := X
  unfold q_get at hs
  split at hs
  · next ci j a r hfl =>
    obtain ⟨ha, hr⟩ := q_tl Y.2.2.2.2.2.2.2.1 rfl
    split at hs
    · next h100 =>
      subst h100
      have hf := hF _ _ _ _ hfl
      split at hs
      · next hrg =>
        obtain ⟨i, rfl⟩ : ∃ i, a = 1000 + i := ⟨a - 1000, by omega⟩
        have hi : i < (q_sb P).length := by omega
        have hK9 := (Y.2.2.2.2.2.2.2.2.2.2.2.1).1 i hi
        rcases hf with ⟨-, hf⟩ | ⟨h, -⟩ | ⟨h, -⟩
        · rcases hf with ⟨hj, hf⟩ | ⟨hj, hf⟩
          · rw [if_pos hj] at hs
            cases hs
            refine vk_getf hx hb hK9.2.2.1 Y.2.2.1 hown (hts _ hf) (fun _ h => h) hd ?_
            have e0 : 1000 + i + 1000 = 2000 + i := by omega
            have := q_go Y kk (q_cons (show q_ov G.length (.inr (.inr (1000 + i + 1000))) from Or.inr (by omega)) hr)
            rw [e0] at this
            exact this
          · rw [if_neg hj] at hs
            cases hs
            exact vk_getf hx hb hK9.2.1 Y.2.2.1 hown (hts _ hf) (fun _ h => h) hd (q_go Y kk (q_cons (show q_ov G.length (.inl 0) from q_0r) hr))
        · omega
        · omega
      · cases hs
    · next h100 =>
      split at hs
      · next cj rs hG =>
        split at hs
        · next hcj =>
          subst hcj
          obtain ⟨hl, hc13, hrs⟩ := Y.2.2.2.1.2.1 a cj rs hG
          obtain ⟨C, T0, N, hcl⟩ := q_cl13 hc13
          obtain ⟨hN, -, hRn, hws, hnm, ty, hty, hft⟩ := hC cj C T0 N hcl
          rcases hF _ _ _ _ hfl with ⟨h, -⟩ | ⟨h, -⟩ | ⟨-, hf⟩
          · exact absurd h h100
          · omega
          · obtain ⟨hj, hlk⟩ := hf C T0 N hcl
            have hv : ((List.range (q_nf P cj)).map (q_sv P ad cj rs (M a)))[j]? = some (q_sv P ad cj rs (M a) j) := by
              rw [List.getElem?_map, List.getElem?_range (by omega)]; rfl
            refine va_get hx hb hts hws hown hK Y.1 a (q_ws_get hG) hcl j hj (hts _ hlk) (fun _ h => h) hv hd ?_
            split at hs
            · next h4 =>
              split at hs
              · next k hk =>
                cases hs
                have e1 : q_sv P ad cj rs (M a) j = .ref (ad k) := by unfold q_sv; rw [if_pos h4, hk]
                rw [e1]
                exact q_go Y kk (q_cons (show q_ov G.length (.inr (.inr k)) from Or.inl (hrs j k hk)) hr)
              · cases hs
            · next h4 =>
              cases hs
              have e1 : q_sv P ad cj rs (M a) j = .int (Int32.ofInt (M a j)) := by unfold q_sv; rw [if_neg h4]
              rw [e1]
              exact q_go Y kk (q_cons (show q_ov G.length (.inl (M a j)) from (Y.2.2.2.2.1 a j).2 (fun n h => by rw [hG] at h; cases h)) hr)
        · cases hs
      · cases hs
  · cases hs
theorem q_fit_int (x : Int) : narrow .int (.int (Int32.ofInt x)) = .int (Int32.ofInt x) ∧ fits .int (.int (Int32.ofInt x)) = true := ⟨rfl, rfl⟩
theorem q_fit_bool {x : Int} (h : x = 0 ∨ x = 1) : narrow .boolean (.int (Int32.ofInt x)) = .int (Int32.ofInt x) ∧ fits .boolean (.int (Int32.ofInt x)) = true := by
  rcases h with rfl | rfl <;> exact ⟨by decide +kernel, by decide +kernel⟩
theorem q_fit_ref {ty : FieldType} {a : Nat} (h : (∃ n, ty = .object n) ∨ ∃ t, ty = .array t) : narrow ty (.ref a) = .ref a ∧ fits ty (.ref a) = true := by
  rcases h with ⟨n, rfl⟩ | ⟨t, rfl⟩ <;> exact ⟨rfl, rfl⟩
/-- an object's fields after a store -/
theorem q_fs_set {ci j a : Nat} {rs : List Nat} {x : Int} (hj : q_ft P ci j ≠ 4) : ((List.range (q_nf P ci)).map (q_sv P ad ci rs (M a))).set j (.int (Int32.ofInt x)) = (List.range (q_nf P ci)).map (q_sv P ad ci rs (q_up M a j x a)) := by
  apply List.ext_getElem?
  intro i
  by_cases hi : i < q_nf P ci
  · by_cases e0 : i = j
    · subst e0
      rw [List.getElem?_set_self (by simp; exact hi), List.getElem?_map, List.getElem?_range hi]
      simp [q_sv, hj, q_up]
    · rw [List.getElem?_set_ne (Ne.symm e0), List.getElem?_map, List.getElem?_map, List.getElem?_range hi]
      simp [q_sv, q_up, e0]
  · rw [List.getElem?_eq_none (by simp; omega), List.getElem?_eq_none (by simp; omega)]
theorem q_fs_setR {ci j a k : Nat} {rs : List Nat} (hj : q_ft P ci j = 4) (hl : rs.length = q_nf P ci) : ((List.range (q_nf P ci)).map (q_sv P ad ci rs (M a))).set j (.ref (ad k)) = (List.range (q_nf P ci)).map (q_sv P ad ci (rs.set j (k + 1)) (M a)) := by
  apply List.ext_getElem?
  intro i
  by_cases hi : i < q_nf P ci
  · by_cases e0 : i = j
    · subst e0
      rw [List.getElem?_set_self (by simp; exact hi), List.getElem?_map, List.getElem?_range hi]
      simp [q_sv, hj, List.getElem?_set_self (show i < rs.length by omega)]
    · rw [List.getElem?_set_ne (Ne.symm e0), List.getElem?_map, List.getElem?_map, List.getElem?_range hi]
      simp [q_sv, List.getElem?_set_ne (Ne.symm e0)]
  · rw [List.getElem?_eq_none (by simp; omega), List.getElem?_eq_none (by simp; omega)]
theorem q_ws_setG {k : Nat} {sh sh' : q_S} (h : G[k]? = some sh) : (q_ws P cT ad G M).set k (ad k, q_c P cT ad sh' (M k)) = q_ws P cT ad (G.set k sh') M := by
  apply List.ext_getElem?
  intro i
  have hl : k < G.length := (List.getElem?_eq_some_iff.mp h).1
  by_cases e0 : i = k
  · subst e0
    rw [List.getElem?_set_self (by rw [q_ws_len]; exact hl), q_ws_get (List.getElem?_set_self hl)]
  · rw [List.getElem?_set_ne (Ne.symm e0)]
    simp only [q_ws, List.getElem?_mapIdx, List.getElem?_set_ne (Ne.symm e0)]
theorem q_put_s (X : q_X p s m args meth c Rn co cc nL ini D cT A) (hF : q_Fok P Rn) (hC : q_Cok P Rn) (Y : q_Y P NW SR s nL D cT A ad l st G M H locs ls) (hs : q_put P ini co idx l st G M ca sa = some T) (kk : q_KK p l0 e R s m args below meth c Q P NW SR nL D cT A ad G (pc + 3) T) (hd : decode cc pc = .ok (.putfield idx, 3)) : W p l0 e R s m args below meth c H locs ca sa Q (F0 m pc ls (st.map (q_cv ad))) := by
  obtain ⟨hx, hb, hml, hown, hts, hK, hA, hin⟩ := X
  unfold q_put at hs
  split at hs
  · next ci j x a r hfl =>
    obtain ⟨hxr, h1⟩ := q_tl Y.2.2.2.2.2.2.2.1 rfl
    obtain ⟨ha, hr⟩ := q_tl h1 rfl
    split at hs
    · next cj rs hG =>
      split at hs
      · next hcj =>
        subst hcj
        obtain ⟨hl, hc13, hrs⟩ := Y.2.2.2.1.2.1 a cj rs hG
        obtain ⟨C, T0, N, hcl⟩ := q_cl13 hc13
        obtain ⟨hN, -, hRn, hws, hnm, ty, hty, hft⟩ := hC cj C T0 N hcl
        rcases hF _ _ _ _ hfl with ⟨h, -⟩ | ⟨h, -⟩ | ⟨-, hf⟩
        · omega
        · omega
        · obtain ⟨hj, hlk⟩ := hf C T0 N hcl
          have key : q_ft P cj j ≠ 4 → (T0 j).2.2.2 = false → ∀ t : FieldType, parseFieldDescriptor (T0 j).2.2.1 = some t → (narrow t (.int (Int32.ofInt x)) = .int (Int32.ofInt x) ∧ fits t (.int (Int32.ofInt x)) = true) → T = (l, r, G, q_up M a j x, ca, sa) → W p l0 e R s m args below meth c H locs ca sa Q (F0 m pc ls (.int (Int32.ofInt x) :: .ref (ad a) :: r.map (q_cv ad))) := by
            intro h4 hfin t ht hnf hT
            subst hT
            refine va_put hx hb hts hws ty hty hnm hown hK Y.1 Y.2.1 Y.2.2.1 a (q_ws_get hG) hcl j hj (hts _ hlk) (fun _ h => h) hfin ht hnf.1 hnf.2 (by simp; omega) hd (fun H1 locs1 hP1 hD1 hS1 => ?_)
            rw [q_fs_set h4] at hP1 hD1
            have e1 := q_ws_set (P := P) (cT := cT) (ad := ad) (M := M) (M' := q_up M a j x) hG q_up_o
            simp only [q_c] at e1
            rw [e1] at hP1 hD1
            refine kk ad H1 locs1 ls q_adx.rf (Nat.le_refl _) ⟨hP1, hD1, hS1, Y.2.2.2.1, q_oM_up Y.2.2.2.2.1 (q_r_6 hxr) (fun _ => hxr), Y.2.2.2.2.2.1, Y.2.2.2.2.2.2.1, hr, Y.2.2.2.2.2.2.2.2.1, Y.2.2.2.2.2.2.2.2.2⟩
          split at hs
          · next h0 =>
            rcases hft j hj with ⟨-, h2, h3⟩ | ⟨h, -⟩ | ⟨h, -⟩
            · exact key (by omega) h3 _ (by rw [hty j hj, h2]) (q_fit_int x) (Option.some.inj hs).symm
            · omega
            · omega
          · split at hs
            · next h0 =>
              split at hs
              · next hb01 =>
                rcases hft j hj with ⟨h, -⟩ | ⟨-, h2, h3⟩ | ⟨h, -⟩
                · omega
                · exact key (by omega) h3 _ (by rw [hty j hj, h2]) (q_fit_bool hb01) (Option.some.inj hs).symm
                · omega
              · cases hs
            · cases hs
      · cases hs
    · cases hs
  · next ci j k a r hfl =>
    obtain ⟨hkr, h1⟩ := q_tl Y.2.2.2.2.2.2.2.1 rfl
    obtain ⟨ha, hr⟩ := q_tl h1 rfl
    split at hs
    · next cj rs hG =>
      split at hs
      · next hcj =>
        obtain ⟨hcj, hini, hco, h4, hkl⟩ := hcj
        subst hcj
        cases hs
        obtain ⟨hl, hc13, hrs⟩ := Y.2.2.2.1.2.1 a cj rs hG
        obtain ⟨C, T0, N, hcl⟩ := q_cl13 hc13
        obtain ⟨hN, -, hRn, hws, hnm, ty, hty, hft⟩ := hC cj C T0 N hcl
        rcases hF _ _ _ _ hfl with ⟨h, -⟩ | ⟨h, -⟩ | ⟨-, hf⟩
        · omega
        · omega
        · obtain ⟨hj, hlk⟩ := hf C T0 N hcl
          rcases hft j hj with ⟨h, -⟩ | ⟨h, -⟩ | ⟨-, h2, h3, h5⟩
          · omega
          · omega
          · have hnf := q_fit_ref (a := ad k) h5
            refine va_putF hx hb hts hws ty hty hnm hown hK Y.1 Y.2.1 Y.2.2.1 a (q_ws_get hG) hcl j hj (hts _ hlk) (fun _ h => h) h2 (hin hini) (by rw [h3, ← hco, hRn]) (hty j hj) hnf.1 hnf.2 (by simp; omega) hd (fun H1 locs1 hP1 hD1 hS1 => ?_)
            have e9 : q_cv ad (.inr (.inr k)) = .ref (ad k) := rfl
            rw [e9, q_fs_setR h4 hl] at hP1 hD1
            have e1 := q_ws_setG (P := P) (cT := cT) (ad := ad) (M := M) (sh' := .inr (cj, rs.set j (k + 1))) hG
            simp only [q_c] at e1
            rw [e1] at hP1 hD1
            have hlen : (G.set a (.inr (cj, rs.set j (k + 1)))).length = G.length := by simp
            have hal : a < G.length := (List.getElem?_eq_some_iff.mp hG).1
            have hcs : ∀ (i : Nat) (z : q_S), (G.set a (.inr (cj, rs.set j (k + 1))))[i]? = some z → (i = a ∧ z = .inr (cj, rs.set j (k + 1))) ∨ (i ≠ a ∧ G[i]? = some z) := by
              intro i z hz
              by_cases e0 : i = a
              · subst e0
                rw [List.getElem?_set_self hal] at hz
                exact Or.inl ⟨rfl, (Option.some.inj hz).symm⟩
              · rw [List.getElem?_set_ne (Ne.symm e0)] at hz
                exact Or.inr ⟨e0, hz⟩
            refine kk ad H1 locs1 ls q_adx.rf (by simp) ⟨hP1, hD1, hS1, ⟨by show (G.set a _).length ≤ 900; rw [hlen]; exact Y.2.2.2.1.1, fun i ci rs' hz => ?_, fun i t n hz => ?_⟩, fun i b => ?_, Y.2.2.2.2.2.1, by show ∀ v, some v ∈ l → q_ov (G.set a _).length v; rw [hlen]; exact Y.2.2.2.2.2.2.1, by show ∀ v ∈ r, q_ov (G.set a _).length v; rw [hlen]; exact hr, Y.2.2.2.2.2.2.2.2.1, Y.2.2.2.2.2.2.2.2.2⟩
            · show rs'.length = _ ∧ _ ∧ ∀ j r : Nat, rs'[j]? = some (r + 1) → r < (G.set a _).length
              rw [hlen]
              rcases hcs i _ hz with ⟨-, h⟩ | ⟨-, h⟩
              · cases h
                refine ⟨by simp; exact hl, hc13, fun j' r' hr' => ?_⟩
                by_cases e0 : j' = j
                · subst e0
                  rw [List.getElem?_set_self (by omega)] at hr'
                  cases hr'
                  exact hkl
                · rw [List.getElem?_set_ne (Ne.symm e0)] at hr'
                  exact hrs j' r' hr'
              · exact Y.2.2.2.1.2.1 i ci rs' h
            · rcases hcs i _ hz with ⟨-, h⟩ | ⟨-, h⟩
              · cases h
              · exact Y.2.2.2.1.2.2 i t n h
            · refine ⟨(Y.2.2.2.2.1 i b).1, fun hn => (Y.2.2.2.2.1 i b).2 (fun n hz => ?_)⟩
              by_cases e0 : i = a
              · subst e0; rw [hG] at hz; cases hz
              · exact hn n (by show (G.set a _)[i]? = _; rw [List.getElem?_set_ne (Ne.symm e0)]; exact hz)
      · cases hs
    · cases hs
  · cases hs
end QM
