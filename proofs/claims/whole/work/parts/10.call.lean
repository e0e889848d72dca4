section QN
variable {p : Program} {l0 : Launch} {e : Env} {R : Room} {s : State} {m : MethodId} {args : Array Value} {below : List Frame} {meth : Method} {c : Code} {Q : State → Prop}
variable {P : q_P} {NW : List (String × Nat × MethodName × String)} {SR : q_SRt} {Rn : Nat → String} {co : Nat} {cc : ByteArray} {nL : Nat} {ini : Bool} {D : va_G} {cT : Nat → ClassId} {A : Nat → Prop} {ad : Nat → Nat} {l : q_L} {st : List q_V} {G : q_G} {M : q_M} {H : Heap} {locs : List Loc} {ls : Array Slot} {ca sa pc len idx kc ks : Nat} {T : q_T}
/-- a thing more in the world -/
theorem q_ws_app {M' : q_M} {ad' : Nat → Nat} {sh : q_S} (hG : q_oG P G) (ha : q_adx G.length ad ad') (hM : ∀ a, a ≠ G.length → M' a = M a) : q_ws P cT ad' (G ++ [sh]) M' = q_ws P cT ad G M ++ [(ad' G.length, q_c P cT ad' sh (M' G.length))] := by
  have e1 : q_ws P cT ad' G M' = q_ws P cT ad G M := by
    rw [← q_ws_ext hG ha]
    apply List.ext_getElem?
    intro k
    simp only [q_ws, List.getElem?_mapIdx]
    rcases hk : G[k]? with _ | sh
    · rfl
    · have hl : k < G.length := (List.getElem?_eq_some_iff.mp hk).1
      simp only [Option.map_some, hM k (by omega)]
  rw [← e1]
  simp [q_ws, List.mapIdx_append]
theorem q_adn (q : Nat) (hl : G.length < 900) : q_adx G.length ad (fun k => if k = G.length then q else ad k) := fun k hk => by
  show (if k = G.length then q else ad k) = ad k
  rw [if_neg (by omega)]
theorem q_oG_app {sh : q_S} (hG : q_oG P G) (hl : G.length < 900) (h1 : ∀ (ci : Nat) (rs : List Nat), sh = .inr (ci, rs) → rs.length = q_nf P ci ∧ ci < 13 ∧ ∀ j r : Nat, rs[j]? = some (r + 1) → r < G.length) (h2 : ∀ t n : Nat, sh = .inl (t, n) → t ≤ 3 ∧ n ≤ 1000) : q_oG P (G ++ [sh]) := by
  have hcs : ∀ (i : Nat) (z : q_S), (G ++ [sh])[i]? = some z → G[i]? = some z ∨ z = sh := by
    intro i z hz
    by_cases e0 : i < G.length
    · rw [List.getElem?_append_left e0] at hz; exact Or.inl hz
    · rw [List.getElem?_append_right (by omega)] at hz
      have := List.mem_of_getElem? hz
      exact Or.inr (List.mem_singleton.mp this)
  refine ⟨by simp; omega, fun k ci rs hz => ?_, fun k t n hz => ?_⟩
  · rcases hcs k _ hz with h | h
    · obtain ⟨a, b, c⟩ := hG.2.1 k ci rs h
      exact ⟨a, b, fun j r hr => by have := c j r hr; simp; omega⟩
    · obtain ⟨a, b, c⟩ := h1 ci rs h.symm
      exact ⟨a, b, fun j r hr => by have := c j r hr; simp; omega⟩
  · rcases hcs k _ hz with h | h
    · exact hG.2.2 k t n h
    · exact h2 t n h.symm
theorem q_oM_app {sh : q_S} (h : q_oM G M) : q_oM (G ++ [sh]) (q_zr M G.length) := by
  intro a b
  unfold q_zr
  by_cases e0 : a = G.length
  · rw [if_pos e0]; exact ⟨⟨by decide, by decide⟩, fun _ => q_0r⟩
  · rw [if_neg e0]
    refine ⟨(h a b).1, fun hn => (h a b).2 (fun n hz => hn n ?_)⟩
    have := (List.getElem?_eq_some_iff.mp hz).1
    rw [List.getElem?_append_left this]; exact hz
theorem q_Y_app {sh : q_S} {q : Nat} {H1 : Heap} (Y : q_Y P NW SR s nL D cT A ad l st G M H locs ls) {r : List q_V} (hr : ∀ v ∈ r, q_ov G.length v) (hl : G.length < 900) (hG' : q_oG P (G ++ [sh]))
    (hP1 : va_P D vwCl (q_ws P cT ad G M ++ [(q, q_c P cT (fun k => if k = G.length then q else ad k) sh (fun _ => 0))]) H1) (hD1 : va_D A (q_ws P cT ad G M ++ [(q, q_c P cT (fun k => if k = G.length then q else ad k) sh (fun _ => 0))])) (hS1 : va_S A s.heap H1 locs) :
    q_Y P NW SR s nL D cT A (fun k => if k = G.length then q else ad k) l (.inr (.inr G.length) :: r) (G ++ [sh]) (q_zr M G.length) H1 locs ls := by
  have ha := q_adn (ad := ad) q hl
  have e1 := q_ws_app (P := P) (cT := cT) (M := M) (M' := q_zr M G.length) (sh := sh) Y.2.2.2.1 ha (fun a h => by funext b; simp [q_zr, h])
  have e2 : q_zr M G.length G.length = fun _ => 0 := by funext b; simp [q_zr]
  rw [e2] at e1
  have e3 : (if G.length = G.length then q else ad G.length) = q := if_pos rfl
  rw [e3] at e1
  refine ⟨by rw [e1]; exact hP1, by rw [e1]; exact hD1, hS1, hG', q_oM_app Y.2.2.2.2.1, Y.2.2.2.2.2.1.ext ha Y.2.2.2.2.2.2.1, fun v hv => q_ov_mono (Y.2.2.2.2.2.2.1 v hv) (by simp), q_cons (Or.inl (by simp)) (fun v hv => q_ov_mono (hr v hv) (by simp)), Y.2.2.2.2.2.2.2.2.1, ?_⟩
  obtain ⟨a1, a2, a3, a4⟩ := Y.2.2.2.2.2.2.2.2.2
  have f1 : ∀ i, (fun k => if k = G.length then q else ad k) (1000 + i) = ad (1000 + i) := fun i => ha _ (Or.inr (by omega))
  have f2 : ∀ i, (fun k => if k = G.length then q else ad k) (2000 + i) = ad (2000 + i) := fun i => ha _ (Or.inr (by omega))
  have f3 : (fun k => if k = G.length then q else ad k) 3000 = ad 3000 := ha _ (Or.inr (by decide))
  refine ⟨a1, fun r hr => by rw [f1]; exact a2 r hr, ?_, a4.1, by rw [f3]; exact a4.2⟩
  simp only [f1, f2]
  exact a3
theorem q_newa_s {at' : ArrayType} (X : q_X p s m args meth c Rn co cc nL ini D cT A) (hAo : q_Aok) (hkc : kc ≤ R.cells) (hks : ks ≤ R.slots) (Y : q_Y P NW SR s nL D cT A ad l st G M H locs ls) (hs : q_newa kc ks at' l st G M ca sa = some T) (kk : q_KK p l0 e R s m args below meth c Q P NW SR nL D cT A ad G (pc + 2) T) (hd : decode cc pc = .ok (.newarray at', 2)) : W p l0 e R s m args below meth c H locs ca sa Q (F0 m pc ls (st.map (q_cv ad))) := by
  obtain ⟨hx, hb, hml, hown, hts, hK, hA, hin⟩ := X
  unfold q_newa at hs
  split at hs
  · next x r =>
    obtain ⟨hxr, hr⟩ := q_tl Y.2.2.2.2.2.2.2.1 rfl
    split at hs
    · next h =>
      obtain ⟨h0, h1, h2, h3, h4, h5⟩ := h
      cases hs
      have hn0 : ¬ Int32.ofInt x < 0 := fun h => by
        have := (q_lt hxr q_0r).mp h; omega
      have hN : (Int32.ofInt x).toNatClampNeg = x.toNat := by show (Int32.ofInt x).toInt.toNat = x.toNat; rw [q_toI hxr]
      have main : ∀ (t : Nat) (ty : FieldType), newarray.typeOf at' = ty → q_at at' = t → (q_tys cT)[t]? = some (cT t, ty) → Cond.arrayClass ty ∈ q_WT → (∀ cA : ClassId, vp_cell cA (x.toNat, q_ca t (fun _ => 0)) = arrV cA x.toNat (fun _ => defaultValue ty)) → x.toNat * componentBytes ty ≤ 536870912 → (∀ cA cB : ClassId, va_RA s cA ty → va_RA s cB ty → cA = cB) → W p l0 e R s m args below meth c H locs ca sa Q (F0 m pc ls (.int (Int32.ofInt x) :: r.map (q_cv ad))) := by
        intro t ty hty hqt htys hw hcell hby hinj
        refine va_newa hx hb (by rw [hty]; exact hts _ hw) hty hK Y.1 Y.2.1 Y.2.2.1 hA hcell hn0 hN hby (by omega) (by omega) hd (fun q cA H1 hK1 hP1 hD1 hS1 => ?_)
        have hcA : cA = cT t := hinj _ _ (hK1.2 4 (cA, ty) rfl).2 (hK.2 t _ htys).2
        subst hcA
        have ha := q_adn (ad := ad) q h5
        have hG' : q_oG P (G ++ [.inl (q_at at', x.toNat)]) := q_oG_app Y.2.2.2.1 h5 (fun ci rs h => by cases h) (fun t n h => by cases h; exact ⟨h2, by omega⟩)
        have Y' := q_Y_app (sh := .inl (q_at at', x.toNat)) (q := q) (H1 := H1) Y hr h5 hG' (by rw [hqt]; exact hP1) (by rw [hqt]; exact hD1) hS1
        have := kk _ H1 locs ls ha (by simp) Y'
        simp only [List.map_cons, q_cv, if_true] at this
        rw [q_map_ext ha hr] at this
        exact this
      cases at' with
      | int => exact main 0 .int rfl rfl rfl hAo.1 (fun _ => rfl) (by simp [componentBytes]; omega) (fun a b h1 h2 => Option.some.inj (Eq.trans (Eq.symm h1) h2))
      | boolean => exact main 1 .boolean rfl rfl rfl hAo.2.1 (fun _ => rfl) (by simp [componentBytes]; omega) (fun a b h1 h2 => Option.some.inj (Eq.trans (Eq.symm h1) h2))
      | char => exact main 2 .char rfl rfl rfl hAo.2.2.1 (fun _ => rfl) (by simp [componentBytes]; omega) (fun a b h1 h2 => Option.some.inj (Eq.trans (Eq.symm h1) h2))
      | long => exact main 3 .long rfl rfl rfl hAo.2.2.2 (fun _ => rfl) (by simp [componentBytes]; omega) (fun a b h1 h2 => Option.some.inj (Eq.trans (Eq.symm h1) h2))
      | _ => exact absurd h2 (by decide)
    · cases hs
  · cases hs
theorem q_new_s (X : q_X p s m args meth c Rn co cc nL ini D cT A) (hC : q_Cok P Rn) (hNo : q_Nok P Rn) (hkc : kc ≤ R.cells) (hks : ks ≤ R.slots) (Y : q_Y P NW SR s nL D cT A ad l st G M H locs ls) (hs : q_new P kc ks co idx l st G M ca sa = some T) (kk : q_KK p l0 e R s m args below meth c Q P NW SR nL D cT A ad G (pc + 3) T) (hd : decode cc pc = .ok (.new idx, 3)) : W p l0 e R s m args below meth c H locs ca sa Q (F0 m pc ls (st.map (q_cv ad))) := by
  obtain ⟨hx, hb, hml, hown, hts, hK, hA, hin⟩ := X
  unfold q_new at hs
  split at hs
  · next ci hcn =>
    split at hs
    · next h =>
      obtain ⟨h3, h4, h5⟩ := h
      cases hs
      obtain ⟨C, T0, N, hcl, hw1, hw2, hw3⟩ := hNo _ _ _ hcn
      obtain ⟨hN, -, hRn, hws, hnm, ty, hty, hft⟩ := hC ci C T0 N hcl
      have hc13 : ci < 13 := (List.getElem?_eq_some_iff.mp hcl).1
      have hr := Y.2.2.2.2.2.2.2.1
      have hfs : ∀ (ad' : Nat → Nat) (j : Nat), j < N → defaultValue (ty j) = vp_V ((List.range (q_nf P ci)).map (q_sv P ad' ci (List.replicate (q_nf P ci) 0) (fun _ => 0))) j := by
        intro ad' j hj
        have : ((List.range (q_nf P ci)).map (q_sv P ad' ci (List.replicate (q_nf P ci) 0) (fun _ => 0))).getD j .null = q_sv P ad' ci (List.replicate (q_nf P ci) 0) (fun _ => 0) j := by
          rw [List.getD_eq_getElem?_getD, List.getElem?_map, List.getElem?_range (by omega)]; rfl
        unfold vp_V
        rw [this]
        unfold q_sv
        rcases hft j hj with ⟨a, b, -⟩ | ⟨a, b, -⟩ | ⟨a, -, -, b⟩
        · rw [b, a]; rfl
        · rw [b, a]; rfl
        · rw [if_pos a]
          have e9 : (List.replicate (q_nf P ci) (0 : Nat))[j]? = some 0 := by rw [List.getElem?_replicate, if_pos (by omega)]
          rw [e9]
          rcases b with ⟨n, b⟩ | ⟨t, b⟩ <;> rw [b] <;> rfl
      have key : ∀ ad1 ad2 : Nat → Nat, q_sv P ad1 ci (List.replicate (q_nf P ci) 0) (fun _ => 0) = q_sv P ad2 ci (List.replicate (q_nf P ci) 0) (fun _ => 0) := by
        intro ad1 ad2
        funext j
        unfold q_sv
        split
        · rcases hj : (List.replicate (q_nf P ci) 0)[j]? with _ | (_ | r)
          · rfl
          · rfl
          · simp [List.getElem?_replicate] at hj
        · rfl
      refine va_new hx hb hts hws ty hty hown (hts _ hw1) (hts _ hw2) (hts _ hw3) hK Y.1 Y.2.1 Y.2.2.1 hA hcl (fun j hj => hfs ad j hj) (by omega) (by omega) hd (fun q H1 hP1 hD1 hS1 => ?_)
      have ha := q_adn (ad := ad) q h5
      have hG' : q_oG P (G ++ [.inr (ci, List.replicate (q_nf P ci) 0)]) := q_oG_app Y.2.2.2.1 h5 (fun ci' rs h => by cases h; exact ⟨by simp, hc13, fun j r hr => by simp [List.getElem?_replicate] at hr⟩) (fun t n h => by cases h)
      have hq : q_c P cT (fun k => if k = G.length then q else ad k) (.inr (ci, List.replicate (q_nf P ci) 0)) (fun _ => 0) = .inr (ci, (List.range (q_nf P ci)).map (q_sv P ad ci (List.replicate (q_nf P ci) 0) (fun _ => 0))) := by
        simp only [q_c]
        rw [key (fun k => if k = G.length then q else ad k) ad]
      have Y' := q_Y_app (sh := .inr (ci, List.replicate (q_nf P ci) 0)) (q := q) (H1 := H1) Y hr h5 hG' (by rw [hq]; exact hP1) (by rw [hq]; exact hD1) hS1
      have := kk _ H1 locs ls ha (by simp) Y'
      simp only [List.map_cons, q_cv, if_true] at this
      rw [q_map_ext ha hr, hN] at this
      exact this
    · cases hs
  · cases hs
end QN
