def q_KK (p : Program) (l0 : Launch) (e : Env) (R : Room) (s : State) (m : MethodId) (args : Array Value) (below : List Frame) (meth : Method) (c : Code) (Q : State → Prop) (P : q_P) (NW : List (String × Nat × MethodName × String)) (SR : q_SRt) (nL : Nat) (D : va_G) (cT : Nat → ClassId) (A : Nat → Prop) (ad : Nat → Nat) (G : q_G) (pc' : Nat) (T : q_T) : Prop :=
  ∀ (ad' : Nat → Nat) (H' : Heap) (locs' : List Loc) (ls' : Array Slot), q_adx G.length ad ad' → G.length ≤ T.2.2.1.length → q_Y P NW SR s nL D cT A ad' T.1 T.2.1 T.2.2.1 T.2.2.2.1 H' locs' ls' → W p l0 e R s m args below meth c H' locs' T.2.2.2.2.1 T.2.2.2.2.2 Q (F0 m pc' ls' (T.2.1.map (q_cv ad')))
section QS
variable {p : Program} {l0 : Launch} {e : Env} {R : Room} {s : State} {m : MethodId} {args : Array Value} {below : List Frame} {meth : Method} {c : Code} {Q : State → Prop}
variable {P : q_P} {NW : List (String × Nat × MethodName × String)} {SR : q_SRt} {Rn : Nat → String} {co : Nat} {cc : ByteArray} {nL : Nat} {ini : Bool} {D : va_G} {cT : Nat → ClassId} {A : Nat → Prop} {ad : Nat → Nat} {l : q_L} {st : List q_V} {G : q_G} {M : q_M} {H : Heap} {locs : List Loc} {ls : Array Slot} {ca sa pc len : Nat} {T : q_T}
theorem q_go (Y : q_Y P NW SR s nL D cT A ad l st G M H locs ls) {st' : List q_V} (kk : q_KK p l0 e R s m args below meth c Q P NW SR nL D cT A ad G pc (l, st', G, M, ca, sa)) (hs : ∀ v ∈ st', q_ov G.length v) : W p l0 e R s m args below meth c H locs ca sa Q (F0 m pc ls (st'.map (q_cv ad))) :=
  kk ad H locs ls q_adx.rf (Nat.le_refl _) (Y.st hs)
theorem q_getD {l : q_L} {k : Nat} {v : q_V} (h : l.getD k none = some v) : l[k]? = some (some v) := by
  rw [List.getD_eq_getElem?_getD] at h
  rcases hk : l[k]? with _ | x
  · rw [hk] at h; cases h
  · rw [hk] at h
    simp only [Option.getD_some] at h
    rw [h]
theorem q_ldI_s {k : Nat} (Y : q_Y P NW SR s nL D cT A ad l st G M H locs ls) (hs : q_ldI l k st G M ca sa = some T) (kk : q_KK p l0 e R s m args below meth c Q P NW SR nL D cT A ad G (pc + len) T)
    (hw : ∀ x : Int32, ls[k]? = some (.val (.int x)) → W p l0 e R s m args below meth c H locs ca sa Q (F0 m (pc + len) ls (.int x :: st.map (q_cv ad))) → W p l0 e R s m args below meth c H locs ca sa Q (F0 m pc ls (st.map (q_cv ad)))) : W p l0 e R s m args below meth c H locs ca sa Q (F0 m pc ls (st.map (q_cv ad))) := by
  unfold q_ldI at hs
  split at hs
  · next x h =>
    cases hs
    have hv := q_getD h
    refine hw _ (Y.2.2.2.2.2.1.2.2 k _ hv) ?_
    exact q_go Y kk (fun v hm => by
      rcases List.mem_cons.mp hm with rfl | hm
      · exact Y.2.2.2.2.2.2.1 _ (List.mem_of_getElem? hv)
      · exact Y.2.2.2.2.2.2.2.1 v hm)
  · cases hs
theorem q_ldL_s {k : Nat} (Y : q_Y P NW SR s nL D cT A ad l st G M H locs ls) (hs : q_ldL l k st G M ca sa = some T) (kk : q_KK p l0 e R s m args below meth c Q P NW SR nL D cT A ad G (pc + len) T)
    (hw : ∀ x : Int64, ls[k]? = some (.val (.long x)) → W p l0 e R s m args below meth c H locs ca sa Q (F0 m (pc + len) ls (.long x :: st.map (q_cv ad))) → W p l0 e R s m args below meth c H locs ca sa Q (F0 m pc ls (st.map (q_cv ad)))) : W p l0 e R s m args below meth c H locs ca sa Q (F0 m pc ls (st.map (q_cv ad))) := by
  unfold q_ldL at hs
  split at hs
  · next x h =>
    cases hs
    have hv := q_getD h
    refine hw _ (Y.2.2.2.2.2.1.2.2 k _ hv) ?_
    exact q_go Y kk (fun v hm => by
      rcases List.mem_cons.mp hm with rfl | hm
      · exact Y.2.2.2.2.2.2.1 _ (List.mem_of_getElem? hv)
      · exact Y.2.2.2.2.2.2.2.1 v hm)
  · cases hs
theorem q_ldR_s {k : Nat} (Y : q_Y P NW SR s nL D cT A ad l st G M H locs ls) (hs : q_ldR l k st G M ca sa = some T) (kk : q_KK p l0 e R s m args below meth c Q P NW SR nL D cT A ad G (pc + len) T)
    (hw : ∀ x : Nat, ls[k]? = some (.val (.ref x)) → W p l0 e R s m args below meth c H locs ca sa Q (F0 m (pc + len) ls (.ref x :: st.map (q_cv ad))) → W p l0 e R s m args below meth c H locs ca sa Q (F0 m pc ls (st.map (q_cv ad)))) : W p l0 e R s m args below meth c H locs ca sa Q (F0 m pc ls (st.map (q_cv ad))) := by
  unfold q_ldR at hs
  split at hs
  · next x h =>
    cases hs
    have hv := q_getD h
    refine hw _ (Y.2.2.2.2.2.1.2.2 k _ hv) ?_
    exact q_go Y kk (fun v hm => by
      rcases List.mem_cons.mp hm with rfl | hm
      · exact Y.2.2.2.2.2.2.1 _ (List.mem_of_getElem? hv)
      · exact Y.2.2.2.2.2.2.2.1 v hm)
  · cases hs
theorem q_sto_s {k : Nat} {v : q_V} {l' : q_L} {r : List q_V} (Y : q_Y P NW SR s nL D cT A ad l st G M H locs ls) (hv : q_ov G.length v) (hr : ∀ v ∈ r, q_ov G.length v) (hs : q_sto l k v = some l') (kk : q_KK p l0 e R s m args below meth c Q P NW SR nL D cT A ad G (pc + len) (l', r, G, M, ca, sa))
    (hw : ∀ (lv lv' : List (Nat × Value)), lv_has ls nL lv → k < nL → (k, q_cv ad v) :: lv.filter (fun q => !(q.1 == k) && !(q.1 + 1 == k && q.2.category == 2)) = lv' → (∀ ls' : Array Slot, lv_has ls' nL lv' → W p l0 e R s m args below meth c H locs ca sa Q (F0 m (pc + len) ls' (r.map (q_cv ad)))) → W p l0 e R s m args below meth c H locs ca sa Q (F0 m pc ls (st.map (q_cv ad)))) : W p l0 e R s m args below meth c H locs ca sa Q (F0 m pc ls (st.map (q_cv ad))) := by
  have hn := Y.2.2.2.2.2.2.2.2.1
  obtain ⟨h1, h2, h3⟩ := q_sto_len hs
  refine hw (q_as ad l) _ (hn ▸ Y.2.2.2.2.2.1.has) (hn ▸ h1) rfl (fun ls' hl => ?_)
  exact kk ad H locs ls' q_adx.rf (Nat.le_refl _) (Y.lc hr (q_sto_lc hs (by rw [hn]; exact hl)) (fun w hw => (h3 w hw).elim (Y.2.2.2.2.2.2.1 w) (fun e => e ▸ hv)) (h2.trans hn))
theorem q_sto2_s {k : Nat} {v : q_V} {l' : q_L} {r : List q_V} (Y : q_Y P NW SR s nL D cT A ad l st G M H locs ls) (hv : q_ov G.length v) (hr : ∀ v ∈ r, q_ov G.length v) (hs : q_sto2 l k v = some l') (kk : q_KK p l0 e R s m args below meth c Q P NW SR nL D cT A ad G (pc + len) (l', r, G, M, ca, sa))
    (hw : ∀ (lv lv' : List (Nat × Value)), lv_has ls nL lv → k + 1 < nL → (k, q_cv ad v) :: lv.filter (fun q => !(q.1 == k) && (!(q.1 == k + 1) && !(q.1 + 1 == k && q.2.category == 2))) = lv' → (∀ ls' : Array Slot, lv_has ls' nL lv' → W p l0 e R s m args below meth c H locs ca sa Q (F0 m (pc + len) ls' (r.map (q_cv ad)))) → W p l0 e R s m args below meth c H locs ca sa Q (F0 m pc ls (st.map (q_cv ad)))) : W p l0 e R s m args below meth c H locs ca sa Q (F0 m pc ls (st.map (q_cv ad))) := by
  have hn := Y.2.2.2.2.2.2.2.2.1
  obtain ⟨h1, h2, h3⟩ := q_sto2_len hs
  refine hw (q_as ad l) _ (hn ▸ Y.2.2.2.2.2.1.has) (hn ▸ h1) rfl (fun ls' hl => ?_)
  exact kk ad H locs ls' q_adx.rf (Nat.le_refl _) (Y.lc hr (q_sto2_lc hs (by rw [hn]; exact hl)) (fun w hw => (h3 w hw).elim (Y.2.2.2.2.2.2.1 w) (fun e => e ▸ hv)) (h2.trans hn))
theorem q_tl {v : q_V} {r st : List q_V} {n : Nat} (h : ∀ v ∈ st, q_ov n v) (e : st = v :: r) : q_ov n v ∧ ∀ w ∈ r, q_ov n w := by
  subst e
  exact ⟨h v List.mem_cons_self, fun w hw => h w (List.mem_cons_of_mem _ hw)⟩
theorem q_cons {v : q_V} {r : List q_V} {n : Nat} (h : q_ov n v) (hr : ∀ v ∈ r, q_ov n v) : ∀ w ∈ v :: r, q_ov n w := fun w hw => (List.mem_cons.mp hw).elim (fun e => e ▸ h) (hr w)
/-- two ints give one -/
theorem q_ii_s {f : Int → Int → Option Int} (Y : q_Y P NW SR s nL D cT A ad l st G M H locs ls) (hs : q_ii f l st G M ca sa = some T) (kk : q_KK p l0 e R s m args below meth c Q P NW SR nL D cT A ad G (pc + 1) T)
    (hw : ∀ (x y z : Int) (rest : List Value), q_r x → q_r y → f x y = some z → q_r z ∧ (W p l0 e R s m args below meth c H locs ca sa Q (F0 m (pc + 1) ls (.int (Int32.ofInt z) :: rest)) → W p l0 e R s m args below meth c H locs ca sa Q (F0 m pc ls (.int (Int32.ofInt y) :: .int (Int32.ofInt x) :: rest)))) : W p l0 e R s m args below meth c H locs ca sa Q (F0 m pc ls (st.map (q_cv ad))) := by
  unfold q_ii at hs
  split at hs
  · next y x r =>
    obtain ⟨hy, h1⟩ := q_tl Y.2.2.2.2.2.2.2.1 rfl
    obtain ⟨hx, hr⟩ := q_tl h1 rfl
    split at hs
    · next z hz =>
      cases hs
      obtain ⟨h2, h3⟩ := hw x y z (r.map (q_cv ad)) hx hy hz
      exact h3 (q_go Y kk (q_cons (show q_ov G.length (.inl z) from h2) hr))
    · cases hs
  · cases hs
end QS
