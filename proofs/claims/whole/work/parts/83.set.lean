/-! settling -/
def io (M : q_M) (v : Int) : Int := if v = -1 then -1 else M 21 v.toNat
def okv (v : Int) : Prop := v = -1 ∨ (0 ≤ v ∧ v < 130)
theorem sp_io {sc : List Int} {d : Nat} {M : q_M} {v : Int} (h : okv v) (hd : 2 ≤ d) : pq sc d 36 [.inr (.inr 16), .inl v] GF M = some (some (.inl (io M v)), GF, M) := by
  unfold io
  rcases h with h | ⟨h1, h2⟩
  · rw [if_pos h, h]; exact sp_itemOfN hd
  · rw [if_neg (by omega)]
    have := sp_itemOf (sc := sc) (d := d) (M := M) (i := v.toNat) (by omega) hd
    rw [show ((v.toNat : Nat) : Int) = v by omega] at this
    exact this
def SS (M : q_M) (sb se : Nat) (k : Int) : Prop := ∃ s, sb ≤ s ∧ s < se ∧ (k = io M (M 26 s) ∨ k = io M (M 27 s))
theorem cx_lastT {sc : List Int} {d : Nat} {M : q_M} {sb se : Nat} (hse : se ≤ 130) (ho : ∀ s, sb ≤ s → s < se → okv (M 26 s) ∧ okv (M 27 s)) (hd : 2 ≤ d) : ∀ (m s : Nat) (v : Int), s + m = se → sb ≤ s → MX v (SS M sb s) → ∃ F w, pr sc (pq sc d) 89 F 9 [some (.inr (.inr 24)), none, some (.inl (se : Int)), some (.inl v), some (.inl (s : Int))] [] M = some (some (.inl w), GF, M) ∧ MX w (SS M sb se) := by
  intro m
  induction m with
  | zero =>
    intro s v hs hb hX
    refine ⟨0 + 1, v, sg_X6_lastItemIn_9.trans ?_, by rw [← show s = se by omega]; exact hX⟩
    rw [if_neg (by omega)]
  | succ m ih =>
    intro s v hs hb hX
    obtain ⟨o1, o2⟩ := ho s hb (by omega)
    have hX2 : MX (max (max v (io M (M 26 s))) (io M (M 27 s))) (SS M sb (s + 1)) := MX_c (MX_n (MX_n hX)) (fun k => by
      unfold SS
      constructor
      · rintro ((⟨u, h1, h2, h3⟩ | h1) | h1)
        · exact ⟨u, h1, by omega, h3⟩
        · exact ⟨s, hb, by omega, Or.inl h1⟩
        · exact ⟨s, hb, by omega, Or.inr h1⟩
      · rintro ⟨u, h1, h2, h3⟩
        by_cases e : u = s
        · subst e
          rcases h3 with h3 | h3
          · exact Or.inl (Or.inr h3)
          · exact Or.inr h3
        · exact Or.inl (Or.inl ⟨u, h1, by omega, h3⟩))
    obtain ⟨F, w, q1, hw⟩ := ih (s + 1) _ (by omega) (by omega) hX2
    refine ⟨F + 1, w, sg_X6_lastItemIn_9.trans ?_, hw⟩
    rw [if_pos (by omega), if_pos (by omega), if_pos (by omega), Int.toNat_natCast, sp_io o1 hd, q_cI_s, sp_max (by omega), q_cI_s, if_pos (by omega), sp_io o2 hd, q_cI_s, sp_max (by omega), q_cI_s, qw1 (by omega), q1]
theorem cx_last {sc : List Int} {d : Nat} {M : q_M} {sb se : Nat} (hbe : sb ≤ se) (hse : se ≤ 130) (ho : ∀ s, sb ≤ s → s < se → okv (M 26 s) ∧ okv (M 27 s)) (hd : 3 ≤ d) : ∃ w, pq sc d 89 [.inr (.inr 24), .inl (sb : Int), .inl (se : Int)] GF M = some (some (.inl w), GF, M) ∧ MX w (SS M sb se) := by
  obtain ⟨F, w, q1, hw⟩ := cx_lastT (sc := sc) (d := d - 1) hse ho (by omega) (se - sb) sb 0 (by omega) (Nat.le_refl _) ⟨Int.le_refl _, fun k ⟨s, h1, h2, _⟩ => by omega, Or.inl rfl⟩
  refine ⟨w, (pq_e (by omega) (by decide) (Nat.le_of_ble_eq_true rfl) ⟨F + 1, sg_X6_lastItemIn_0.trans ?_⟩), hw⟩
  rw [sp_max (by omega), q_cI_s, show max (sb : Int) 0 = (sb : Int) by omega, q1]
theorem SS_fr {M M' : q_M} {sb se : Nat} (h21 : M' 21 = M 21) (h26 : M' 26 = M 26) (h27 : M' 27 = M 27) (k : Int) : SS M' sb se k ↔ SS M sb se k := by
  unfold SS io
  rw [h21, h26, h27]
theorem cx_settleT {sc : List Int} {d : Nat} {M0 : q_M} {n : Nat} (hn : M0 24 9 = n) (hn2 : n ≤ 130) (hp : ∀ i, i < n → ¬ M0 31 i = 0 → ∃ sb se : Nat, M0 28 i = sb ∧ M0 29 i = se ∧ sb ≤ se ∧ se ≤ 130 ∧ ∀ s, sb ≤ s → s < se → okv (M0 26 s) ∧ okv (M0 27 s)) (hd : 3 ≤ d) : ∀ (m i : Nat) (M : q_M), i + m = n → (∀ a, ¬ a = 30 → M a = M0 a) → (∀ j, i ≤ j → M 30 j = M0 30 j) → ∃ F M', pr sc (pq sc d) 88 F 2 [some (.inr (.inr 24)), some (.inl (i : Int))] [] M = some (none, GF, M') ∧ (∀ a, ¬ a = 30 → M' a = M0 a) ∧ (∀ j, j < i → M' 30 j = M 30 j) ∧ (∀ j, i ≤ j → j < n → (M0 31 j = 0 → M' 30 j = M0 30 j) ∧ (¬ M0 31 j = 0 → ∀ sb se : Nat, M0 28 j = sb → M0 29 j = se → MX (M' 30 j) (SS M0 sb se))) := by
  intro m
  induction m with
  | zero =>
    intro i M hi hM h30
    refine ⟨0 + 1, M, sg_X6_settle_2.trans ?_, hM, fun _ _ => rfl, fun j h1 h2 => by omega⟩
    rw [hM 24 (by decide), hn, if_neg (by omega)]
  | succ m ih =>
    intro i M hi hM h30
    by_cases z : M0 31 i = 0
    · obtain ⟨F, M', q1, r1, r2, r3⟩ := ih (i + 1) M (by omega) hM (fun j hj => h30 j (by omega))
      refine ⟨F + 1, M', sg_X6_settle_2.trans ?_, r1, fun j hj => r2 j (by omega), fun j h1 h2 => ?_⟩
      · rw [hM 24 (by decide), hn, if_pos (by omega), if_pos (by omega), if_pos (by omega), Int.toNat_natCast, hM 31 (by decide), if_pos z, qw1 (by omega), q1]
      · by_cases e : j = i
        · subst e
          exact ⟨fun _ => by rw [r2 j (by omega), h30 j (Nat.le_refl _)], fun hh => absurd z hh⟩
        · exact r3 j (by omega) h2
    · obtain ⟨sb, se, e1, e2, e3, e4, e5⟩ := hp i (by omega) z
      obtain ⟨w, q2, hw⟩ := cx_last (sc := sc) (d := d) (M := M) e3 e4 (by rw [hM 26 (by decide), hM 27 (by decide)]; exact e5) hd
      have hw' : MX w (SS M0 sb se) := MX_c hw (SS_fr (hM 21 (by decide)) (hM 26 (by decide)) (hM 27 (by decide)))
      obtain ⟨F, M', q1, r1, r2, r3⟩ := ih (i + 1) (q_up M 30 i w) (by omega) (fun a ha => (q_upf ha).trans (hM a ha)) (fun j hj => (q_up_sn (by omega)).trans (h30 j (by omega)))
      refine ⟨F + 1, M', sg_X6_settle_2.trans ?_, r1, fun j hj => (r2 j (by omega)).trans (q_up_sn (by omega)), fun j h1 h2 => ?_⟩
      · rw [hM 24 (by decide), hn, if_pos (by omega), if_pos (by omega), if_pos (by omega), Int.toNat_natCast, hM 31 (by decide), if_neg z, if_pos (by omega), if_pos (by omega), hM 28 (by decide), hM 29 (by decide), e1, e2, q2, q_cI_s, if_pos (by omega), qw1 (by omega), q1]
      · by_cases e : j = i
        · subst e
          refine ⟨fun hh => absurd hh z, fun _ sb' se' f1 f2 => ?_⟩
          rw [e1] at f1; rw [e2] at f2
          rw [r2 j (by omega), q_up_s, ← show sb = sb' by omega, ← show se = se' by omega]
          exact hw'
        · exact r3 j (by omega) h2
theorem cx_settle {sc : List Int} {d : Nat} {M : q_M} {n : Nat} (hn : M 24 9 = n) (hn2 : n ≤ 130) (hp : ∀ i, i < n → ¬ M 31 i = 0 → ∃ sb se : Nat, M 28 i = sb ∧ M 29 i = se ∧ sb ≤ se ∧ se ≤ 130 ∧ ∀ s, sb ≤ s → s < se → okv (M 26 s) ∧ okv (M 27 s)) (hd : 5 ≤ d) : ∃ M', pq sc d 61 [.inr (.inr 15)] GF M = some (none, GF, M') ∧ (∀ a, ¬ a = 30 → M' a = M a) ∧ (∀ j, j < n → (M 31 j = 0 → M' 30 j = M 30 j) ∧ (¬ M 31 j = 0 → ∀ sb se : Nat, M 28 j = sb → M 29 j = se → MX (M' 30 j) (SS M sb se))) := by
  obtain ⟨F, M', q1, r1, -, r3⟩ := cx_settleT (sc := sc) (d := d - 1 - 1) hn hn2 hp (by omega) n 0 M (by omega) (fun _ _ => rfl) (fun _ _ => rfl)
  have q2 : pq sc (d - 1) 88 [.inr (.inr 24)] GF M = some (none, GF, M') := by
    refine (pq_e (by omega) (by decide) (Nat.le_of_ble_eq_true rfl) ⟨F + 1, sg_X6_settle_0.trans ?_⟩)
    exact q1
  refine ⟨M', (pq_e (by omega) (by decide) (Nat.le_of_ble_eq_true rfl) ⟨0 + 1, sg_X5_settle_0.trans ?_⟩), r1, fun j hj => r3 j (Nat.zero_le _) hj⟩
  rw [q2, q_c0_s]
/-- the item of a part is the same on both sides -/
theorem SS_SI {M : q_M} {C P N : Nat → Int} {tl : List Nat} {ops : List (Nat × Int)} {stp : List (Int × Int × Int)} {L : Int} {u s sb se a b f md : Nat} {st : List (Int × Int × Int)} {ot : List Nat} (hmd : md < 3) (hcd : CD C u s st ot sb se a b f md) (hst : ∀ (i : Nat) y, st[i]? = some y → stp[s + i]? = some y) (hot : ∀ (i t : Nat), ot[i]? = some t → ops[u + i]? = some (t, L)) (hS : SA M stp) (hO : ∀ (i : Nat) x, ops[i]? = some x → i < 130 ∧ M 21 i = if C x.1 = 258 ∨ C x.1 = 274 then -1 else itm C tl (C x.1)) : (∀ k, 1 ≤ k → (SS M sb se k ↔ SI C tl a b k)) ∧ (∀ j, sb ≤ j → j < se → okv (M 26 j) ∧ okv (M 27 j)) ∧ sb ≤ se ∧ se ≤ stp.length := by
  obtain ⟨u', st', ot', pt', h1, h2, h3, h4, h5, h6⟩ := hcd
  have so := aC_so _ _ _ _ _ _ _ _ _ _ h1
  have al := aC_al _ _ _ _ _ _ _ _ _ _ h1
  have hstep : ∀ (j : Nat) y, st'[j]? = some y → M 26 (sb + j) = y.2.1 ∧ M 27 (sb + j) = y.2.2 ∧ sb + j < stp.length := by
    intro j y hy
    have e := hst _ _ (h5 j y hy)
    rw [show s + (sb - s + j) = sb + j by omega] at e
    exact ⟨(hS.2 _ _ e).2.1, (hS.2 _ _ e).2.2, (List.getElem?_eq_some_iff.mp e).1⟩
  have hop : ∀ (j : Nat), j < ot'.length → ∃ t, ot'[j]? = some t ∧ u' + j < 130 ∧ M 21 (u' + j) = if C t = 258 ∨ C t = 274 then -1 else itm C tl (C t) := by
    intro j hj
    have ht : ot'[j]? = some ot'[j] := List.getElem?_eq_getElem hj
    have e := hot _ _ (h6 j _ ht)
    rw [show u + (u' - u + j) = u' + j by omega] at e
    exact ⟨_, ht, (hO _ _ e).1, (hO _ _ e).2⟩
  have hvio : ∀ v : Int, (v = -1 ∨ ∃ j : Nat, j < ot'.length ∧ v = ((u' + j : Nat) : Int)) → okv v ∧ ∀ k, 1 ≤ k → k = io M v → SI C tl a b k := by
    intro v hv
    rcases hv with hv | ⟨j, k1, k2⟩
    · exact ⟨Or.inl hv, fun k hk e => by unfold io at e; rw [if_pos hv] at e; omega⟩
    · obtain ⟨t, t1, t2, t3⟩ := hop j k1
      refine ⟨Or.inr (by omega), fun k hk e => ?_⟩
      unfold io at e
      rw [if_neg (by omega), k2, Int.toNat_natCast, t3] at e
      by_cases c : C t = 258 ∨ C t = 274
      · rw [if_pos c] at e; omega
      · rw [if_neg c] at e
        obtain ⟨b1, b2, b3⟩ := al.2.1 t (List.mem_of_getElem? t1)
        rcases b3 with b3 | b3
        · exact absurd b3 c
        · exact ⟨t, b1, b2, b3.1, b3.2.1, e⟩
  have hidx : ∀ j, sb ≤ j → j < se → ∃ y ∈ st', M 26 j = y.2.1 ∧ M 27 j = y.2.2 := by
    intro j j1 j2
    have hj : j - sb < st'.length := by omega
    have hy : st'[j - sb]? = some st'[j - sb] := List.getElem?_eq_getElem hj
    have := hstep _ _ hy
    rw [show sb + (j - sb) = j by omega] at this
    exact ⟨_, List.getElem_mem hj, this.1, this.2.1⟩
  refine ⟨fun k hk => ?_, fun j j1 j2 => ?_, by omega, ?_⟩
  · constructor
    · rintro ⟨j, j1, j2, j3⟩
      obtain ⟨y, y1, y2, y3⟩ := hidx j j1 j2
      rw [y2, y3] at j3
      rcases j3 with j3 | j3
      · exact (hvio _ (so.1 y y1).1).2 k hk j3
      · exact (hvio _ (so.1 y y1).2).2 k hk j3
    · rintro ⟨t, t1, t2, t3, t4, t5⟩
      have hm := al.2.2 t t1 t2 t3 t4
      obtain ⟨j, hj⟩ := mem_ops.mpr hm
      have hjl := (List.getElem?_eq_some_iff.mp hj).1
      obtain ⟨t', t6, t7, t8⟩ := hop j hjl
      rw [hj] at t6; cases t6
      rw [if_neg (by omega)] at t8
      obtain ⟨y, y1, y2⟩ := so.2 j hjl
      obtain ⟨i, hi⟩ := mem_ops.mpr y1
      have hil := (List.getElem?_eq_some_iff.mp hi).1
      obtain ⟨s1, s2, s3⟩ := hstep i y hi
      refine ⟨sb + i, by omega, by omega, ?_⟩
      have hio : ∀ v : Int, v = ((u' + j : Nat) : Int) → k = io M v := by
        intro v hv
        unfold io
        rw [if_neg (by omega), hv, Int.toNat_natCast, t8]
        exact t5
      rcases y2 with y2 | y2
      · exact Or.inl (by rw [s1]; exact hio _ y2)
      · exact Or.inr (by rw [s2]; exact hio _ y2)
  · obtain ⟨y, y1, y2, y3⟩ := hidx j j1 j2
    rw [y2, y3]
    exact ⟨(hvio _ (so.1 y y1).1).1, (hvio _ (so.1 y y1).2).1⟩
  · rcases hz : st' with _ | ⟨y, l⟩
    · have := (aC_len _ _ _ _ _ _ _ _ _ _ h1).2.2.2.1 hmd
      rw [hz] at this
      simp at this
    · have hl : st'.length - 1 < st'.length := by rw [hz]; simp
      have := (hstep _ _ (List.getElem?_eq_getElem hl)).2.2
      omega
