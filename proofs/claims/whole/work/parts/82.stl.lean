theorem chn_len {C : Nat → Int} : ∀ (l : List (Nat × Nat × Nat)) (p q : Nat), chn C p q l → (∀ x ∈ l, x.1 + 3 ≤ x.2.1) → p + 4 * l.length ≤ q := by
  intro l
  induction l with
  | nil => intro p q h _; have : q = p := h; simp; omega
  | cons x l ih =>
    intro p q h hx
    obtain ⟨h1, h2, h3⟩ := h
    have := ih _ _ h3 (fun y hy => hx y (List.mem_cons_of_mem _ hy))
    have := hx x List.mem_cons_self
    simp only [List.length_cons]
    omega
theorem chn_le {C : Nat → Int} : ∀ (l : List (Nat × Nat × Nat)) (p q : Nat), chn C p q l → (∀ x ∈ l, x.1 + 3 ≤ x.2.1) → ∀ x ∈ l, x.2.1 ≤ q := by
  intro l
  induction l with
  | nil => intro p q h _ x hx; cases hx
  | cons y l ih =>
    intro p q h hx x hm
    obtain ⟨h1, h2, h3⟩ := h
    have hy := fun z hz => hx z (List.mem_cons_of_mem _ hz)
    rcases List.mem_cons.mp hm with rfl | hm
    · have := chn_len l _ _ h3 hy; omega
    · exact ih _ _ h3 hy x hm
theorem fp_loop {sc : List Int} {d : Nat} {C P N : Nat → Int} {q : Nat} {its : List aIt} {ous : List aOu} {gts : List Nat} {wf wt : Nat} (hT : TIq C q (its.map (·.1))) (hk : ∀ i, i ≤ q → kR (C i)) (hwq : wt ≤ q) (hd : 2 ≤ d) : ∀ (l : List (Nat × Nat × Nat)) (a b g : Nat) (M : q_M) (ls : List (Nat × Nat)), SM M C P N q its ous gts wf wt → (∃ u s st ot pt, aC C g 0 0 a u s = some (true, b, st, ot, pt)) → g < 1000 → (∀ x ∈ l, (∃ u s st ot pt, aC C x.2.2 0 0 x.1 u s = some (true, x.2.1, st, ot, pt)) ∧ x.2.2 < 1000) → chn C b wt l → PM M C (its.map (·.1)) ls → ls.length + l.length < 40 → ∃ F M', pr sc (pq sc d) 187 F 113 [some (.inr (.inr 49)), some (.inl 1), some (.inl 0), some (.inl (a : Int)), some (.inl (a : Int))] [] M = some (none, GF, M') ∧ FF M M' ∧ PM M' C (its.map (·.1)) (ls ++ (a, b) :: l.map (fun x => (x.1, x.2.1))) := by
  intro l
  induction l with
  | nil =>
    intro a b g M ls hS hac hg _ hc hP hl
    obtain ⟨u, s, st, ot, pt, e1⟩ := hac
    have hbw : wt = b := hc
    have hq := hS.2.1
    have hW : WT M C wt := ⟨hS.2.2.2.2.2.2, by omega, fun t ht => (hS.1 t (by omega)).1, fun t ht => hk t (by omega)⟩
    have hab := (aC_len _ _ _ _ _ _ _ _ _ _ e1).2.2.2.1 (by omega)
    obtain ⟨K, k⟩ := Y2 (sc := sc) (d := d) (g := (a : Int)) hW g 0 0 a u s b st ot pt 0 e1 (by omega) (by omega) (by omega) (by omega)
    obtain ⟨M', q1, f1, p1⟩ := mp_add (sc := sc) (d := d) (a := a) (b := b) hS hT (fun i hi => hk i (by omega)) (by omega) (by omega) (by simpa using hl) hP hd
    refine ⟨0 + 1 + K, M', (k (0 + 1)).trans (sg_X12_findParts_113.trans ?_), f1, by simpa using p1⟩
    rw [hS.2.2.2.2.2.2, if_neg (by omega), hbw, q1, q_c0_s]
  | cons x l ih =>
    intro a b g M ls hS hac hg hx hc hP hl
    obtain ⟨u, s, st, ot, pt, e1⟩ := hac
    obtain ⟨c1, c2, c3⟩ := hc
    have hq := hS.2.1
    have hW : WT M C wt := ⟨hS.2.2.2.2.2.2, by omega, fun t ht => (hS.1 t (by omega)).1, fun t ht => hk t (by omega)⟩
    have hab := (aC_len _ _ _ _ _ _ _ _ _ _ e1).2.2.2.1 (by omega)
    have hbw : b < wt := by
      have := chn_len (C := C) (x :: l) b wt ⟨c1, c2, c3⟩ (fun y hy => by
        obtain ⟨⟨u', s', st', ot', pt', e'⟩, -⟩ := hx y hy
        exact aC_min _ _ _ _ _ _ _ _ _ _ e' (by omega))
      simp only [List.length_cons] at this
      omega
    obtain ⟨K, k⟩ := Y2 (sc := sc) (d := d) (g := (a : Int)) hW g 0 0 a u s b st ot pt 0 e1 (by omega) (by omega) (by omega) (by omega)
    simp only [List.length_cons] at hl
    obtain ⟨M1, q1, f1, p1⟩ := mp_add (sc := sc) (d := d) (a := a) (b := b) hS hT (fun i hi => hk i (by omega)) (by omega) (by omega) (by omega) hP hd
    obtain ⟨hx1, hx2⟩ := hx x List.mem_cons_self
    obtain ⟨F, M', q2, f2, p2⟩ := ih x.1 x.2.1 x.2.2 M1 (ls ++ [(a, b)]) (SM_ff hS f1) hx1 hx2 (fun y hy => hx y (List.mem_cons_of_mem _ hy)) c3 p1 (by simp; omega)
    rw [c2] at q2
    refine ⟨F + 1 + K, M', (k (F + 1)).trans (sg_X12_findParts_113.trans ?_), FF_t f1 f2, by simpa using p2⟩
    rw [Int.natCast_zero, hS.2.2.2.2.2.2, if_pos (by omega), if_neg (by decide), if_pos (by omega), Int.toNat_natCast, if_neg (fun hh => by have := (WT_k hW hbw k40 (by decide)).mp hh; omega), if_pos (by omega), if_neg (fun hh => by have := (WT_k hW hbw k41 (by decide)).mp hh; omega), if_pos rfl, if_pos (by omega), if_pos ((WT_k hW hbw k271 (by decide)).mpr c1), q1, q_c0_s, qw1 (by omega), q2]
/-- the model finds the parts -/
theorem mx_parts {sc : List Int} {d : Nat} {M : q_M} {C P N : Nat → Int} {q : Nat} {its : List aIt} {ous : List aOu} {gts : List Nat} {wf wt : Nat} {u s : Nat} {st : List (Int × Int × Int)} {ot : List Nat} {pt : List (Nat × Nat)} (h : SM M C P N q its ous gts wf wt) (hT : TIq C q (its.map (·.1))) (hk : ∀ i, i ≤ q → kR (C i)) (hwq : wt ≤ q) (hd : 3 ≤ d) (hc : wt = wf ∨ aC C (599 + 1) 2 0 wf u s = some (true, wt, st, ot, pt)) : ∃ M' ls, pq sc d 187 [.inr (.inr 49)] GF M = some (none, GF, M') ∧ FF M M' ∧ PM M' C (its.map (·.1)) ls ∧ ((wt = wf ∧ ls = []) ∨ (¬ wt = wf ∧ ((∃ b g l, PD C u s st ot pt ((wf, b, g) :: l) 0 (599 + 1) ∧ (∀ ob on, (aV C ob on (599 + 1) 2 wf).2 = 2 ↔ ∀ x ∈ (wf, b, g) :: l, (aV C ob on x.2.2 0 x.1).2 = 2) ∧ ls = ((wf, b, g) :: l).map (fun x => (x.1, x.2.1))) ∨ (PD C u s st ot pt [(wf, wt, 599 + 1)] 2 (599 + 1) ∧ ls = [(wf, wt)])))) ∧ ls.length ≤ 40 ∧ (∀ z ∈ ls, z.2 ≤ wt) := by
  have hq := h.2.1
  have hP0 : PM (q_up M 49 36 0) C (its.map (·.1)) [] := ⟨q_up_s, fun i x hx => by simp at hx⟩
  have f0 : FF M (q_up M 49 36 0) := ⟨fun a _ h2 => q_upf h2, fun j hj => q_up_sn hj⟩
  by_cases hw : wt = wf
  · refine ⟨q_up M 49 36 0, [], (pq_e (by omega) (by decide) (Nat.le_of_ble_eq_true rfl) ⟨0 + 1, sg_X12_findParts_0.trans ?_⟩), f0, hP0, Or.inl ⟨hw, rfl⟩, Nat.zero_le _, fun z hz => by cases hz⟩
    rw [h.2.2.2.2.2.1, h.2.2.2.2.2.2, if_pos (by omega)]
  · have e0 := hc.resolve_left hw
    have hS := SM_ff h f0
    have hW : WT (q_up M 49 36 0) C wt := ⟨hS.2.2.2.2.2.2, by omega, fun t ht => (hS.1 t (by omega)).1, fun t ht => hk t (by omega)⟩
    have s0 : ∀ F, pr sc (pq sc (d - 1)) 187 (F + 1) 0 [some (.inr (.inr 49)), none, none, none, none] [] M = pr sc (pq sc (d - 1)) 187 F 26 [some (.inr (.inr 49)), some (.inl 1), some (.inl 0), some (.inl (wf : Int)), none] [] (q_up M 49 36 0) := by
      intro F
      refine sg_X12_findParts_0.trans ?_
      rw [h.2.2.2.2.2.1, h.2.2.2.2.2.2, if_neg (by omega)]
    have s1 : ∀ (F : Nat) (b : Int), pr sc (pq sc (d - 1)) 187 (F + 1) 26 [some (.inr (.inr 49)), some (.inl b), some (.inl 0), some (.inl (wt : Int)), none] [] (q_up M 49 36 0) = pr sc (pq sc (d - 1)) 187 F 113 [some (.inr (.inr 49)), some (.inl b), some (.inl 0), some (.inl (wf : Int)), some (.inl (wf : Int))] [] (q_up M 49 36 0) := by
      intro F b
      refine sg_X12_findParts_26.trans ?_
      rw [hS.2.2.2.2.2.1, hS.2.2.2.2.2.2, if_neg (by omega)]
    have hlt := aC_min _ _ _ _ _ _ _ _ _ _ e0 (by omega)
    rcases PT2 e0 with ⟨b, g, l, k1, k2, k3, st1, ot1, pt1, e1⟩ | ⟨k1, q1, st1, ot1, pt1, u', s', st2, ot2, pt2, e1, e2, e3⟩
    · have hall : ∀ x ∈ (wf, b, g) :: l, (∃ u s st ot pt, aC C x.2.2 0 0 x.1 u s = some (true, x.2.1, st, ot, pt)) ∧ x.2.2 < 1000 := by
        intro x hx
        obtain ⟨i, hi⟩ := mem_ops.mpr hx
        have hil : i < pt.length := by rw [← k1.1]; exact (List.getElem?_eq_some_iff.mp hi).1
        obtain ⟨⟨u2, st3, ot3, pt3, m1, -⟩, m2⟩ := k1.2 i _ x (List.getElem?_eq_getElem hil) hi
        exact ⟨⟨_, _, _, _, _, m1⟩, by omega⟩
      obtain ⟨ha1, ha2⟩ := hall _ List.mem_cons_self
      have hb3 : wf + 3 ≤ b := by
        obtain ⟨u2, s2, st3, ot3, pt3, m1⟩ := ha1
        exact aC_min _ _ _ _ _ _ _ _ _ _ m1 (by omega)
      have hln := chn_len l b wt k2 (fun x hx => by
        obtain ⟨⟨u2, s2, st3, ot3, pt3, m1⟩, -⟩ := hall x (List.mem_cons_of_mem _ hx)
        exact aC_min _ _ _ _ _ _ _ _ _ _ m1 (by omega))
      have hle := chn_le l b wt k2 (fun x hx => by
        obtain ⟨⟨u2, s2, st3, ot3, pt3, m1⟩, -⟩ := hall x (List.mem_cons_of_mem _ hx)
        exact aC_min _ _ _ _ _ _ _ _ _ _ m1 (by omega))
      obtain ⟨K, kk⟩ := Y1 (sc := sc) (orc := pq sc (d - 1)) hW 599 1 0 wf u s wt st1 ot1 pt1 0 1 e1 (Nat.le_refl _) (Or.inr rfl) (by omega) (by omega) (by omega)
      obtain ⟨F, M', q2, f2, p2⟩ := fp_loop (sc := sc) (d := d - 1) hT hk hwq (by omega) l wf b g (q_up M 49 36 0) [] hS ha1 ha2 (fun x hx => hall x (List.mem_cons_of_mem _ hx)) k2 hP0 (by simp; omega)
      refine ⟨M', _, pq_e (by omega) (by decide) (Nat.le_of_ble_eq_true rfl) ⟨F + 1 + K + 1, (s0 _).trans ((kk (F + 1)).trans ((s1 F 1).trans q2))⟩, FF_t f0 f2, p2, Or.inr ⟨hw, Or.inl ⟨b, g, l, k1, k3, rfl⟩⟩, by simp; omega, fun z hz => ?_⟩
      rcases List.mem_cons.mp hz with rfl | hz
      · dsimp only; omega
      · obtain ⟨y, hy, rfl⟩ := List.mem_map.mp hz
        exact hle y hy
    · have l2 := aC_len _ _ _ _ _ _ _ _ _ _ e2
      obtain ⟨K, kk⟩ := Y1 (sc := sc) (orc := pq sc (d - 1)) hW 599 1 0 wf u s q1 st1 ot1 pt1 0 1 e1 (by omega) (Or.inr rfl) (by omega) (by omega) (by omega)
      obtain ⟨K2, kk2⟩ := Y1o (sc := sc) (orc := pq sc (d - 1)) hW 599 q1 u' s' wt st2 ot2 pt2 1 e2 (Nat.le_refl _) (Or.inr rfl) (by omega)
      rw [if_neg e3] at kk2
      obtain ⟨M', q2, f2, p2⟩ := mp_add (sc := sc) (d := d - 1) (a := wf) (b := wt) hS hT (fun i hi => hk i (by omega)) (by omega) (by omega) (by simp) hP0 (by omega)
      refine ⟨M', _, pq_e (by omega) (by decide) (Nat.le_of_ble_eq_true rfl) ⟨0 + 1 + 1 + K2 + K + 1, (s0 _).trans ((kk _).trans ((kk2 _).trans ((s1 _ 0).trans (sg_X12_findParts_113.trans ?_))))⟩, FF_t f0 f2, p2, Or.inr ⟨hw, Or.inr ⟨k1, rfl⟩⟩, by simp, fun z hz => by rw [List.mem_singleton.mp hz]; exact Nat.le_refl _⟩
      rw [hS.2.2.2.2.2.2, if_pos (by omega), if_pos rfl, q2, q_c0_s]
/-! the class gives the parts of where to items -/
/-- which operands the steps name -/
def SO (u : Nat) (st : List (Int × Int × Int)) (ot : List Nat) : Prop := (∀ y ∈ st, (y.2.1 = -1 ∨ ∃ j : Nat, j < ot.length ∧ y.2.1 = ((u + j : Nat) : Int)) ∧ (y.2.2 = -1 ∨ ∃ j : Nat, j < ot.length ∧ y.2.2 = ((u + j : Nat) : Int))) ∧ (∀ j : Nat, j < ot.length → ∃ y ∈ st, y.2.1 = ((u + j : Nat) : Int) ∨ y.2.2 = ((u + j : Nat) : Int))
theorem SO_a {u : Nat} {a b : List (Int × Int × Int)} {c e : List Nat} (h : SO u a c) (h' : SO (u + c.length) b e) : SO u (a ++ b) (c ++ e) := by
  have up : ∀ v : Int, (v = -1 ∨ ∃ j : Nat, j < c.length ∧ v = ((u + j : Nat) : Int)) → (v = -1 ∨ ∃ j : Nat, j < (c ++ e).length ∧ v = ((u + j : Nat) : Int)) := fun v hv => by
    rcases hv with hv | ⟨j, h1, h2⟩
    · exact Or.inl hv
    · exact Or.inr ⟨j, by rw [List.length_append]; omega, h2⟩
  have up2 : ∀ v : Int, (v = -1 ∨ ∃ j : Nat, j < e.length ∧ v = ((u + c.length + j : Nat) : Int)) → (v = -1 ∨ ∃ j : Nat, j < (c ++ e).length ∧ v = ((u + j : Nat) : Int)) := fun v hv => by
    rcases hv with hv | ⟨j, h1, h2⟩
    · exact Or.inl hv
    · exact Or.inr ⟨c.length + j, by rw [List.length_append]; omega, by rw [h2]; omega⟩
  refine ⟨fun y hy => ?_, fun j hj => ?_⟩
  · rcases List.mem_append.mp hy with hy | hy
    · exact ⟨up _ (h.1 y hy).1, up _ (h.1 y hy).2⟩
    · exact ⟨up2 _ (h'.1 y hy).1, up2 _ (h'.1 y hy).2⟩
  · rw [List.length_append] at hj
    rcases Nat.lt_or_ge j c.length with hh | hh
    · obtain ⟨y, h1, h2⟩ := h.2 j hh
      exact ⟨y, List.mem_append_left _ h1, h2⟩
    · obtain ⟨y, h1, h2⟩ := h'.2 (j - c.length) (by omega)
      rw [show u + c.length + (j - c.length) = u + j by omega] at h2
      exact ⟨y, List.mem_append_right _ h1, h2⟩
theorem SO_1 {u : Nat} {k : Int} : SO u [(k, -1, -1)] [] := ⟨fun y hy => by simp at hy; subst hy; exact ⟨Or.inl rfl, Or.inl rfl⟩, fun j hj => by simp at hj⟩
theorem SO_n {u : Nat} : SO u [] [] := ⟨fun y hy => by simp at hy, fun j hj => by simp at hj⟩
theorem SO_cmp {C : Nat → Int} {p u : Nat} (h : (aCmp C p u).1 = true) : SO u (aCmp C p u).2.2.1 (aCmp C p u).2.2.2 := by
  unfold aCmp at h ⊢
  rcases h1 : aOpd C p with ⟨b, q⟩
  rw [h1] at h
  rcases b with _ | _
  · simp at h
  · dsimp only at h ⊢
    by_cases hc : C q = 273
    · rw [if_pos hc] at h ⊢
      by_cases hd : C (q + 1) = 274
      · rw [if_pos hd]
        refine ⟨fun y hy => ?_, fun j hj => ?_⟩
        · simp at hy; subst hy
          exact ⟨Or.inr ⟨0, by simp, by simp⟩, Or.inl rfl⟩
        · simp at hj; subst hj
          exact ⟨_, List.mem_cons_self, Or.inl (by simp)⟩
      · rw [if_neg hd] at h; simp at h
    · rw [if_neg hc] at h ⊢
      by_cases hd : C q = 61 ∨ C q = 60 ∨ C q = 62
      · rw [if_pos hd] at h ⊢
        rcases h2 : aOpd C (q + 1) with ⟨b, r⟩
        rw [h2] at h
        rcases b with _ | _
        · simp at h
        · refine ⟨fun y hy => ?_, fun j hj => ?_⟩
          · simp at hy; subst hy
            exact ⟨Or.inr ⟨0, by simp, by simp⟩, Or.inr ⟨1, by simp, by simp⟩⟩
          · simp at hj
            refine ⟨_, List.mem_cons_self, ?_⟩
            rcases (show j = 0 ∨ j = 1 by omega) with rfl | rfl
            · exact Or.inl (by simp)
            · exact Or.inr (by simp)
      · rw [if_neg hd] at h; simp at h
theorem aC_so {C : Nat → Int} : ∀ (f md o p u s q : Nat) (st : List (Int × Int × Int)) (ot : List Nat) (pt : List (Nat × Nat)), aC C f md o p u s = some (true, q, st, ot, pt) → SO u st ot := by
  intro f
  induction f with
  | zero => intro md o p u s q st ot pt h; cases h
  | succ f ih =>
    intro md o p u s q st ot pt h
    unfold aC at h
    split at h
    · split at h
      · split at h
        · cases h
        · rcases aBd_s h with ⟨q1, st1, ot1, pt1, e1, e2⟩ | ⟨q1, st1, ot1, pt1, e1, e2⟩
          · cases e2
          · cases e2
            have := SO_a (ih _ _ _ _ _ _ _ _ _ e1) (SO_1 (k := 272))
            simpa using this
      · split at h
        · split at h
          · cases h
          · rcases aBd_s h with ⟨q1, st1, ot1, pt1, e1, e2⟩ | ⟨q1, st1, ot1, pt1, e1, e2⟩
            · cases e2
            · split at e2
              · cases e2
                exact ih _ _ _ _ _ _ _ _ _ e1
              · cases e2
        · simp only [Option.some.injEq, Prod.mk.injEq] at h
          obtain ⟨h1, h2, h3, h4, h5⟩ := h
          have := SO_cmp h1
          rw [h3, h4] at this
          exact this
    · split at h
      · rcases aBd_s h with ⟨q1, st1, ot1, pt1, e1, e2⟩ | ⟨q1, st1, ot1, pt1, e1, e2⟩
        · cases e2
        · rcases aBd_s e2 with ⟨q3, st3, ot3, pt3, e3, e4⟩ | ⟨q3, st3, ot3, pt3, e3, e4⟩
          · cases e4
          · cases e4
            exact SO_a (ih _ _ _ _ _ _ _ _ _ e1) (ih _ _ _ _ _ _ _ _ _ e3)
      · split at h
        · rcases aBd_s h with ⟨q1, st1, ot1, pt1, e1, e2⟩ | ⟨q1, st1, ot1, pt1, e1, e2⟩
          · cases e2
          · rcases aBd_s e2 with ⟨q3, st3, ot3, pt3, e3, e4⟩ | ⟨q3, st3, ot3, pt3, e3, e4⟩
            · cases e4
            · simp only [Option.some.injEq, Prod.mk.injEq, true_and] at e4
              obtain ⟨-, f2, f3, -⟩ := e4
              rw [← f2, ← f3]
              exact SO_a (ih _ _ _ _ _ _ _ _ _ e1) (ih _ _ _ _ _ _ _ _ _ e3)
        · split at h
          · split at h
            · rcases aBd_s h with ⟨q1, st1, ot1, pt1, e1, e2⟩ | ⟨q1, st1, ot1, pt1, e1, e2⟩
              · cases e2
              · rcases aBd_s e2 with ⟨q3, st3, ot3, pt3, e3, e4⟩ | ⟨q3, st3, ot3, pt3, e3, e4⟩
                · cases e4
                · cases e4
                  have a3 := ih _ _ _ _ _ _ _ _ _ e3
                  have := SO_a (ih _ _ _ _ _ _ _ _ _ e1) (SO_a (c := []) (SO_1 (k := 271)) (by simpa using a3))
                  simpa using this
            · cases h; exact SO_n
          · split at h
            · rcases aBd_s h with ⟨q1, st1, ot1, pt1, e1, e2⟩ | ⟨q1, st1, ot1, pt1, e1, e2⟩
              · cases e2
              · rcases aBd_s e2 with ⟨q3, st3, ot3, pt3, e3, e4⟩ | ⟨q3, st3, ot3, pt3, e3, e4⟩
                · cases e4
                · cases e4
                  have a3 := ih _ _ _ _ _ _ _ _ _ e3
                  have := SO_a (ih _ _ _ _ _ _ _ _ _ e1) (SO_a (c := []) (SO_1 (k := 270)) (by simpa using a3))
                  simpa using this
            · cases h; exact SO_n
