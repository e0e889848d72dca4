/-! compile, the class's side -/
theorem ops_le {C : Nat → Int} (h : QF C) : ∀ x ∈ qOps C, ¬ cst C x.1 → x.1 ≤ (aQ C).2 := by
  have hOT := OT_q h
  obtain ⟨hT, hK, hO, hJ, hA, hwt, hG, -⟩ := h
  intro x hx hc
  have hal := (hOT x hx).resolve_left hc
  unfold qOps at hx
  simp only [List.mem_append, List.mem_map] at hx
  rcases hx with ((⟨t, ht, rfl⟩ | hx) | ⟨t, ht, rfl⟩) | ⟨t, ht, rfl⟩
  · obtain ⟨o, k2, k3, rfl⟩ := hO.2 t ht
    rcases hO.1 o k2 with k1 | ⟨k1, k4, -⟩
    · exact absurd k1 k3
    · have := k4.2.2.2.2; dsimp only; omega
  · obtain ⟨t, L⟩ := x
    obtain ⟨j, it, j1, -, j3, j4⟩ := (hJ.2.2 t L hal.1 hal.2.1).mp hx
    have := (hJ.1 it (List.mem_of_getElem? j1)).2.2.1
    dsimp only; omega
  · have := (hA.2.1 t ht).2.1
    dsimp only; omega
  · have := (hG.2 t ht).2.2.2.2
    dsimp only; omega
theorem q_lens {C : Nat → Int} (h : (aQ C).1 = true) (hq : (aQ C).2 ≤ 130) : (qOps C).length ≤ 130 ∧ (qStp C).length ≤ 130 ∧ (qPrt C).length ≤ 130 := by
  obtain ⟨h1, h2, h3, h4, h5, h6, h7, h8, h9⟩ := aQ_ok h
  have o1 : 1 + (qO C).2.2.2.length ≤ (qO C).2.1 ∧ (qO C).2.2.1.length ≤ 4 := aOuts_len h2
  have j1 : ((qO C).2.1 + 3) + (qJ C).2.2.2.2.1.length ≤ (qJ C).2.1 ∧ ((qO C).2.1 + 3) + (qJ C).2.2.2.1.length ≤ (qJ C).2.1 ∧ (qJ C).2.2.2.2.2.length ≤ (qJ C).2.2.2.1.length ∧ (qJ C).2.2.1.length ≤ 2 := aJ_len _ _ _ _ _ h5
  have w1 : (qJ C).2.1 + (qW C).2.2.2.1.length ≤ (qW C).2.1 ∧ (qJ C).2.1 + (qW C).2.2.1.length ≤ (qW C).2.1 ∧ (qW C).2.2.2.2.length ≤ (qW C).2.2.1.length := aW_len h6
  have g1 : (qW C).2.1 ≤ (qG C).2.1 ∧ (qG C).2.2.length ≤ 3 ∧ ∀ t ∈ (qG C).2.2, CT C (qG C).2.1 t := aGr_f h7
  have p1 : (pm 0 3 (qW C).2.2.2.2).length = (qW C).2.2.2.2.length := pm_len0
  unfold qOps qStp qPrt
  simp only [List.length_append, List.length_map, p1]
  refine ⟨by omega, by omega, by omega⟩
theorem BB_W {W W' C P : Nat → Int} {tl : List Nat} {ops : List (Nat × Int)} {ous : List aOu} {gts : List Nat} (hT : TI C tl) (hW : ∀ t, t < 3 → W t = W' t) (p : Int) : BB W C P tl ops ous gts p → BB W' C P tl ops ous gts p := by
  have hw : ∀ t ∈ tl, W (C t - 84).toNat = W' (C t - 84).toNat := fun t ht => hW _ (by have := hT t ht; omega)
  rintro (⟨j, t, h1, h2⟩ | ⟨j, x, h1, h2, h3, h4⟩ | h)
  · refine Or.inl ⟨j, t, h1, ?_⟩
    rw [← hw t (List.mem_of_getElem? h1)]; exact h2
  · refine Or.inr (Or.inl ⟨j, x, h1, h2, ?_, h4⟩)
    unfold bc at h3 ⊢
    rcases itm_s (C := C) (tl := tl) (a := C x.1) with ⟨e, -⟩ | ⟨i, t, e1, e2, -⟩
    · exact Or.inl e
    · have ew : wof W C tl (itm C tl (C x.1)) = wof W' C tl (itm C tl (C x.1)) := by
        unfold wof
        rw [e2, Int.toNat_natCast, List.getD_eq_getElem?_getD, e1]
        exact hw t (List.mem_of_getElem? e1)
      rw [← ew]; exact h3
  · exact Or.inr (Or.inr h)
/-- the places of tokens, and nothing beyond -/
def Pn (n : Nat) (P : Nat → Int) : Nat → Int := fun i => if i < n then P i else 0
theorem Pn_i {n i : Nat} {P : Nat → Int} (h : i < n) : Pn n P i = P i := if_pos h
theorem Pn_N {Z : tZ} {n : Nat} {C P : Nat → Int} {S : Nat → Prop} (h : TE Z n C P S) : PN (Pn n P) := by
  intro i
  unfold Pn
  split
  · next hi => rw [h.2.2.2.2.2.1 i hi]; omega
  · exact Int.le_refl 0
/-- the where of a query -/
theorem qW_pd {C : Nat → Int} (h : (aQ C).1 = true) : ∃ tp md, (md = 0 ∨ md = 2) ∧ PD C (qU C) (qJ C).2.2.2.1.length (qW C).2.2.1 (qW C).2.2.2.1 (qW C).2.2.2.2 tp md 600 := by
  have h6 := (aQ_ok h).2.2.2.2.2.1
  by_cases z : C (qJ C).2.1 = 264
  · have e : qW C = aCo C ((qJ C).2.1 + 1) (qU C) (qJ C).2.2.2.1.length := by unfold qW aW; rw [if_pos z]
    rw [e] at h6 ⊢
    obtain ⟨tp, md, a, b, -⟩ := PT3 (aCo_c h6)
    exact ⟨tp, md, a, b⟩
  · have e : qW C = (true, (qJ C).2.1, [], [], []) := by unfold qW aW; rw [if_neg z]
    rw [e]
    exact ⟨[], 0, Or.inl rfl, rfl, fun i x y hx => by cases hx⟩
/-- what compile leaves alone -/
def CF (X X' : q_M) : Prop := (∀ a, ¬ a = 0 → ¬ a = 9 → ¬ (11 ≤ a ∧ a ≤ 43) → X' a = X a) ∧ (∀ j, ¬ j = 9 → ¬ j = 10 → X' 0 j = X 0 j) ∧ X' 9 1 = 0 ∧ X' 43 3 = 0
theorem cc_compile {sc : List Int} {d : Nat} {X : q_M} {T : Nat → Int} {len : Nat} (h : TXc T len X) (hd : 30 ≤ d) : ∃ n C P N S X' rx, TE (T, len, N, eS T len) n C P S ∧ (∃ F, px sc (pq sc d) 139 [81] F 0 [some (.inr (.inr 0))] [] X = some rx) ∧ CF X X' ∧ ((aQ C).1 = true → (aQ C).2 < n) ∧ (((aQ C).1 = false ∧ rx = .inr (81, GF, X') ∧ X' 0 9 = 0 ∧ X' 0 10 = P (aQ C).2 ∧ (aQ C).2 < n) ∨ ((aQ C).1 = true ∧ ∃ x, IS x (BB (X 2) C (Pn n P) (qTl C) (qOps C) (qO C).2.2.1 (qG C).2.2) ∧ X' 0 10 = x ∧ ((x = -1 ∧ rx = .inl (some (.inl ((qTl C).length : Int)), GF, X') ∧ X' 0 9 = 1 ∧ QC X' C N) ∨ (¬ x = -1 ∧ rx = .inr (81, GF, X') ∧ X' 0 9 = 0)))) := by
  obtain ⟨X1, n, C, P, N, S, q1, f1, tk, te⟩ := sc_split (sc := sc) (d := d) h (by omega)
  refine ⟨n, C, P, N, S, ?_⟩
  have q2 : pq sc d 106 [.inr (.inr 9)] GF X1 = some (none, GF, q_up X1 9 1 0) := by
    refine (pq_e (by omega) (by decide) (Nat.le_of_ble_eq_true rfl) ⟨0 + 1, sg_X8_clear_0.trans ?_⟩)
    rfl
  have q3 := sp_aclear (sc := sc) (d := d) (X := q_up X1 9 1 0) (w := 0) (by omega)
  generalize hX3 : q_up (q_up (q_up X1 9 1 0) 43 2 0) 43 3 0 = X3 at q3
  have g3 : ∀ a, ¬ a = 9 → ¬ a = 43 → X3 a = X1 a := fun a e1 e2 => by rw [← hX3, q_upf e2, q_upf e2, q_upf e1]
  have tk3 : TK X3 n C P N 0 := by
    unfold TK at tk ⊢
    rw [g3 11 (by decide) (by decide), g3 12 (by decide) (by decide), g3 13 (by decide) (by decide), g3 14 (by decide) (by decide)]; exact tk
  have e91 : X3 9 1 = 0 := by rw [← hX3, q_up_ne (by decide), q_up_ne (by decide), q_up_s]
  have e433 : X3 43 3 = 0 := by rw [← hX3, q_up_s]
  have hn0 := te.2.1
  have hn131 : n ≤ 131 := tk.2.2.2.1
  have tc : TC n C := ⟨te.2.2.2.2.2.2.2.2.1, fun i hi => by
    have : kR (C i) := te.2.2.2.2.2.2.2.2.2.2.1 i hi
    unfold kR at this; omega⟩
  obtain ⟨X4, x5, q4, f4, hc⟩ := cx_query (sc := sc) (d := d) tk3 tc (by omega)
  have g4 : ∀ a, ¬ a = 9 → ¬ (11 ≤ a ∧ a ≤ 41) → ¬ a = 43 → X4 a = X a := fun a e1 e2 e3 => by rw [f4 a (by omega), g3 a e1 e3, f1 a (by omega)]
  have pre : ∀ F, px sc (pq sc d) 139 [81] (F + 1) 0 [some (.inr (.inr 0))] [] X = if x5 = 0 then (q_cI (pq sc d 122 [.inr (.inr 11)] GF X4) GF (fun x7 M6 => if x7 = (-1) then (q_c0 (pq sc d 61 [.inr (.inr 15)] GF (q_up (q_up M6 0 10 x7) 0 9 1)) GF (fun M11 => q_cI (pq sc d 67 [.inr (.inr 15)] GF M11) GF (fun x13 M12 => some (.inl (some (.inl (x13)), GF, M12))))) else some (.inr (81, GF, q_up (q_up M6 0 10 x7) 0 9 0)))) else q_cI (pq sc d 9 [.inr (.inr 42)] GF X4) GF (fun x15 M14 => if x15 = (-1) then (q_c0 (pq sc d 61 [.inr (.inr 15)] GF (q_up (q_up M14 0 10 x15) 0 9 1)) GF (fun M19 => q_cI (pq sc d 67 [.inr (.inr 15)] GF M19) GF (fun x21 M20 => some (.inl (some (.inl (x21)), GF, M20))))) else some (.inr (81, GF, q_up (q_up M14 0 10 x15) 0 9 0))) := fun F => by
    refine sgx_X11_compile_0.trans ?_
    rw [q1, q_c0_s, q2, q_c0_s, q3, q_c0_s, q4, q_cI_s]
    by_cases z : x5 = 0
    · rw [if_pos z, if_pos z]
      rfl
    · rw [if_neg z, if_neg z]
      rfl
  have cfu : ∀ (M : q_M) (u v : Int), (∀ a, ¬ a = 9 → ¬ (11 ≤ a ∧ a ≤ 43) → M a = X a) → M 9 1 = 0 → M 43 3 = 0 → CF X (q_up (q_up M 0 10 u) 0 9 v) := fun M u v e1 e2 e3 => ⟨fun a a1 a2 a3 => by rw [q_upf a1, q_upf a1]; exact e1 a a2 a3, fun j j1 j2 => by rw [q_up_sn j1, q_up_sn j2, e1 0 (by decide) (by decide)], by rw [q_upf (by decide), q_upf (by decide)]; exact e2, by rw [q_upf (by decide), q_upf (by decide)]; exact e3⟩
  have e94 : X4 9 1 = 0 := by rw [f4 9 (by decide)]; exact e91
  have e434 : X4 43 3 = 0 := by rw [f4 43 (by decide)]; exact e433
  rcases hc with ⟨hok, hx5, pz⟩ | ⟨hok, hx5, tk4⟩
  · -- it was read
    have hQ := qF hok
    obtain ⟨tkz, hL, hOA, hSA, hPA, hIA, hUA, hGA⟩ := pz
    have hqn : (aQ C).2 < n := tkz.2.2.1
    obtain ⟨l1, l2, l3⟩ := q_lens hok (by omega)
    have eP : ∀ t, t ≤ (aQ C).2 → Pn n P t = P t := fun t ht => Pn_i (by omega)
    have hTq := hQ.1
    have hTI : TI C (qTl C) := fun t ht => by have := hTq.2 t ht; exact ⟨this.1, this.2.1, this.2.2.1, this.2.2.2.1⟩
    have hIQ : IQ X4 C (Pn n P) (qTl C) := by
      refine ⟨by rw [hIA.1, ← qIts_t, List.length_map], hTq.1, fun i t ht => ?_⟩
      rw [← qIts_t, List.getElem?_map] at ht
      obtain ⟨x, hx, rfl⟩ := Option.map_eq_some_iff.mp ht
      have := hTq.2 x.1 (by rw [← qIts_t]; exact List.mem_map_of_mem (List.mem_of_getElem? hx))
      obtain ⟨a1, a2, a3, a4, -⟩ := hIA.2 i x hx
      exact ⟨a1, by rw [a2, eP _ (by omega)], a3, by rw [a4, eP _ (by omega)]⟩
    have hOA' : OA X4 C (Pn n P) N (qOps C) := by
      refine ⟨hOA.1, fun i x hx => ?_⟩
      obtain ⟨a1, a2⟩ := hOA.2 i x hx
      refine ⟨?_, a2⟩
      rw [a1]; unfold opP
      by_cases c : C x.1 = 258 ∨ C x.1 = 274
      · rw [if_pos c, if_pos c]
      · rw [if_neg c, if_neg c, eP _ (ops_le hQ x (List.mem_of_getElem? hx) c)]
    have hU : UQ X4 (qO C).2.2.1 := by
      refine ⟨by rw [hUA.1]; unfold qOus; rw [List.length_map], hQ.2.1.1, fun i o ho => ?_⟩
      have := hUA.2 i (o.1, o.2.1) (by unfold qOus; rw [List.getElem?_map, ho]; rfl)
      exact this
    have hG : GQ X4 (qGrs C) := by
      refine ⟨hGA.1, by unfold qGrs; rw [List.length_range']; exact hQ.2.2.2.2.2.2.1.1, fun i g hg => ⟨hGA.2 i g hg, ?_⟩⟩
      obtain ⟨t, -, e⟩ := (LK_q hQ).2.2 i g hg
      have := (List.getElem?_eq_some_iff.mp e).1
      omega
    have hct : ∀ t, CT C (aQ C).2 t → ¬ cst C t := fun t ht z => by
      have := ht.1; have := ht.2.1
      rcases z with z | z <;> omega
    obtain ⟨X5, x, q5, f5, e21, hIS⟩ := cx_check (sc := sc) (d := d) hIQ hTI (Pn_N te) hOA' l1 (OT_q hQ) hU hG (LK_q hQ) (fun o ho h6 => hct _ ((hQ.2.1.2 o ho).2 h6)) (fun t ht => hct _ (hQ.2.2.2.2.2.2.1.2 t ht)) (by omega)
    rw [show X4 2 = X 2 from g4 2 (by decide) (by decide) (by decide)] at hIS
    have g5 : ∀ a, ¬ a = 9 → ¬ (11 ≤ a ∧ a ≤ 43) → X5 a = X a := fun a e1 e2 => by rw [f5 a (by omega) (by omega), g4 a e1 (by omega) (by omega)]
    have e95 : X5 9 1 = 0 := by rw [f5 9 (by decide) (by decide)]; exact e94
    have e435 : X5 43 3 = 0 := by rw [f5 43 (by decide) (by decide)]; exact e434
    by_cases zx : x = -1
    · -- nothing is ill
      generalize hX6 : q_up (q_up X5 0 10 x) 0 9 1 = X6
      have w6 : ∀ a, ¬ a = 0 → X6 a = X5 a := fun a e => by rw [← hX6, q_upf e, q_upf e]
      have hSA6 : SA X6 (qStp C) := by
        unfold SA at hSA ⊢
        rw [w6 24 (by decide), w6 25 (by decide), w6 26 (by decide), w6 27 (by decide), f5 24 (by decide) (by decide), f5 25 (by decide) (by decide), f5 26 (by decide) (by decide), f5 27 (by decide) (by decide)]; exact hSA
      have hPA6 : PA X6 (qPrt C) := by
        unfold PA at hPA ⊢
        rw [w6 24 (by decide), w6 28 (by decide), w6 29 (by decide), w6 30 (by decide), w6 31 (by decide), f5 24 (by decide) (by decide), f5 28 (by decide) (by decide), f5 29 (by decide) (by decide), f5 30 (by decide) (by decide), f5 31 (by decide) (by decide)]; exact hPA
      have e216 : ∀ (i : Nat) x, (qOps C)[i]? = some x → X6 21 i = if C x.1 = 258 ∨ C x.1 = 274 then -1 else itm C (qTl C) (C x.1) := by rw [w6 21 (by decide)]; exact e21
      obtain ⟨tp, md, hmd, hPD⟩ := qW_pd hok
      -- a part of where has steps in their bounds
      have wp : ∀ (j : Nat) (y : Nat × Nat), (qW C).2.2.2.2[j]? = some y → y.1 ≤ y.2 ∧ y.2 ≤ 130 ∧ ∀ s, y.1 ≤ s → s < y.2 → okv (X6 26 s) ∧ okv (X6 27 s) := fun j y hy => by
        have hjl := (List.getElem?_eq_some_iff.mp hy).1
        have hjt : j < tp.length := by rw [hPD.1]; exact hjl
        obtain ⟨hcd, -⟩ := hPD.2 j y tp[j] hy (List.getElem?_eq_getElem hjt)
        obtain ⟨-, b2, b3, b4⟩ := SS_SI (M := X6) (C := C) (P := P) (N := N) (tl := qTl C) (ops := qOps C) (stp := qStp C) (L := 3) (by omega) hcd (fun i w hw => by
          unfold qStp
          rw [List.getElem?_append_right (by omega), Nat.add_sub_cancel_left]; exact hw) (fun i t ht => by
          have hil := (List.getElem?_eq_some_iff.mp ht).1
          unfold qOps qU
          rw [List.getElem?_append_left (by simp only [List.length_append, List.length_map]; omega), List.getElem?_append_right (by simp only [List.length_append, List.length_map]; omega), List.length_append, List.length_map, Nat.add_sub_cancel_left, List.getElem?_map, ht]
          try rfl) hSA6 (fun i x hx => ⟨by have := (List.getElem?_eq_some_iff.mp hx).1; omega, e216 i x hx⟩)
        exact ⟨b3, by omega, b2⟩
      obtain ⟨X7, q7, f7, s7⟩ := cx_settle (sc := sc) (d := d) (M := X6) hPA6.1 l3 (fun i hi h31 => by
        have hx : (qPrt C)[i]? = some (qPrt C)[i] := List.getElem?_eq_getElem hi
        obtain ⟨a1, a2, a3, a4⟩ := hPA6.2 i _ hx
        rcases prt_i hok i _ hx with ⟨-, -, b3, -⟩ | ⟨j, y, -, b2, b3⟩
        · exact absurd (a4.trans b3) h31
        · obtain ⟨c1, c2, c3⟩ := wp j y b2
          exact ⟨y.1, y.2, by rw [a1, b3], by rw [a2, b3], c1, c2, c3⟩) (by omega)
      have q8 := sp_itemCount (sc := sc) (d := d) (M := X7) (by omega)
      rw [f7 15 (by decide), w6 15 (by decide), f5 15 (by decide) (by decide), hIQ.1] at q8
      have cf6 : CF X X6 := by rw [← hX6]; exact cfu X5 _ _ g5 e95 e435
      refine ⟨X7, _, te, ⟨0 + 1, (pre 0).trans ?_⟩, ⟨fun a a1 a2 a3 => by rw [f7 a (by omega)]; exact cf6.1 a a1 a2 a3, fun j j1 j2 => by rw [f7 0 (by decide)]; exact cf6.2.1 j j1 j2, by rw [f7 9 (by decide)]; exact cf6.2.2.1, by rw [f7 43 (by decide)]; exact cf6.2.2.2⟩, fun _ => hqn, Or.inr ⟨hok, x, hIS, ?_, Or.inl ⟨zx, rfl, ?_, ?_⟩⟩⟩
      · rw [if_neg (by omega), q5, q_cI_s, if_pos zx, hX6, q7, q_c0_s, q8, q_cI_s]
      · rw [f7 0 (by decide), ← hX6, q_up_sn (by decide), q_up_s]
      · rw [f7 0 (by decide), ← hX6, q_up_s]
      · have k7 : ∀ a, ¬ a = 30 → ¬ a = 0 → ¬ a = 21 → ¬ a = 42 → X7 a = X4 a := fun a b1 b2 b3 b4 => by rw [f7 a b1, w6 a b2, f5 a b3 b4]
        have eSS : ∀ sb se k, SS X7 sb se k ↔ SS X6 sb se k := fun sb se k => by
          unfold SS io
          rw [f7 26 (by decide), f7 27 (by decide), f7 21 (by decide)]
        refine ⟨⟨by rw [k7 15 (by decide) (by decide) (by decide) (by decide)]; exact hIA.1, fun i x hx => ?_⟩, ?_, ?_, ⟨?_, l1, fun i x hx => ?_⟩, ⟨?_, l2⟩, ⟨?_, l3, fun i x hx => ?_⟩⟩
        · rw [k7 33 (by decide) (by decide) (by decide) (by decide), k7 37 (by decide) (by decide) (by decide) (by decide)]
          obtain ⟨a1, -, -, -, a5⟩ := hIA.2 i x hx
          exact ⟨a1, a5⟩
        · unfold UQ at hU ⊢
          rw [k7 15 (by decide) (by decide) (by decide) (by decide), k7 38 (by decide) (by decide) (by decide) (by decide), k7 39 (by decide) (by decide) (by decide) (by decide)]; exact hU
        · unfold GQ at hG ⊢
          rw [k7 15 (by decide) (by decide) (by decide) (by decide), k7 40 (by decide) (by decide) (by decide) (by decide)]; exact hG
        · rw [k7 16 (by decide) (by decide) (by decide) (by decide)]; exact hOA.1
        · rw [k7 19 (by decide) (by decide) (by decide) (by decide), k7 22 (by decide) (by decide) (by decide) (by decide), k7 23 (by decide) (by decide) (by decide) (by decide), f7 21 (by decide)]
          obtain ⟨-, -, a3, -, -, a6, a7⟩ := hOA.2 i x hx
          refine ⟨a3, e216 i x hx, fun hc => ⟨?_, a7⟩⟩
          rw [a6]; unfold opV; exact if_pos hc
        · unfold SA at hSA6 ⊢
          rw [f7 24 (by decide), f7 25 (by decide), f7 26 (by decide), f7 27 (by decide)]; exact hSA6
        · rw [f7 24 (by decide)]; exact hPA6.1
        · have hi := (List.getElem?_eq_some_iff.mp hx).1
          obtain ⟨a1, a2, a3, a4⟩ := hPA6.2 i x hx
          obtain ⟨s1, s2⟩ := s7 i hi
          refine ⟨by rw [f7 28 (by decide)]; exact a1, by rw [f7 29 (by decide)]; exact a2, by rw [f7 31 (by decide)]; exact a4, fun z => ?_, fun z => ?_⟩
          · rw [s1 (a4.trans z)]; exact a3
          · have := s2 (by rw [a4]; exact z) x.1 x.2.1 a1 a2
            exact MX_c this (fun k => (eSS _ _ k).symm)
    · refine ⟨q_up (q_up X5 0 10 x) 0 9 0, _, te, ⟨0 + 1, (pre 0).trans ?_⟩, cfu X5 _ _ g5 e95 e435, fun _ => hqn, Or.inr ⟨hok, x, hIS, by rw [q_up_sn (by decide), q_up_s], Or.inr ⟨zx, rfl, q_up_s⟩⟩⟩
      rw [if_neg (by omega), q5, q_cI_s, if_neg zx]
  · -- it was not
    have hqn : (aQ C).2 < n := tk4.2.2.1
    have q5 := sp_nextPlace (sc := sc) (d := d) tk4 (by omega)
    have hp : 0 ≤ P (aQ C).2 := by rw [te.2.2.2.2.2.1 _ hqn]; omega
    refine ⟨q_up (q_up X4 0 10 (P (aQ C).2)) 0 9 0, _, te, ⟨0 + 1, (pre 0).trans ?_⟩, cfu X4 _ _ (fun a e1 e2 => g4 a e1 (by omega) (by omega)) e94 e434, (fun z => by rw [hok] at z; cases z), Or.inl ⟨hok, rfl, q_up_s, by rw [q_up_sn (by decide), q_up_s], hqn⟩⟩
    rw [if_pos hx5, q5, q_cI_s, if_neg (by omega)]
