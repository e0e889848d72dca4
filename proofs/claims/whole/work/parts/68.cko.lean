/-! outs that are ill -/
def gth (ous : List aOu) (g : Nat) : Prop := (∃ o ∈ ous, ¬ o.1 = 275) ∨ 0 < g
/-- the outs of the class -/
def UQ (M : q_M) (ous : List aOu) : Prop := M 15 10 = ous.length ∧ ous.length ≤ 4 ∧ ∀ (i : Nat) o, ous[i]? = some o → M 38 i = o.1 ∧ M 39 i = o.2.1
theorem sp_gathersT {sc : List Int} {orc : q_O} {M : q_M} {ous : List aOu} {g : Nat} (h : UQ M ous) (hg : M 15 12 = g) : ∀ (m i : Nat), i + m = ous.length → ∃ F x, pr sc orc 81 F 2 [some (.inr (.inr 15)), some (.inl (i : Int))] [] M = some (some (.inl x), GF, M) ∧ ((x = 1 ∧ ((∃ (j : Nat) (o : aOu), i ≤ j ∧ ous[j]? = some o ∧ ¬ o.1 = 275) ∨ 0 < g)) ∨ (x = 0 ∧ ¬ ((∃ (j : Nat) (o : aOu), i ≤ j ∧ ous[j]? = some o ∧ ¬ o.1 = 275) ∨ 0 < g))) := by
  intro m
  induction m with
  | zero =>
    intro i hi
    have hno : ¬ ∃ (j : Nat) (o : aOu), i ≤ j ∧ ous[j]? = some o ∧ ¬ o.1 = 275 := fun ⟨j, o, h1, h2, _⟩ => by
      have := (List.getElem?_eq_some_iff.mp h2).1; omega
    by_cases g0 : 0 < g
    · refine ⟨0 + 1, 1, sg_X5_gathers_2.trans ?_, Or.inl ⟨rfl, Or.inr g0⟩⟩
      rw [h.1, hg, if_neg (by omega), if_pos (by omega)]
    · refine ⟨0 + 1, 0, sg_X5_gathers_2.trans ?_, Or.inr ⟨rfl, fun hh => by rcases hh with hh | hh; exact hno hh; exact g0 hh⟩⟩
      rw [h.1, hg, if_neg (by omega), if_neg (by omega)]
  | succ m ih =>
    intro i hi
    have h4 := h.2.1
    have ho : ous[i]? = some ous[i] := List.getElem?_eq_getElem (by omega)
    generalize ous[i] = o at ho
    have e38 := (h.2.2 i o ho).1
    by_cases c : o.1 = 275
    · obtain ⟨F, x, q, hx⟩ := ih (i + 1) (by omega)
      refine ⟨F + 1, x, sg_X5_gathers_2.trans ?_, ?_⟩
      · rw [h.1, if_pos (by omega), if_pos (by omega), if_pos (by omega), Int.toNat_natCast, e38, if_pos c, qw1 (by omega), q]
      · have hiff : (∃ (j : Nat) (o : aOu), i + 1 ≤ j ∧ ous[j]? = some o ∧ ¬ o.1 = 275) ↔ (∃ (j : Nat) (o : aOu), i ≤ j ∧ ous[j]? = some o ∧ ¬ o.1 = 275) := by
          constructor
          · rintro ⟨j, o', h1, h2, h3⟩; exact ⟨j, o', by omega, h2, h3⟩
          · rintro ⟨j, o', h1, h2, h3⟩
            refine ⟨j, o', ?_, h2, h3⟩
            rcases Nat.lt_or_ge i j with hh | hh
            · exact hh
            · have : j = i := by omega
              subst this
              rw [ho] at h2; cases h2; exact absurd c h3
        rw [← hiff]; exact hx
    · refine ⟨0 + 1, 1, sg_X5_gathers_2.trans ?_, Or.inl ⟨rfl, Or.inl ⟨i, o, Nat.le_refl _, ho, c⟩⟩⟩
      rw [h.1, if_pos (by omega), if_pos (by omega), if_pos (by omega), Int.toNat_natCast, e38, if_neg c]
theorem sp_gathers {sc : List Int} {d : Nat} {M : q_M} {ous : List aOu} {g : Nat} (h : UQ M ous) (hg : M 15 12 = g) (hd : 1 ≤ d) : ∃ x, pq sc d 81 [.inr (.inr 15)] GF M = some (some (.inl x), GF, M) ∧ ((x = 1 ∧ gth ous g) ∨ (x = 0 ∧ ¬ gth ous g)) := by
  obtain ⟨F, x, q, hx⟩ := sp_gathersT (sc := sc) (orc := pq sc (d - 1)) h hg ous.length 0 (by omega)
  have hiff : (∃ (j : Nat) (o : aOu), 0 ≤ j ∧ ous[j]? = some o ∧ ¬ o.1 = 275) ↔ ∃ o ∈ ous, ¬ o.1 = 275 := by
    constructor
    · rintro ⟨j, o, -, h2, h3⟩; exact ⟨o, List.mem_of_getElem? h2, h3⟩
    · rintro ⟨o, h2, h3⟩
      obtain ⟨j, hj, e⟩ := List.mem_iff_getElem.mp h2
      exact ⟨j, o, Nat.zero_le _, by rw [List.getElem?_eq_getElem hj, e], h3⟩
  rw [hiff] at hx
  refine ⟨x, (pq_e (by omega) (by decide) (Nat.le_of_ble_eq_true rfl) ⟨F + 1, sg_X5_gathers_0.trans ?_⟩), hx⟩
  exact q
/-- the groups of the class -/
def GQ (M : q_M) (grs : List Nat) : Prop := M 15 12 = grs.length ∧ grs.length ≤ 3 ∧ ∀ (i g : Nat), grs[i]? = some g → M 40 i = g ∧ g < 130
theorem sp_groupsByT {sc : List Int} {d : Nat} {M : q_M} {grs : List Nat} {c : Nat} (h : GQ M grs) (hc : c < 130) (hd : 3 ≤ d) : ∀ (m i : Nat), i + m = grs.length → ∃ F x, pr sc (pq sc d) 80 F 2 [some (.inr (.inr 15)), some (.inl (c : Int)), some (.inl (i : Int))] [] M = some (some (.inl x), GF, M) ∧ ((x = 1 ∧ ∃ j g, i ≤ j ∧ grs[j]? = some g ∧ M 18 g = M 18 c ∧ M 19 g = M 19 c) ∨ (x = 0 ∧ ¬ ∃ j g, i ≤ j ∧ grs[j]? = some g ∧ M 18 g = M 18 c ∧ M 19 g = M 19 c)) := by
  intro m
  induction m with
  | zero =>
    intro i hi
    refine ⟨0 + 1, 0, sg_X5_groupsBy_2.trans ?_, Or.inr ⟨rfl, fun ⟨j, g, h1, h2, _⟩ => by have := (List.getElem?_eq_some_iff.mp h2).1; omega⟩⟩
    rw [h.1, if_neg (by omega)]
  | succ m ih =>
    intro i hi
    have h4 := h.2.1
    have ho : grs[i]? = some grs[i] := List.getElem?_eq_getElem (by omega)
    generalize grs[i] = g at ho
    obtain ⟨e40, eg⟩ := h.2.2 i g ho
    have q1 := sp_sameColumn (sc := sc) (d := d) (M := M) eg hc hd
    by_cases k : M 18 g = M 18 c ∧ M 19 g = M 19 c
    · rw [if_pos k] at q1
      refine ⟨0 + 1, 1, sg_X5_groupsBy_2.trans ?_, Or.inl ⟨rfl, i, g, Nat.le_refl _, ho, k⟩⟩
      rw [h.1, if_pos (by omega), if_pos (by omega), if_pos (by omega), Int.toNat_natCast, e40, q1, q_cI_s, if_neg (by decide)]
    · rw [if_neg k] at q1
      obtain ⟨F, x, q, hx⟩ := ih (i + 1) (by omega)
      refine ⟨F + 1, x, sg_X5_groupsBy_2.trans ?_, ?_⟩
      · rw [h.1, if_pos (by omega), if_pos (by omega), if_pos (by omega), Int.toNat_natCast, e40, q1, q_cI_s, if_pos rfl, qw1 (by omega), q]
      · have hiff : (∃ j g, i + 1 ≤ j ∧ grs[j]? = some g ∧ M 18 g = M 18 c ∧ M 19 g = M 19 c) ↔ (∃ j g, i ≤ j ∧ grs[j]? = some g ∧ M 18 g = M 18 c ∧ M 19 g = M 19 c) := by
          constructor
          · rintro ⟨j, o', h1, h2⟩; exact ⟨j, o', by omega, h2⟩
          · rintro ⟨j, o', h1, h2, h3⟩
            refine ⟨j, o', ?_, h2, h3⟩
            rcases Nat.lt_or_ge i j with hh | hh
            · exact hh
            · have : j = i := by omega
              subst this
              rw [ho] at h2; cases h2; exact absurd h3 k
        rw [← hiff]; exact hx
theorem sp_groupsBy {sc : List Int} {d : Nat} {M : q_M} {grs : List Nat} {c : Nat} (h : GQ M grs) (hc : c < 130) (hd : 4 ≤ d) : ∃ x, pq sc d 80 [.inr (.inr 15), .inl (c : Int)] GF M = some (some (.inl x), GF, M) ∧ ((x = 1 ∧ ∃ j g : Nat, grs[j]? = some g ∧ M 18 g = M 18 c ∧ M 19 g = M 19 c) ∨ (x = 0 ∧ ¬ ∃ j g : Nat, grs[j]? = some g ∧ M 18 g = M 18 c ∧ M 19 g = M 19 c)) := by
  obtain ⟨F, x, q, hx⟩ := sp_groupsByT (sc := sc) (d := d - 1) h hc (by omega) grs.length 0 (by omega)
  refine ⟨x, (pq_e (by omega) (by decide) (Nat.le_of_ble_eq_true rfl) ⟨F + 1, sg_X5_groupsBy_0.trans ?_⟩), ?_⟩
  · exact q
  · rcases hx with ⟨h1, j, g, -, h2⟩ | ⟨h1, h2⟩
    · exact Or.inl ⟨h1, j, g, h2⟩
    · exact Or.inr ⟨h1, fun ⟨j, g, h3⟩ => h2 ⟨j, g, Nat.zero_le _, h3⟩⟩
/-- a token that is grouped by -/
def grp (C : Nat → Int) (gts : List Nat) (t : Nat) : Prop := ∃ g ∈ gts, C g = C t ∧ C (g + 2) = C (t + 2)
def BO (C P : Nat → Int) (gts : List Nat) (ous : List aOu) (i : Nat) (p : Int) : Prop := ∃ o, ous[i]? = some o ∧ o.1 = 275 ∧ ¬ grp C gts o.2.2 ∧ p = P o.2.2
/-- how outs and groups lie in the operands -/
def LK (ops : List (Nat × Int)) (ous : List aOu) (grs gts : List Nat) : Prop := (∀ o ∈ ous, ¬ o.1 = 266 → ∃ u : Nat, o.2.1 = (u : Int) ∧ ops[u]? = some (o.2.2, 3)) ∧ grs.length = gts.length ∧ (∀ (i g : Nat), grs[i]? = some g → ∃ t, gts[i]? = some t ∧ ops[g]? = some (t, 3))
theorem cx_chkOuT {sc : List Int} {d : Nat} {M0 : q_M} {C P N : Nat → Int} {ops : List (Nat × Int)} {ous : List aOu} {grs gts : List Nat} (h : UQ M0 ous) (hP : PN P) (hO : OA M0 C P N ops) (hl : ops.length ≤ 130) (hG : GQ M0 grs) (hLK : LK ops ous grs gts) (hcol : ∀ o ∈ ous, ¬ o.1 = 266 → ¬ cst C o.2.2) (hgc : ∀ t ∈ gts, ¬ cst C t) (hd : 5 ≤ d) : ∀ (m i : Nat) (M : q_M) (B : Int → Prop), i + m = ous.length → (∀ a, ¬ a = 21 → ¬ a = 42 → M a = M0 a) → IS (M 42 3) B → ∃ F M', pr sc (pq sc d) 13 F 13 [some (.inr (.inr 42)), some (.inl (i : Int)), none] [] M = some (none, GF, M') ∧ (∀ a, ¬ a = 42 → M' a = M a) ∧ IS (M' 42 3) (fun p => B p ∨ ∃ j, i ≤ j ∧ BO C P gts ous j p) := by
  intro m
  induction m with
  | zero =>
    intro i M B hi hM hB
    have q1 := sp_outCount (sc := sc) (d := d) (M := M) (by omega)
    rw [hM 15 (by decide) (by decide), h.1] at q1
    refine ⟨0 + 1, M, sg_X1_checkOuts_13.trans ?_, fun _ _ => rfl, IS_c hB (fun p => ⟨Or.inl, fun hh => ?_⟩)⟩
    · rw [q1, q_cI_s, if_neg (by omega)]
    · rcases hh with hh | ⟨j, hj, x, hx, -⟩
      · exact hh
      · have := (List.getElem?_eq_some_iff.mp hx).1; omega
  | succ m ih =>
    intro i M B hi hM hB
    have h4 := h.2.1
    have ho : ous[i]? = some ous[i] := List.getElem?_eq_getElem (by omega)
    generalize ous[i] = o at ho
    obtain ⟨e38, e39⟩ := h.2.2 i o ho
    have q1 := sp_outCount (sc := sc) (d := d) (M := M) (by omega)
    rw [hM 15 (by decide) (by decide), h.1] at q1
    have q2 := sp_outColumn (sc := sc) (d := d) (M := M) (show i < 4 by omega) (by omega)
    rw [hM 39 (by decide) (by decide), e39] at q2
    have q3 := sp_outKind (sc := sc) (d := d) (M := M) (show i < 4 by omega) (by omega)
    rw [hM 38 (by decide) (by decide), e38] at q3
    have fin : ∀ (N : q_M) (B' : Int → Prop), (∀ a, ¬ a = 42 → N a = M a) → IS (N 42 3) B' → (∀ p, B' p ↔ (B p ∨ BO C P gts ous i p)) → (∀ F, pr sc (pq sc d) 13 (F + 1) 13 [some (.inr (.inr 42)), some (.inl (i : Int)), none] [] M = pr sc (pq sc d) 13 F 13 [some (.inr (.inr 42)), some (.inl ((i + 1 : Nat) : Int)), none] [] N) → ∃ F M', pr sc (pq sc d) 13 F 13 [some (.inr (.inr 42)), some (.inl (i : Int)), none] [] M = some (none, GF, M') ∧ (∀ a, ¬ a = 42 → M' a = M a) ∧ IS (M' 42 3) (fun p => B p ∨ ∃ j, i ≤ j ∧ BO C P gts ous j p) := by
      intro N B' hN hB' hBB hst
      obtain ⟨F, M', q, hf, hI⟩ := ih (i + 1) N B' (by omega) (fun a h1 h2 => (hN a h2).trans (hM a h1 h2)) hB'
      refine ⟨F + 1, M', (hst F).trans q, fun a ha => (hf a ha).trans (hN a ha), IS_c hI (fun p => ⟨fun hh => ?_, fun hh => ?_⟩)⟩
      · rcases hh with hh | ⟨j, hj, hh⟩
        · rcases (hBB p).mp hh with hh | hh
          · exact Or.inl hh
          · exact Or.inr ⟨i, Nat.le_refl _, hh⟩
        · exact Or.inr ⟨j, by omega, hh⟩
      · rcases hh with hh | ⟨j, hj, hh⟩
        · exact Or.inl ((hBB p).mpr (Or.inl hh))
        · by_cases e : j = i
          · subst e; exact Or.inl ((hBB p).mpr (Or.inr hh))
          · exact Or.inr ⟨j, by omega, hh⟩
    have bi : ∀ p, BO C P gts ous i p ↔ (o.1 = 275 ∧ ¬ grp C gts o.2.2 ∧ p = P o.2.2) := fun p => by
      constructor
      · rintro ⟨y, hy, hh⟩
        rw [ho] at hy; cases hy; exact hh
      · intro hh; exact ⟨o, ho, hh⟩
    by_cases c : o.1 = 275
    · obtain ⟨u, hu, hx⟩ := hLK.1 o (List.mem_of_getElem? ho) (by omega)
      have hul : u < ops.length := (List.getElem?_eq_some_iff.mp hx).1
      have hnc := hcol o (List.mem_of_getElem? ho) (by omega)
      obtain ⟨o1, o2, o3, -⟩ := hO.2 u _ hx
      have e17 : opP C P (o.2.2, 3) = P o.2.2 := by unfold opP; exact if_neg hnc
      have e18 : opA C (o.2.2, 3) = C o.2.2 := by unfold opA; exact if_neg hnc
      have e19 : opL C (o.2.2, 3) = C (o.2.2 + 2) - 97 := by unfold opL; exact if_neg hnc
      rw [hu] at q2
      have hGM : GQ M grs := by
        refine ⟨by rw [hM 15 (by decide) (by decide)]; exact hG.1, hG.2.1, ?_⟩
        rw [hM 40 (by decide) (by decide)]; exact hG.2.2
      obtain ⟨x, q4, hxx⟩ := sp_groupsBy (sc := sc) (d := d) (c := u) hGM (by omega) (by omega)
      have hiff : (∃ j g : Nat, grs[j]? = some g ∧ M 18 g = M 18 u ∧ M 19 g = M 19 u) ↔ grp C gts o.2.2 := by
        rw [hM 18 (by decide) (by decide), hM 19 (by decide) (by decide), o2, o3, e18, e19]
        constructor
        · rintro ⟨j, g, k1, k2, k3⟩
          obtain ⟨t, k4, k5⟩ := hLK.2.2 j g k1
          have hnt := hgc t (List.mem_of_getElem? k4)
          obtain ⟨-, p2, p3, -⟩ := hO.2 g _ k5
          rw [p2] at k2; rw [p3] at k3
          have f18 : opA C (t, 3) = C t := by unfold opA; exact if_neg hnt
          have f19 : opL C (t, 3) = C (t + 2) - 97 := by unfold opL; exact if_neg hnt
          rw [f18] at k2; rw [f19] at k3
          exact ⟨t, List.mem_of_getElem? k4, k2, by omega⟩
        · rintro ⟨t, k1, k2, k3⟩
          obtain ⟨j, hj, e⟩ := List.mem_iff_getElem.mp k1
          have k4 : gts[j]? = some t := by rw [List.getElem?_eq_getElem hj, e]
          have hj2 : j < grs.length := by rw [hLK.2.1]; exact hj
          have k6 : grs[j]? = some grs[j] := List.getElem?_eq_getElem hj2
          obtain ⟨t', k7, k8⟩ := hLK.2.2 j _ k6
          rw [k4] at k7; cases k7
          have hnt := hgc t k1
          obtain ⟨-, p2, p3, -⟩ := hO.2 _ _ k8
          have f18 : opA C (t, 3) = C t := by unfold opA; exact if_neg hnt
          have f19 : opL C (t, 3) = C (t + 2) - 97 := by unfold opL; exact if_neg hnt
          exact ⟨j, _, k6, by rw [p2, f18, k2], by rw [p3, f19, k3]⟩
      rw [hiff] at hxx
      have q5 := sp_placeOf (sc := sc) (d := d) (M := M) (show u < 130 by omega) (by omega)
      rw [hM 17 (by decide) (by decide), o1, e17] at q5
      rcases hxx with ⟨rfl, hg⟩ | ⟨rfl, hg⟩
      · refine fin M B (fun _ _ => rfl) hB (fun p => ⟨Or.inl, fun hh => ?_⟩) (fun F => sg_X1_checkOuts_13.trans ?_)
        · rcases hh with hh | hh
          · exact hh
          · exact absurd hg ((bi p).mp hh).2.1
        · rw [q1, q_cI_s, if_pos (by omega), q2, q_cI_s, q3, q_cI_s, if_pos c, q4, q_cI_s, if_neg (by decide), qw1 (by omega)]
      · refine fin (q_up M 42 3 (nIl (M 42 3) (P o.2.2))) _ (fun a ha => q_upf ha) (by rw [q_up_s]; exact IS_n hB (hP o.2.2)) (fun p => ?_) (fun F => sg_X1_checkOuts_13.trans ?_)
        · rw [bi]
          constructor
          · rintro (hh | hh)
            · exact Or.inl hh
            · exact Or.inr ⟨c, hg, hh⟩
          · rintro (hh | ⟨-, -, hh⟩)
            · exact Or.inl hh
            · exact Or.inr hh
        · rw [q1, q_cI_s, if_pos (by omega), q2, q_cI_s, q3, q_cI_s, if_pos c, q4, q_cI_s, if_pos rfl, q5, q_cI_s, sp_noteIll (by omega), q_c0_s, qw1 (by omega)]
    · refine fin M B (fun _ _ => rfl) hB (fun p => ⟨Or.inl, fun hh => ?_⟩) (fun F => sg_X1_checkOuts_13.trans ?_)
      · rcases hh with hh | hh
        · exact hh
        · exact absurd ((bi p).mp hh).1 c
      · rw [q1, q_cI_s, if_pos (by omega), q2, q_cI_s, q3, q_cI_s, if_neg c, qw1 (by omega)]
/-- all that is ill -/
def BB (W C P : Nat → Int) (tl : List Nat) (ops : List (Nat × Int)) (ous : List aOu) (gts : List Nat) (p : Int) : Prop := (∃ j, BI W C P tl j p) ∨ (∃ j, BC W C P tl ops j p) ∨ (gth ous gts.length ∧ ∃ j, BO C P gts ous j p)
/-- the class checks -/
theorem cx_check {sc : List Int} {d : Nat} {M : q_M} {C P N : Nat → Int} {tl : List Nat} {ops : List (Nat × Int)} {ous : List aOu} {grs gts : List Nat} (hI : IQ M C P tl) (hT : TI C tl) (hP : PN P) (hO : OA M C P N ops) (hl : ops.length ≤ 130) (hOT : OT C ops) (hU : UQ M ous) (hG : GQ M grs) (hLK : LK ops ous grs gts) (hcol : ∀ o ∈ ous, ¬ o.1 = 266 → ¬ cst C o.2.2) (hgc : ∀ t ∈ gts, ¬ cst C t) (hd : 7 ≤ d) : ∃ M' x, pq sc d 9 [.inr (.inr 42)] GF M = some (some (.inl x), GF, M') ∧ (∀ a, ¬ a = 21 → ¬ a = 42 → M' a = M a) ∧ (∀ i x, ops[i]? = some x → M' 21 i = if C x.1 = 258 ∨ C x.1 = 274 then -1 else itm C tl (C x.1)) ∧ IS x (BB (M 2) C P tl ops ous gts) := by
  obtain ⟨F1, M1, q1, f1, i1⟩ := cx_chkItT (sc := sc) (d := d - 1 - 1) hI hT hP (by omega) tl.length 0 (q_up M 42 3 (-1)) (fun _ => False) (by omega) (fun a ha => q_upf ha) (Or.inl ⟨q_up_s, fun _ h => h⟩)
  have p1 : pq sc (d - 1) 11 [.inr (.inr 42)] GF (q_up M 42 3 (-1)) = some (none, GF, M1) := by
    refine (pq_e (by omega) (by decide) (Nat.le_of_ble_eq_true rfl) ⟨F1 + 1, sg_X1_checkItems_0.trans ?_⟩)
    exact q1
  have hI1 : IQ M1 C P tl := IQ_fr hI (by rw [f1 15 (by decide)]) (fun a h1 h2 => f1 a (by omega))
  have hO1 : OA M1 C P N ops := OA_fr hO (fun a h1 h2 => f1 a (by omega))
  obtain ⟨F2, M2, q2, f2, -, j2, i2⟩ := cx_chkCoT (sc := sc) (d := d - 1 - 1) hI1 hT hP hO1 hl hOT (by omega) ops.length 0 M1 _ (by omega) (fun a _ _ => rfl) i1
  have p2 : pq sc (d - 1) 12 [.inr (.inr 42)] GF M1 = some (none, GF, M2) := by
    refine (pq_e (by omega) (by decide) (Nat.le_of_ble_eq_true rfl) ⟨F2 + 1, sg_X1_checkColumns_0.trans ?_⟩)
    exact q2
  have f2' : ∀ a, ¬ a = 21 → ¬ a = 42 → M2 a = M a := fun a h1 h2 => (f2 a h1 h2).trans (f1 a h2)
  have hU2 : UQ M2 ous := by
    refine ⟨by rw [f2' 15 (by decide) (by decide)]; exact hU.1, hU.2.1, ?_⟩
    rw [f2' 38 (by decide) (by decide), f2' 39 (by decide) (by decide)]; exact hU.2.2
  have hg2 : M2 15 12 = grs.length := by rw [f2' 15 (by decide) (by decide)]; exact hG.1
  obtain ⟨x3, q3, hx3⟩ := sp_gathers (sc := sc) (d := d - 1 - 1) hU2 hg2 (by omega)
  rw [hLK.2.1] at hx3
  have j2' : ∀ (N' : q_M), N' 21 = M2 21 → ∀ i x, ops[i]? = some x → N' 21 i = if C x.1 = 258 ∨ C x.1 = 274 then -1 else itm C tl (C x.1) := by
    intro N' hN' i x hx
    obtain ⟨k1, k2⟩ := j2 i x (Nat.zero_le _) hx
    rw [hN']
    by_cases hc : C x.1 = 258 ∨ C x.1 = 274
    · rw [if_pos hc, k1 hc]
      exact (hO1.2 i x hx).2.2.2.2.1
    · rw [if_neg hc]; exact k2 hc
  have e12 : M1 2 = M 2 := f1 2 (by decide)
  rw [e12] at i2
  have i2' : IS (M2 42 3) (fun p => (∃ j, BI (M 2) C P tl j p) ∨ (∃ j, BC (M 2) C P tl ops j p)) := IS_c i2 (fun p => by
    constructor
    · rintro ((hh | ⟨j, -, hh⟩) | ⟨j, -, hh⟩)
      · exact absurd hh id
      · exact Or.inl ⟨j, hh⟩
      · exact Or.inr ⟨j, hh⟩
    · rintro (⟨j, hh⟩ | ⟨j, hh⟩)
      · exact Or.inl (Or.inr ⟨j, Nat.zero_le _, hh⟩)
      · exact Or.inr ⟨j, Nat.zero_le _, hh⟩)
  rcases hx3 with ⟨rfl, hg⟩ | ⟨rfl, hg⟩
  · obtain ⟨F4, M4, q4, f4, i4⟩ := cx_chkOuT (sc := sc) (d := d - 1 - 1) hU hP hO hl hG hLK hcol hgc (by omega) ous.length 0 M2 _ (by omega) f2' i2'
    have p3 : pq sc (d - 1) 13 [.inr (.inr 42)] GF M2 = some (none, GF, M4) := by
      refine (pq_e (by omega) (by decide) (Nat.le_of_ble_eq_true rfl) ⟨F4 + 1, sg_X1_checkOuts_0.trans ?_⟩)
      rw [q3, q_cI_s, if_neg (by decide)]
      exact q4
    refine ⟨M4, M4 42 3, (pq_e (by omega) (by decide) (Nat.le_of_ble_eq_true rfl) ⟨0 + 1, sg_X1_firstIll_0.trans ?_⟩), fun a h1 h2 => (f4 a h2).trans (f2' a h1 h2), j2' M4 (f4 21 (by decide)), IS_c i4 (fun p => ?_)⟩
    · rw [p1, q_c0_s, p2, q_c0_s, p3, q_c0_s]
    · unfold BB
      constructor
      · rintro ((hh | hh) | ⟨j, -, hh⟩)
        · exact Or.inl hh
        · exact Or.inr (Or.inl hh)
        · exact Or.inr (Or.inr ⟨hg, j, hh⟩)
      · rintro (hh | hh | ⟨-, j, hh⟩)
        · exact Or.inl (Or.inl hh)
        · exact Or.inl (Or.inr hh)
        · exact Or.inr ⟨j, Nat.zero_le _, hh⟩
  · have p3 : pq sc (d - 1) 13 [.inr (.inr 42)] GF M2 = some (none, GF, M2) := by
      refine (pq_e (by omega) (by decide) (Nat.le_of_ble_eq_true rfl) ⟨0 + 1, sg_X1_checkOuts_0.trans ?_⟩)
      rw [q3, q_cI_s, if_pos rfl]
    refine ⟨M2, M2 42 3, (pq_e (by omega) (by decide) (Nat.le_of_ble_eq_true rfl) ⟨0 + 1, sg_X1_firstIll_0.trans ?_⟩), f2', j2' M2 rfl, IS_c i2' (fun p => ?_)⟩
    · rw [p1, q_c0_s, p2, q_c0_s, p3, q_c0_s]
    · unfold BB
      constructor
      · rintro (hh | hh)
        · exact Or.inl hh
        · exact Or.inr (Or.inl hh)
      · rintro (hh | hh | ⟨hh, -⟩)
        · exact Or.inl hh
        · exact Or.inr hh
        · exact absurd hh hg
