/-! the model checks all -/
def grm (C : Nat → Int) (tl gts : List Nat) (t : Nat) : Prop := ∃ g ∈ gts, itm C tl (C g) = itm C tl (C t) ∧ C (g + 2) = C (t + 2)
theorem mk_groupedT {sc : List Int} {d : Nat} {M : q_M} {C P N : Nat → Int} {q : Nat} {its : List aIt} {ous : List aOu} {gts : List Nat} {wf wt : Nat} {tok : Nat} (h : SM M C P N q its ous gts wf wt) (hT : TIq C q (its.map (·.1))) (hc : CT C q tok) (hg : ∀ t ∈ gts, CT C q t) (hg3 : gts.length ≤ 3) (hd : 1 ≤ d) : ∀ (m i : Nat) (b : Int), i + m = gts.length → (b = 0 ∨ b = 1) → ∃ F x, pr sc (pq sc d) 184 F 4 [some (.inr (.inr 49)), some (.inl (tok : Int)), some (.inl b), some (.inl (i : Int))] [] M = some (some (.inl x), GF, M) ∧ ((x = 1 ∧ (b = 1 ∨ ∃ j g, i ≤ j ∧ gts[j]? = some g ∧ itm C (its.map (·.1)) (C g) = itm C (its.map (·.1)) (C tok) ∧ C (g + 2) = C (tok + 2))) ∨ (x = 0 ∧ ¬ (b = 1 ∨ ∃ j g, i ≤ j ∧ gts[j]? = some g ∧ itm C (its.map (·.1)) (C g) = itm C (its.map (·.1)) (C tok) ∧ C (g + 2) = C (tok + 2)))) := by
  have hG := h.2.2.2.2.1
  intro m
  induction m with
  | zero =>
    intro i b hi hb
    have hno : ¬ ∃ j g, i ≤ j ∧ gts[j]? = some g ∧ itm C (its.map (·.1)) (C g) = itm C (its.map (·.1)) (C tok) ∧ C (g + 2) = C (tok + 2) := fun ⟨j, g, h1, h2, _⟩ => by have := (List.getElem?_eq_some_iff.mp h2).1; omega
    refine ⟨0 + 1, b, sg_X12_isGrouped_4.trans ?_, ?_⟩
    · rw [hG.1, if_neg (by omega), if_pos hb]
    · rcases hb with rfl | rfl
      · exact Or.inr ⟨rfl, fun hh => by rcases hh with hh | hh; omega; exact hno hh⟩
      · exact Or.inl ⟨rfl, Or.inl rfl⟩
  | succ m ih =>
    intro i b hi hb
    have ho : gts[i]? = some gts[i] := List.getElem?_eq_getElem (by omega)
    generalize gts[i] = g at ho
    have e69 := hG.2 i g ho
    have cg := hg g (List.mem_of_getElem? ho)
    have ef : ∀ (hh : ∃ j g', i + 1 ≤ j ∧ gts[j]? = some g' ∧ itm C (its.map (·.1)) (C g') = itm C (its.map (·.1)) (C tok) ∧ C (g' + 2) = C (tok + 2)), ∃ j g', i ≤ j ∧ gts[j]? = some g' ∧ itm C (its.map (·.1)) (C g') = itm C (its.map (·.1)) (C tok) ∧ C (g' + 2) = C (tok + 2) := fun ⟨j, g', h1, h2⟩ => ⟨j, g', by omega, h2⟩
    rcases hb with rfl | rfl
    · have q1 := mk_itemOf (sc := sc) (d := d) h hT ⟨cg.1, cg.2.1⟩ (by have := cg.2.2.2.2; omega) (by omega)
      have q2 := mk_itemOf (sc := sc) (d := d) h hT ⟨hc.1, hc.2.1⟩ (by have := hc.2.2.2.2; omega) (by omega)
      have q3 := mk_columnOf (sc := sc) (d := d) h cg (by omega)
      have q4 := mk_columnOf (sc := sc) (d := d) h hc (by omega)
      have back : ¬ (itm C (its.map (·.1)) (C g) = itm C (its.map (·.1)) (C tok) ∧ C (g + 2) = C (tok + 2)) → (∃ j g', i ≤ j ∧ gts[j]? = some g' ∧ itm C (its.map (·.1)) (C g') = itm C (its.map (·.1)) (C tok) ∧ C (g' + 2) = C (tok + 2)) → ∃ j g', i + 1 ≤ j ∧ gts[j]? = some g' ∧ itm C (its.map (·.1)) (C g') = itm C (its.map (·.1)) (C tok) ∧ C (g' + 2) = C (tok + 2) := by
        rintro hn ⟨j, g', h1, h2, h3⟩
        refine ⟨j, g', ?_, h2, h3⟩
        rcases Nat.lt_or_ge i j with hh | hh
        · exact hh
        · have : j = i := by omega
          subst this
          rw [ho] at h2; cases h2; exact absurd h3 hn
      by_cases k1 : itm C (its.map (·.1)) (C g) = itm C (its.map (·.1)) (C tok)
      · by_cases k2 : C (g + 2) = C (tok + 2)
        · obtain ⟨F, x, qq, hx⟩ := ih (i + 1) 1 (by omega) (Or.inr rfl)
          refine ⟨F + 1, x, sg_X12_isGrouped_4.trans ?_, ?_⟩
          · rw [hG.1, if_pos (by omega), if_pos rfl, if_pos (by omega), Int.toNat_natCast, e69, q1, q_cI_s, q2, q_cI_s, if_pos k1, if_pos (by omega), e69, q3, q_cI_s, q4, q_cI_s, if_pos (by omega), qw1 (by omega), qq]
          · rcases hx with ⟨h1, -⟩ | ⟨-, h2⟩
            · exact Or.inl ⟨h1, Or.inr ⟨i, g, Nat.le_refl _, ho, k1, k2⟩⟩
            · exact absurd (Or.inl rfl) h2
        · obtain ⟨F, x, qq, hx⟩ := ih (i + 1) 0 (by omega) (Or.inl rfl)
          refine ⟨F + 1, x, sg_X12_isGrouped_4.trans ?_, ?_⟩
          · rw [hG.1, if_pos (by omega), if_pos rfl, if_pos (by omega), Int.toNat_natCast, e69, q1, q_cI_s, q2, q_cI_s, if_pos k1, if_pos (by omega), e69, q3, q_cI_s, q4, q_cI_s, if_neg (by omega), qw1 (by omega), qq]
          · rcases hx with ⟨h1, h2⟩ | ⟨h1, h2⟩
            · refine Or.inl ⟨h1, ?_⟩
              rcases h2 with h2 | h2
              · exact Or.inl h2
              · exact Or.inr (ef h2)
            · refine Or.inr ⟨h1, fun hh => h2 ?_⟩
              rcases hh with hh | hh
              · exact Or.inl hh
              · exact Or.inr (back (fun e => k2 e.2) hh)
      · obtain ⟨F, x, qq, hx⟩ := ih (i + 1) 0 (by omega) (Or.inl rfl)
        refine ⟨F + 1, x, sg_X12_isGrouped_4.trans ?_, ?_⟩
        · rw [hG.1, if_pos (by omega), if_pos rfl, if_pos (by omega), Int.toNat_natCast, e69, q1, q_cI_s, q2, q_cI_s, if_neg k1, qw1 (by omega), qq]
        · rcases hx with ⟨h1, h2⟩ | ⟨h1, h2⟩
          · refine Or.inl ⟨h1, ?_⟩
            rcases h2 with h2 | h2
            · exact Or.inl h2
            · exact Or.inr (ef h2)
          · refine Or.inr ⟨h1, fun hh => h2 ?_⟩
            rcases hh with hh | hh
            · exact Or.inl hh
            · exact Or.inr (back (fun e => k1 e.1) hh)
    · obtain ⟨F, x, qq, hx⟩ := ih (i + 1) 1 (by omega) (Or.inr rfl)
      refine ⟨F + 1, x, sg_X12_isGrouped_4.trans ?_, ?_⟩
      · rw [hG.1, if_pos (by omega), if_neg (by decide), qw1 (by omega), qq]
      · rcases hx with ⟨h1, -⟩ | ⟨-, h2⟩
        · exact Or.inl ⟨h1, Or.inl rfl⟩
        · exact absurd (Or.inl rfl) h2
theorem mk_grouped {sc : List Int} {d : Nat} {M : q_M} {C P N : Nat → Int} {q : Nat} {its : List aIt} {ous : List aOu} {gts : List Nat} {wf wt : Nat} {tok : Nat} (h : SM M C P N q its ous gts wf wt) (hT : TIq C q (its.map (·.1))) (hc : CT C q tok) (hg : ∀ t ∈ gts, CT C q t) (hg3 : gts.length ≤ 3) (hd : 2 ≤ d) : ∃ x, pq sc d 184 [.inr (.inr 49), .inl (tok : Int)] GF M = some (some (.inl x), GF, M) ∧ ((x = 1 ∧ grm C (its.map (·.1)) gts tok) ∨ (x = 0 ∧ ¬ grm C (its.map (·.1)) gts tok)) := by
  obtain ⟨F, x, q1, hx⟩ := mk_groupedT (sc := sc) (d := d - 1) h hT hc hg hg3 (by omega) gts.length 0 0 (by omega) (Or.inl rfl)
  have hiff : ((0 : Int) = 1 ∨ ∃ j g, 0 ≤ j ∧ gts[j]? = some g ∧ itm C (its.map (·.1)) (C g) = itm C (its.map (·.1)) (C tok) ∧ C (g + 2) = C (tok + 2)) ↔ grm C (its.map (·.1)) gts tok := by
    constructor
    · rintro (h1 | ⟨j, g, -, h2, h3⟩)
      · omega
      · exact ⟨g, List.mem_of_getElem? h2, h3⟩
    · rintro ⟨g, h2, h3⟩
      obtain ⟨j, hj, e⟩ := List.mem_iff_getElem.mp h2
      exact Or.inr ⟨j, g, Nat.zero_le _, by rw [List.getElem?_eq_getElem hj, e], h3⟩
  rw [hiff] at hx
  refine ⟨x, (pq_e (by omega) (by decide) (Nat.le_of_ble_eq_true rfl) ⟨F + 1, sg_X12_isGrouped_0.trans ?_⟩), hx⟩
  exact q1
/-- kinds of outs -/
def KO (C : Nat → Int) (q : Nat) (ous : List aOu) : Prop := ous.length ≤ 4 ∧ ∀ o ∈ ous, ((266 ≤ o.1 ∧ o.1 ≤ 269) ∨ o.1 = 275) ∧ (¬ o.1 = 266 → CT C q o.2.2)
theorem ma_gth {sc : List Int} {d : Nat} {M0 : q_M} {C P N : Nat → Int} {q : Nat} {its : List aIt} {ous : List aOu} {gts : List Nat} {wf wt : Nat} (h : SM M0 C P N q its ous gts wf wt) (hK : KO C q ous) : ∀ (m i : Nat) (M : q_M), i + m = ous.length → FS M0 M → ((M 49 40 = 1 ∧ (0 < gts.length ∨ ∃ j o, j < i ∧ ous[j]? = some o ∧ ¬ o.1 = 275)) ∨ (M 49 40 = 0 ∧ ¬ (0 < gts.length ∨ ∃ j o, j < i ∧ ous[j]? = some o ∧ ¬ o.1 = 275))) → ∃ K M', (∀ F, pr sc (pq sc d) 185 (F + K) 18 [some (.inr (.inr 49)), some (.inl (i : Int))] [] M = pr sc (pq sc d) 185 F 59 [some (.inr (.inr 49)), some (.inl 0)] [] M') ∧ (∀ a, ¬ a = 49 → M' a = M a) ∧ (∀ j, ¬ j = 40 → M' 49 j = M 49 j) ∧ ((M' 49 40 = 1 ∧ gth ous gts.length) ∨ (M' 49 40 = 0 ∧ ¬ gth ous gts.length)) := by
  intro m
  induction m with
  | zero =>
    intro i M hi hM hg
    have hS := SM_fr h hM
    have hiff : (0 < gts.length ∨ ∃ j o, j < i ∧ ous[j]? = some o ∧ ¬ o.1 = 275) ↔ gth ous gts.length := by
      unfold gth
      constructor
      · rintro (h1 | ⟨j, o, -, h2, h3⟩)
        · exact Or.inr h1
        · exact Or.inl ⟨o, List.mem_of_getElem? h2, h3⟩
      · rintro (⟨o, h2, h3⟩ | h1)
        · obtain ⟨j, hj, e⟩ := List.mem_iff_getElem.mp h2
          exact Or.inr ⟨j, o, by omega, by rw [List.getElem?_eq_getElem hj, e], h3⟩
        · exact Or.inl h1
    rw [hiff] at hg
    refine ⟨0 + 1, M, fun F => sg_X12_checkAll_18.trans ?_, fun _ _ => rfl, fun _ _ => rfl, hg⟩
    rw [hS.2.2.2.1.1, if_neg (by omega)]
  | succ m ih =>
    intro i M hi hM hg
    have hS := SM_fr h hM
    have h4 := hK.1
    have hO := hS.2.2.2.1
    have ho : ous[i]? = some ous[i] := List.getElem?_eq_getElem (by omega)
    generalize ous[i] = o at ho
    have e62 := (hO.2 i o ho).1
    have hko := (hK.2 o (List.mem_of_getElem? ho)).1
    have step : ∀ v : Int, ((v = 1 ∧ (0 < gts.length ∨ ∃ j o, j < i + 1 ∧ ous[j]? = some o ∧ ¬ o.1 = 275)) ∨ (v = 0 ∧ ¬ (0 < gts.length ∨ ∃ j o, j < i + 1 ∧ ous[j]? = some o ∧ ¬ o.1 = 275))) → (∀ F, pr sc (pq sc d) 185 (F + 1) 18 [some (.inr (.inr 49)), some (.inl (i : Int))] [] M = pr sc (pq sc d) 185 F 18 [some (.inr (.inr 49)), some (.inl ((i + 1 : Nat) : Int))] [] (q_up M 49 40 v)) → ∃ K M', (∀ F, pr sc (pq sc d) 185 (F + K) 18 [some (.inr (.inr 49)), some (.inl (i : Int))] [] M = pr sc (pq sc d) 185 F 59 [some (.inr (.inr 49)), some (.inl 0)] [] M') ∧ (∀ a, ¬ a = 49 → M' a = M a) ∧ (∀ j, ¬ j = 40 → M' 49 j = M 49 j) ∧ ((M' 49 40 = 1 ∧ gth ous gts.length) ∨ (M' 49 40 = 0 ∧ ¬ gth ous gts.length)) := by
      intro v hv hst
      obtain ⟨K, M', q1, f1, f2, f3⟩ := ih (i + 1) (q_up M 49 40 v) (by omega) (FS_t hM ⟨fun a ha => q_upf ha, fun j _ _ h3 => q_up_sn h3⟩) (by rw [q_up_s]; exact hv)
      refine ⟨K + 1, M', fun F => ?_, fun a ha => (f1 a ha).trans (q_upf ha), fun j hj => (f2 j hj).trans (q_up_sn hj), f3⟩
      exact (hst (F + K)).trans (q1 F)
    have mono : (0 < gts.length ∨ ∃ j o, j < i ∧ ous[j]? = some o ∧ ¬ o.1 = 275) → (0 < gts.length ∨ ∃ j o, j < i + 1 ∧ ous[j]? = some o ∧ ¬ o.1 = 275) := by
      rintro (hh | ⟨j, o', h1, h2⟩)
      · exact Or.inl hh
      · exact Or.inr ⟨j, o', by omega, h2⟩
    rcases hg with ⟨g1, g2⟩ | ⟨g1, g2⟩
    · refine step 1 (Or.inl ⟨rfl, mono g2⟩) (fun F => sg_X12_checkAll_18.trans ?_)
      rw [hO.1, if_pos (by omega), if_neg (by omega), qw1 (by omega)]
    · by_cases c : o.1 = 275
      · refine step 0 (Or.inr ⟨rfl, fun hh => g2 ?_⟩) (fun F => sg_X12_checkAll_18.trans ?_)
        · rcases hh with hh | ⟨j, o', h1, h2, h3⟩
          · exact Or.inl hh
          · refine Or.inr ⟨j, o', ?_, h2, h3⟩
            rcases Nat.lt_or_ge j i with hh | hh
            · exact hh
            · have : j = i := by omega
              subst this
              rw [ho] at h2; cases h2; exact absurd c h3
        · rw [hO.1, if_pos (by omega), if_pos g1, if_pos (by omega), Int.toNat_natCast, e62, if_pos (by unfold mko; rw [if_pos c]), qw1 (by omega)]
      · refine step 1 (Or.inl ⟨rfl, Or.inr ⟨i, o, by omega, ho, c⟩⟩) (fun F => sg_X12_checkAll_18.trans ?_)
        rw [hO.1, if_pos (by omega), if_pos g1, if_pos (by omega), Int.toNat_natCast, e62, if_neg (by unfold mko; rw [if_neg c]; omega), qw1 (by omega)]
/-- outs that are ill, as the model sees them -/
def Bm1 (W C P : Nat → Int) (tl gts : List Nat) (ous : List aOu) (i : Nat) (p : Int) : Prop := ∃ o, ous[i]? = some o ∧ ¬ o.1 = 266 ∧ (bc W C tl o.2.2 tl.length ∨ (gth ous gts.length ∧ o.1 = 275 ∧ ¬ grm C tl gts o.2.2)) ∧ p = P o.2.2
theorem ma_outs {sc : List Int} {d : Nat} {M0 : q_M} {C P N : Nat → Int} {q : Nat} {its : List aIt} {ous : List aOu} {gts : List Nat} {wf wt : Nat} (h : SM M0 C P N q its ous gts wf wt) (hT : TIq C q (its.map (·.1))) (hP : PN P) (hK : KO C q ous) (hg : ∀ t ∈ gts, CT C q t) (hg3 : gts.length ≤ 3) (hd : 4 ≤ d) : ∀ (m i : Nat) (M : q_M) (x : Int) (B : Int → Prop), i + m = ous.length → FS M0 M → ((M 49 40 = 1 ∧ gth ous gts.length) ∨ (M 49 40 = 0 ∧ ¬ gth ous gts.length)) → MS M x → IS x B → ∃ K M' x', (∀ F, pr sc (pq sc d) 185 (F + K) 59 [some (.inr (.inr 49)), some (.inl (i : Int))] [] M = pr sc (pq sc d) 185 F 143 [some (.inr (.inr 49)), some (.inl 0)] [] M') ∧ FS M M' ∧ M' 49 40 = M 49 40 ∧ MS M' x' ∧ IS x' (fun p => B p ∨ ∃ j, i ≤ j ∧ Bm1 (M0 51) C P (its.map (·.1)) gts ous j p) := by
  have hq := h.2.1
  intro m
  induction m with
  | zero =>
    intro i M x B hi hM hG hx hB
    have hS := SM_fr h hM
    refine ⟨0 + 1, M, x, fun F => sg_X12_checkAll_59.trans ?_, FS_r, rfl, hx, IS_c hB (fun p => ⟨Or.inl, fun hh => ?_⟩)⟩
    · rw [hS.2.2.2.1.1, if_neg (by omega)]
    · rcases hh with hh | ⟨j, hj, o, ho, -⟩
      · exact hh
      · have := (List.getElem?_eq_some_iff.mp ho).1; omega
  | succ m ih =>
    intro i M x B hi hM hG hx hB
    have hS := SM_fr h hM
    have h4 := hK.1
    have hO := hS.2.2.2.1
    have ho : ous[i]? = some ous[i] := List.getElem?_eq_getElem (by omega)
    generalize ous[i] = o at ho
    obtain ⟨e62, e63⟩ := hO.2 i o ho
    obtain ⟨hko, hct⟩ := hK.2 o (List.mem_of_getElem? ho)
    have hb : 0 ≤ (i : Int) ∧ (i : Int) < ((5 : Nat) : Int) := by omega
    have fin : ∀ (N' : q_M) (y : Int) (B' : Int → Prop), FS M N' → N' 49 40 = M 49 40 → MS N' y → IS y B' → (∀ p, B' p ↔ (B p ∨ Bm1 (M0 51) C P (its.map (·.1)) gts ous i p)) → (∀ F, pr sc (pq sc d) 185 (F + 1) 59 [some (.inr (.inr 49)), some (.inl (i : Int))] [] M = pr sc (pq sc d) 185 F 59 [some (.inr (.inr 49)), some (.inl ((i + 1 : Nat) : Int))] [] N') → ∃ K M' x', (∀ F, pr sc (pq sc d) 185 (F + K) 59 [some (.inr (.inr 49)), some (.inl (i : Int))] [] M = pr sc (pq sc d) 185 F 143 [some (.inr (.inr 49)), some (.inl 0)] [] M') ∧ FS M M' ∧ M' 49 40 = M 49 40 ∧ MS M' x' ∧ IS x' (fun p => B p ∨ ∃ j, i ≤ j ∧ Bm1 (M0 51) C P (its.map (·.1)) gts ous j p) := by
      intro N' y B' hN e40 hy hB' hBB hst
      obtain ⟨K, M', x', q1, f1, e1, hx1, hI⟩ := ih (i + 1) N' y B' (by omega) (FS_t hM hN) (by rw [e40]; exact hG) hy hB'
      refine ⟨K + 1, M', x', fun F => (hst (F + K)).trans (q1 F), FS_t hN f1, e1.trans e40, hx1, IS_c hI (fun p => ⟨fun hh => ?_, fun hh => ?_⟩)⟩
      · rcases hh with hh | ⟨j, hj, hh⟩
        · rcases (hBB p).mp hh with hh | hh
          · exact Or.inl hh
          · exact Or.inr ⟨i, Nat.le_refl _, hh⟩
        · exact Or.inr ⟨j, by omega, hh⟩
      · rcases hh with hh | ⟨j, hj, hh⟩
        · exact Or.inl ((hBB p).mpr (Or.inl hh))
        · by_cases e : j = i
          · subst e; exact Or.inl ((hBB p).mpr (Or.inr hh))
          · exact Or.inr ⟨j, by omega, hh⟩
    have bi : ∀ p, Bm1 (M0 51) C P (its.map (·.1)) gts ous i p ↔ (¬ o.1 = 266 ∧ (bc (M0 51) C (its.map (·.1)) o.2.2 (its.map (·.1)).length ∨ (gth ous gts.length ∧ o.1 = 275 ∧ ¬ grm C (its.map (·.1)) gts o.2.2)) ∧ p = P o.2.2) := fun p => by
      constructor
      · rintro ⟨y, hy, hh⟩
        rw [ho] at hy; cases hy; exact hh
      · intro hh; exact ⟨o, ho, hh⟩
    have m207 : mko o.1 = 207 ↔ o.1 = 266 := by unfold mko; split <;> omega
    have m0 : mko o.1 = 0 ↔ o.1 = 275 := by unfold mko; split <;> omega
    by_cases c : o.1 = 266
    · refine fin M x B FS_r rfl hx hB (fun p => ⟨Or.inl, fun hh => ?_⟩) (fun F => sg_X12_checkAll_59.trans ?_)
      · rcases hh with hh | hh
        · exact hh
        · exact absurd c ((bi p).mp hh).1
      · rw [hO.1, if_pos (by omega), if_pos hb, Int.toNat_natCast, e62, if_pos (m207.mpr c), qw1 (by omega)]
    · have hC := hct c
      have e26 : M 49 26 = ((its.map (·.1)).length : Int) := by rw [List.length_map]; exact hS.2.2.1.1
      obtain ⟨M1, x1, q1, f1, e1, hx1, hB1⟩ := mk_column (sc := sc) (d := d) (last := ((its.map (·.1)).length : Int)) hS hT hP hC hx hB (by omega)
      rw [hM.1 51 (by decide)] at hB1
      have hS1 := SM_fr hS f1
      have e62' := (hS1.2.2.2.1.2 i o ho).1
      have e63' := (hS1.2.2.2.1.2 i o ho).2
      have pre : ∀ F, pr sc (pq sc d) 185 (F + 1) 59 [some (.inr (.inr 49)), some (.inl (i : Int))] [] M = (if (M1 49 40) = 0 then pr sc (pq sc d) 185 F 59 [some (.inr (.inr 49)), some (.inl ((i + 1 : Nat) : Int))] [] M1 else if mko o.1 = 0 then q_cI (pq sc d 184 [.inr (.inr 49), .inl (o.2.2 : Int)] GF M1) GF (fun x3 M2 => if x3 = 0 then (q_c0 (pq sc d 179 [.inr (.inr 49), .inl (M2 63 i)] GF M2) GF (fun M4 => pr sc (pq sc d) 185 F 59 [some (.inr (.inr 49)), some (.inl ((i + 1 : Nat) : Int))] [] M4)) else pr sc (pq sc d) 185 F 59 [some (.inr (.inr 49)), some (.inl ((i + 1 : Nat) : Int))] [] M2) else pr sc (pq sc d) 185 F 59 [some (.inr (.inr 49)), some (.inl ((i + 1 : Nat) : Int))] [] M1) := by
        intro F
        refine sg_X12_checkAll_59.trans ?_
        rw [hO.1, if_pos (by omega), if_pos hb, Int.toNat_natCast, e62, if_neg (fun e => c (m207.mp e)), if_pos hb, e63, e26, q1, q_c0_s, qw1 (by omega), if_pos hb, if_pos hb, e62', e63']
        by_cases z : M1 49 40 = 0
        · rw [if_pos z, if_pos z]
        · rw [if_neg z, if_neg z]
          by_cases z2 : mko o.1 = 0
          · rw [if_pos z2, if_pos z2]
            congr 1
            funext x3 M2
            rw [if_pos hb]
          · rw [if_neg z2, if_neg z2]
      rw [e1] at pre
      rcases hG with ⟨g1, g2⟩ | ⟨g1, g2⟩
      · by_cases c2 : o.1 = 275
        · obtain ⟨x3, q3, hx3⟩ := mk_grouped (sc := sc) (d := d) hS1 hT hC hg hg3 (by omega)
          rcases hx3 with ⟨rfl, h3⟩ | ⟨rfl, h3⟩
          · refine fin M1 x1 _ f1 e1 hx1 hB1 (fun p => ?_) (fun F => (pre F).trans ?_)
            · rw [bi]
              constructor
              · rintro (hh | ⟨h1, h2⟩)
                · exact Or.inl hh
                · exact Or.inr ⟨c, Or.inl h1, h2⟩
              · rintro (hh | ⟨-, h1 | ⟨-, -, h1⟩, h2⟩)
                · exact Or.inl hh
                · exact Or.inr ⟨h1, h2⟩
                · exact absurd h3 h1
            · rw [g1, if_neg (by decide), if_pos (m0.mpr c2), q3, q_cI_s, if_neg (by decide)]
          · have k59 := (hS1.1 o.2.2 (by have := hC.2.2.2.2; omega)).2.1
            obtain ⟨M4, q4, f4, e4, hx4⟩ := mk_spot (sc := sc) (d := d) k59 (hP o.2.2) (by have := hC.2.2.2.2; omega) hx1 (by omega)
            refine fin M4 _ _ (FS_t f1 f4) (e4.trans e1) hx4 (IS_n hB1 (hP o.2.2)) (fun p => ?_) (fun F => (pre F).trans ?_)
            · rw [bi]
              constructor
              · rintro ((hh | ⟨h1, h2⟩) | h2)
                · exact Or.inl hh
                · exact Or.inr ⟨c, Or.inl h1, h2⟩
                · exact Or.inr ⟨c, Or.inr ⟨g2, c2, h3⟩, h2⟩
              · rintro (hh | ⟨-, -, h2⟩)
                · exact Or.inl (Or.inl hh)
                · exact Or.inr h2
            · rw [g1, if_neg (by decide), if_pos (m0.mpr c2), q3, q_cI_s, if_pos rfl, e63', q4, q_c0_s]
        · refine fin M1 x1 _ f1 e1 hx1 hB1 (fun p => ?_) (fun F => (pre F).trans ?_)
          · rw [bi]
            constructor
            · rintro (hh | ⟨h1, h2⟩)
              · exact Or.inl hh
              · exact Or.inr ⟨c, Or.inl h1, h2⟩
            · rintro (hh | ⟨-, h1 | ⟨-, h1, -⟩, h2⟩)
              · exact Or.inl hh
              · exact Or.inr ⟨h1, h2⟩
              · exact absurd h1 c2
          · rw [g1, if_neg (by decide), if_neg (fun e => c2 (m0.mp e))]
      · refine fin M1 x1 _ f1 e1 hx1 hB1 (fun p => ?_) (fun F => (pre F).trans ?_)
        · rw [bi]
          constructor
          · rintro (hh | ⟨h1, h2⟩)
            · exact Or.inl hh
            · exact Or.inr ⟨c, Or.inl h1, h2⟩
          · rintro (hh | ⟨-, h1 | ⟨h1, -⟩, h2⟩)
            · exact Or.inl hh
            · exact Or.inr ⟨h1, h2⟩
            · exact absurd h1 g2
        · rw [g1, if_pos rfl]
