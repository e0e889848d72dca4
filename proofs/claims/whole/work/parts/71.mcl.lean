theorem mk_isTable {sc : List Int} {d : Nat} {M : q_M} {t : Nat} (ht : t < 3) (hd : 1 ≤ d) : pq sc d 150 [.inr (.inr 49), .inl (t : Int)] GF M = some (some (.inl (if 0 < M 51 t then 1 else 0)), GF, M) := by
  refine (pq_e (by omega) (by decide) (Nat.le_of_ble_eq_true rfl) ⟨0 + 1, sg_X12_isTable_0.trans ?_⟩)
  rw [if_neg (by omega), if_pos (by omega), if_pos (by omega), Int.toNat_natCast]
  by_cases g : 0 < M 51 t
  · rw [if_pos g, if_pos g]
  · rw [if_neg g, if_neg g]
/-- columns of an item's condition that are ill -/
def Br (W C P : Nat → Int) (tl : List Nat) (a b : Nat) (last : Int) (p : Int) : Prop := ∃ u, a ≤ u ∧ u < b ∧ 119 ≤ C u ∧ C u ≤ 122 ∧ bc W C tl u last ∧ p = P u
def Bm2 (W C P : Nat → Int) (its : List aIt) (i : Nat) (p : Int) : Prop := BI W C P (its.map (·.1)) i p ∨ (0 < i ∧ ∃ it, its[i]? = some it ∧ Br W C P (its.map (·.1)) it.2.2.1 it.2.2.2 i p)
theorem ma_items {sc : List Int} {d : Nat} {M0 : q_M} {C P N : Nat → Int} {q : Nat} {its : List aIt} {ous : List aOu} {gts : List Nat} {wf wt : Nat} (h : SM M0 C P N q its ous gts wf wt) (hT : TIq C q (its.map (·.1))) (hP : PN P) (hk : ∀ i, i ≤ q → kR (C i)) (hR : ∀ i it, its[i]? = some it → 0 < i → RG C q it.2.2.1 it.2.2.2) (hW : ∀ t, t < 3 → 0 ≤ M0 51 t) (hd : 5 ≤ d) : ∀ (m i : Nat) (M : q_M) (x : Int) (B : Int → Prop), i + m = its.length → FS M0 M → MS M x → IS x B → ∃ K M' x', (∀ F, pr sc (pq sc d) 185 (F + K) 143 [some (.inr (.inr 49)), some (.inl (i : Int))] [] M = pr sc (pq sc d) 185 F 143 [some (.inr (.inr 49)), some (.inl (its.length : Int))] [] M') ∧ FS M M' ∧ M' 49 40 = M 49 40 ∧ MS M' x' ∧ IS x' (fun p => B p ∨ ∃ j, i ≤ j ∧ Bm2 (M0 51) C P its j p) := by
  have hq := h.2.1
  have hl3 := hT.1
  rw [List.length_map] at hl3
  intro m
  induction m with
  | zero =>
    intro i M x B hi hM hx hB
    refine ⟨0, M, x, fun F => by rw [show i = its.length by omega]; rfl, FS_r, rfl, hx, IS_c hB (fun p => ⟨Or.inl, fun hh => ?_⟩)⟩
    rcases hh with hh | ⟨j, hj, ⟨t, ht, -⟩ | ⟨-, it, hit, -⟩⟩
    · exact hh
    · have := (List.getElem?_eq_some_iff.mp ht).1; rw [List.length_map] at this; omega
    · have := (List.getElem?_eq_some_iff.mp hit).1; omega
  | succ m ih =>
    intro i M x B hi hM hx hB
    have hS := SM_fr h hM
    have hI := hS.2.2.1
    have ho : its[i]? = some its[i] := List.getElem?_eq_getElem (by omega)
    generalize its[i] = it at ho
    have hot : (its.map (·.1))[i]? = some it.1 := by rw [List.getElem?_map, ho]; rfl
    obtain ⟨t1, t2, t3, t4, t5⟩ := hT.2 it.1 (List.mem_of_getElem? hot)
    have e51 : M 51 = M0 51 := hM.1 51 (by decide)
    have hb : 0 ≤ (i : Int) ∧ (i : Int) < ((4 : Nat) : Int) := by omega
    have hW0 := hW (C it.1 - 84).toNat (by omega)
    -- first the table
    have A : ∃ M2 x2 B2, FS M M2 ∧ M2 49 40 = M 49 40 ∧ MS M2 x2 ∧ IS x2 B2 ∧ (∀ p, B2 p ↔ (B p ∨ (M0 51 (C it.1 - 84).toNat = 0 ∧ p = P it.1))) ∧ ∀ (G : q_M → Option (Option q_V × q_G × q_M)), q_cI (pq sc d 150 [.inr (.inr 49), .inl (M 64 i)] GF M) GF (fun x3 M2 => if x3 = 0 then (if 0 ≤ (i : Int) ∧ (i : Int) < ((4 : Nat) : Int) then q_c0 (pq sc d 179 [.inr (.inr 49), .inl (M2 65 i)] GF M2) GF G else none) else G M2) = G M2 := by
      have q1 := mk_isTable (sc := sc) (d := d) (M := M) (t := (C it.1 - 84).toNat) (by omega) (by omega)
      rw [e51, show (((C it.1 - 84).toNat : Nat) : Int) = C it.1 - 84 by omega] at q1
      have e64 := (hI.2 i it ho).2.1
      have e65 := (hI.2 i it ho).1
      by_cases g : 0 < M0 51 (C it.1 - 84).toNat
      · rw [if_pos g] at q1
        refine ⟨M, x, B, FS_r, rfl, hx, hB, fun p => ⟨Or.inl, fun hh => ?_⟩, fun G => ?_⟩
        · rcases hh with hh | ⟨h1, -⟩
          · exact hh
          · omega
        · rw [e64, q1, q_cI_s, if_neg (by decide)]
      · rw [if_neg g] at q1
        have k59 := (hS.1 it.1 (by omega)).2.1
        obtain ⟨M2, q2, f2, e2, hx2⟩ := mk_spot (sc := sc) (d := d) k59 (hP it.1) (by omega) hx (by omega)
        refine ⟨M2, _, _, f2, e2, hx2, IS_n hB (hP it.1), fun p => ?_, fun G => ?_⟩
        · constructor
          · rintro (hh | hh)
            · exact Or.inl hh
            · exact Or.inr ⟨by omega, hh⟩
          · rintro (hh | ⟨-, hh⟩)
            · exact Or.inl hh
            · exact Or.inr hh
        · rw [e64, q1, q_cI_s, if_pos rfl, if_pos hb, e65, q2, q_c0_s]
    obtain ⟨M2, x2, B2, f2, e2, hx2, hB2, hBB2, hA⟩ := A
    have hS2 := SM_fr hS f2
    -- then the alias
    have Bk : ∃ M4 x4 B4, FS M2 M4 ∧ M4 49 40 = M2 49 40 ∧ MS M4 x4 ∧ IS x4 B4 ∧ (∀ p, B4 p ↔ (B2 p ∨ (¬ itm C (its.map (·.1)) (C (it.1 + 1)) = i ∧ p = P (it.1 + 1)))) ∧ ∀ (G : q_M → Option (Option q_V × q_G × q_M)), q_cI (pq sc d 180 [.inr (.inr 49), .inl (q_w (M2 65 i + 1))] GF M2) GF (fun x5 M4 => if x5 < (i : Int) then (if 0 ≤ (i : Int) ∧ (i : Int) < ((4 : Nat) : Int) then q_c0 (pq sc d 179 [.inr (.inr 49), .inl (q_w (M4 65 i + 1))] GF M4) GF G else none) else G M4) = G M4 := by
      have q1 := mk_itemOf (sc := sc) (d := d) hS2 hT (tok := it.1 + 1) ⟨t3, t4⟩ (by omega) (by omega)
      have e65 := (hS2.2.2.1.2 i it ho).1
      have hle : itm C (its.map (·.1)) (C (it.1 + 1)) ≤ i := by
        rcases itm_s (C := C) (tl := its.map (·.1)) (a := C (it.1 + 1)) with ⟨k1, -⟩ | ⟨k, t, k1, k2, k3, k4⟩
        · omega
        · rcases Nat.lt_or_ge i k with hh | hh
          · exact absurd rfl (k4 i it.1 hh hot)
          · omega
      by_cases g : itm C (its.map (·.1)) (C (it.1 + 1)) = i
      · refine ⟨M2, x2, B2, FS_r, rfl, hx2, hB2, fun p => ⟨Or.inl, fun hh => ?_⟩, fun G => ?_⟩
        · rcases hh with hh | ⟨h1, -⟩
          · exact hh
          · exact absurd g h1
        · rw [e65, qw1 (by omega), q1, q_cI_s, if_neg (by omega)]
      · have k59 := (hS2.1 (it.1 + 1) (by omega)).2.1
        obtain ⟨M4, q2, f4, e4, hx4⟩ := mk_spot (sc := sc) (d := d) k59 (hP (it.1 + 1)) (by omega) hx2 (by omega)
        refine ⟨M4, _, _, f4, e4, hx4, IS_n hB2 (hP (it.1 + 1)), fun p => ?_, fun G => ?_⟩
        · constructor
          · rintro (hh | hh)
            · exact Or.inl hh
            · exact Or.inr ⟨g, hh⟩
          · rintro (hh | ⟨-, hh⟩)
            · exact Or.inl hh
            · exact Or.inr hh
        · rw [e65, qw1 (by omega), q1, q_cI_s, if_pos (by omega), if_pos hb, e65, qw1 (by omega), q2, q_c0_s]
    obtain ⟨M4, x4, B4, f4, e4, hx4, hB4, hBB4, hBk⟩ := Bk
    have hS4 := SM_fr hS2 f4
    -- then the condition
    have Ck : ∃ M6 x6 B6, FS M4 M6 ∧ M6 49 40 = M4 49 40 ∧ MS M6 x6 ∧ IS x6 B6 ∧ (∀ p, B6 p ↔ (B4 p ∨ (0 < i ∧ Br (M0 51) C P (its.map (·.1)) it.2.2.1 it.2.2.2 i p))) ∧ ∀ (G : q_M → Option (Option q_V × q_G × q_M)), (if 0 < (i : Int) then (if 0 ≤ (i : Int) ∧ (i : Int) < ((4 : Nat) : Int) then (if 0 ≤ (i : Int) ∧ (i : Int) < ((4 : Nat) : Int) then q_c0 (pq sc d 183 [.inr (.inr 49), .inl (M4 67 i), .inl (M4 68 i), .inl (i : Int)] GF M4) GF G else none) else none) else G M4) = G M6 := by
      by_cases g : 0 < i
      · obtain ⟨e67, e68⟩ := (hS4.2.2.1.2 i it ho).2.2.2 g
        have hRi := hR i it ho g
        obtain ⟨M6, x6, q6, f6, e6, hx6, hB6⟩ := mk_range (sc := sc) (d := d) (last := (i : Int)) hS4 hT hP hRi (fun j hj => hk j (by have := hRi.2.1; omega)) hx4 hB4 (by omega)
        have e451 : M4 51 = M0 51 := by rw [f4.1 51 (by decide), f2.1 51 (by decide)]; exact e51
        rw [e451] at hB6
        refine ⟨M6, x6, _, f6, e6, hx6, hB6, fun p => ?_, fun G => ?_⟩
        · constructor
          · rintro (hh | hh)
            · exact Or.inl hh
            · exact Or.inr ⟨g, hh⟩
          · rintro (hh | ⟨-, hh⟩)
            · exact Or.inl hh
            · exact Or.inr hh
        · rw [if_pos (by omega), if_pos hb, if_pos hb, e67, e68, q6, q_c0_s]
      · refine ⟨M4, x4, B4, FS_r, rfl, hx4, hB4, fun p => ⟨Or.inl, fun hh => ?_⟩, fun G => ?_⟩
        · rcases hh with hh | ⟨h1, -⟩
          · exact hh
          · exact absurd h1 g
        · rw [if_neg (by omega)]
    obtain ⟨M6, x6, B6, f6, e6, hx6, hB6, hBB6, hCk⟩ := Ck
    obtain ⟨K, M', x', q1, f1, e1, hx1, hI1⟩ := ih (i + 1) M6 x6 B6 (by omega) (FS_t hM (FS_t f2 (FS_t f4 f6))) hx6 hB6
    refine ⟨K + 1, M', x', fun F => ?_, FS_t f2 (FS_t f4 (FS_t f6 f1)), e1.trans (e6.trans (e4.trans e2)), hx1, IS_c hI1 (fun p => ?_)⟩
    · refine Eq.trans (sg_X12_checkAll_143.trans ?_) (q1 F)
      rw [hI.1, if_pos (by omega), if_pos hb, Int.toNat_natCast, qw1 (by omega)]
      have e := hA (fun M9 => if 0 ≤ (i : Int) ∧ (i : Int) < ((4 : Nat) : Int) then q_cI (pq sc d 180 [.inr (.inr 49), .inl (q_w (M9 65 i + 1))] GF M9) GF (fun x5 M4 => if x5 < (i : Int) then (if 0 ≤ (i : Int) ∧ (i : Int) < ((4 : Nat) : Int) then q_c0 (pq sc d 179 [.inr (.inr 49), .inl (q_w (M4 65 i + 1))] GF M4) GF (fun M13 => if 0 < (i : Int) then (if 0 ≤ (i : Int) ∧ (i : Int) < ((4 : Nat) : Int) then (if 0 ≤ (i : Int) ∧ (i : Int) < ((4 : Nat) : Int) then q_c0 (pq sc d 183 [.inr (.inr 49), .inl (M13 67 i), .inl (M13 68 i), .inl (i : Int)] GF M13) GF (fun M14 => pr sc (pq sc d) 185 (F + K) 143 [some (.inr (.inr 49)), some (.inl ((i + 1 : Nat) : Int))] [] M14) else none) else none) else pr sc (pq sc d) 185 (F + K) 143 [some (.inr (.inr 49)), some (.inl ((i + 1 : Nat) : Int))] [] M13) else none) else (if 0 < (i : Int) then (if 0 ≤ (i : Int) ∧ (i : Int) < ((4 : Nat) : Int) then (if 0 ≤ (i : Int) ∧ (i : Int) < ((4 : Nat) : Int) then q_c0 (pq sc d 183 [.inr (.inr 49), .inl (M4 67 i), .inl (M4 68 i), .inl (i : Int)] GF M4) GF (fun M14 => pr sc (pq sc d) 185 (F + K) 143 [some (.inr (.inr 49)), some (.inl ((i + 1 : Nat) : Int))] [] M14) else none) else none) else pr sc (pq sc d) 185 (F + K) 143 [some (.inr (.inr 49)), some (.inl ((i + 1 : Nat) : Int))] [] M4)) else none)
      refine Eq.trans e ?_
      rw [if_pos hb]
      refine Eq.trans (hBk (fun M13 => if 0 < (i : Int) then (if 0 ≤ (i : Int) ∧ (i : Int) < ((4 : Nat) : Int) then (if 0 ≤ (i : Int) ∧ (i : Int) < ((4 : Nat) : Int) then q_c0 (pq sc d 183 [.inr (.inr 49), .inl (M13 67 i), .inl (M13 68 i), .inl (i : Int)] GF M13) GF (fun M14 => pr sc (pq sc d) 185 (F + K) 143 [some (.inr (.inr 49)), some (.inl ((i + 1 : Nat) : Int))] [] M14) else none) else none) else pr sc (pq sc d) 185 (F + K) 143 [some (.inr (.inr 49)), some (.inl ((i + 1 : Nat) : Int))] [] M13)) ?_
      exact hCk (fun M14 => pr sc (pq sc d) 185 (F + K) 143 [some (.inr (.inr 49)), some (.inl ((i + 1 : Nat) : Int))] [] M14)
    · have bb : ∀ p, B6 p ↔ (B p ∨ Bm2 (M0 51) C P its i p) := by
        intro p
        rw [hBB6, hBB4, hBB2]
        unfold Bm2 BI
        constructor
        · rintro (((hh | hh) | hh) | ⟨h1, h2⟩)
          · exact Or.inl hh
          · exact Or.inr (Or.inl ⟨it.1, hot, Or.inl hh⟩)
          · exact Or.inr (Or.inl ⟨it.1, hot, Or.inr hh⟩)
          · exact Or.inr (Or.inr ⟨h1, it, ho, h2⟩)
        · rintro (hh | ⟨t, ht, hh⟩ | ⟨h1, it', ht, h2⟩)
          · exact Or.inl (Or.inl (Or.inl hh))
          · rw [hot] at ht; cases ht
            rcases hh with hh | hh
            · exact Or.inl (Or.inl (Or.inr hh))
            · exact Or.inl (Or.inr hh)
          · rw [ho] at ht; cases ht
            exact Or.inr ⟨h1, h2⟩
      constructor
      · rintro (hh | ⟨j, hj, hh⟩)
        · rcases (bb p).mp hh with hh | hh
          · exact Or.inl hh
          · exact Or.inr ⟨i, Nat.le_refl _, hh⟩
        · exact Or.inr ⟨j, by omega, hh⟩
      · rintro (hh | ⟨j, hj, hh⟩)
        · exact Or.inl ((bb p).mpr (Or.inl hh))
        · by_cases e : j = i
          · subst e; exact Or.inl ((bb p).mpr (Or.inr hh))
          · exact Or.inr ⟨j, by omega, hh⟩
theorem ma_groups {sc : List Int} {d : Nat} {M0 : q_M} {C P N : Nat → Int} {q : Nat} {its : List aIt} {ous : List aOu} {gts : List Nat} {wf wt : Nat} (h : SM M0 C P N q its ous gts wf wt) (hT : TIq C q (its.map (·.1))) (hP : PN P) (hg : ∀ t ∈ gts, CT C q t) (hg3 : gts.length ≤ 3) (hd : 4 ≤ d) : ∀ (m i : Nat) (M : q_M) (x : Int) (B : Int → Prop), i + m = gts.length → FS M0 M → MS M x → IS x B → ∃ F M' x', pr sc (pq sc d) 185 F 247 [some (.inr (.inr 49)), some (.inl (i : Int))] [] M = some (none, GF, M') ∧ FS M M' ∧ M' 49 40 = M 49 40 ∧ MS M' x' ∧ IS x' (fun p => B p ∨ ∃ j t, i ≤ j ∧ gts[j]? = some t ∧ bc (M0 51) C (its.map (·.1)) t (its.map (·.1)).length ∧ p = P t) := by
  intro m
  induction m with
  | zero =>
    intro i M x B hi hM hx hB
    have hS := SM_fr h hM
    refine ⟨0 + 1, M, x, sg_X12_checkAll_247.trans ?_, FS_r, rfl, hx, IS_c hB (fun p => ⟨Or.inl, fun hh => ?_⟩)⟩
    · rw [hS.2.2.2.2.1.1, if_neg (by omega)]
    · rcases hh with hh | ⟨j, t, hj, ht, -⟩
      · exact hh
      · have := (List.getElem?_eq_some_iff.mp ht).1; omega
  | succ m ih =>
    intro i M x B hi hM hx hB
    have hS := SM_fr h hM
    have hG := hS.2.2.2.2.1
    have ho : gts[i]? = some gts[i] := List.getElem?_eq_getElem (by omega)
    generalize gts[i] = t at ho
    have e69 := hG.2 i t ho
    have e26 : M 49 26 = ((its.map (·.1)).length : Int) := by rw [List.length_map]; exact hS.2.2.1.1
    obtain ⟨M1, x1, q1, f1, e1, hx1, hB1⟩ := mk_column (sc := sc) (d := d) (last := ((its.map (·.1)).length : Int)) hS hT hP (hg t (List.mem_of_getElem? ho)) hx hB (by omega)
    rw [hM.1 51 (by decide)] at hB1
    obtain ⟨F, M', x', q2, f2, e2, hx2, hB2⟩ := ih (i + 1) M1 x1 _ (by omega) (FS_t hM f1) hx1 hB1
    refine ⟨F + 1, M', x', sg_X12_checkAll_247.trans ?_, FS_t f1 f2, e2.trans e1, hx2, IS_c hB2 (fun p => ?_)⟩
    · rw [hG.1, if_pos (by omega), if_pos (by omega), Int.toNat_natCast, e69, e26, q1, q_c0_s, qw1 (by omega), q2]
    · constructor
      · rintro ((hh | ⟨h1, h2⟩) | ⟨j, t', h1, h2⟩)
        · exact Or.inl hh
        · exact Or.inr ⟨i, t, Nat.le_refl _, ho, h1, h2⟩
        · exact Or.inr ⟨j, t', by omega, h2⟩
      · rintro (hh | ⟨j, t', h1, h2, h3⟩)
        · exact Or.inl (Or.inl hh)
        · by_cases e : j = i
          · subst e
            rw [ho] at h2; cases h2
            exact Or.inl (Or.inr h3)
          · exact Or.inr ⟨j, t', by omega, h2, h3⟩
/-- all that the model finds ill -/
def Bm (W C P : Nat → Int) (its : List aIt) (ous : List aOu) (gts : List Nat) (wf wt : Nat) (p : Int) : Prop := (∃ j, Bm1 W C P (its.map (·.1)) gts ous j p) ∨ (∃ j, Bm2 W C P its j p) ∨ Br W C P (its.map (·.1)) wf wt (its.map (·.1)).length p ∨ (∃ t ∈ gts, bc W C (its.map (·.1)) t (its.map (·.1)).length ∧ p = P t)
theorem mx_check {sc : List Int} {d : Nat} {M : q_M} {C P N : Nat → Int} {q : Nat} {its : List aIt} {ous : List aOu} {gts : List Nat} {wf wt : Nat} (h : SM M C P N q its ous gts wf wt) (hT : TIq C q (its.map (·.1))) (hP : PN P) (hk : ∀ i, i ≤ q → kR (C i)) (hK : KO C q ous) (hg : ∀ t ∈ gts, CT C q t) (hg3 : gts.length ≤ 3) (hR : ∀ i it, its[i]? = some it → 0 < i → RG C q it.2.2.1 it.2.2.2) (hRw : RG C q wf wt) (hW : ∀ t, t < 3 → 0 ≤ M 51 t) (h12 : M 49 12 = 0) (hd : 6 ≤ d) : ∃ M' x, pq sc d 185 [.inr (.inr 49)] GF M = some (none, GF, M') ∧ FS M M' ∧ ((M' 49 40 = 1 ∧ gth ous gts.length) ∨ (M' 49 40 = 0 ∧ ¬ gth ous gts.length)) ∧ MS M' x ∧ IS x (Bm (M 51) C P its ous gts wf wt) := by
  have hG := h.2.2.2.2.1
  have s0 : ∃ M0, (∀ F, pr sc (pq sc (d - 1)) 185 (F + 1) 0 [some (.inr (.inr 49)), none] [] M = pr sc (pq sc (d - 1)) 185 F 18 [some (.inr (.inr 49)), some (.inl 0)] [] M0) ∧ FS M M0 ∧ M0 49 12 = 0 ∧ ((M0 49 40 = 1 ∧ (0 < gts.length ∨ ∃ (j : Nat) (o : aOu), j < 0 ∧ ous[j]? = some o ∧ ¬ o.1 = 275)) ∨ (M0 49 40 = 0 ∧ ¬ (0 < gts.length ∨ ∃ (j : Nat) (o : aOu), j < 0 ∧ ous[j]? = some o ∧ ¬ o.1 = 275))) := by
    by_cases g : 0 < gts.length
    · refine ⟨q_up M 49 40 1, fun F => sg_X12_checkAll_0.trans ?_, ⟨fun a ha => q_upf ha, fun j _ _ h3 => q_up_sn h3⟩, (q_up_sn (by decide)).trans h12, Or.inl ⟨q_up_s, Or.inl g⟩⟩
      rw [hG.1, if_pos (by omega)]
    · refine ⟨q_up M 49 40 0, fun F => sg_X12_checkAll_0.trans ?_, ⟨fun a ha => q_upf ha, fun j _ _ h3 => q_up_sn h3⟩, (q_up_sn (by decide)).trans h12, Or.inr ⟨q_up_s, fun hh => ?_⟩⟩
      · rw [hG.1, if_neg (by omega)]
      · rcases hh with hh | ⟨j, o, hh, -⟩
        · exact g hh
        · omega
  obtain ⟨M0, q0, f0, z0, g0⟩ := s0
  obtain ⟨K1, M1, q1, f1a, f1b, g1⟩ := ma_gth (sc := sc) (d := d - 1) h hK ous.length 0 M0 (by omega) f0 g0
  have f1 : FS M M1 := FS_t f0 ⟨f1a, fun j _ _ h3 => f1b j h3⟩
  have z1 : M1 49 12 = 0 := (f1b 12 (by decide)).trans z0
  obtain ⟨K2, M2, x2, q2, f2, e2, hx2, hB2⟩ := ma_outs (sc := sc) (d := d - 1) h hT hP hK hg hg3 (by omega) ous.length 0 M1 (-1) (fun _ => False) (by omega) f1 g1 (Or.inl ⟨z1, rfl⟩) (Or.inl ⟨rfl, fun _ hh => hh⟩)
  obtain ⟨K3, M3, x3, q3, f3, e3, hx3, hB3⟩ := ma_items (sc := sc) (d := d - 1) h hT hP hk hR hW (by omega) its.length 0 M2 x2 _ (by omega) (FS_t f1 f2) hx2 hB2
  have hS3 := SM_fr h (FS_t f1 (FS_t f2 f3))
  obtain ⟨M4, x4, q4, f4, e4, hx4, hB4⟩ := mk_range (sc := sc) (d := d - 1) (last := ((its.map (·.1)).length : Int)) hS3 hT hP hRw (fun j hj => hk j (by have := hRw.2.1; omega)) hx3 hB3 (by omega)
  have e351 : M3 51 = M 51 := (FS_t f1 (FS_t f2 f3)).1 51 (by decide)
  rw [e351] at hB4
  obtain ⟨F5, M5, x5, q5, f5, e5, hx5, hB5⟩ := ma_groups (sc := sc) (d := d - 1) h hT hP hg hg3 (by omega) gts.length 0 M4 x4 _ (by omega) (FS_t f1 (FS_t f2 (FS_t f3 f4))) hx4 hB4
  rw [Int.natCast_zero] at q1 q2 q3 q5
  have e26 : M3 49 26 = ((its.map (·.1)).length : Int) := by rw [List.length_map]; exact hS3.2.2.1.1
  refine ⟨M5, x5, pq_e (by omega) (by decide) (Nat.le_of_ble_eq_true rfl) ⟨F5 + 1 + K3 + K2 + K1 + 1, ((q0 _).trans ((q1 _).trans ((q2 _).trans (q3 _)))).trans (sg_X12_checkAll_143.trans ?_)⟩, FS_t f1 (FS_t f2 (FS_t f3 (FS_t f4 f5))), ?_, hx5, IS_c hB5 (fun p => ?_)⟩
  · rw [hS3.2.2.1.1, if_neg (by omega), hS3.2.2.2.2.2.1, hS3.2.2.2.2.2.2, ← hS3.2.2.1.1, e26, q4, q_c0_s, q5]
  · rw [e5, e4, e3, e2]; exact g1
  · unfold Bm
    constructor
    · rintro ((((hh | ⟨j, -, hh⟩) | ⟨j, -, hh⟩) | hh) | ⟨j, t, -, h1, h2⟩)
      · exact absurd hh id
      · exact Or.inl ⟨j, hh⟩
      · exact Or.inr (Or.inl ⟨j, hh⟩)
      · exact Or.inr (Or.inr (Or.inl hh))
      · exact Or.inr (Or.inr (Or.inr ⟨t, List.mem_of_getElem? h1, h2⟩))
    · rintro (⟨j, hh⟩ | ⟨j, hh⟩ | hh | ⟨t, h1, h2⟩)
      · exact Or.inl (Or.inl (Or.inl (Or.inr ⟨j, Nat.zero_le _, hh⟩)))
      · exact Or.inl (Or.inl (Or.inr ⟨j, Nat.zero_le _, hh⟩))
      · exact Or.inl (Or.inr hh)
      · obtain ⟨j, hj, e⟩ := List.mem_iff_getElem.mp h1
        exact Or.inr ⟨j, t, Nat.zero_le _, by rw [List.getElem?_eq_getElem hj, e], h2⟩
