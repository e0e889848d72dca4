/-! compile, the model's side, and both -/
def MF (Y Y' : q_M) : Prop := (∀ a, ¬ (58 ≤ a ∧ a ≤ 72) → ¬ a = 49 → Y' a = Y a) ∧ Y' 49 6 = Y 49 6 ∧ Y' 49 47 = Y 49 47 ∧ Y' 49 9 = 0 ∧ Y' 49 49 = 0 ∧ 0 ≤ Y' 49 26 ∧ Y' 49 26 ≤ 3
theorem cm_compile {sc : List Int} {d : Nat} {Y : q_M} {T : Nat → Int} {len n : Nat} {C P N : Nat → Int} {S : Nat → Prop} (te : TE (T, len, N, eS T len) n C P S) (hT : TQ (Y 57) T) (hl : Y 49 9 = len) (hWD : WD (Y 50)) (h51 : ∀ t, t < 3 → 0 ≤ Y 51 t) (hq : (aQ C).1 = true → (aQ C).2 < n) (hd : 20 ≤ d) : ∃ Y' r, pq sc d 188 [.inr (.inr 49)] GF Y = some (some (.inl r), GF, Y') ∧ MF Y Y' ∧ (((aQ C).1 = false ∧ Y' 49 1 = 1 ∧ Y' 49 22 = 0 ∧ Y' 49 11 = P (aQ C).2) ∨ ((aQ C).1 = true ∧ ∃ x, IS x (Bm (Y 51) C (Pn n P) (qMi C) (qO C).2.2.1 (qG C).2.2 (qWf C) (qWt C)) ∧ Y' 49 11 = x ∧ ((x = -1 ∧ r = (qTl C).length ∧ Y' 49 1 = 0 ∧ Y' 49 22 = 1 ∧ ∃ ls tp md, QM Y' C (Pn n P) N ls ∧ WP C ls tp md) ∨ (¬ x = -1 ∧ Y' 49 1 = 1 ∧ Y' 49 22 = 0)))) := by
  generalize hY1 : q_up (q_up (q_up (q_up (q_up (q_up (q_up Y 49 1 0) 49 22 0) 49 49 0) 49 12 0) 49 14 0) 49 15 0) 49 16 0 = Y1
  have a0 : ∀ a, ¬ a = 49 → Y1 a = Y a := fun a e => by rw [← hY1, q_upf e, q_upf e, q_upf e, q_upf e, q_upf e, q_upf e, q_upf e]
  have a1 : ∀ j, ¬ j = 1 → ¬ j = 12 → ¬ j = 14 → ¬ j = 15 → ¬ j = 16 → ¬ j = 22 → ¬ j = 49 → Y1 49 j = Y 49 j := fun j e1 e2 e3 e4 e5 e6 e7 => by rw [← hY1, q_up_sn e5, q_up_sn e4, q_up_sn e3, q_up_sn e2, q_up_sn e7, q_up_sn e6, q_up_sn e1]
  have b1 : Y1 49 1 = 0 := by rw [← hY1, q_up_sn (by decide), q_up_sn (by decide), q_up_sn (by decide), q_up_sn (by decide), q_up_sn (by decide), q_up_sn (by decide), q_up_s]
  have b22 : Y1 49 22 = 0 := by rw [← hY1, q_up_sn (by decide), q_up_sn (by decide), q_up_sn (by decide), q_up_sn (by decide), q_up_sn (by decide), q_up_s]
  have b49 : Y1 49 49 = 0 := by rw [← hY1, q_up_sn (by decide), q_up_sn (by decide), q_up_sn (by decide), q_up_sn (by decide), q_up_s]
  have b12 : Y1 49 12 = 0 := by rw [← hY1, q_up_sn (by decide), q_up_sn (by decide), q_up_sn (by decide), q_up_s]
  have b14 : Y1 49 14 = 0 := by rw [← hY1, q_up_sn (by decide), q_up_sn (by decide), q_up_s]
  have b15 : Y1 49 15 = 0 := by rw [← hY1, q_up_sn (by decide), q_up_s]
  have b16 : Y1 49 16 = 0 := by rw [← hY1, q_up_s]
  have mp : MP (T, len, N, eS T len) n C P S Y1 0 0 := by
    refine ⟨⟨TQ_e (a0 57 (by decide)) hT, by rw [a0 50 (by decide)]; exact hWD⟩, by rw [a1 9 (by decide) (by decide) (by decide) (by decide) (by decide) (by decide) (by decide)]; exact hl, b12, b16, b15, Or.inl rfl, te.2.1, fun _ => ?_, fun i hi => by omega⟩
    rw [b14]
    have := te.1
    dsimp only at this ⊢
    rw [this]; rfl
  obtain ⟨Y2, q2, f2, r26, hc⟩ := mx_query (sc := sc) (d := d - 1) te mp (by omega)
  have c1 : Y2 49 1 = 0 := by rw [f2.2 1 (by decide) (by decide) (by decide) (by decide) (by decide)]; exact b1
  have c22 : Y2 49 22 = 0 := by rw [f2.2 22 (by decide) (by decide) (by decide) (by decide) (by decide)]; exact b22
  have c49 : Y2 49 49 = 0 := by rw [f2.2 49 (by decide) (by decide) (by decide) (by decide) (by decide)]; exact b49
  have c6 : Y2 49 6 = Y 49 6 := by rw [f2.2 6 (by decide) (by decide) (by decide) (by decide) (by decide), a1 6 (by decide) (by decide) (by decide) (by decide) (by decide) (by decide) (by decide)]
  have c47 : Y2 49 47 = Y 49 47 := by rw [f2.2 47 (by decide) (by decide) (by decide) (by decide) (by decide), a1 47 (by decide) (by decide) (by decide) (by decide) (by decide) (by decide) (by decide)]
  have c0 : ∀ a, ¬ (58 ≤ a ∧ a ≤ 69) → ¬ a = 49 → Y2 a = Y a := fun a e1 e2 => by rw [f2.1 a e1 e2, a0 a e2]
  rcases hc with ⟨hok, m12, hMK, hMO, hMI, hMG, h32, h33⟩ | ⟨hok, hIL⟩
  · have hqn := hq hok
    have hQ := qF hok
    have hn : n ≤ 131 := by have := te.2.2.2.1; have := te.2.2.1; dsimp only at *; omega
    have hk : ∀ i, i ≤ (aQ C).2 → kR (C i) := fun i hi => te.2.2.2.2.2.2.2.2.2.2.1 i (by omega)
    have hSM : SM Y2 C (Pn n P) N (aQ C).2 (qMi C) (qO C).2.2.1 (qG C).2.2 (qWf C) (qWt C) := by
      refine ⟨fun i hi => ?_, by omega, hMI, hMO, hMG, ?_, ?_⟩
      · rw [Pn_i (by omega)]; exact hMK i hi
      · rw [h32]; unfold qWf; split <;> rfl
      · rw [h33]; unfold qWt; split <;> rfl
    have hT' := TIq_m hQ
    have hA := hQ.2.2.2.2.1
    have hwt := hQ.2.2.2.2.2.1
    have hRw : RG C (aQ C).2 (qWf C) (qWt C) := by
      refine ⟨hA.1, hwt, fun t t1 t2 t3 t4 => ?_⟩
      have hm := hA.2.2 t t1 t2 t3 t4
      rcases (hA.2.1 t hm).2.2 with z | ⟨-, -, z3, z4, z5⟩
      · rcases z with z | z <;> omega
      · exact ⟨t3, t4, z3, z4, by omega⟩
    obtain ⟨Y3, x, q3, f3, g40, hMS, hIS⟩ := mx_check (sc := sc) (d := d - 1) hSM hT' (Pn_N te) hk hQ.2.1 (hQ.2.2.2.2.2.2.1.2) hQ.2.2.2.2.2.2.1.1 (fun i it hit hi => by
      obtain ⟨j, rfl⟩ : ∃ j, i = j + 1 := ⟨i - 1, by omega⟩
      have hit' : (qJ C).2.2.1[j]? = some it := by simpa [qMi] using hit
      exact (hQ.2.2.2.1.1 it (List.mem_of_getElem? hit')).2) hRw (by rw [c0 51 (by decide) (by decide)]; exact h51) m12 (by omega)
    rw [c0 51 (by decide) (by decide)] at hIS
    have hS3 := SM_fr hSM f3
    have pre : ∀ F, pr sc (pq sc (d - 1)) 188 (F + 1) 0 [some (.inr (.inr 49))] [] Y = if Y3 49 12 = 0 then q_c0 (pq sc (d - 1) 187 [.inr (.inr 49)] GF (q_up (q_up Y3 49 9 0) 49 11 (-1))) GF (fun M9 => some (some (.inl (M9 49 26)), GF, (q_up M9 49 22 1))) else q_cI (pq sc (d - 1) 149 [.inr (.inr 49), .inl (1)] GF (q_up (q_up Y3 49 9 0) 49 11 (Y3 49 13))) GF (fun x14 M13 => some (some (.inl (x14)), GF, M13)) := fun F => by
      refine sg_X12_compile_0.trans ?_
      rw [hY1, q2, q_c0_s, if_pos m12, q3, q_c0_s]
      by_cases z : Y3 49 12 = 0
      · rw [if_pos z, if_pos z, if_pos z]
      · rw [if_neg z, if_neg z, if_neg z]
    rcases hMS with ⟨z12, zx⟩ | ⟨z12, z13, zx⟩
    · -- nothing is ill
      generalize hY4 : q_up (q_up Y3 49 9 0) 49 11 (-1) = Y4
      have w0 : ∀ a, ¬ a = 49 → Y4 a = Y3 a := fun a e => by rw [← hY4, q_upf e, q_upf e]
      have w1 : ∀ j, ¬ j = 9 → ¬ j = 11 → Y4 49 j = Y3 49 j := fun j e1 e2 => by rw [← hY4, q_up_sn e2, q_up_sn e1]
      have w9 : Y4 49 9 = 0 := by rw [← hY4, q_up_sn (by decide), q_up_s]
      have w11 : Y4 49 11 = -1 := by rw [← hY4, q_up_s]
      have fr : ∀ M M' : q_M, (∀ a, ¬ a = 49 → M' a = M a) → (∀ j, ¬ j = 9 → ¬ j = 11 → ¬ j = 22 → M' 49 j = M 49 j) → SM M C (Pn n P) N (aQ C).2 (qMi C) (qO C).2.2.1 (qG C).2.2 (qWf C) (qWt C) → SM M' C (Pn n P) N (aQ C).2 (qMi C) (qO C).2.2.1 (qG C).2.2 (qWf C) (qWt C) := fun M M' e1 e2 hh => by
        obtain ⟨k1, k2, k3, k4, k5, k6, k7⟩ := hh
        refine ⟨?_, k2, MI_fr k3 (fun a _ _ => e1 a (by omega)) (e2 26 (by decide) (by decide) (by decide)), MO_fr k4 (e1 62 (by decide)) (e1 63 (by decide)) (e2 23 (by decide) (by decide) (by decide)), MG_fr k5 (e1 69 (by decide)) (e2 34 (by decide) (by decide) (by decide)), by rw [e2 32 (by decide) (by decide) (by decide)]; exact k6, by rw [e2 33 (by decide) (by decide) (by decide)]; exact k7⟩
        unfold MK at k1 ⊢
        rw [e1 58 (by decide), e1 59 (by decide), e1 60 (by decide)]; exact k1
      have hS4 := fr Y3 Y4 w0 (fun j e1 e2 _ => w1 j e1 e2) hS3
      have h6 := (aQ_ok hok).2.2.2.2.2.1
      have hcw : qWt C = qWf C ∨ aC C (599 + 1) 2 0 (qWf C) (qU C) (qJ C).2.2.2.1.length = some (true, qWt C, (qW C).2.2.1, (qW C).2.2.2.1, (qW C).2.2.2.2) := by
        by_cases z : C (qJ C).2.1 = 264
        · right
          have e : qW C = aCo C ((qJ C).2.1 + 1) (qU C) (qJ C).2.2.2.1.length := by unfold qW aW; rw [if_pos z]
          unfold qWf qWt
          rw [if_pos z, if_pos z]
          rw [e] at h6 ⊢
          exact aCo_c h6
        · left; unfold qWf qWt; rw [if_neg z, if_neg z]
      obtain ⟨Y5, ls, q5, f5, hPM, hWPc, hl40, hlz⟩ := mx_parts (sc := sc) (d := d - 1) hS4 hT' hk hwt (by omega) hcw
      rw [qMi_t] at hPM
      have hS5 := SM_ff hS4 f5
      generalize hY6 : q_up Y5 49 22 1 = Y6
      have v0 : ∀ a, ¬ a = 49 → Y6 a = Y5 a := fun a e => by rw [← hY6, q_upf e]
      have v1 : ∀ j, ¬ j = 22 → Y6 49 j = Y5 49 j := fun j e => by rw [← hY6, q_up_sn e]
      have s5 : ∀ j, ¬ j = 9 → ¬ j = 11 → ¬ j = 12 → ¬ j = 13 → ¬ j = 22 → ¬ j = 36 → ¬ j = 40 → Y6 49 j = Y2 49 j := fun j e1 e2 e3 e4 e5 e6 e7 => by rw [v1 j e5, f5.2 j e6, w1 j e1 e2, f3.2 j e3 e4 e7]
      have wp : ∃ tp md, WP C ls tp md := by
        rcases hWPc with ⟨z, rfl⟩ | ⟨z, ⟨b, g, l, k1, -, rfl⟩ | ⟨k1, rfl⟩⟩
        · have hno : ¬ C (qJ C).2.1 = 264 := fun z' => by
            unfold qWf qWt at z
            rw [if_pos z', if_pos z'] at z
            have e : qW C = aCo C ((qJ C).2.1 + 1) (qU C) (qJ C).2.2.2.1.length := by unfold qW aW; rw [if_pos z']
            rw [e] at h6 z
            have := (aCo_len h6).2.2.2
            omega
          have e : qW C = (true, (qJ C).2.1, [], [], []) := by unfold qW aW; rw [if_neg hno]
          refine ⟨[], 0, Or.inl rfl, rfl, ?_, by decide, fun z hz => by cases hz⟩
          rw [e]
          exact ⟨rfl, fun i x y hx => by cases hx⟩
        · refine ⟨_, 0, Or.inl rfl, rfl, k1, by simpa using hl40, fun y hy => ?_⟩
          have := hlz (y.1, y.2.1) (List.mem_map.mpr ⟨y, hy, rfl⟩)
          dsimp only at this
          omega
        · refine ⟨_, 2, Or.inr rfl, rfl, k1, by simp, fun y hy => ?_⟩
          rw [List.mem_singleton.mp hy]
          exact hwt
      obtain ⟨tp, md, wp⟩ := wp
      have r5 : Y5 49 26 = ((qTl C).length : Int) := by
        rw [hS5.2.2.1.1, ← qMi_t, List.length_map]
      refine ⟨Y6, ((qTl C).length : Int), pq_e (by omega) (by decide) (Nat.le_of_ble_eq_true rfl) ⟨0 + 1, (pre 0).trans ?_⟩, ⟨fun a e1 e2 => ?_, ?_, ?_, ?_, ?_, ?_⟩, Or.inr ⟨hok, x, hIS, ?_, Or.inl ⟨zx, rfl, ?_, ?_, ls, tp, md, ⟨?_, ?_, ?_⟩, wp⟩⟩⟩
      · rw [if_pos z12, hY4, q5, q_c0_s, r5, hY6]
      · rw [v0 a e2, f5.1 a (by omega) e2, w0 a e2, f3.1 a e2, c0 a (by omega) e2]
      · rw [s5 6 (by decide) (by decide) (by decide) (by decide) (by decide) (by decide) (by decide)]; exact c6
      · rw [s5 47 (by decide) (by decide) (by decide) (by decide) (by decide) (by decide) (by decide)]; exact c47
      · rw [v1 9 (by decide), f5.2 9 (by decide)]; exact w9
      · rw [s5 49 (by decide) (by decide) (by decide) (by decide) (by decide) (by decide) (by decide)]; exact c49
      · rw [s5 26 (by decide) (by decide) (by decide) (by decide) (by decide) (by decide) (by decide)]; exact r26
      · rw [v1 11 (by decide), f5.2 11 (by decide), w11, zx]
      · rw [s5 1 (by decide) (by decide) (by decide) (by decide) (by decide) (by decide) (by decide)]; exact c1
      · rw [← hY6, q_up_s]
      · exact fr Y5 Y6 v0 (fun j _ _ e => v1 j e) hS5
      · unfold PM at hPM ⊢
        rw [v1 36 (by decide), v0 70 (by decide), v0 71 (by decide), v0 72 (by decide)]; exact hPM
      · rw [v1 40 (by decide), f5.2 40 (by decide), w1 40 (by decide) (by decide)]; exact g40
    · have q5 := mk_fail (sc := sc) (d := d - 1) (Y := q_up (q_up Y3 49 9 0) 49 11 (Y3 49 13)) (w := 1) (by omega)
      generalize hY6 : q_up (q_up (q_up Y3 49 9 0) 49 11 (Y3 49 13)) 49 1 1 = Y6 at q5
      have v0 : ∀ a, ¬ a = 49 → Y6 a = Y3 a := fun a e => by rw [← hY6, q_upf e, q_upf e, q_upf e]
      have v1 : ∀ j, ¬ j = 9 → ¬ j = 11 → ¬ j = 1 → Y6 49 j = Y3 49 j := fun j e1 e2 e3 => by rw [← hY6, q_up_sn e3, q_up_sn e2, q_up_sn e1]
      refine ⟨Y6, 0, pq_e (by omega) (by decide) (Nat.le_of_ble_eq_true rfl) ⟨0 + 1, (pre 0).trans ?_⟩, ⟨fun a e1 e2 => ?_, ?_, ?_, ?_, ?_, ?_⟩, Or.inr ⟨hok, x, hIS, ?_, Or.inr ⟨by omega, ?_, ?_⟩⟩⟩
      · rw [if_neg (by omega), q5, q_cI_s]
      · rw [v0 a e2, f3.1 a e2, c0 a (by omega) e2]
      · rw [v1 6 (by decide) (by decide) (by decide), f3.2 6 (by decide) (by decide) (by decide)]; exact c6
      · rw [v1 47 (by decide) (by decide) (by decide), f3.2 47 (by decide) (by decide) (by decide)]; exact c47
      · rw [← hY6, q_up_sn (by decide), q_up_sn (by decide), q_up_s]
      · rw [v1 49 (by decide) (by decide) (by decide), f3.2 49 (by decide) (by decide) (by decide)]; exact c49
      · rw [v1 26 (by decide) (by decide) (by decide), f3.2 26 (by decide) (by decide) (by decide)]; exact r26
      · rw [← hY6, q_up_sn (by decide), q_up_s]; exact z13
      · rw [← hY6, q_up_s]
      · rw [v1 22 (by decide) (by decide) (by decide), f3.2 22 (by decide) (by decide) (by decide)]; exact c22
  · have q5 := mk_fail (sc := sc) (d := d - 1) (Y := q_up (q_up Y2 49 9 0) 49 11 (Y2 49 13)) (w := 1) (by omega)
    generalize hY6 : q_up (q_up (q_up Y2 49 9 0) 49 11 (Y2 49 13)) 49 1 1 = Y6 at q5
    have v0 : ∀ a, ¬ a = 49 → Y6 a = Y2 a := fun a e => by rw [← hY6, q_upf e, q_upf e, q_upf e]
    have v1 : ∀ j, ¬ j = 9 → ¬ j = 11 → ¬ j = 1 → Y6 49 j = Y2 49 j := fun j e1 e2 e3 => by rw [← hY6, q_up_sn e3, q_up_sn e2, q_up_sn e1]
    have z : ¬ Y2 49 12 = 0 := by rw [hIL.1]; decide
    refine ⟨Y6, 0, (pq_e (by omega) (by decide) (Nat.le_of_ble_eq_true rfl) ⟨0 + 1, sg_X12_compile_0.trans ?_⟩), ⟨fun a e1 e2 => ?_, ?_, ?_, ?_, ?_, ?_⟩, Or.inl ⟨hok, ?_, ?_, ?_⟩⟩
    · rw [hY1, q2, q_c0_s, if_neg z, if_neg z, if_neg z, q5, q_cI_s]
    · rw [v0 a e2, c0 a (by omega) e2]
    · rw [v1 6 (by decide) (by decide) (by decide)]; exact c6
    · rw [v1 47 (by decide) (by decide) (by decide)]; exact c47
    · rw [← hY6, q_up_sn (by decide), q_up_sn (by decide), q_up_s]
    · rw [v1 49 (by decide) (by decide) (by decide)]; exact c49
    · rw [v1 26 (by decide) (by decide) (by decide)]; exact r26
    · rw [← hY6, q_up_s]
    · rw [v1 22 (by decide) (by decide) (by decide)]; exact c22
    · rw [← hY6, q_up_sn (by decide), q_up_s]; exact hIL.2.1
