theorem STp_c {M : q_M} {s : Nat} {x : Int × Int × Int} {b : List (Int × Int × Int)} (h : STp M s (x :: b)) : (s < 130 ∧ M 25 s = x.1) ∧ STp M (s + 1) b := by
  have h0 := h 0 x rfl
  refine ⟨⟨h0.1, h0.2.1⟩, fun i y hy => ?_⟩
  have := h (i + 1) y (by simpa using hy)
  rw [show s + (i + 1) = s + 1 + i by omega] at this
  exact this
theorem XP_s {sc : List Int} {d : Nat} {M0 : q_M} {C ob on : Nat → Int} (hd : 3 ≤ d) {f : Nat} (ih : XP sc d M0 C ob on f) : XP sc d M0 C ob on (f + 1) := by
  intro md o p u s q st ot pt e h M hr hO hS he hM hh
  unfold aC at hr
  refine ⟨fun hmd => ?_, fun hmd g hg hM2 => ?_, fun hmd g hg hM2 => ?_⟩
  · rcases (show md = 0 ∨ md = 1 ∨ md = 2 by omega) with rfl | rfl | rfl
    · rw [if_pos rfl] at hr
      unfold aV
      rw [if_pos rfl]
      by_cases c1 : C p = 272
      · rw [if_pos c1] at hr ⊢
        split at hr
        · cases hr
        · rcases aBd_s hr with ⟨q1, st1, ot1, pt1, e1, e2⟩ | ⟨q1, st1, ot1, pt1, e1, e2⟩
          · cases e2
          · cases e2
            obtain ⟨S1, S2⟩ := STp_a hS
            obtain ⟨⟨s1, s2⟩, -⟩ := STp_c S2
            simp only [List.length_append, List.length_singleton] at he hh
            obtain ⟨K, M1, k1, k2, k3, k4⟩ := (ih 0 _ _ u s _ _ _ _ e h M e1 hO S1 (by omega) hM (by omega)).1 (by omega)
            have hv := aV_r (C := C) (ob := ob) (on := on) f 0 (p + 1)
            have s2' : M1 25 (s + st1.length) = 272 := by rw [k2 25 (by decide)]; exact s2
            refine ⟨K + 1, q_up M1 32 h (2 - M1 32 h), fun F => ?_, fun a ha => (q_upf ha).trans (k2 a ha), fun j hj => (q_up_sn (by omega)).trans (k3 j hj), ?_⟩
            · rw [show F + (K + 1) = (F + 1) + K by omega, k1 (F + 1), ex_not (by omega) s1 (by omega) s2' (by rw [k4]; exact hv) (by omega), List.length_append, List.length_singleton, ← Nat.add_assoc]
            · rw [q_up_s, k4]
      · rw [if_neg c1] at hr ⊢
        by_cases c2 : C p = 40
        · rw [if_pos c2] at hr ⊢
          split at hr
          · cases hr
          · rcases aBd_s hr with ⟨q1, st1, ot1, pt1, e1, e2⟩ | ⟨q1, st1, ot1, pt1, e1, e2⟩
            · cases e2
            · split at e2
              · cases e2
                exact (ih 2 _ _ u s _ _ _ _ e h M e1 hO hS he hM hh).1 (by omega)
              · cases e2
        · rw [if_neg c2] at hr ⊢
          simp only [Option.some.injEq, Prod.mk.injEq] at hr
          obtain ⟨h1, h2, h3, h4, h5⟩ := hr
          rw [← h4] at hO
          obtain ⟨k, l, r, t1, t2, t3, t4, t5⟩ := cx_test (sc := sc) (d := d) (M := M) h1 (OV_fr hO (hM 22 (by decide)) (hM 23 (by decide))) (by omega)
          rw [← h3, t1] at hS he hh ⊢
          simp only [List.length_singleton] at he hh ⊢
          obtain ⟨s1, s2, s3, s4⟩ := hS 0 _ rfl
          rw [Nat.add_zero] at s1 s2 s3 s4
          refine ⟨0 + 1, q_up M 32 h (cv C ob on p), fun F => sg_X6_truthOf_9.trans ?_, fun a ha => (q_upf ha).trans (hM a ha), fun j hj => q_up_sn (by omega), q_up_s⟩
          rw [if_pos (by omega), if_pos (by omega), if_pos (by omega), Int.toNat_natCast, hM 25 (by decide), hM 26 (by decide), hM 27 (by decide), s2, s3, s4, if_neg t2, if_neg t3, if_neg t4, if_pos (by omega), if_pos (by omega), if_pos (by omega), t5, q_cI_s, if_pos (by omega), Int.toNat_natCast, qw1 (by omega), qw1 (by omega)]
    · rw [if_neg (by decide), if_pos rfl] at hr
      unfold aV
      rw [if_neg (by decide), if_pos rfl]
      rcases aBd_s hr with ⟨q1, st1, ot1, pt1, e1, e2⟩ | ⟨q1, st1, ot1, pt1, e1, e2⟩
      · cases e2
      · rcases aBd_s e2 with ⟨q3, st3, ot3, pt3, e3, e4⟩ | ⟨q3, st3, ot3, pt3, e3, e4⟩
        · cases e4
        · cases e4
          obtain ⟨S1, S2⟩ := STp_a hS
          obtain ⟨O1, O2⟩ := OV_a hO
          simp only [List.length_append] at he hh
          obtain ⟨K, M1, k1, k2, k3, k4⟩ := (ih 0 _ _ u s _ _ _ _ e h M e1 O1 S1 (by omega) hM (by omega)).1 (by omega)
          have hl3 := (aC_len _ _ _ _ _ _ _ _ _ _ e1).2.2.2.1 (by omega)
          obtain ⟨K3, M3, m1, m2, m3, m4⟩ := (ih 3 _ _ _ _ _ _ _ _ e (h + 1) M1 e3 O2 S2 (by omega) k2 (by omega)).2.1 rfl h rfl (by rw [k4]; exact (aV_r f 0 p).2)
          refine ⟨K3 + K, M3, fun F => ?_, m2, fun j hj => (m3 j hj).trans (k3 j hj), ?_⟩
          · rw [show F + (K3 + K) = F + K3 + K by omega, k1 (F + K3), m1 F, List.length_append, ← Nat.add_assoc]
          · rw [m4, k4, aV_q _ _ _ _ _ _ _ _ _ _ e1]
    · rw [if_neg (by decide), if_neg (by decide), if_pos rfl] at hr
      unfold aV
      rw [if_neg (by decide), if_neg (by decide), if_pos rfl]
      rcases aBd_s hr with ⟨q1, st1, ot1, pt1, e1, e2⟩ | ⟨q1, st1, ot1, pt1, e1, e2⟩
      · cases e2
      · rcases aBd_s e2 with ⟨q3, st3, ot3, pt3, e3, e4⟩ | ⟨q3, st3, ot3, pt3, e3, e4⟩
        · cases e4
        · cases e4
          obtain ⟨S1, S2⟩ := STp_a hS
          obtain ⟨O1, O2⟩ := OV_a hO
          simp only [List.length_append] at he hh
          obtain ⟨K, M1, k1, k2, k3, k4⟩ := (ih 1 _ _ u s _ _ _ _ e h M e1 O1 S1 (by omega) hM (by omega)).1 (by omega)
          have hl3 := (aC_len _ _ _ _ _ _ _ _ _ _ e1).2.2.2.1 (by omega)
          obtain ⟨K3, M3, m1, m2, m3, m4⟩ := (ih 4 _ _ _ _ _ _ _ _ e (h + 1) M1 e3 O2 S2 (by omega) k2 (by omega)).2.2 rfl h rfl (by rw [k4]; exact (aV_r f 1 p).1)
          refine ⟨K3 + K, M3, fun F => ?_, m2, fun j hj => (m3 j hj).trans (k3 j hj), ?_⟩
          · rw [show F + (K3 + K) = F + K3 + K by omega, k1 (F + K3), m1 F, List.length_append, ← Nat.add_assoc]
          · rw [m4, k4, aV_q _ _ _ _ _ _ _ _ _ _ e1]
  · subst hmd
    subst hg
    rw [if_neg (by decide), if_neg (by decide), if_neg (by decide), if_pos rfl] at hr
    unfold aV
    rw [if_neg (by decide), if_neg (by decide), if_neg (by decide), if_pos rfl]
    by_cases c1 : C p = 271
    · rw [if_pos c1] at hr ⊢
      rcases aBd_s hr with ⟨q1, st1, ot1, pt1, e1, e2⟩ | ⟨q1, st1, ot1, pt1, e1, e2⟩
      · cases e2
      · rcases aBd_s e2 with ⟨q3, st3, ot3, pt3, e3, e4⟩ | ⟨q3, st3, ot3, pt3, e3, e4⟩
        · cases e4
        · cases e4
          obtain ⟨S1, S2⟩ := STp_a hS
          obtain ⟨⟨s1, s2⟩, S3⟩ := STp_c S2
          obtain ⟨O1, O2⟩ := OV_a hO
          simp only [List.length_append, List.length_cons] at he hh
          obtain ⟨K, M1, k1, k2, k3, k4⟩ := (ih 0 _ _ u s _ _ _ _ e (g + 1) M e1 O1 S1 (by omega) hM (by omega)).1 (by omega)
          have s2' : M1 25 (s + st1.length) = 271 := by rw [k2 25 (by decide)]; exact s2
          have hl3 := (aC_len _ _ _ _ _ _ _ _ _ _ e1).2.2.2.1 (by omega)
          obtain ⟨K3, M3, m1, m2, m3, m4⟩ := (ih 3 _ _ _ _ _ _ _ _ e (g + 1) (q_up M1 32 g (min (M1 32 g) (M1 32 (g + 1)))) e3 O2 S3 (by omega) (fun a ha => (q_upf ha).trans (k2 a ha)) (by omega)).2.1 rfl g rfl (by rw [q_up_s, k3 g (by omega)]; omega)
          refine ⟨K3 + 1 + K, M3, fun F => ?_, m2, fun j hj => ?_, ?_⟩
          · rw [show F + (K3 + 1 + K) = F + K3 + 1 + K by omega, k1 (F + K3 + 1), ex_and (h := g) (by omega) s1 (by omega) s2' (by omega), m1 F, List.length_append, List.length_cons, show s + (st1.length + (st3.length + 1)) = s + st1.length + 1 + st3.length by omega]
          · rw [m3 j hj, q_up_sn (by omega), k3 j (by omega)]
          · rw [m4, q_up_s, k4, k3 g (by omega), aV_q _ _ _ _ _ _ _ _ _ _ e1]
            dsimp only
            omega
    · rw [if_neg c1] at hr ⊢
      cases hr
      refine ⟨0, M, fun F => rfl, hM, fun j hj => rfl, ?_⟩
      dsimp only
      omega
  · subst hmd
    subst hg
    rw [if_neg (by decide), if_neg (by decide), if_neg (by decide), if_neg (by decide)] at hr
    unfold aV
    rw [if_neg (by decide), if_neg (by decide), if_neg (by decide), if_neg (by decide)]
    by_cases c1 : C p = 270
    · rw [if_pos c1] at hr ⊢
      rcases aBd_s hr with ⟨q1, st1, ot1, pt1, e1, e2⟩ | ⟨q1, st1, ot1, pt1, e1, e2⟩
      · cases e2
      · rcases aBd_s e2 with ⟨q3, st3, ot3, pt3, e3, e4⟩ | ⟨q3, st3, ot3, pt3, e3, e4⟩
        · cases e4
        · cases e4
          obtain ⟨S1, S2⟩ := STp_a hS
          obtain ⟨⟨s1, s2⟩, S3⟩ := STp_c S2
          obtain ⟨O1, O2⟩ := OV_a hO
          simp only [List.length_append, List.length_cons] at he hh
          obtain ⟨K, M1, k1, k2, k3, k4⟩ := (ih 1 _ _ u s _ _ _ _ e (g + 1) M e1 O1 S1 (by omega) hM (by omega)).1 (by omega)
          have s2' : M1 25 (s + st1.length) = 270 := by rw [k2 25 (by decide)]; exact s2
          have hl3 := (aC_len _ _ _ _ _ _ _ _ _ _ e1).2.2.2.1 (by omega)
          obtain ⟨K3, M3, m1, m2, m3, m4⟩ := (ih 4 _ _ _ _ _ _ _ _ e (g + 1) (q_up M1 32 g (max (M1 32 g) (M1 32 (g + 1)))) e3 O2 S3 (by omega) (fun a ha => (q_upf ha).trans (k2 a ha)) (by omega)).2.2 rfl g rfl (by rw [q_up_s, k3 g (by omega)]; omega)
          refine ⟨K3 + 1 + K, M3, fun F => ?_, m2, fun j hj => ?_, ?_⟩
          · rw [show F + (K3 + 1 + K) = F + K3 + 1 + K by omega, k1 (F + K3 + 1), ex_or (h := g) (by omega) s1 (by omega) s2' (by omega), m1 F, List.length_append, List.length_cons, show s + (st1.length + (st3.length + 1)) = s + st1.length + 1 + st3.length by omega]
          · rw [m3 j hj, q_up_sn (by omega), k3 j (by omega)]
          · rw [m4, q_up_s, k4, k3 g (by omega), aV_q _ _ _ _ _ _ _ _ _ _ e1]
            dsimp only
            omega
    · rw [if_neg c1] at hr ⊢
      cases hr
      refine ⟨0, M, fun F => rfl, hM, fun j hj => rfl, ?_⟩
      dsimp only
      omega
theorem XP_all {sc : List Int} {d : Nat} {M0 : q_M} {C ob on : Nat → Int} (hd : 3 ≤ d) : ∀ f, XP sc d M0 C ob on f := by
  intro f
  induction f with
  | zero => intro md o p u s q st ot pt e h M hr; cases hr
  | succ f ih => exact XP_s hd ih
/-- the class's truth of steps -/
theorem cx_truth {sc : List Int} {d : Nat} {M : q_M} {C ob on : Nat → Int} {f md o p u s q : Nat} {st : List (Int × Int × Int)} {ot : List Nat} {pt : List (Nat × Nat)} (hr : aC C f md o p u s = some (true, q, st, ot, pt)) (hmd : md < 3) (hO : OV M ob on u ot) (hS : STp M s st) (hs : s + st.length ≤ 130) (hd : 4 ≤ d) : ∃ M', pq sc d 91 [.inr (.inr 24), .inl (s : Int), .inl ((s + st.length : Nat) : Int)] GF M = some (some (.inl (aV C ob on f md p).2), GF, M') ∧ ∀ a, ¬ a = 32 → M' a = M a := by
  obtain ⟨K, M', k1, k2, k3, k4⟩ := (XP_all (sc := sc) (d := d - 1) (M0 := M) (ob := ob) (on := on) (by omega) f md o p u s q st ot pt (s + st.length) 0 M hr hO hS (by omega) (fun _ _ => rfl) (by omega)).1 hmd
  refine ⟨M', (pq_e (by omega) (by decide) (Nat.le_of_ble_eq_true rfl) ⟨0 + 1 + K + 1, sg_X6_truthOf_0.trans ?_⟩), k2⟩
  rw [sp_max (by omega), q_cI_s, show max (s : Int) 0 = (s : Int) by omega]
  refine (k1 (0 + 1)).trans (sg_X6_truthOf_9.trans ?_)
  rw [if_neg (by omega), if_pos (by omega), if_pos (by decide)]
  show some (some (Sum.inl (M' 32 0)), GF, M') = _
  rw [k4]
