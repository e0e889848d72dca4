/-! compile and run -/
theorem st_compile {sc : List Int} {d dm : Nat} {X Y : q_M} (h : Rel X Y) (hd : 30 ≤ d) (hm9 : 20 ≤ dm) : ∃ X' Y' r rx, (∃ F, px sc (pq sc d) 139 [81] F 0 [some (.inr (.inr 0))] [] X = some rx) ∧ pq sc dm 188 [.inr (.inr 49)] GF Y = some (some (.inl r), GF, Y') ∧ Rel X' Y' ∧ CT9 X X' ∧ MT9 Y Y' ∧ ((rx = .inl (some (.inl r), GF, X') ∧ Y' 49 1 = 0) ∨ (rx = .inr (81, GF, X') ∧ Y' 49 1 = 1)) := by
  obtain ⟨h1, h2, ⟨len, t1, t2, t3, t4, t5⟩, h4, h5, h6, h7, h8, h9⟩ := h
  obtain ⟨n, C, P, N, S, X', rx, te, q1, cf, hq, hc⟩ := cc_compile (sc := sc) (d := d) (X := X) (T := X 10) (len := len) ⟨rfl, t2, t1, t5⟩ hd
  obtain ⟨Y', r, q2, mf, hm⟩ := cm_compile (sc := sc) (d := dm) (Y := Y) te t4 t3 h9 (fun t ht => (h1.1.1 t ht).2.2.2.2.1) hq (by omega)
  have rel : HQr X' Y' → X' 0 10 = Y' 49 11 → Rel X' Y' := fun hh e => ⟨TB_l h1 (fun a _ _ => cf.1 a (by omega) (by omega) (by omega)) (fun a _ _ => mf.1 a (by omega) (by omega)) (mf.1 76 (by decide) (by decide)), VL_l h2 (by rw [cf.1 6 (by decide) (by decide) (by decide)]) (cf.1 7 (by decide) (by decide) (by decide)) (cf.1 8 (by decide) (by decide) (by decide)) mf.2.1 (mf.1 55 (by decide) (by decide)) (mf.1 56 (by decide) (by decide)), ⟨0, by decide, cf.2.2.1, mf.2.2.2.1, fun i hi => by rw [mf.1 57 (by decide) (by decide), cf.1 10 (by decide) (by decide) (by decide)]; exact t4 i hi, fun i hi => by omega⟩, hh, e, by rw [cf.1 46 (by decide) (by decide) (by decide), mf.2.2.1]; exact h6, ⟨0, by decide, cf.2.2.2, mf.2.2.2.2.1, fun z => by omega⟩, ⟨mf.2.2.2.2.2.1, by have := mf.2.2.2.2.2.2; omega⟩, by rw [mf.1 50 (by decide) (by decide)]; exact h9⟩
  have ct : CT9 X X' := fun a ha => cf.1 a (by omega) (by omega) (by omega)
  have mt : MT9 Y Y' := fun a ha => mf.1 a (by omega) (by omega)
  rcases hc with ⟨c1, c2, c3, c4, c5⟩ | ⟨c1, x, c2, c3, c4⟩
  · rcases hm with ⟨m1, m2, m3, m4⟩ | ⟨m1, -⟩
    · exact ⟨X', Y', r, rx, q1, q2, rel (Or.inl ⟨c3, m3⟩) (c4.trans m4.symm), ct, mt, Or.inr ⟨c2, m2⟩⟩
    · rw [c1] at m1; cases m1
  · rcases hm with ⟨m1, -⟩ | ⟨m1, y, m2, m3, m4⟩
    · rw [c1] at m1; cases m1
    · have hQ := qF c1
      have hTI : TI C (qTl C) := fun t ht => by have := hQ.1.2 t ht; exact ⟨this.1, this.2.1, this.2.2.1, this.2.2.2.1⟩
      have m2' : IS y (BB (Y 51) C (Pn n P) (qTl C) (qOps C) (qO C).2.2.1 (qG C).2.2) := IS_c m2 (fun p => (BB_Bm hQ p).symm)
      have c2' : IS x (BB (Y 51) C (Pn n P) (qTl C) (qOps C) (qO C).2.2.1 (qG C).2.2) := IS_c c2 (fun p => ⟨BB_W hTI (fun t ht => (h1.1.1 t ht).1) p, BB_W hTI (fun t ht => (h1.1.1 t ht).1.symm) p⟩)
      have exy : x = y := IS_u c2' m2'
      subst exy
      have e10 : X' 0 10 = Y' 49 11 := c3.trans m3.symm
      rcases c4 with ⟨z, e1, e2, e3⟩ | ⟨z, e1, e2⟩
      · rcases m4 with ⟨-, f1, f2, f3, ls, tp, md, f4, f5⟩ | ⟨z', -⟩
        · have hnb : NBd (Y 51) C := NB_of (P := Pn n P) (fun p hp => by
            rcases c2' with ⟨-, hh⟩ | ⟨hh, -⟩
            · exact hh p hp
            · omega)
          have hk : ∀ i, i ≤ (aQ C).2 → kR (C i) := fun i hi => te.2.2.2.2.2.2.2.2.2.2.1 i (by have := hq c1; omega)
          have rs : RS X' Y' C (Pn n P) N ls tp md := ⟨c1, hQ, hk, e3, f4, f5, by rw [mf.1 51 (by decide) (by decide)]; exact hnb, NW_l h1.2.2.1 (mf.1 76 (by decide) (by decide)) (mf.1 54 (by decide) (by decide))⟩
          exact ⟨X', Y', r, rx, q1, q2, rel (Or.inr ⟨e2, f3, C, Pn n P, N, ls, tp, md, rs⟩) e10, ct, mt, Or.inl ⟨by rw [e1, f1], f2⟩⟩
        · exact absurd z z'
      · rcases m4 with ⟨z', -⟩ | ⟨-, f2, f3⟩
        · exact absurd z' z
        · exact ⟨X', Y', r, rx, q1, q2, rel (Or.inl ⟨e2, f3⟩) e10, ct, mt, Or.inr ⟨e1, f2⟩⟩
theorem st_run {sc : List Int} {d dm : Nat} {X Y : q_M} (h : Rel X Y) (hd : 20 ≤ d) (hm9 : 20 ≤ dm) : ∃ X' Y' r rx, (∃ F, px sc (pq sc d) 141 [7, 35] F 0 [some (.inr (.inr 0))] [] X = some rx) ∧ pq sc dm 208 [.inr (.inr 49)] GF Y = some (some (.inl r), GF, Y') ∧ Rel X' Y' ∧ CT9 X X' ∧ MT9 Y Y' ∧ ((rx = .inl (some (.inl r), GF, X') ∧ Y' 49 1 = 0) ∨ (rx = .inr (7, GF, X') ∧ Y' 49 1 = 1) ∨ (rx = .inr (35, GF, X') ∧ Y' 49 1 = 2)) := by
  have h' := h
  obtain ⟨h1, h2, h3, h4, h5, h6, h7, h8, h9⟩ := h'
  rcases h4 with ⟨g1, g2⟩ | ⟨g1, g2, C, P, N, ls, tp, md, rs⟩
  · have f1 := mk_fail (sc := sc) (d := dm - 1) (Y := q_up Y 49 1 0) (w := 1) (by omega)
    refine ⟨X, q_up (q_up Y 49 1 0) 49 1 1, 0, _, ⟨0 + 1, sgx_X11_run_0.trans ?_⟩, (pq_e (by omega) (by decide) (Nat.le_of_ble_eq_true rfl) ⟨0 + 1, sg_X12_run_0.trans ?_⟩), Rel_s (Rel_s h), fun _ _ => rfl, fun a ha => by rw [q_upf (by omega), q_upf (by omega)], Or.inr (Or.inl ⟨rfl, q_up_s⟩)⟩
    · rw [if_pos g1]
    · rw [if_pos g2, f1, q_cI_s]
  · obtain ⟨X1, Y', x, r, q1, q2, rs1, gx, gz, sn, hx⟩ := ev_runs (sc := sc) (d := d) (dm := dm) rs h1.1 h1.2.1 (by omega) (by omega) (by omega)
    have g : ∀ a, ¬ a = 22 → ¬ a = 23 → ¬ a = 32 → ¬ (43 ≤ a ∧ a ≤ 48) → X1 a = X a := gx
    have mt : MT9 Y Y' := fun a ha => gz.1 a (by omega) (by omega)
    -- whatever the result is
    have rel : ∀ X2 : q_M, GX X1 X2 → (∀ a, ¬ (43 ≤ a ∧ a ≤ 45) → X2 a = X1 a) → RAr X2 Y' → Rel X2 Y' := fun X2 g12 w ra => by
      have gx2 := GX_t gx g12
      have g2' : ∀ a, ¬ a = 22 → ¬ a = 23 → ¬ a = 32 → ¬ (43 ≤ a ∧ a ≤ 48) → X2 a = X a := gx2
      have rs2 : RS X2 Y' C P N ls tp md := RS_fr rs1 g12 (fun i y _ _ => by rw [w 22 (by decide), w 23 (by decide)]; exact ⟨rfl, rfl⟩) GY_r rs1.2.2.2.2.2.2.2
      refine ⟨⟨DB_z h1.1 gx2 gz, RN_z h1.2.1 gz, rs1.2.2.2.2.2.2.2, ?_, ?_⟩, VL_l h2 (by rw [g2' 6 (by decide) (by decide) (by decide) (by decide)]) (g2' 7 (by decide) (by decide) (by decide) (by decide)) (g2' 8 (by decide) (by decide) (by decide) (by decide)) (gz.2 6 (by decide) (by decide) (by decide) (by decide) (by decide)) (gz.1 55 (by decide) (by decide)) (gz.1 56 (by decide) (by decide)), TX_l h3 (by rw [g2' 9 (by decide) (by decide) (by decide) (by decide)]) (g2' 10 (by decide) (by decide) (by decide) (by decide)) (gz.2 9 (by decide) (by decide) (by decide) (by decide) (by decide)) (gz.1 57 (by decide) (by decide)), Or.inr ⟨by rw [g2' 0 (by decide) (by decide) (by decide) (by decide)]; exact g1, by rw [gz.2 22 (by decide) (by decide) (by decide) (by decide) (by decide)]; exact g2, C, P, N, ls, tp, md, rs2⟩, ?_, ?_, ra, ?_, ?_⟩
      · rw [g2' 5 (by decide) (by decide) (by decide) (by decide)]; exact h1.2.2.2.1
      · rw [gz.1 51 (by decide) (by decide), gz.1 52 (by decide) (by decide)]; exact h1.2.2.2.2
      · rw [g2' 0 (by decide) (by decide) (by decide) (by decide), gz.2 11 (by decide) (by decide) (by decide) (by decide) (by decide)]; exact h5
      · rw [w 46 (by decide)]; exact sn
      · rw [gz.2 26 (by decide) (by decide) (by decide) (by decide) (by decide)]; exact h8
      · rw [gz.1 50 (by decide) (by decide)]; exact h9
    rcases hx with ⟨rfl, r1, y1, n, an⟩ | ⟨rfl, r1, y1, y49⟩
    · obtain ⟨a1, a2, a3, a4, a5, -⟩ := an
      have q3 := sp_aheight (sc := sc) (d := d) (M := X1) (by omega)
      refine ⟨X1, Y', r, .inl (some (.inl (X1 43 3)), GF, X1), ⟨0 + 1, sgx_X11_run_0.trans ?_⟩, q2, rel X1 GX_r (fun _ _ => rfl) ⟨n, a1, a2, a3, fun _ => ⟨(qO C).2.2.1.length, rs.2.1.2.1.1, a4, rs1.2.2.2.2.1.1.2.2.2.1.1, fun r k hr hk => ?_⟩⟩, fun a ha => g a (by omega) (by omega) (by omega) (by omega), mt, Or.inl ⟨?_, y1⟩⟩
      · rw [if_neg (by omega), q1, q_cI_s, if_neg (by decide), q3, q_cI_s]
      · obtain ⟨b1, b2, b3, b4, -⟩ := a5 r k _ hr (List.getElem?_eq_getElem hk)
        exact ⟨b1, b2, b3, b4⟩
      · rw [r1, a2, a3]
    · have q3 := sp_aclear (sc := sc) (d := d) (X := X1) (w := 0) (by omega)
      refine ⟨q_up (q_up X1 43 2 0) 43 3 0, Y', r, _, ⟨0 + 1, sgx_X11_run_0.trans ?_⟩, q2, rel _ (fun a _ _ _ e => by rw [q_upf (by omega), q_upf (by omega)]) (fun a e => by rw [q_upf (by omega), q_upf (by omega)]) ⟨0, by decide, q_up_s, y49, fun z => by omega⟩, fun a ha => by rw [q_upf (by omega), q_upf (by omega)]; exact g a (by omega) (by omega) (by omega) (by omega), mt, Or.inr (Or.inr ⟨rfl, y1⟩)⟩
      rw [if_neg (by omega), q1, q_cI_s, if_pos rfl, q3, q_c0_s]
