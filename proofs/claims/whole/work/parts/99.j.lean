/-! the law's three methods come to what the small machine says -/
theorem pq_all {l0 : Launch} {sc : List Int} (h1 : sc.length < 1000) (h2 : ∀ x ∈ sc, q_r x) : ∀ d mid, q_Sd l0 (pg_P sc) pg_NW pg_SR d (q_mm (pg_P sc) mid).2.1 (q_mm (pg_P sc) mid).2.2 (pg_ym mid) (pq sc d mid) :=
  q_all (fun mid g h d hd => by
    unfold pg_ex at h
    split at h
    · next e =>
      cases h
      subst e
      exact px_ci l0 (pg_P sc) pg_NW pg_SR d hd
    · cases h) (pg_Tb h1 h2) pg_MTok
theorem q_drx_th {orc : q_O} {P : q_P} {rt : Option FieldType} {mr : q_R} {th : List Nat} {pcx : Nat} {Gx : q_G} {Mx : q_M} : ∀ (F pc : Nat) (l : q_L) (st : List q_V) (G : q_G) (M : q_M), q_drx orc P rt mr th F pc l st G M = some (.inr (pcx, Gx, Mx)) → pcx ∈ th := by
  intro F
  induction F with
  | zero => intro pc l st G M h; cases h
  | succ F ih =>
    intro pc l st G M h
    unfold q_drx at h
    split at h
    · cases h
    · split at h
      · split at h
        · next hth =>
          split at h
          · cases h; exact hth
          · cases h
        · split at h
          · cases h
          · split at h
            · split at h
              · cases h
              · cases h
            · exact ih _ _ _ _ _ h
      · cases h
theorem lwc_o {x : Option q_Rx} {c : Nat → Int} {r : Option q_V} {G' : q_G} {M' : q_M} (h : lwc x c = some (r, G', M')) : (∃ (r0 : Int) (M1 : q_M), x = some (.inl (some (.inl r0), GF, M1)) ∧ r = some (.inl 0) ∧ G' = GF ∧ M' = q_up M1 81 0 r0) ∨ (∃ (pc : Nat) (M1 : q_M), x = some (.inr (pc, GF, M1)) ∧ r = some (.inl (c pc)) ∧ G' = GF ∧ M' = M1) := by
  unfold lwc at h
  split at h
  · next r0 G M1 =>
    by_cases hg : G = GF
    · rw [if_pos hg] at h
      subst hg
      simp only [Option.some.injEq, Prod.mk.injEq] at h
      exact Or.inl ⟨r0, M1, rfl, h.1.symm, h.2.1.symm, h.2.2.symm⟩
    · rw [if_neg hg] at h; cases h
  · next pc G M1 =>
    by_cases hg : G = GF
    · rw [if_pos hg] at h
      subst hg
      simp only [Option.some.injEq, Prod.mk.injEq] at h
      exact Or.inr ⟨pc, M1, rfl, h.1.symm, h.2.1.symm, h.2.2.symm⟩
    · rw [if_neg hg] at h; cases h
  · cases h
def cl_row (pc : Nat) : String := if pc = 82 then "java/lang/IllegalArgumentException" else "java/lang/IllegalStateException"
set_option maxRecDepth 20000 in
set_option maxHeartbeats 4000000 in
theorem lm_row_r {l0 : Launch} (hl0 : l0.stackTraces = false) {sc : List Int} (h1 : sc.length < 1000) (h2 : ∀ x ∈ sc, q_r x) {d : Nat} (hd : 10 ≤ d) {t : Int} {M M1 : q_M} {r0 : Int} (hF : ∃ F, px sc (pq sc d) 136 [82, 97] F 0 [some (.inr (.inr 0)), some (.inl t), none, none, none] [] M = some (.inl (some (.inl r0), GF, M1))) (D : va_G) (cT : Nat → ClassId) (ad : Nat → Nat) (hG : q_oG (pg_P sc) GF) (hM : q_oM GF M) (has : ∀ v ∈ ([.inr (.inr 0), .inl t, .inr (.inr 81)] : List q_V), q_ov GF.length v) (sz : Nat) : Met l0 (pg_ym 232).1 (q_mW (pg_ym 232)) (q_rm (d + 2) 1 6) (q_Pre (pg_P sc) pg_NW pg_SR D cT ad [.inr (.inr 0), .inl t, .inr (.inr 81)] GF M sz) (q_Post (pg_P sc) D cT ad GF M sz (some (.inl 0)) GF (q_up M1 81 0 r0)) 1 6 (va_A (q_ws (pg_P sc) cT ad GF M) sz) := by
  refine q_lmet (l0 := l0) (P := pg_P sc) (NW := pg_NW) (SR := pg_SR) (Rn := pg_Rn) (d := d) (orc := pq sc d) (ym := pg_ym) (mid := 232) (mx := 136) (hh := [(0, 9, 12, 13), (0, 9, 15, 15)]) (by decide +kernel) (I := pI_L_row) pK_L_row (by decide +kernel) (by decide +kernel) rfl (pg_Tb h1 h2) (pq_all h1 h2 d) (as := [.inr (.inr 0), .inl t, .inr (.inr 81)]) (as' := [.inl t]) (rest := [.inl 0, .inr (.inr 81)]) (a := 0) (G := GF) (M := M) (M2 := (q_up M1 81 0 r0)) (l1 := [some (.inr (.inr 0)), some (.inl t), some (.inr (.inr 81)), none]) (pcC := 4) (idx := 7) (sl := 0) (rs := [2, 7, 10, 12, 16, 42, 43, 44, 47, 0, 0]) (rx := (.inl (some (.inl r0), GF, M1))) (cl := cl_row) (k := 0) (Nat.le_of_ble_eq_true rfl) rfl (Nat.le_of_ble_eq_true rfl) rfl (pK_L_row.2 (4, .invokevirtual 7, 3) (List.mem_of_getElem? (i := 4) rfl)).1 (pt_in_ok (i := 451) (by decide +kernel)) (pt_in_ok (i := 452) (by decide +kernel)) (pt_in_ok (i := 453) (by decide +kernel)) (pt_in_ok (i := 1) (by decide +kernel)) (pt_in_ok (i := 454) (by decide +kernel)) (by decide +kernel) ⟨by decide +kernel, by decide +kernel, (show (parseMethodDescriptor (pg_ym 136).1.desc).map (fun d => d.parameters.length) = some 1 by decide +kernel)⟩ (Nat.le_of_ble_eq_true rfl) (by decide +kernel) ?_ ?_ ?_ D cT ad hG hM has sz
  · intro D cT ad sz
    refine q_vmet (mid := 136) (th := [82, 97]) (cl := cl_row) (MT := pg_MT) hl0 (pg_Tb h1 h2) (pq_all h1 h2 d) hd (by decide +kernel) (by decide +kernel) pK_X11_row (by decide +kernel) rfl (fun pc hpc => ?_) D cT ad (.inr (.inr 0) :: [.inl t]) GF M (.inl (some (.inl r0), GF, M1)) (Nat.le_of_ble_eq_true rfl) hF hG hM (fun v hv => has v (List.mem_append_left ([.inr (.inr 81)] : List q_V) hv)) sz
    have hpc : pc = 82 ∨ pc = 97 := by simpa using hpc
    rcases hpc with rfl | rfl
    · exact ⟨_, _, _, ps_row82⟩
    · exact ⟨_, _, _, ps_row97⟩
  · intro r G1 M9 h
    cases h
    exact ⟨rfl, r0, 19, [some (.inr (.inr 0)), some (.inl t), some (.inr (.inr 81)), none], rfl, (show q_den (pq sc d) (pg_P sc) false 1 6 13 pI_L_row [19] 1000 false (q_seek ((7 : Nat) : Int) pI_L_row) [some (.inr (.inr 0)), some (.inl t), some (.inr (.inr 81)), none] (.inl r0 :: [.inl 0, .inr (.inr 81)]) GF M1 1 6 = (if 0 ≤ (0 : Int) ∧ (0 : Int) < ((1 : Nat) : Int) then some (19, [some (.inr (.inr 0)), some (.inl t), some (.inr (.inr 81)), none], [.inl 0], GF, q_up M1 81 0 r0, 1, 6) else none) from rfl).trans (if_pos (by decide)), (pK_L_row.2 (19, .ireturn, 1) (List.mem_of_getElem? (i := 15) rfl)).1⟩
  · intro pcx G1 M9 h
    cases h
set_option maxRecDepth 20000 in
set_option maxHeartbeats 4000000 in
theorem lm_row_t {l0 : Launch} (hl0 : l0.stackTraces = false) {sc : List Int} (h1 : sc.length < 1000) (h2 : ∀ x ∈ sc, q_r x) {d : Nat} (hd : 10 ≤ d) {t : Int} {M M1 : q_M} {pc : Nat} (hF : ∃ F, px sc (pq sc d) 136 [82, 97] F 0 [some (.inr (.inr 0)), some (.inl t), none, none, none] [] M = some (.inr (pc, GF, M1))) (D : va_G) (cT : Nat → ClassId) (ad : Nat → Nat) (hG : q_oG (pg_P sc) GF) (hM : q_oM GF M) (has : ∀ v ∈ ([.inr (.inr 0), .inl t, .inr (.inr 81)] : List q_V), q_ov GF.length v) (sz : Nat) : Met l0 (pg_ym 232).1 (q_mW (pg_ym 232)) (q_rm (d + 2) 1 6) (q_Pre (pg_P sc) pg_NW pg_SR D cT ad [.inr (.inr 0), .inl t, .inr (.inr 81)] GF M sz) (q_Post (pg_P sc) D cT ad GF M sz (some (.inl (cRow pc))) GF M1) 1 6 (va_A (q_ws (pg_P sc) cT ad GF M) sz) := by
  have hth : pc ∈ ([82, 97] : List Nat) := by
    obtain ⟨F, h⟩ := hF
    exact q_drx_th F _ _ _ _ _ h
  refine q_lmet (l0 := l0) (P := pg_P sc) (NW := pg_NW) (SR := pg_SR) (Rn := pg_Rn) (d := d) (orc := pq sc d) (ym := pg_ym) (mid := 232) (mx := 136) (hh := [(0, 9, 12, 13), (0, 9, 15, 15)]) (by decide +kernel) (I := pI_L_row) pK_L_row (by decide +kernel) (by decide +kernel) rfl (pg_Tb h1 h2) (pq_all h1 h2 d) (as := [.inr (.inr 0), .inl t, .inr (.inr 81)]) (as' := [.inl t]) (rest := [.inl 0, .inr (.inr 81)]) (a := 0) (G := GF) (M := M) (M2 := M1) (l1 := [some (.inr (.inr 0)), some (.inl t), some (.inr (.inr 81)), none]) (pcC := 4) (idx := 7) (sl := 0) (rs := [2, 7, 10, 12, 16, 42, 43, 44, 47, 0, 0]) (rx := (.inr (pc, GF, M1))) (cl := cl_row) (k := (cRow pc)) (Nat.le_of_ble_eq_true rfl) rfl (Nat.le_of_ble_eq_true rfl) rfl (pK_L_row.2 (4, .invokevirtual 7, 3) (List.mem_of_getElem? (i := 4) rfl)).1 (pt_in_ok (i := 451) (by decide +kernel)) (pt_in_ok (i := 452) (by decide +kernel)) (pt_in_ok (i := 453) (by decide +kernel)) (pt_in_ok (i := 1) (by decide +kernel)) (pt_in_ok (i := 454) (by decide +kernel)) (by decide +kernel) ⟨by decide +kernel, by decide +kernel, (show (parseMethodDescriptor (pg_ym 136).1.desc).map (fun d => d.parameters.length) = some 1 by decide +kernel)⟩ (Nat.le_of_ble_eq_true rfl) (by decide +kernel) ?_ ?_ ?_ D cT ad hG hM has sz
  · intro D cT ad sz
    refine q_vmet (mid := 136) (th := [82, 97]) (cl := cl_row) (MT := pg_MT) hl0 (pg_Tb h1 h2) (pq_all h1 h2 d) hd (by decide +kernel) (by decide +kernel) pK_X11_row (by decide +kernel) rfl (fun pc hpc => ?_) D cT ad (.inr (.inr 0) :: [.inl t]) GF M (.inr (pc, GF, M1)) (Nat.le_of_ble_eq_true rfl) hF hG hM (fun v hv => has v (List.mem_append_left ([.inr (.inr 81)] : List q_V) hv)) sz
    have hpc : pc = 82 ∨ pc = 97 := by simpa using hpc
    rcases hpc with rfl | rfl
    · exact ⟨_, _, _, ps_row82⟩
    · exact ⟨_, _, _, ps_row97⟩
  · intro r G1 M9 h
    cases h
  · intro pcx G1 M9 h
    cases h
    have hth : pc = 82 ∨ pc = 97 := by simpa using hth
    rcases hth with rfl | rfl
    · exact ⟨rfl, [], [⟨0, 9, 15, 15⟩], ⟨0, 9, 12, 13⟩, 14, [some (.inr (.inr 0)), some (.inl t), some (.inr (.inr 81)), none], rfl, (fun z hz => absurd hz List.not_mem_nil), by decide +kernel, by decide, pt_in_ok (i := 449) (by decide +kernel), by decide +kernel, ⟨3, (pK_L_row.2 (12, .astore_n 3, 1) (List.mem_of_getElem? (i := 8) rfl)).1, Nat.le_of_ble_eq_true rfl, rfl, rfl⟩, rfl, (pK_L_row.2 (14, .ireturn, 1) (List.mem_of_getElem? (i := 10) rfl)).1⟩
    · exact ⟨rfl, [⟨0, 9, 12, 13⟩], [], ⟨0, 9, 15, 15⟩, 17, [some (.inr (.inr 0)), some (.inl t), some (.inr (.inr 81)), none], rfl, (fun z hz => by
      have hz : z = ⟨0, 9, 12, 13⟩ := by simpa using hz
      subst hz
      exact ⟨by decide, "java/lang/IllegalArgumentException", pt_in_ok (i := 449) (by decide +kernel), by decide +kernel⟩), by decide +kernel, by decide, pt_in_ok (i := 450) (by decide +kernel), by decide +kernel, ⟨3, (pK_L_row.2 (15, .astore_n 3, 1) (List.mem_of_getElem? (i := 11) rfl)).1, Nat.le_of_ble_eq_true rfl, rfl, rfl⟩, rfl, (pK_L_row.2 (17, .ireturn, 1) (List.mem_of_getElem? (i := 13) rfl)).1⟩
def cl_compile (pc : Nat) : String := "java/lang/IllegalArgumentException"
set_option maxRecDepth 20000 in
set_option maxHeartbeats 4000000 in
theorem lm_compile_r {l0 : Launch} (hl0 : l0.stackTraces = false) {sc : List Int} (h1 : sc.length < 1000) (h2 : ∀ x ∈ sc, q_r x) {d : Nat} (hd : 10 ≤ d) {M M1 : q_M} {r0 : Int} (hF : ∃ F, px sc (pq sc d) 139 [81] F 0 [some (.inr (.inr 0))] [] M = some (.inl (some (.inl r0), GF, M1))) (D : va_G) (cT : Nat → ClassId) (ad : Nat → Nat) (hG : q_oG (pg_P sc) GF) (hM : q_oM GF M) (has : ∀ v ∈ ([.inr (.inr 0), .inr (.inr 81)] : List q_V), q_ov GF.length v) (sz : Nat) : Met l0 (pg_ym 233).1 (q_mW (pg_ym 233)) (q_rm (d + 2) 1 6) (q_Pre (pg_P sc) pg_NW pg_SR D cT ad [.inr (.inr 0), .inr (.inr 81)] GF M sz) (q_Post (pg_P sc) D cT ad GF M sz (some (.inl 0)) GF (q_up M1 81 0 r0)) 1 6 (va_A (q_ws (pg_P sc) cT ad GF M) sz) := by
  refine q_lmet (l0 := l0) (P := pg_P sc) (NW := pg_NW) (SR := pg_SR) (Rn := pg_Rn) (d := d) (orc := pq sc d) (ym := pg_ym) (mid := 233) (mx := 139) (hh := [(0, 8, 11, 13)]) (by decide +kernel) (I := pI_L_compile) pK_L_compile (by decide +kernel) (by decide +kernel) rfl (pg_Tb h1 h2) (pq_all h1 h2 d) (as := [.inr (.inr 0), .inr (.inr 81)]) (as' := []) (rest := [.inl 0, .inr (.inr 81)]) (a := 0) (G := GF) (M := M) (M2 := (q_up M1 81 0 r0)) (l1 := [some (.inr (.inr 0)), some (.inr (.inr 81)), none]) (pcC := 3) (idx := 17) (sl := 0) (rs := [2, 7, 10, 12, 16, 42, 43, 44, 47, 0, 0]) (rx := (.inl (some (.inl r0), GF, M1))) (cl := cl_compile) (k := 0) (Nat.le_of_ble_eq_true rfl) rfl (Nat.le_of_ble_eq_true rfl) rfl (pK_L_compile.2 (3, .invokevirtual 17, 3) (List.mem_of_getElem? (i := 3) rfl)).1 (pt_in_ok (i := 575) (by decide +kernel)) (pt_in_ok (i := 576) (by decide +kernel)) (pt_in_ok (i := 577) (by decide +kernel)) (pt_in_ok (i := 1) (by decide +kernel)) (pt_in_ok (i := 578) (by decide +kernel)) (by decide +kernel) ⟨by decide +kernel, by decide +kernel, (show (parseMethodDescriptor (pg_ym 139).1.desc).map (fun d => d.parameters.length) = some 0 by decide +kernel)⟩ (Nat.le_of_ble_eq_true rfl) (by decide +kernel) ?_ ?_ ?_ D cT ad hG hM has sz
  · intro D cT ad sz
    refine q_vmet (mid := 139) (th := [81]) (cl := cl_compile) (MT := pg_MT) hl0 (pg_Tb h1 h2) (pq_all h1 h2 d) hd (by decide +kernel) (by decide +kernel) pK_X11_compile (by decide +kernel) rfl (fun pc hpc => ?_) D cT ad (.inr (.inr 0) :: []) GF M (.inl (some (.inl r0), GF, M1)) (Nat.le_of_ble_eq_true rfl) hF hG hM (fun v hv => has v (List.mem_append_left ([.inr (.inr 81)] : List q_V) hv)) sz
    have hpc : pc = 81 := by simpa using hpc
    subst hpc
    exact ⟨_, _, _, ps_compile81⟩
  · intro r G1 M9 h
    cases h
    exact ⟨rfl, r0, 15, [some (.inr (.inr 0)), some (.inr (.inr 81)), none], rfl, (show q_den (pq sc d) (pg_P sc) false 1 6 13 pI_L_compile [15] 1000 false (q_seek ((6 : Nat) : Int) pI_L_compile) [some (.inr (.inr 0)), some (.inr (.inr 81)), none] (.inl r0 :: [.inl 0, .inr (.inr 81)]) GF M1 1 6 = (if 0 ≤ (0 : Int) ∧ (0 : Int) < ((1 : Nat) : Int) then some (15, [some (.inr (.inr 0)), some (.inr (.inr 81)), none], [.inl 0], GF, q_up M1 81 0 r0, 1, 6) else none) from rfl).trans (if_pos (by decide)), (pK_L_compile.2 (15, .ireturn, 1) (List.mem_of_getElem? (i := 11) rfl)).1⟩
  · intro pcx G1 M9 h
    cases h
set_option maxRecDepth 20000 in
set_option maxHeartbeats 4000000 in
theorem lm_compile_t {l0 : Launch} (hl0 : l0.stackTraces = false) {sc : List Int} (h1 : sc.length < 1000) (h2 : ∀ x ∈ sc, q_r x) {d : Nat} (hd : 10 ≤ d) {M M1 : q_M} {pc : Nat} (hF : ∃ F, px sc (pq sc d) 139 [81] F 0 [some (.inr (.inr 0))] [] M = some (.inr (pc, GF, M1))) (D : va_G) (cT : Nat → ClassId) (ad : Nat → Nat) (hG : q_oG (pg_P sc) GF) (hM : q_oM GF M) (has : ∀ v ∈ ([.inr (.inr 0), .inr (.inr 81)] : List q_V), q_ov GF.length v) (sz : Nat) : Met l0 (pg_ym 233).1 (q_mW (pg_ym 233)) (q_rm (d + 2) 1 6) (q_Pre (pg_P sc) pg_NW pg_SR D cT ad [.inr (.inr 0), .inr (.inr 81)] GF M sz) (q_Post (pg_P sc) D cT ad GF M sz (some (.inl (cCmp pc))) GF M1) 1 6 (va_A (q_ws (pg_P sc) cT ad GF M) sz) := by
  have hth : pc ∈ ([81] : List Nat) := by
    obtain ⟨F, h⟩ := hF
    exact q_drx_th F _ _ _ _ _ h
  refine q_lmet (l0 := l0) (P := pg_P sc) (NW := pg_NW) (SR := pg_SR) (Rn := pg_Rn) (d := d) (orc := pq sc d) (ym := pg_ym) (mid := 233) (mx := 139) (hh := [(0, 8, 11, 13)]) (by decide +kernel) (I := pI_L_compile) pK_L_compile (by decide +kernel) (by decide +kernel) rfl (pg_Tb h1 h2) (pq_all h1 h2 d) (as := [.inr (.inr 0), .inr (.inr 81)]) (as' := []) (rest := [.inl 0, .inr (.inr 81)]) (a := 0) (G := GF) (M := M) (M2 := M1) (l1 := [some (.inr (.inr 0)), some (.inr (.inr 81)), none]) (pcC := 3) (idx := 17) (sl := 0) (rs := [2, 7, 10, 12, 16, 42, 43, 44, 47, 0, 0]) (rx := (.inr (pc, GF, M1))) (cl := cl_compile) (k := (cCmp pc)) (Nat.le_of_ble_eq_true rfl) rfl (Nat.le_of_ble_eq_true rfl) rfl (pK_L_compile.2 (3, .invokevirtual 17, 3) (List.mem_of_getElem? (i := 3) rfl)).1 (pt_in_ok (i := 575) (by decide +kernel)) (pt_in_ok (i := 576) (by decide +kernel)) (pt_in_ok (i := 577) (by decide +kernel)) (pt_in_ok (i := 1) (by decide +kernel)) (pt_in_ok (i := 578) (by decide +kernel)) (by decide +kernel) ⟨by decide +kernel, by decide +kernel, (show (parseMethodDescriptor (pg_ym 139).1.desc).map (fun d => d.parameters.length) = some 0 by decide +kernel)⟩ (Nat.le_of_ble_eq_true rfl) (by decide +kernel) ?_ ?_ ?_ D cT ad hG hM has sz
  · intro D cT ad sz
    refine q_vmet (mid := 139) (th := [81]) (cl := cl_compile) (MT := pg_MT) hl0 (pg_Tb h1 h2) (pq_all h1 h2 d) hd (by decide +kernel) (by decide +kernel) pK_X11_compile (by decide +kernel) rfl (fun pc hpc => ?_) D cT ad (.inr (.inr 0) :: []) GF M (.inr (pc, GF, M1)) (Nat.le_of_ble_eq_true rfl) hF hG hM (fun v hv => has v (List.mem_append_left ([.inr (.inr 81)] : List q_V) hv)) sz
    have hpc : pc = 81 := by simpa using hpc
    subst hpc
    exact ⟨_, _, _, ps_compile81⟩
  · intro r G1 M9 h
    cases h
  · intro pcx G1 M9 h
    cases h
    have hth : pc = 81 := by simpa using hth
    subst hth
    exact ⟨rfl, [], [], ⟨0, 8, 11, 13⟩, 13, [some (.inr (.inr 0)), some (.inr (.inr 81)), none], rfl, (fun z hz => absurd hz List.not_mem_nil), by decide +kernel, by decide, pt_in_ok (i := 449) (by decide +kernel), by decide +kernel, ⟨2, (pK_L_compile.2 (11, .astore_n 2, 1) (List.mem_of_getElem? (i := 7) rfl)).1, Nat.le_of_ble_eq_true rfl, rfl, rfl⟩, rfl, (pK_L_compile.2 (13, .ireturn, 1) (List.mem_of_getElem? (i := 9) rfl)).1⟩
def cl_run (pc : Nat) : String := if pc = 7 then "java/lang/IllegalStateException" else "java/lang/UnsupportedOperationException"
set_option maxRecDepth 20000 in
set_option maxHeartbeats 4000000 in
theorem lm_run_r {l0 : Launch} (hl0 : l0.stackTraces = false) {sc : List Int} (h1 : sc.length < 1000) (h2 : ∀ x ∈ sc, q_r x) {d : Nat} (hd : 10 ≤ d) {M M1 : q_M} {r0 : Int} (hF : ∃ F, px sc (pq sc d) 141 [7, 35] F 0 [some (.inr (.inr 0))] [] M = some (.inl (some (.inl r0), GF, M1))) (D : va_G) (cT : Nat → ClassId) (ad : Nat → Nat) (hG : q_oG (pg_P sc) GF) (hM : q_oM GF M) (has : ∀ v ∈ ([.inr (.inr 0), .inr (.inr 81)] : List q_V), q_ov GF.length v) (sz : Nat) : Met l0 (pg_ym 234).1 (q_mW (pg_ym 234)) (q_rm (d + 2) 1 6) (q_Pre (pg_P sc) pg_NW pg_SR D cT ad [.inr (.inr 0), .inr (.inr 81)] GF M sz) (q_Post (pg_P sc) D cT ad GF M sz (some (.inl 0)) GF (q_up M1 81 0 r0)) 1 6 (va_A (q_ws (pg_P sc) cT ad GF M) sz) := by
  refine q_lmet (l0 := l0) (P := pg_P sc) (NW := pg_NW) (SR := pg_SR) (Rn := pg_Rn) (d := d) (orc := pq sc d) (ym := pg_ym) (mid := 234) (mx := 141) (hh := [(0, 8, 11, 15), (0, 8, 14, 24)]) (by decide +kernel) (I := pI_L_run) pK_L_run (by decide +kernel) (by decide +kernel) rfl (pg_Tb h1 h2) (pq_all h1 h2 d) (as := [.inr (.inr 0), .inr (.inr 81)]) (as' := []) (rest := [.inl 0, .inr (.inr 81)]) (a := 0) (G := GF) (M := M) (M2 := (q_up M1 81 0 r0)) (l1 := [some (.inr (.inr 0)), some (.inr (.inr 81)), none]) (pcC := 3) (idx := 21) (sl := 0) (rs := [2, 7, 10, 12, 16, 42, 43, 44, 47, 0, 0]) (rx := (.inl (some (.inl r0), GF, M1))) (cl := cl_run) (k := 0) (Nat.le_of_ble_eq_true rfl) rfl (Nat.le_of_ble_eq_true rfl) rfl (pK_L_run.2 (3, .invokevirtual 21, 3) (List.mem_of_getElem? (i := 3) rfl)).1 (pt_in_ok (i := 1020) (by decide +kernel)) (pt_in_ok (i := 1021) (by decide +kernel)) (pt_in_ok (i := 1022) (by decide +kernel)) (pt_in_ok (i := 1) (by decide +kernel)) (pt_in_ok (i := 1023) (by decide +kernel)) (by decide +kernel) ⟨by decide +kernel, by decide +kernel, (show (parseMethodDescriptor (pg_ym 141).1.desc).map (fun d => d.parameters.length) = some 0 by decide +kernel)⟩ (Nat.le_of_ble_eq_true rfl) (by decide +kernel) ?_ ?_ ?_ D cT ad hG hM has sz
  · intro D cT ad sz
    refine q_vmet (mid := 141) (th := [7, 35]) (cl := cl_run) (MT := pg_MT) hl0 (pg_Tb h1 h2) (pq_all h1 h2 d) hd (by decide +kernel) (by decide +kernel) pK_X11_run (by decide +kernel) rfl (fun pc hpc => ?_) D cT ad (.inr (.inr 0) :: []) GF M (.inl (some (.inl r0), GF, M1)) (Nat.le_of_ble_eq_true rfl) hF hG hM (fun v hv => has v (List.mem_append_left ([.inr (.inr 81)] : List q_V) hv)) sz
    have hpc : pc = 7 ∨ pc = 35 := by simpa using hpc
    rcases hpc with rfl | rfl
    · exact ⟨_, _, _, ps_run7⟩
    · exact ⟨_, _, _, ps_run35⟩
  · intro r G1 M9 h
    cases h
    exact ⟨rfl, r0, 18, [some (.inr (.inr 0)), some (.inr (.inr 81)), none], rfl, (show q_den (pq sc d) (pg_P sc) false 1 6 13 pI_L_run [18] 1000 false (q_seek ((6 : Nat) : Int) pI_L_run) [some (.inr (.inr 0)), some (.inr (.inr 81)), none] (.inl r0 :: [.inl 0, .inr (.inr 81)]) GF M1 1 6 = (if 0 ≤ (0 : Int) ∧ (0 : Int) < ((1 : Nat) : Int) then some (18, [some (.inr (.inr 0)), some (.inr (.inr 81)), none], [.inl 0], GF, q_up M1 81 0 r0, 1, 6) else none) from rfl).trans (if_pos (by decide)), (pK_L_run.2 (18, .ireturn, 1) (List.mem_of_getElem? (i := 14) rfl)).1⟩
  · intro pcx G1 M9 h
    cases h
set_option maxRecDepth 20000 in
set_option maxHeartbeats 4000000 in
theorem lm_run_t {l0 : Launch} (hl0 : l0.stackTraces = false) {sc : List Int} (h1 : sc.length < 1000) (h2 : ∀ x ∈ sc, q_r x) {d : Nat} (hd : 10 ≤ d) {M M1 : q_M} {pc : Nat} (hF : ∃ F, px sc (pq sc d) 141 [7, 35] F 0 [some (.inr (.inr 0))] [] M = some (.inr (pc, GF, M1))) (D : va_G) (cT : Nat → ClassId) (ad : Nat → Nat) (hG : q_oG (pg_P sc) GF) (hM : q_oM GF M) (has : ∀ v ∈ ([.inr (.inr 0), .inr (.inr 81)] : List q_V), q_ov GF.length v) (sz : Nat) : Met l0 (pg_ym 234).1 (q_mW (pg_ym 234)) (q_rm (d + 2) 1 6) (q_Pre (pg_P sc) pg_NW pg_SR D cT ad [.inr (.inr 0), .inr (.inr 81)] GF M sz) (q_Post (pg_P sc) D cT ad GF M sz (some (.inl (cRun pc))) GF M1) 1 6 (va_A (q_ws (pg_P sc) cT ad GF M) sz) := by
  have hth : pc ∈ ([7, 35] : List Nat) := by
    obtain ⟨F, h⟩ := hF
    exact q_drx_th F _ _ _ _ _ h
  refine q_lmet (l0 := l0) (P := pg_P sc) (NW := pg_NW) (SR := pg_SR) (Rn := pg_Rn) (d := d) (orc := pq sc d) (ym := pg_ym) (mid := 234) (mx := 141) (hh := [(0, 8, 11, 15), (0, 8, 14, 24)]) (by decide +kernel) (I := pI_L_run) pK_L_run (by decide +kernel) (by decide +kernel) rfl (pg_Tb h1 h2) (pq_all h1 h2 d) (as := [.inr (.inr 0), .inr (.inr 81)]) (as' := []) (rest := [.inl 0, .inr (.inr 81)]) (a := 0) (G := GF) (M := M) (M2 := M1) (l1 := [some (.inr (.inr 0)), some (.inr (.inr 81)), none]) (pcC := 3) (idx := 21) (sl := 0) (rs := [2, 7, 10, 12, 16, 42, 43, 44, 47, 0, 0]) (rx := (.inr (pc, GF, M1))) (cl := cl_run) (k := (cRun pc)) (Nat.le_of_ble_eq_true rfl) rfl (Nat.le_of_ble_eq_true rfl) rfl (pK_L_run.2 (3, .invokevirtual 21, 3) (List.mem_of_getElem? (i := 3) rfl)).1 (pt_in_ok (i := 1020) (by decide +kernel)) (pt_in_ok (i := 1021) (by decide +kernel)) (pt_in_ok (i := 1022) (by decide +kernel)) (pt_in_ok (i := 1) (by decide +kernel)) (pt_in_ok (i := 1023) (by decide +kernel)) (by decide +kernel) ⟨by decide +kernel, by decide +kernel, (show (parseMethodDescriptor (pg_ym 141).1.desc).map (fun d => d.parameters.length) = some 0 by decide +kernel)⟩ (Nat.le_of_ble_eq_true rfl) (by decide +kernel) ?_ ?_ ?_ D cT ad hG hM has sz
  · intro D cT ad sz
    refine q_vmet (mid := 141) (th := [7, 35]) (cl := cl_run) (MT := pg_MT) hl0 (pg_Tb h1 h2) (pq_all h1 h2 d) hd (by decide +kernel) (by decide +kernel) pK_X11_run (by decide +kernel) rfl (fun pc hpc => ?_) D cT ad (.inr (.inr 0) :: []) GF M (.inr (pc, GF, M1)) (Nat.le_of_ble_eq_true rfl) hF hG hM (fun v hv => has v (List.mem_append_left ([.inr (.inr 81)] : List q_V) hv)) sz
    have hpc : pc = 7 ∨ pc = 35 := by simpa using hpc
    rcases hpc with rfl | rfl
    · exact ⟨_, _, _, ps_run7⟩
    · exact ⟨_, _, _, ps_run35⟩
  · intro r G1 M9 h
    cases h
  · intro pcx G1 M9 h
    cases h
    have hth : pc = 7 ∨ pc = 35 := by simpa using hth
    rcases hth with rfl | rfl
    · exact ⟨rfl, [], [⟨0, 8, 14, 24⟩], ⟨0, 8, 11, 15⟩, 13, [some (.inr (.inr 0)), some (.inr (.inr 81)), none], rfl, (fun z hz => absurd hz List.not_mem_nil), by decide +kernel, by decide, pt_in_ok (i := 450) (by decide +kernel), by decide +kernel, ⟨2, (pK_L_run.2 (11, .astore_n 2, 1) (List.mem_of_getElem? (i := 7) rfl)).1, Nat.le_of_ble_eq_true rfl, rfl, rfl⟩, rfl, (pK_L_run.2 (13, .ireturn, 1) (List.mem_of_getElem? (i := 9) rfl)).1⟩
    · exact ⟨rfl, [⟨0, 8, 11, 15⟩], [], ⟨0, 8, 14, 24⟩, 16, [some (.inr (.inr 0)), some (.inr (.inr 81)), none], rfl, (fun z hz => by
      have hz : z = ⟨0, 8, 11, 15⟩ := by simpa using hz
      subst hz
      exact ⟨by decide, "java/lang/IllegalStateException", pt_in_ok (i := 450) (by decide +kernel), by decide +kernel⟩), by decide +kernel, by decide, pt_in_ok (i := 1019) (by decide +kernel), by decide +kernel, ⟨2, (pK_L_run.2 (14, .astore_n 2, 1) (List.mem_of_getElem? (i := 10) rfl)).1, Nat.le_of_ble_eq_true rfl, rfl, rfl⟩, rfl, (pK_L_run.2 (16, .ireturn, 1) (List.mem_of_getElem? (i := 12) rfl)).1⟩
/-- all that the law calls -/
theorem lo_hO {l0 : Launch} (hl0 : l0.stackTraces = false) {sc : List Int} (h1 : sc.length < 1000) (h2 : ∀ x ∈ sc, q_r x) {d : Nat} (hd : 10 ≤ d) : ∀ mid, q_Sd l0 (pg_P sc) pg_NW pg_SR (d + 2) (q_mm (pg_P sc) mid).2.1 (q_mm (pg_P sc) mid).2.2 (pg_ym mid) (lo sc d mid) := by
  intro mid D cT ad as G M r G' M' hf hG hM has sz
  by_cases n1 : mid = 232
  · subst n1
    unfold lo at hf
    rw [if_pos rfl] at hf
    by_cases hc : G = GF ∧ as.head? = some (.inr (.inr 0)) ∧ as.length = 3 ∧ as[2]? = some (.inr (.inr 81))
    · rw [if_pos hc] at hf
      obtain ⟨hg, c1, c2, c3⟩ := hc
      subst hg
      rcases as with _ | ⟨a0, _ | ⟨a1, _ | ⟨a2, _ | ⟨a3, as⟩⟩⟩⟩
      · cases c2
      · cases c2
      · cases c2
      · simp only [List.head?_cons, Option.some.injEq] at c1
        simp only [List.getElem?_cons_succ, List.getElem?_cons_zero, Option.some.injEq] at c3
        subst c1
        subst c3
        rcases a1 with t | t | t
        · rcases lwc_o hf with ⟨r0, M1, hx, e1, e2, e3⟩ | ⟨pc, M1, hx, e1, e2, e3⟩
          · subst e1 e2 e3
            exact lm_row_r hl0 h1 h2 hd (pxr_o hx) D cT ad hG hM has sz
          · subst e1 e2 e3
            exact lm_row_t hl0 h1 h2 hd (pxr_o hx) D cT ad hG hM has sz
        · cases hf
        · cases hf
      · simp at c2
    · rw [if_neg hc] at hf; cases hf
  · by_cases n2 : mid = 233
    · subst n2
      unfold lo at hf
      rw [if_neg n1, if_pos rfl] at hf
      by_cases hc : G = GF ∧ as = [.inr (.inr 0), .inr (.inr 81)]
      · rw [if_pos hc] at hf
        obtain ⟨hg, c1⟩ := hc
        subst hg
        subst c1
        rcases lwc_o hf with ⟨r0, M1, hx, e1, e2, e3⟩ | ⟨pc, M1, hx, e1, e2, e3⟩
        · subst e1 e2 e3
          exact lm_compile_r hl0 h1 h2 hd (pxr_o hx) D cT ad hG hM has sz
        · subst e1 e2 e3
          exact lm_compile_t hl0 h1 h2 hd (pxr_o hx) D cT ad hG hM has sz
      · rw [if_neg hc] at hf; cases hf
    · by_cases n3 : mid = 234
      · subst n3
        unfold lo at hf
        rw [if_neg n1, if_neg n2, if_pos rfl] at hf
        by_cases hc : G = GF ∧ as = [.inr (.inr 0), .inr (.inr 81)]
        · rw [if_pos hc] at hf
          obtain ⟨hg, c1⟩ := hc
          subst hg
          subst c1
          rcases lwc_o hf with ⟨r0, M1, hx, e1, e2, e3⟩ | ⟨pc, M1, hx, e1, e2, e3⟩
          · subst e1 e2 e3
            exact lm_run_r hl0 h1 h2 hd (pxr_o hx) D cT ad hG hM has sz
          · subst e1 e2 e3
            exact lm_run_t hl0 h1 h2 hd (pxr_o hx) D cT ad hG hM has sz
        · rw [if_neg hc] at hf; cases hf
      · rw [lo_pq n1 n2 n3] at hf
        exact pq_all h1 h2 (d + 2) mid D cT ad as G M r G' M' hf hG hM has sz
