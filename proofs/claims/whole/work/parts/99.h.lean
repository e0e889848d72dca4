/-! one memory for both; the law's three catchers -/
noncomputable def pxr (sc : List Int) (d mid : Nat) (th : List Nat) (l : q_L) (M : q_M) : Option q_Rx := @dite (Option q_Rx) (∃ rx, ∃ F, px sc (pq sc d) mid th F 0 l [] M = some rx) (Classical.propDecidable _) (fun h => some h.choose) (fun _ => none)
theorem pxr_s {sc : List Int} {d mid : Nat} {th : List Nat} {l : q_L} {M : q_M} {rx : q_Rx} (h : ∃ F, px sc (pq sc d) mid th F 0 l [] M = some rx) : pxr sc d mid th l M = some rx := by
  have hh : ∃ rx, ∃ F, px sc (pq sc d) mid th F 0 l [] M = some rx := ⟨rx, h⟩
  unfold pxr
  rw [dif_pos hh]
  obtain ⟨F, h1⟩ := h
  obtain ⟨F', h2⟩ := hh.choose_spec
  rw [px_det h2 h1]
theorem pxr_o {sc : List Int} {d mid : Nat} {th : List Nat} {l : q_L} {M : q_M} {rx : q_Rx} (h : pxr sc d mid th l M = some rx) : ∃ F, px sc (pq sc d) mid th F 0 l [] M = some rx := by
  unfold pxr at h
  split at h
  · next hh => cases h; exact hh.choose_spec
  · cases h
noncomputable def lwc (x : Option q_Rx) (c : Nat → Int) : Option (Option q_V × q_G × q_M) := match x with
  | some (.inl (some (.inl r), G, M)) => @ite _ (G = GF) (Classical.propDecidable _) (some (some (.inl 0), GF, q_up M 81 0 r)) none
  | some (.inr (pc, G, M)) => @ite _ (G = GF) (Classical.propDecidable _) (some (some (.inl (c pc)), GF, M)) none
  | _ => none
def cRow (pc : Nat) : Int := if pc = 82 then 1 else 2
def cCmp (pc : Nat) : Int := 1
def cRun (pc : Nat) : Int := if pc = 7 then 1 else 2
noncomputable def lo (sc : List Int) (d : Nat) : q_O := fun mid as G M => if mid = 232 then (@ite _ (G = GF ∧ as.head? = some (.inr (.inr 0)) ∧ as.length = 3 ∧ as[2]? = some (.inr (.inr 81))) (Classical.propDecidable _) (match as with
    | [_, .inl t, _] => lwc (pxr sc d 136 [82, 97] [some (.inr (.inr 0)), some (.inl t), none, none, none] M) cRow
    | _ => none) none)
  else if mid = 233 then (@ite _ (G = GF ∧ as = [.inr (.inr 0), .inr (.inr 81)]) (Classical.propDecidable _) (lwc (pxr sc d 139 [81] [some (.inr (.inr 0))] M) cCmp) none)
  else if mid = 234 then (@ite _ (G = GF ∧ as = [.inr (.inr 0), .inr (.inr 81)]) (Classical.propDecidable _) (lwc (pxr sc d 141 [7, 35] [some (.inr (.inr 0))] M) cRun) none)
  else pq sc (d + 2) mid as G M
theorem lo_pq {sc : List Int} {d mid : Nat} {as : List q_V} {G : q_G} {M : q_M} (h1 : ¬ mid = 232) (h2 : ¬ mid = 233) (h3 : ¬ mid = 234) : lo sc d mid as G M = pq sc (d + 2) mid as G M := by
  unfold lo; rw [if_neg h1, if_neg h2, if_neg h3]
theorem lo_232 {sc : List Int} {d : Nat} {t : Int} {M : q_M} : lo sc d 232 [.inr (.inr 0), .inl t, .inr (.inr 81)] GF M = lwc (pxr sc d 136 [82, 97] [some (.inr (.inr 0)), some (.inl t), none, none, none] M) cRow := by
  unfold lo; rw [if_pos rfl, if_pos ⟨rfl, rfl, rfl, rfl⟩]
theorem lo_233 {sc : List Int} {d : Nat} {M : q_M} : lo sc d 233 [.inr (.inr 0), .inr (.inr 81)] GF M = lwc (pxr sc d 139 [81] [some (.inr (.inr 0))] M) cCmp := by
  unfold lo; rw [if_neg (by decide), if_pos rfl, if_pos ⟨rfl, rfl⟩]
theorem lo_234 {sc : List Int} {d : Nat} {M : q_M} : lo sc d 234 [.inr (.inr 0), .inr (.inr 81)] GF M = lwc (pxr sc d 141 [7, 35] [some (.inr (.inr 0))] M) cRun := by
  unfold lo; rw [if_neg (by decide), if_neg (by decide), if_pos rfl, if_pos ⟨rfl, rfl⟩]
theorem one_v {fc fm : q_M → Option (Option q_V × q_G × q_M)} {M : q_M} (S : ∀ X Y, Rel X Y → ∃ X' Y' v, fc X = some (some v, GF, X') ∧ fm Y = some (some v, GF, Y') ∧ Rel X' Y' ∧ CT9 X X' ∧ MT9 Y Y') (h : Rel M M) : ∃ M1 M2 v, fc M = some (some v, GF, M1) ∧ fm M1 = some (some v, GF, M2) ∧ Rel M2 M2 := by
  obtain ⟨M1, Y0, v, q1, -, -, c1, -⟩ := S M M h
  have h1 : Rel M M1 := Rel_l h (fun _ _ => rfl) (fun a h1 _ => c1 a h1)
  obtain ⟨X', M2, v', q2, q3, r, c2, m2⟩ := S M M1 h1
  rw [q1] at q2
  simp only [Option.some.injEq, Prod.mk.injEq, true_and] at q2
  obtain ⟨e1, e2⟩ := q2
  subst e1
  subst e2
  exact ⟨M1, M2, v, q1, q3, Rel_l r (fun a ha => m2 a (Or.inl ha)) (fun _ _ _ => rfl)⟩
theorem one_i {fc fm : q_M → Option (Option q_V × q_G × q_M)} {M : q_M} (S : ∀ X Y, Rel X Y → ∃ X' Y' x, fc X = some (some (.inl x), GF, X') ∧ fm Y = some (some (.inl x), GF, Y') ∧ Rel X' Y' ∧ CT9 X X' ∧ MT9 Y Y') (h : Rel M M) : ∃ M1 M2 x, fc M = some (some (.inl x), GF, M1) ∧ fm M1 = some (some (.inl x), GF, M2) ∧ Rel M2 M2 := by
  obtain ⟨M1, M2, v, q1, q2, r⟩ := one_v (fc := fc) (fm := fm) (fun X Y hr => by
    obtain ⟨X', Y', x, a⟩ := S X Y hr
    exact ⟨X', Y', .inl x, a⟩) h
  obtain ⟨X', -, x, a, -⟩ := S M M h
  rw [q1] at a
  simp only [Option.some.injEq, Prod.mk.injEq, true_and] at a
  rw [a.1] at q1 q2
  exact ⟨M1, M2, x, q1, q2, r⟩
theorem one_l {fc fm : q_M → Option (Option q_V × q_G × q_M)} {M : q_M} (S : ∀ X Y, Rel X Y → ∃ X' Y' x, fc X = some (some (.inr (.inl x)), GF, X') ∧ fm Y = some (some (.inr (.inl x)), GF, Y') ∧ Rel X' Y' ∧ CT9 X X' ∧ MT9 Y Y') (h : Rel M M) : ∃ M1 M2 x, fc M = some (some (.inr (.inl x)), GF, M1) ∧ fm M1 = some (some (.inr (.inl x)), GF, M2) ∧ Rel M2 M2 := by
  obtain ⟨M1, M2, v, q1, q2, r⟩ := one_v (fc := fc) (fm := fm) (fun X Y hr => by
    obtain ⟨X', Y', x, a⟩ := S X Y hr
    exact ⟨X', Y', .inr (.inl x), a⟩) h
  obtain ⟨X', -, x, a, -⟩ := S M M h
  rw [q1] at a
  simp only [Option.some.injEq, Prod.mk.injEq, true_and] at a
  rw [a.1] at q1 q2
  exact ⟨M1, M2, x, q1, q2, r⟩
theorem one_x {sc : List Int} {d mid : Nat} {th : List Nat} {l : q_L} {c : Nat → Int} {fm : q_M → Option (Option q_V × q_G × q_M)} {M : q_M} (S : ∀ X Y, Rel X Y → ∃ X' Y' r rx, (∃ F, px sc (pq sc d) mid th F 0 l [] X = some rx) ∧ fm Y = some (some (.inl r), GF, Y') ∧ Rel X' Y' ∧ CT9 X X' ∧ MT9 Y Y' ∧ ((rx = .inl (some (.inl r), GF, X') ∧ Y' 49 1 = 0) ∨ (∃ pc, rx = .inr (pc, GF, X') ∧ Y' 49 1 = c pc ∧ ¬ c pc = 0))) (h : Rel M M) : ∃ M1 M2 k r, lwc (pxr sc d mid th l M) c = some (some (.inl k), GF, M1) ∧ fm M1 = some (some (.inl r), GF, M2) ∧ M2 49 1 = k ∧ (k = 0 → M2 81 0 = r) ∧ Rel M2 M2 := by
  obtain ⟨X0, Y0, r0, rx, p0, -, -, c0, -, o0⟩ := S M M h
  have e0 := pxr_s p0
  -- what follows, from whatever the catcher leaves
  have go : ∀ M1 : q_M, (∀ a, a ≤ 80 → M1 a = X0 a) → ∃ M2 r X', fm M1 = some (some (.inl r), GF, M2) ∧ Rel X' M2 ∧ MT9 M1 M2 ∧ ((rx = .inl (some (.inl r), GF, X') ∧ M2 49 1 = 0) ∨ (∃ pc, rx = .inr (pc, GF, X') ∧ M2 49 1 = c pc ∧ ¬ c pc = 0)) := fun M1 e => by
    have h1 : Rel M M1 := Rel_l h (fun _ _ => rfl) (fun a h1 h2 => by rw [e a h2]; exact c0 a h1)
    obtain ⟨X', M2, r, rx', p1, q1, r1, -, m1, o1⟩ := S M M1 h1
    have e1 := pxr_s p1
    rw [e0] at e1
    cases e1
    exact ⟨M2, r, X', q1, r1, m1, o1⟩
  rcases o0 with ⟨z, -⟩ | ⟨pc, z, -, nz⟩
  · obtain ⟨M2, r, X', q1, r1, m1, o1⟩ := go (q_up X0 81 0 r0) (fun a ha => q_upf (by omega))
    rcases o1 with ⟨z', y1⟩ | ⟨pc, z', -⟩
    · rw [z] at z'
      simp only [Sum.inl.injEq, Prod.mk.injEq, Option.some.injEq, true_and] at z'
      obtain ⟨e1, e2⟩ := z'
      subst e1
      subst e2
      refine ⟨q_up X0 81 0 r0, M2, 0, r0, ?_, q1, y1, fun _ => ?_, Rel_l r1 (fun a ha => by rw [m1 a (Or.inl ha), q_upf (by omega)]) (fun _ _ _ => rfl)⟩
      · rw [e0, z]; unfold lwc; exact if_pos rfl
      · rw [m1 81 (Or.inr (by decide)), q_up_s]
    · rw [z] at z'; cases z'
  · obtain ⟨M2, r, X', q1, r1, m1, o1⟩ := go X0 (fun _ _ => rfl)
    rcases o1 with ⟨z', -⟩ | ⟨pc', z', y1, y2⟩
    · rw [z] at z'; cases z'
    · rw [z] at z'
      simp only [Sum.inr.injEq, Prod.mk.injEq, true_and] at z'
      obtain ⟨e1, e2⟩ := z'
      subst e1
      subst e2
      refine ⟨X0, M2, c pc, r, ?_, q1, y1, fun e => absurd e nz, Rel_l r1 (fun a ha => m1 a (Or.inl ha)) (fun _ _ _ => rfl)⟩
      rw [e0, z]; unfold lwc; exact if_pos rfl
theorem lo_thrown {sc : List Int} {d : Nat} {M : q_M} : lo sc d 148 [.inr (.inr 49)] GF M = some (some (.inl (M 49 1)), GF, M) := by
  rw [lo_pq (by decide) (by decide) (by decide)]
  refine pq_e (by omega) (by decide) (Nat.le_of_ble_eq_true rfl) ⟨0 + 1, sg_X12_thrown_0.trans ?_⟩
  rfl
theorem lo_declare {sc : List Int} {d : Nat} {M : q_M} {t w : Int} (h : Rel M M) (hd : 30 ≤ d) : ∃ M1 M2 x, lo sc d 133 [.inr (.inr 0), .inl t, .inl w] GF M = some (some (.inl x), GF, M1) ∧ lo sc d 151 [.inr (.inr 49), .inl t, .inl w] GF M1 = some (some (.inl x), GF, M2) ∧ Rel M2 M2 := by
  simp only [lo_pq (show ¬ 133 = 232 by decide) (show ¬ 133 = 233 by decide) (show ¬ 133 = 234 by decide), lo_pq (show ¬ 151 = 232 by decide) (show ¬ 151 = 233 by decide) (show ¬ 151 = 234 by decide)]
  exact one_i (fc := fun M => pq sc (d + 2) 133 [.inr (.inr 0), .inl t, .inl w] GF M) (fm := fun M => pq sc (d + 2) 151 [.inr (.inr 49), .inl t, .inl w] GF M) (fun X Y hr => st_declare hr (by omega)) h
theorem lo_value {sc : List Int} {d : Nat} {M : q_M} {v : Int} (hv : iR v) (h : Rel M M) (hd : 30 ≤ d) : ∃ M1 M2 x, lo sc d 134 [.inr (.inr 0), .inl v] GF M = some (some (.inl x), GF, M1) ∧ lo sc d 153 [.inr (.inr 49), .inl v] GF M1 = some (some (.inl x), GF, M2) ∧ Rel M2 M2 := by
  simp only [lo_pq (show ¬ 134 = 232 by decide) (show ¬ 134 = 233 by decide) (show ¬ 134 = 234 by decide), lo_pq (show ¬ 153 = 232 by decide) (show ¬ 153 = 233 by decide) (show ¬ 153 = 234 by decide)]
  exact one_i (fc := fun M => pq sc (d + 2) 134 [.inr (.inr 0), .inl v] GF M) (fm := fun M => pq sc (d + 2) 153 [.inr (.inr 49), .inl v] GF M) (fun X Y hr => st_value hr hv (by omega)) h
theorem lo_nothing {sc : List Int} {d : Nat} {M : q_M}  (h : Rel M M) (hd : 30 ≤ d) : ∃ M1 M2 x, lo sc d 135 [.inr (.inr 0)] GF M = some (some (.inl x), GF, M1) ∧ lo sc d 154 [.inr (.inr 49)] GF M1 = some (some (.inl x), GF, M2) ∧ Rel M2 M2 := by
  simp only [lo_pq (show ¬ 135 = 232 by decide) (show ¬ 135 = 233 by decide) (show ¬ 135 = 234 by decide), lo_pq (show ¬ 154 = 232 by decide) (show ¬ 154 = 233 by decide) (show ¬ 154 = 234 by decide)]
  exact one_i (fc := fun M => pq sc (d + 2) 135 [.inr (.inr 0)] GF M) (fm := fun M => pq sc (d + 2) 154 [.inr (.inr 49)] GF M) (fun X Y hr => st_nothing hr (by omega)) h
theorem lo_drop {sc : List Int} {d : Nat} {M : q_M} {t : Int} (h : Rel M M) (hd : 30 ≤ d) : ∃ M1 M2 x, lo sc d 137 [.inr (.inr 0), .inl t] GF M = some (some (.inl x), GF, M1) ∧ lo sc d 156 [.inr (.inr 49), .inl t] GF M1 = some (some (.inl x), GF, M2) ∧ Rel M2 M2 := by
  simp only [lo_pq (show ¬ 137 = 232 by decide) (show ¬ 137 = 233 by decide) (show ¬ 137 = 234 by decide), lo_pq (show ¬ 156 = 232 by decide) (show ¬ 156 = 233 by decide) (show ¬ 156 = 234 by decide)]
  exact one_i (fc := fun M => pq sc (d + 2) 137 [.inr (.inr 0), .inl t] GF M) (fm := fun M => pq sc (d + 2) 156 [.inr (.inr 49), .inl t] GF M) (fun X Y hr => st_drop hr (by omega)) h
theorem lo_ask {sc : List Int} {d : Nat} {M : q_M} {c : Int} (h : Rel M M) (hd : 30 ≤ d) : ∃ M1 M2 x, lo sc d 138 [.inr (.inr 0), .inl c] GF M = some (some (.inl x), GF, M1) ∧ lo sc d 157 [.inr (.inr 49), .inl c] GF M1 = some (some (.inl x), GF, M2) ∧ Rel M2 M2 := by
  simp only [lo_pq (show ¬ 138 = 232 by decide) (show ¬ 138 = 233 by decide) (show ¬ 138 = 234 by decide), lo_pq (show ¬ 157 = 232 by decide) (show ¬ 157 = 233 by decide) (show ¬ 157 = 234 by decide)]
  exact one_i (fc := fun M => pq sc (d + 2) 138 [.inr (.inr 0), .inl c] GF M) (fm := fun M => pq sc (d + 2) 157 [.inr (.inr 49), .inl c] GF M) (fun X Y hr => st_ask hr (by omega)) h
theorem lo_place {sc : List Int} {d : Nat} {M : q_M}  (h : Rel M M) (hd : 30 ≤ d) : ∃ M1 M2 x, lo sc d 140 [.inr (.inr 0)] GF M = some (some (.inl x), GF, M1) ∧ lo sc d 189 [.inr (.inr 49)] GF M1 = some (some (.inl x), GF, M2) ∧ Rel M2 M2 := by
  simp only [lo_pq (show ¬ 140 = 232 by decide) (show ¬ 140 = 233 by decide) (show ¬ 140 = 234 by decide), lo_pq (show ¬ 189 = 232 by decide) (show ¬ 189 = 233 by decide) (show ¬ 189 = 234 by decide)]
  exact one_i (fc := fun M => pq sc (d + 2) 140 [.inr (.inr 0)] GF M) (fm := fun M => pq sc (d + 2) 189 [.inr (.inr 49)] GF M) (fun X Y hr => st_place hr (by omega)) h
theorem lo_looked {sc : List Int} {d : Nat} {M : q_M}  (h : Rel M M) (hd : 30 ≤ d) : ∃ M1 M2 x, lo sc d 142 [.inr (.inr 0)] GF M = some (some (.inl x), GF, M1) ∧ lo sc d 209 [.inr (.inr 49)] GF M1 = some (some (.inl x), GF, M2) ∧ Rel M2 M2 := by
  simp only [lo_pq (show ¬ 142 = 232 by decide) (show ¬ 142 = 233 by decide) (show ¬ 142 = 234 by decide), lo_pq (show ¬ 209 = 232 by decide) (show ¬ 209 = 233 by decide) (show ¬ 209 = 234 by decide)]
  exact one_i (fc := fun M => pq sc (d + 2) 142 [.inr (.inr 0)] GF M) (fm := fun M => pq sc (d + 2) 209 [.inr (.inr 49)] GF M) (fun X Y hr => st_looked hr (by omega)) h
theorem lo_row {sc : List Int} {d : Nat} {M : q_M} {t : Int} (h : Rel M M) (hd : 30 ≤ d) : ∃ M1 M2 k r, lo sc d 232 [.inr (.inr 0), .inl t, .inr (.inr 81)] GF M = some (some (.inl k), GF, M1) ∧ lo sc d 155 [.inr (.inr 49), .inl t] GF M1 = some (some (.inl r), GF, M2) ∧ lo sc d 148 [.inr (.inr 49)] GF M2 = some (some (.inl k), GF, M2) ∧ (k = 0 → M2 81 0 = r) ∧ Rel M2 M2 := by
  obtain ⟨M1, M2, k, r, q1, q2, y, o, hr⟩ := one_x (sc := sc) (d := d) (c := cRow) (fm := fun M => pq sc (d + 2) 155 [.inr (.inr 49), .inl t] GF M) (M := M) (fun X Y hr => by
    obtain ⟨X', Y', r, rx, p1, p2, p3, p4, p5, o1⟩ := st_row (sc := sc) (d := d) (dm := d + 2) hr (by omega) (by omega)
    refine ⟨X', Y', r, rx, p1, p2, p3, p4, p5, ?_⟩
    rcases o1 with z | ⟨z, y⟩ | ⟨z, y⟩
    · exact Or.inl z
    · exact Or.inr ⟨82, z, y, by decide⟩
    · exact Or.inr ⟨97, z, y, by decide⟩) h
  refine ⟨M1, M2, k, r, ?_, ?_, ?_, o, hr⟩
  · rw [lo_232]; exact q1
  · rw [lo_pq (by decide) (by decide) (by decide)]; exact q2
  · rw [lo_thrown, y]
theorem lo_compile {sc : List Int} {d : Nat} {M : q_M}  (h : Rel M M) (hd : 30 ≤ d) : ∃ M1 M2 k r, lo sc d 233 [.inr (.inr 0), .inr (.inr 81)] GF M = some (some (.inl k), GF, M1) ∧ lo sc d 188 [.inr (.inr 49)] GF M1 = some (some (.inl r), GF, M2) ∧ lo sc d 148 [.inr (.inr 49)] GF M2 = some (some (.inl k), GF, M2) ∧ (k = 0 → M2 81 0 = r) ∧ Rel M2 M2 := by
  obtain ⟨M1, M2, k, r, q1, q2, y, o, hr⟩ := one_x (sc := sc) (d := d) (c := cCmp) (fm := fun M => pq sc (d + 2) 188 [.inr (.inr 49)] GF M) (M := M) (fun X Y hr => by
    obtain ⟨X', Y', r, rx, p1, p2, p3, p4, p5, o1⟩ := st_compile (sc := sc) (d := d) (dm := d + 2) hr (by omega) (by omega)
    refine ⟨X', Y', r, rx, p1, p2, p3, p4, p5, ?_⟩
    rcases o1 with z | ⟨z, y⟩
    · exact Or.inl z
    · exact Or.inr ⟨81, z, y, by decide⟩) h
  refine ⟨M1, M2, k, r, ?_, ?_, ?_, o, hr⟩
  · rw [lo_233]; exact q1
  · rw [lo_pq (by decide) (by decide) (by decide)]; exact q2
  · rw [lo_thrown, y]
theorem lo_run {sc : List Int} {d : Nat} {M : q_M}  (h : Rel M M) (hd : 30 ≤ d) : ∃ M1 M2 k r, lo sc d 234 [.inr (.inr 0), .inr (.inr 81)] GF M = some (some (.inl k), GF, M1) ∧ lo sc d 208 [.inr (.inr 49)] GF M1 = some (some (.inl r), GF, M2) ∧ lo sc d 148 [.inr (.inr 49)] GF M2 = some (some (.inl k), GF, M2) ∧ (k = 0 → M2 81 0 = r) ∧ Rel M2 M2 := by
  obtain ⟨M1, M2, k, r, q1, q2, y, o, hr⟩ := one_x (sc := sc) (d := d) (c := cRun) (fm := fun M => pq sc (d + 2) 208 [.inr (.inr 49)] GF M) (M := M) (fun X Y hr => by
    obtain ⟨X', Y', r, rx, p1, p2, p3, p4, p5, o1⟩ := st_run (sc := sc) (d := d) (dm := d + 2) hr (by omega) (by omega)
    refine ⟨X', Y', r, rx, p1, p2, p3, p4, p5, ?_⟩
    rcases o1 with z | ⟨z, y⟩ | ⟨z, y⟩
    · exact Or.inl z
    · exact Or.inr ⟨7, z, y, by decide⟩
    · exact Or.inr ⟨35, z, y, by decide⟩) h
  refine ⟨M1, M2, k, r, ?_, ?_, ?_, o, hr⟩
  · rw [lo_234]; exact q1
  · rw [lo_pq (by decide) (by decide) (by decide)]; exact q2
  · rw [lo_thrown, y]
