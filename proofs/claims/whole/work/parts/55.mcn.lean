/-! the model reads a condition -/
def MC (Z : tZ) (n : Nat) (C P : Nat → Int) (S : Nat → Prop) (M : q_M) (p t : Nat) (l : List Int) : Prop := MP Z n C P S M p t ∧ M 49 20 = l.length ∧ SK M l ∧ l.length ≤ 4
theorem aC_fol {C : Nat → Int} : ∀ (f md o p u s q : Nat) (st : List (Int × Int × Int)) (ot : List Nat) (pt : List (Nat × Nat)), aC C f md o p u s = some (true, q, st, ot, pt) → (md = 1 → ¬ C q = 271) ∧ (md = 2 → ¬ C q = 271 ∧ ¬ C q = 270) ∧ (md = 3 → ¬ C q = 271) ∧ (4 ≤ md → ¬ C q = 270 ∧ (¬ C p = 271 → ¬ C q = 271)) := by
  intro f
  induction f with
  | zero => intro md o p u s q st ot pt h; cases h
  | succ f ih =>
    intro md o p u s q st ot pt h
    unfold aC at h
    split at h
    · next hm => subst hm; refine ⟨by omega, by omega, by omega, by omega⟩
    · split at h
      · next hm =>
        subst hm
        rcases aBd_s h with ⟨q1, st1, ot1, pt1, e1, e2⟩ | ⟨q1, st1, ot1, pt1, e1, e2⟩
        · cases e2
        · rcases aBd_s e2 with ⟨q3, st3, ot3, pt3, e3, e4⟩ | ⟨q3, st3, ot3, pt3, e3, e4⟩
          · cases e4
          · cases e4
            refine ⟨fun _ => (ih _ _ _ _ _ _ _ _ _ e3).2.2.1 rfl, by omega, by omega, by omega⟩
      · split at h
        · next hm =>
          subst hm
          rcases aBd_s h with ⟨q1, st1, ot1, pt1, e1, e2⟩ | ⟨q1, st1, ot1, pt1, e1, e2⟩
          · cases e2
          · rcases aBd_s e2 with ⟨q3, st3, ot3, pt3, e3, e4⟩ | ⟨q3, st3, ot3, pt3, e3, e4⟩
            · cases e4
            · cases e4
              have a1 := (ih _ _ _ _ _ _ _ _ _ e1).1 rfl
              have a2 := (ih _ _ _ _ _ _ _ _ _ e3).2.2.2 (by omega)
              exact ⟨by omega, fun _ => ⟨a2.2 a1, a2.1⟩, by omega, by omega⟩
        · split at h
          · next hm =>
            subst hm
            split at h
            · rcases aBd_s h with ⟨q1, st1, ot1, pt1, e1, e2⟩ | ⟨q1, st1, ot1, pt1, e1, e2⟩
              · cases e2
              · rcases aBd_s e2 with ⟨q3, st3, ot3, pt3, e3, e4⟩ | ⟨q3, st3, ot3, pt3, e3, e4⟩
                · cases e4
                · cases e4
                  refine ⟨by omega, by omega, fun _ => (ih _ _ _ _ _ _ _ _ _ e3).2.2.1 rfl, by omega⟩
            · next hc => cases h; exact ⟨by omega, by omega, fun _ => hc, by omega⟩
          · next m1 m2 m3 m4 =>
            split at h
            · rcases aBd_s h with ⟨q1, st1, ot1, pt1, e1, e2⟩ | ⟨q1, st1, ot1, pt1, e1, e2⟩
              · cases e2
              · rcases aBd_s e2 with ⟨q3, st3, ot3, pt3, e3, e4⟩ | ⟨q3, st3, ot3, pt3, e3, e4⟩
                · cases e4
                · cases e4
                  have a1 := (ih _ _ _ _ _ _ _ _ _ e1).1 rfl
                  have a2 := (ih _ _ _ _ _ _ _ _ _ e3).2.2.2 (by omega)
                  exact ⟨by omega, by omega, by omega, fun _ => ⟨a2.1, fun _ => a2.2 a1⟩⟩
            · next hc => cases h; exact ⟨by omega, by omega, by omega, fun _ => ⟨hc, fun hh => hh⟩⟩
def T0 (sc : List Int) (d : Nat) (Z : tZ) (n : Nat) (C P : Nat → Int) (S : Nat → Prop) (f : Nat) : Prop := ∀ (o p t u s : Nat) (M : q_M) (l : List Int) (r : aRes), l.length = o → aC C f 0 o p u s = some r → MC Z n C P S M p t l → (r.1 = true ∧ ∃ k M' t', (∀ F, pr sc (pq sc d) 175 (F + k) 7 [some (.inr (.inr 49)), some (.inl 1), none] [] M = pr sc (pq sc d) 175 F 89 [some (.inr (.inr 49)), none, none] [] M') ∧ FR M M' ∧ MC Z n C P S M' r.2.1 t' (clo l)) ∨ (r.1 = false ∧ ∃ F M', pr sc (pq sc d) 175 F 7 [some (.inr (.inr 49)), some (.inl 1), none] [] M = some (none, GF, M') ∧ FR M M' ∧ IL M' (P r.2.1))
def T1 (sc : List Int) (d : Nat) (Z : tZ) (n : Nat) (C P : Nat → Int) (S : Nat → Prop) (f : Nat) : Prop := ∀ (o p t u s : Nat) (M : q_M) (l : List Int) (r : aRes), l.length = o → clo l = l → aC C f 1 o p u s = some r → MC Z n C P S M p t l → (r.1 = true ∧ ∃ k M' t', (∀ F, pr sc (pq sc d) 175 (F + k) 7 [some (.inr (.inr 49)), some (.inl 1), none] [] M = pr sc (pq sc d) 175 F 89 [some (.inr (.inr 49)), none, none] [] M') ∧ FR M M' ∧ MC Z n C P S M' r.2.1 t' l) ∨ (r.1 = false ∧ ∃ F M', pr sc (pq sc d) 175 F 7 [some (.inr (.inr 49)), some (.inl 1), none] [] M = some (none, GF, M') ∧ FR M M' ∧ IL M' (P r.2.1))
def T2 (sc : List Int) (d : Nat) (Z : tZ) (n : Nat) (C P : Nat → Int) (S : Nat → Prop) (f : Nat) : Prop := ∀ (o p t u s : Nat) (M : q_M) (l : List Int) (r : aRes), l.length = o → clo l = l → aC C f 2 o p u s = some r → MC Z n C P S M p t l → (r.1 = true ∧ ∃ k M' t', (∀ F, pr sc (pq sc d) 175 (F + k) 7 [some (.inr (.inr 49)), some (.inl 1), none] [] M = pr sc (pq sc d) 175 F 89 [some (.inr (.inr 49)), none, none] [] M') ∧ FR M M' ∧ MC Z n C P S M' r.2.1 t' l) ∨ (r.1 = false ∧ ∃ F M', pr sc (pq sc d) 175 F 7 [some (.inr (.inr 49)), some (.inl 1), none] [] M = some (none, GF, M') ∧ FR M M' ∧ IL M' (P r.2.1))
def T3 (sc : List Int) (d : Nat) (Z : tZ) (n : Nat) (C P : Nat → Int) (S : Nat → Prop) (f : Nat) : Prop := ∀ (o p t u s : Nat) (M : q_M) (l : List Int) (r : aRes), l.length = o → clo l = l → aC C f 3 o p u s = some r → MC Z n C P S M p t l → (r.1 = true ∧ ∃ k M' t', (∀ F, pr sc (pq sc d) 175 (F + k) 89 [some (.inr (.inr 49)), none, none] [] M = pr sc (pq sc d) 175 F 89 [some (.inr (.inr 49)), none, none] [] M') ∧ FR M M' ∧ MC Z n C P S M' r.2.1 t' l) ∨ (r.1 = false ∧ ∃ F M', pr sc (pq sc d) 175 F 89 [some (.inr (.inr 49)), none, none] [] M = some (none, GF, M') ∧ FR M M' ∧ IL M' (P r.2.1))
def T4 (sc : List Int) (d : Nat) (Z : tZ) (n : Nat) (C P : Nat → Int) (S : Nat → Prop) (f : Nat) : Prop := ∀ (o p t u s : Nat) (M : q_M) (l : List Int) (r : aRes), l.length = o → clo l = l → aC C f 4 o p u s = some r → MC Z n C P S M p t l → (r.1 = true ∧ ∃ k M' t', (∀ F, pr sc (pq sc d) 175 (F + k) 89 [some (.inr (.inr 49)), none, none] [] M = pr sc (pq sc d) 175 F 89 [some (.inr (.inr 49)), none, none] [] M') ∧ FR M M' ∧ MC Z n C P S M' r.2.1 t' l) ∨ (r.1 = false ∧ ∃ F M', pr sc (pq sc d) 175 F 89 [some (.inr (.inr 49)), none, none] [] M = some (none, GF, M') ∧ FR M M' ∧ IL M' (P r.2.1))
theorem c_ill0 {sc : List Int} {d : Nat} {M : q_M} {x : Int} (h : IL M x) : pr sc (pq sc d) 175 (0 + 1) 7 [some (.inr (.inr 49)), some (.inl 0), none] []  M = some (none, GF, M) := by
  refine sg_X12_readCondition_7.trans ?_
  rw [if_neg (by have := h.1; omega)]
theorem c_ill162 {sc : List Int} {d : Nat} {M : q_M} {x : Int} (h : IL M x) : pr sc (pq sc d) 175 (0 + 1 + 1) 162 [some (.inr (.inr 49)), some (.inl 0), none] []  M = some (none, GF, M) := by
  refine sg_X12_readCondition_162.trans ?_
  rw [if_neg (by have := h.1; omega), c_ill0 h]
theorem c_ill89 {sc : List Int} {d : Nat} {M : q_M} {x : Int} (h : IL M x) : pr sc (pq sc d) 175 (0 + 1 + 1 + 1) 89 [some (.inr (.inr 49)), none, none] []  M = some (none, GF, M) := by
  refine sg_X12_readCondition_89.trans ?_
  rw [if_neg (by have := h.1; omega), if_neg (by have := h.1; omega), c_ill162 h]
/-- a joining word -/
theorem c_join {sc : List Int} {d : Nat} {M : q_M} {Z : tZ} {n : Nat} {C P : Nat → Int} {S : Nat → Prop} {p t : Nat} {l : List Int} (hE : TE Z n C P S) (h : MC Z n C P S M p t l) (hc : C p = 271 ∨ C p = 270) (hd : 7 ≤ d) : ∃ M', (∀ F, pr sc (pq sc d) 175 (F + 2) 89 [some (.inr (.inr 49)), none, none] []  M = pr sc (pq sc d) 175 F 7 [some (.inr (.inr 49)), some (.inl 1), none] []  M') ∧ FR M M' ∧ MC Z n C P S M' (p + 1) (p + 1) l := by
  have hp := h.1.2.2.2.2.2.2.1
  have key : ∀ (M1 : q_M) (t1 : Nat), MP Z n C P S M1 p t1 → FT M M1 → ∃ M' x, (C p = 271 ∧ x = 1 ∨ C p = 270 ∧ x = 0) ∧ pq sc d 166 [.inr (.inr 49), .inl 212] GF M1 = some (some (.inl x), GF, M') ∧ ∃ M'', (x = 1 → M'' = M') ∧ (x = 0 → pq sc d 166 [.inr (.inr 49), .inl 211] GF M' = some (some (.inl 1), GF, M'')) ∧ FT M M'' ∧ MP Z n C P S M'' (p + 1) (p + 1) := by
    intro M1 t1 h1 hf1
    obtain ⟨M2, x2, q2, hf2, hx2⟩ := mx_take (sc := sc) (d := d) (c := 271) (k := 212) hE h1 (by unfold kG kR; omega) (by decide) (by omega)
    rcases hx2 with ⟨e, rfl, h2⟩ | ⟨e, rfl, ⟨hs, h2⟩ | ⟨hs, h2⟩⟩
    · exact ⟨M2, 1, Or.inl ⟨e, rfl⟩, q2, M2, fun _ => rfl, fun h => by omega, FT_t hf1 hf2, h2⟩
    · obtain ⟨M3, x3, q3, hf3, hx3⟩ := mx_take (sc := sc) (d := d) (c := 270) (k := 211) hE h2 (by unfold kG kR; omega) (by decide) (by omega)
      rcases hx3 with ⟨e3, rfl, h3⟩ | ⟨e3, rfl, -⟩
      · exact ⟨M2, 0, Or.inr ⟨e3, rfl⟩, q2, M3, fun h => by omega, fun _ => q3, FT_t hf1 (FT_t hf2 hf3), h3⟩
      · omega
    · have := TE_S hE hp hs; omega
  have fin : ∀ M'' : q_M, FT M M'' → MP Z n C P S M'' (p + 1) (p + 1) → FR M M'' ∧ MC Z n C P S M'' (p + 1) (p + 1) l := fun M'' hf hm => ⟨FT_R hf, hm, (hf.2 20 (by omega)).trans h.2.1, SK_fr (hf.1 61 (by omega) (by omega)) h.2.2.1, h.2.2.2⟩
  have e0 := h.1.2.2.1
  have s162 : ∀ (F : Nat) (M'' : q_M), MP Z n C P S M'' (p + 1) (p + 1) → pr sc (pq sc d) 175 (F + 1) 162 [some (.inr (.inr 49)), some (.inl 1), none] []  M'' = pr sc (pq sc d) 175 F 7 [some (.inr (.inr 49)), some (.inl 1), none] []  M'' := by
    intro F M'' hm
    refine sg_X12_readCondition_162.trans ?_
    rw [if_pos hm.2.2.1, if_neg (by decide)]
  by_cases h0 : 0 < M 49 20
  · obtain ⟨M1, x1, q1, hf1, hx1⟩ := mx_take (sc := sc) (d := d) (c := 41) (k := 41) hE h.1 (by unfold kG kR; omega) (by decide) (by omega)
    rcases hx1 with ⟨e, rfl, h1⟩ | ⟨e, rfl, ⟨hs, h1⟩ | ⟨hs, h1⟩⟩
    · omega
    · obtain ⟨M2, x2, hx, q2, M3, hy1, hy0, hf3, h3⟩ := key M1 _ h1 hf1
      refine ⟨M3, fun F => ?_, fin M3 hf3 h3⟩
      refine sg_X12_readCondition_89.trans ?_
      rw [if_pos e0, if_pos h0, q1, q_cI_s, if_pos rfl, if_pos h1.2.2.1, q2, q_cI_s]
      rcases hx with ⟨-, rfl⟩ | ⟨-, rfl⟩
      · rw [if_neg (by decide), ← hy1 rfl]; exact s162 F _ h3
      · rw [if_pos rfl, hy0 rfl, q_cI_s, if_neg (by decide)]; exact s162 F _ h3
    · have := TE_S hE hp hs; omega
  · obtain ⟨M2, x2, hx, q2, M3, hy1, hy0, hf3, h3⟩ := key M _ h.1 FT_r
    refine ⟨M3, fun F => ?_, fin M3 hf3 h3⟩
    refine sg_X12_readCondition_89.trans ?_
    rw [if_pos e0, if_neg h0, if_pos e0, q2, q_cI_s]
    rcases hx with ⟨-, rfl⟩ | ⟨-, rfl⟩
    · rw [if_neg (by decide), ← hy1 rfl]; exact s162 F _ h3
    · rw [if_pos rfl, hy0 rfl, q_cI_s, if_neg (by decide)]; exact s162 F _ h3
