/-! the class begins a line -/
theorem ix3 {r g : Nat} (hr : r < 30) (hg : g < 3) : q_w (q_w ((r : Int) * 3) + g) = ((3 * r + g : Nat) : Int) := by
  rw [q_wid (x := (r : Int) * 3) (by omega) (by omega), q_wid (by omega) (by omega)]; omega
theorem sp_keyOf {sc : List Int} {d : Nat} {X : q_M} {r g : Nat} (hr : r < 30) (hg : g < 3) (hd : 1 ≤ d) : pq sc d 22 [.inl (r : Int), .inl (g : Int)] GF X = some (some (.inl ((3 * r + g : Nat) : Int)), GF, X) := by
  refine (pq_e (by omega) (by decide) (Nat.le_of_ble_eq_true rfl) ⟨0 + 1, sg_X2_keyOf_0.trans ?_⟩)
  rw [if_neg (by omega), if_pos (by omega), if_neg (by omega), if_pos (by omega), ix3 hr hg]
/-- operands of outs: whether unknown, which number -/
def UV (X : q_M) (ous : List aOu) (Ob On : Nat → Int) : Prop := ∀ (k : Nat) o, ous[k]? = some o → b01 (Ob k) ∧ ((266 ≤ o.1 ∧ o.1 ≤ 269) ∨ o.1 = 275) ∧ (¬ o.1 = 266 → ∃ u : Nat, o.2.1 = (u : Int) ∧ u < 130 ∧ X 23 u = Ob k ∧ (Ob k = 0 → X 22 u = On k))
def UVb (X : q_M) (ous : List aOu) (Ob On : Nat → Int) : Prop := ∀ (k : Nat) o, ous[k]? = some o → o.1 = 275 → b01 (Ob k) ∧ ∃ u : Nat, o.2.1 = (u : Int) ∧ u < 130 ∧ X 23 u = Ob k ∧ (Ob k = 0 → X 22 u = On k)
theorem UV_b {X : q_M} {ous : List aOu} {Ob On : Nat → Int} (h : UV X ous Ob On) : UVb X ous Ob On := fun k o ho hk => ⟨(h k o ho).1, (h k o ho).2.2 (by omega)⟩
theorem bg_outs {sc : List Int} {d : Nat} {X0 : q_M} {r h : Nat} {ous : List aOu} {Ob On : Nat → Int} (hr : r < h) (hh : X0 43 3 = h) (h30 : h ≤ 30) (hw : X0 43 2 = ous.length) (hU : UQ X0 ous) (hV : UVb X0 ous Ob On) (hd : 3 ≤ d) : ∀ (m k : Nat) (X : q_M), k + m = ous.length → (∀ a, ¬ a = 44 → ¬ a = 45 → X a = X0 a) → ∃ F X', pr sc (pq sc d) 23 F 74 [some (.inr (.inr 46)), some (.inl (r : Int)), some (.inl (k : Int)), none, none] [] X = some (none, GF, X') ∧ (∀ a, ¬ a = 44 → ¬ a = 45 → X' a = X0 a) ∧ (∀ j, j < 4 * r + k ∨ 4 * r + ous.length ≤ j → X' 44 j = X 44 j ∧ X' 45 j = X 45 j) ∧ (∀ (i : Nat) o, k ≤ i → ous[i]? = some o → X' 44 (4 * r + i) = begN o.1 (Ob i) (On i) ∧ X' 45 (4 * r + i) = begU o.1 (Ob i)) := by
  have h4 := hU.2.1
  intro m
  induction m with
  | zero =>
    intro k X hk hX
    have q1 := sp_outCount (sc := sc) (d := d) (M := X) (by omega)
    rw [hX 15 (by decide) (by decide), hU.1] at q1
    refine ⟨0 + 1, X, sg_X2_begin_74.trans ?_, hX, fun _ _ => ⟨rfl, rfl⟩, fun i o hi ho => ?_⟩
    · rw [q1, q_cI_s, if_neg (by omega)]
    · have := (List.getElem?_eq_some_iff.mp ho).1; omega
  | succ m ih =>
    intro k X hk hX
    have q1 := sp_outCount (sc := sc) (d := d) (M := X) (by omega)
    rw [hX 15 (by decide) (by decide), hU.1] at q1
    have ho : ous[k]? = some ous[k] := List.getElem?_eq_getElem (by omega)
    generalize ous[k] = o at ho
    obtain ⟨e38, e39⟩ := hU.2.2 k o ho
    have q2 := sp_outKind (sc := sc) (d := d) (M := X) (show k < 4 by omega) (by omega)
    rw [hX 38 (by decide) (by decide), e38] at q2
    have q3 := sp_outColumn (sc := sc) (d := d) (M := X) (show k < 4 by omega) (by omega)
    rw [hX 39 (by decide) (by decide), e39] at q3
    have hh' : X 43 3 = h := by rw [hX 43 (by decide) (by decide)]; exact hh
    have hw' : X 43 2 = ous.length := by rw [hX 43 (by decide) (by decide)]; exact hw
    -- one out
    have step : ∀ n u : Int, b01 u → ((if u = 0 then n else 0) = begN o.1 (Ob k) (On k) ∧ u = begU o.1 (Ob k)) → (∀ F, pr sc (pq sc d) 23 (F + 1) 74 [some (.inr (.inr 46)), some (.inl (r : Int)), some (.inl (k : Int)), none, none] [] X = q_c0 (pq sc d 7 [.inr (.inr 43), .inl (r : Int), .inl (k : Int), .inr (.inl n), .inl u] GF X) GF (fun M13 => pr sc (pq sc d) 23 F 74 [some (.inr (.inr 46)), some (.inl (r : Int)), some (.inl ((k + 1 : Nat) : Int)), none, none] [] M13)) → ∃ F X', pr sc (pq sc d) 23 F 74 [some (.inr (.inr 46)), some (.inl (r : Int)), some (.inl (k : Int)), none, none] [] X = some (none, GF, X') ∧ (∀ a, ¬ a = 44 → ¬ a = 45 → X' a = X0 a) ∧ (∀ j, j < 4 * r + k ∨ 4 * r + ous.length ≤ j → X' 44 j = X 44 j ∧ X' 45 j = X 45 j) ∧ (∀ (i : Nat) o, k ≤ i → ous[i]? = some o → X' 44 (4 * r + i) = begN o.1 (Ob i) (On i) ∧ X' 45 (4 * r + i) = begU o.1 (Ob i)) := by
      intro n u hu hv hst
      have q4 := sp_set (sc := sc) (d := d) (n := n) (u := u) hr hh' h30 (show k < ous.length by omega) hw' h4 hu (by omega)
      rw [hv.1] at q4
      generalize hA : q_up (q_up X 44 (4 * r + k) (begN o.1 (Ob k) (On k))) 45 (4 * r + k) u = A at q4
      have A0 : ∀ a, ¬ a = 44 → ¬ a = 45 → A a = X0 a := fun a h1 h2 => by rw [← hA, q_upf h2, q_upf h1]; exact hX a h1 h2
      have A1 : ∀ j, ¬ j = 4 * r + k → A 44 j = X 44 j ∧ A 45 j = X 45 j := fun j hj => by rw [← hA, q_up_ne (by decide), q_up_sn hj, q_up_sn hj, q_up_ne (by decide)]; exact ⟨rfl, rfl⟩
      have A2 : A 44 (4 * r + k) = begN o.1 (Ob k) (On k) ∧ A 45 (4 * r + k) = begU o.1 (Ob k) := by rw [← hA, q_up_ne (by decide), q_up_s, q_up_s]; exact ⟨rfl, hv.2⟩
      obtain ⟨F, X', q5, r1, r2, r3⟩ := ih (k + 1) A (by omega) A0
      refine ⟨F + 1, X', by rw [hst F, q4, q_c0_s, q5], r1, fun j hj => ?_, fun i o' hi ho' => ?_⟩
      · have := r2 j (by omega)
        rw [this.1, this.2]
        exact A1 j (by omega)
      · by_cases e : i = k
        · subst e
          rw [ho] at ho'; cases ho'
          have := r2 (4 * r + i) (by omega)
          rw [this.1, this.2]; exact A2
        · exact r3 i o' (by omega) ho'
    by_cases c1 : o.1 = 275
    · obtain ⟨v1, u, u1, u2, u3, u4⟩ := hV k o ho c1
      have q5 := sp_numberOf (sc := sc) (d := d) (M := X) u2 (by omega)
      have q6 := sp_unknownOfN (sc := sc) (d := d) (M := X) (v := Ob k) u2 (by rw [hX 23 (by decide) (by decide)]; exact u3) (by omega)
      refine step (X 22 u) (if Ob k = 0 then 0 else 1) (by split; exact Or.inl rfl; exact Or.inr rfl) ?_ (fun F => sg_X2_begin_74.trans ?_)
      · unfold begN begU
        rw [if_pos c1, if_pos c1]
        rcases v1 with z | z
        · rw [z, if_pos rfl, if_pos rfl, hX 22 (by decide) (by decide), u4 z]; exact ⟨rfl, rfl⟩
        · rw [z, if_neg (by decide), if_neg (by decide), if_neg (by decide)]; exact ⟨rfl, rfl⟩
      · rw [q1, q_cI_s, if_pos (by omega), q2, q_cI_s, q3, q_cI_s, if_pos c1, u1, q5, q_cI_s, q6, q_cI_s, qw1 (by omega)]
    · by_cases c2 : o.1 = 266
      · refine step 0 0 (Or.inl rfl) ?_ (fun F => sg_X2_begin_74.trans ?_)
        · unfold begN begU
          rw [if_neg c1, if_neg c1, if_pos c2]; exact ⟨rfl, rfl⟩
        · rw [q1, q_cI_s, if_pos (by omega), q2, q_cI_s, q3, q_cI_s, if_neg c1, if_pos c2, qw1 (by omega)]
      · refine step 0 1 (Or.inr rfl) ?_ (fun F => sg_X2_begin_74.trans ?_)
        · unfold begN begU
          rw [if_neg c1, if_neg c1, if_neg c2]; exact ⟨rfl, rfl⟩
        · rw [q1, q_cI_s, if_pos (by omega), q2, q_cI_s, q3, q_cI_s, if_neg c1, if_neg c2, qw1 (by omega)]
theorem bg_keys {sc : List Int} {d : Nat} {X0 : q_M} {r : Nat} {grs : List Nat} (hr : r < 30) (hG : GQ X0 grs) (hb : ∀ (g u : Nat), grs[g]? = some u → b01 (X0 23 u)) (hd : 3 ≤ d) : ∀ (m g : Nat) (X : q_M), g + m = grs.length → (∀ a, ¬ a = 47 → ¬ a = 48 → X a = X0 a) → ∃ K X', (∀ F, pr sc (pq sc d) 23 (F + K) 2 [some (.inr (.inr 46)), some (.inl (r : Int)), some (.inl (g : Int)), none, none] [] X = pr sc (pq sc d) 23 F 74 [some (.inr (.inr 46)), some (.inl (r : Int)), some (.inl 0), none, none] [] X') ∧ (∀ a, ¬ a = 47 → ¬ a = 48 → X' a = X0 a) ∧ (∀ j, j < 3 * r + g ∨ 3 * r + grs.length ≤ j → X' 47 j = X 47 j ∧ X' 48 j = X 48 j) ∧ (∀ (i u : Nat), g ≤ i → grs[i]? = some u → X' 47 (3 * r + i) = X0 22 u ∧ X' 48 (3 * r + i) = X0 23 u) := by
  have h3 := hG.2.1
  intro m
  induction m with
  | zero =>
    intro g X hg hX
    have q1 := sp_groupedCount (sc := sc) (d := d) (M := X) (by omega)
    rw [hX 15 (by decide) (by decide), hG.1] at q1
    refine ⟨0 + 1, X, fun F => sg_X2_begin_2.trans ?_, hX, fun _ _ => ⟨rfl, rfl⟩, fun i u hi hu => ?_⟩
    · rw [q1, q_cI_s, if_neg (by omega)]
    · have := (List.getElem?_eq_some_iff.mp hu).1; omega
  | succ m ih =>
    intro g X hg hX
    have hu : grs[g]? = some grs[g] := List.getElem?_eq_getElem (by omega)
    generalize grs[g] = u at hu
    obtain ⟨e40, eu⟩ := hG.2.2 g u hu
    have q1 : ∀ N : q_M, (∀ a, ¬ a = 47 → ¬ a = 48 → N a = X0 a) → pq sc d 78 [.inr (.inr 15)] GF N = some (some (.inl (grs.length : Int)), GF, N) := fun N hN => by
      have q1 := sp_groupedCount (sc := sc) (d := d) (M := N) (by omega)
      rw [hN 15 (by decide) (by decide), hG.1] at q1; exact q1
    have q2 : ∀ N : q_M, (∀ a, ¬ a = 47 → ¬ a = 48 → N a = X0 a) → pq sc d 79 [.inr (.inr 15), .inl (g : Int)] GF N = some (some (.inl (u : Int)), GF, N) := fun N hN => by
      have q2 := sp_groupColumn (sc := sc) (d := d) (M := N) (show g < 3 by omega) (by omega)
      rw [hN 40 (by decide) (by decide), e40] at q2; exact q2
    have q3 := sp_numberOf (sc := sc) (d := d) (M := X) eu (by omega)
    rw [hX 22 (by decide) (by decide)] at q3
    generalize hA : q_up X 47 (3 * r + g) (X0 22 u) = A
    have A0 : ∀ a, ¬ a = 47 → ¬ a = 48 → A a = X0 a := fun a h1 h2 => by rw [← hA, q_upf h1]; exact hX a h1 h2
    have q4 := sp_unknownOfN (sc := sc) (d := d) (M := A) (v := X0 23 u) eu (by rw [A0 23 (by decide) (by decide)]) (by omega)
    have hbu := hb g u hu
    have eb : (if X0 23 u = 0 then (0 : Int) else 1) = X0 23 u := by
      rcases hbu with z | z
      · rw [z]; rfl
      · rw [z]; rfl
    rw [eb] at q4
    generalize hB : q_up A 48 (3 * r + g) (X0 23 u) = B
    have B0 : ∀ a, ¬ a = 47 → ¬ a = 48 → B a = X0 a := fun a h1 h2 => by rw [← hB, q_upf h2]; exact A0 a h1 h2
    have B1 : ∀ j, ¬ j = 3 * r + g → B 47 j = X 47 j ∧ B 48 j = X 48 j := fun j hj => by rw [← hB, q_up_ne (by decide), q_up_sn hj, ← hA, q_up_sn hj, q_up_ne (by decide)]; exact ⟨rfl, rfl⟩
    have B2 : B 47 (3 * r + g) = X0 22 u ∧ B 48 (3 * r + g) = X0 23 u := by rw [← hB, q_up_ne (by decide), q_up_s, ← hA, q_up_s]; exact ⟨rfl, rfl⟩
    obtain ⟨K, X', q5, r1, r2, r3⟩ := ih (g + 1) B (by omega) B0
    refine ⟨K + 1, X', fun F => ?_, r1, fun j hj => ?_, fun i u' hi hu' => ?_⟩
    · rw [← q5 F]
      refine sg_X2_begin_2.trans ?_
      rw [q1 X hX, q_cI_s, if_pos (by omega), sp_keyOf hr (by omega) (by omega), q_cI_s, if_neg (by omega), q2 X hX, q_cI_s, q3, q_cI_s, if_pos (by omega), Int.toNat_natCast, hA, q2 A A0, q_cI_s, q4, q_cI_s, if_pos (by omega), if_pos (Or.inr (Or.inl ⟨rfl, hbu⟩)), hB, qw1 (by omega)]
      rfl
    · have := r2 j (by omega)
      rw [this.1, this.2]; exact B1 j (by omega)
    · by_cases e : i = g
      · subst e
        rw [hu] at hu'; cases hu'
        have := r2 (3 * r + i) (by omega)
        rw [this.1, this.2]; exact B2
      · exact r3 i u' (by omega) hu'
theorem cx_begin {sc : List Int} {d : Nat} {X : q_M} {r h : Nat} {ous : List aOu} {grs : List Nat} {Ob On : Nat → Int} (hr : r < h) (hh : X 43 3 = h) (h30 : h ≤ 30) (hw : X 43 2 = ous.length) (hU : UQ X ous) (hV : UVb X ous Ob On) (hG : GQ X grs) (hb : ∀ (g u : Nat), grs[g]? = some u → b01 (X 23 u)) (hd : 4 ≤ d) : ∃ X', pq sc d 23 [.inr (.inr 46), .inl (r : Int)] GF X = some (none, GF, X') ∧ (∀ a, ¬ a = 44 → ¬ a = 45 → ¬ a = 47 → ¬ a = 48 → X' a = X a) ∧ (∀ j, j < 4 * r ∨ 4 * r + ous.length ≤ j → X' 44 j = X 44 j ∧ X' 45 j = X 45 j) ∧ (∀ (i : Nat) o, ous[i]? = some o → X' 44 (4 * r + i) = begN o.1 (Ob i) (On i) ∧ X' 45 (4 * r + i) = begU o.1 (Ob i)) ∧ (∀ j, j < 3 * r ∨ 3 * r + grs.length ≤ j → X' 47 j = X 47 j ∧ X' 48 j = X 48 j) ∧ (∀ (i u : Nat), grs[i]? = some u → X' 47 (3 * r + i) = X 22 u ∧ X' 48 (3 * r + i) = X 23 u) := by
  obtain ⟨K, X1, q1, r1, r2, r3⟩ := bg_keys (sc := sc) (d := d - 1) (r := r) (by omega) hG hb (by omega) grs.length 0 X (by omega) (fun _ _ _ => rfl)
  have hU1 : UQ X1 ous := by
    unfold UQ at hU ⊢
    rw [r1 15 (by decide) (by decide), r1 38 (by decide) (by decide), r1 39 (by decide) (by decide)]; exact hU
  have hV1 : UVb X1 ous Ob On := by
    unfold UVb at hV ⊢
    rw [r1 22 (by decide) (by decide), r1 23 (by decide) (by decide)]; exact hV
  obtain ⟨F, X2, q2, s1, s2, s3⟩ := bg_outs (sc := sc) (d := d - 1) hr (by rw [r1 43 (by decide) (by decide)]; exact hh) h30 (by rw [r1 43 (by decide) (by decide)]; exact hw) hU1 hV1 (by omega) ous.length 0 X1 (by omega) (fun _ _ _ => rfl)
  rw [Int.natCast_zero] at q1 q2
  refine ⟨X2, (pq_e (by omega) (by decide) (Nat.le_of_ble_eq_true rfl) ⟨F + K + 1, sg_X2_begin_0.trans ?_⟩), fun a h1 h2 h3 h4 => (s1 a h1 h2).trans (r1 a h3 h4), fun j hj => ?_, fun i o ho => s3 i o (Nat.zero_le _) ho, fun j hj => ?_, fun i u hu => ?_⟩
  · exact (q1 F).trans q2
  · have := s2 j (by omega)
    rw [this.1, this.2, r1 44 (by decide) (by decide), r1 45 (by decide) (by decide)]; exact ⟨rfl, rfl⟩
  · rw [s1 47 (by decide) (by decide), s1 48 (by decide) (by decide)]; exact r2 j (by omega)
  · rw [s1 47 (by decide) (by decide), s1 48 (by decide) (by decide)]; exact r3 i u (Nat.zero_le _) hu
/-! whose group a line is -/
def isG (X : q_M) (grs : List Nat) (r : Nat) : Prop := ∀ (g u : Nat), grs[g]? = some u → X 48 (3 * r + g) = X 23 u ∧ (X 23 u = 0 → X 47 (3 * r + g) = X 22 u)
theorem ig_T {sc : List Int} {d : Nat} {X : q_M} {r : Nat} {grs : List Nat} (hr : r < 30) (hG : GQ X grs) (hb : ∀ (g u : Nat), grs[g]? = some u → b01 (X 23 u)) (hd : 3 ≤ d) : ∀ (m g : Nat), g + m = grs.length → ∃ F x, pr sc (pq sc d) 21 F 2 [some (.inr (.inr 46)), some (.inl (r : Int)), some (.inl (g : Int)), none, none] [] X = some (some (.inl x), GF, X) ∧ ((x = 1 ∧ ∀ (i u : Nat), g ≤ i → grs[i]? = some u → X 48 (3 * r + i) = X 23 u ∧ (X 23 u = 0 → X 47 (3 * r + i) = X 22 u)) ∨ (x = 0 ∧ ¬ ∀ (i u : Nat), g ≤ i → grs[i]? = some u → X 48 (3 * r + i) = X 23 u ∧ (X 23 u = 0 → X 47 (3 * r + i) = X 22 u))) := by
  have h3 := hG.2.1
  intro m
  induction m with
  | zero =>
    intro g hg
    have q1 := sp_groupedCount (sc := sc) (d := d) (M := X) (by omega)
    rw [hG.1] at q1
    refine ⟨0 + 1, 1, sg_X2_isOfGroup_2.trans ?_, Or.inl ⟨rfl, fun i u hi hu => by have := (List.getElem?_eq_some_iff.mp hu).1; omega⟩⟩
    rw [q1, q_cI_s, if_neg (by omega)]
  | succ m ih =>
    intro g hg
    have hu : grs[g]? = some grs[g] := List.getElem?_eq_getElem (by omega)
    generalize grs[g] = u at hu
    obtain ⟨e40, eu⟩ := hG.2.2 g u hu
    have q1 := sp_groupedCount (sc := sc) (d := d) (M := X) (by omega)
    rw [hG.1] at q1
    have q2 := sp_groupColumn (sc := sc) (d := d) (M := X) (show g < 3 by omega) (by omega)
    rw [e40] at q2
    have hbu := hb g u hu
    have q3 := sp_unknownOfN (sc := sc) (d := d) (M := X) (v := X 23 u) eu rfl (by omega)
    have eb : (if X 23 u = 0 then (0 : Int) else 1) = X 23 u := by
      rcases hbu with z | z
      · rw [z]; rfl
      · rw [z]; rfl
    rw [eb] at q3
    have q4 := sp_numberOf (sc := sc) (d := d) (M := X) eu (by omega)
    have no : ¬ (X 48 (3 * r + g) = X 23 u ∧ (X 23 u = 0 → X 47 (3 * r + g) = X 22 u)) → (pr sc (pq sc d) 21 (0 + 1) 2 [some (.inr (.inr 46)), some (.inl (r : Int)), some (.inl (g : Int)), none, none] [] X = some (some (.inl 0), GF, X)) → ∃ F x, pr sc (pq sc d) 21 F 2 [some (.inr (.inr 46)), some (.inl (r : Int)), some (.inl (g : Int)), none, none] [] X = some (some (.inl x), GF, X) ∧ ((x = 1 ∧ ∀ (i u : Nat), g ≤ i → grs[i]? = some u → X 48 (3 * r + i) = X 23 u ∧ (X 23 u = 0 → X 47 (3 * r + i) = X 22 u)) ∨ (x = 0 ∧ ¬ ∀ (i u : Nat), g ≤ i → grs[i]? = some u → X 48 (3 * r + i) = X 23 u ∧ (X 23 u = 0 → X 47 (3 * r + i) = X 22 u))) := fun hn hs => ⟨0 + 1, 0, hs, Or.inr ⟨rfl, fun hh => hn (hh g u (Nat.le_refl _) hu)⟩⟩
    have yes : (X 48 (3 * r + g) = X 23 u ∧ (X 23 u = 0 → X 47 (3 * r + g) = X 22 u)) → (∀ F, pr sc (pq sc d) 21 (F + 1) 2 [some (.inr (.inr 46)), some (.inl (r : Int)), some (.inl (g : Int)), none, none] [] X = pr sc (pq sc d) 21 F 2 [some (.inr (.inr 46)), some (.inl (r : Int)), some (.inl ((g + 1 : Nat) : Int)), none, none] [] X) → ∃ F x, pr sc (pq sc d) 21 F 2 [some (.inr (.inr 46)), some (.inl (r : Int)), some (.inl (g : Int)), none, none] [] X = some (some (.inl x), GF, X) ∧ ((x = 1 ∧ ∀ (i u : Nat), g ≤ i → grs[i]? = some u → X 48 (3 * r + i) = X 23 u ∧ (X 23 u = 0 → X 47 (3 * r + i) = X 22 u)) ∨ (x = 0 ∧ ¬ ∀ (i u : Nat), g ≤ i → grs[i]? = some u → X 48 (3 * r + i) = X 23 u ∧ (X 23 u = 0 → X 47 (3 * r + i) = X 22 u))) := by
      intro hy hs
      obtain ⟨F, x, q5, hx⟩ := ih (g + 1) (by omega)
      refine ⟨F + 1, x, (hs F).trans q5, ?_⟩
      rcases hx with ⟨e, hx⟩ | ⟨e, hx⟩
      · refine Or.inl ⟨e, fun i u' hi hu' => ?_⟩
        by_cases z : i = g
        · subst z; rw [hu] at hu'; cases hu'; exact hy
        · exact hx i u' (by omega) hu'
      · exact Or.inr ⟨e, fun hh => hx (fun i u' hi hu' => hh i u' (by omega) hu')⟩
    by_cases g1 : X 48 (3 * r + g) = X 23 u
    · by_cases g2 : X 23 u = 0
      · by_cases g3 : X 47 (3 * r + g) = X 22 u
        · refine yes ⟨g1, fun _ => g3⟩ (fun F => sg_X2_isOfGroup_2.trans ?_)
          rw [q1, q_cI_s, if_pos (by omega), sp_keyOf hr (by omega) (by omega), q_cI_s, q2, q_cI_s, if_neg (by omega), if_pos (by omega), q3, q_cI_s, Int.toNat_natCast, if_pos g1, if_pos (by omega), if_pos (g1.trans g2), if_pos (by omega), q4, q_cI_s, if_pos g3, qw1 (by omega)]
        · refine no (fun hh => g3 (hh.2 g2)) (sg_X2_isOfGroup_2.trans ?_)
          rw [q1, q_cI_s, if_pos (by omega), sp_keyOf hr (by omega) (by omega), q_cI_s, q2, q_cI_s, if_neg (by omega), if_pos (by omega), q3, q_cI_s, Int.toNat_natCast, if_pos g1, if_pos (by omega), if_pos (g1.trans g2), if_pos (by omega), q4, q_cI_s, if_neg g3]
      · refine yes ⟨g1, fun h => absurd h g2⟩ (fun F => sg_X2_isOfGroup_2.trans ?_)
        rw [q1, q_cI_s, if_pos (by omega), sp_keyOf hr (by omega) (by omega), q_cI_s, q2, q_cI_s, if_neg (by omega), if_pos (by omega), q3, q_cI_s, Int.toNat_natCast, if_pos g1, if_pos (by omega), if_neg (by rw [g1]; exact g2), qw1 (by omega)]
    · refine no (fun hh => g1 hh.1) (sg_X2_isOfGroup_2.trans ?_)
      rw [q1, q_cI_s, if_pos (by omega), sp_keyOf hr (by omega) (by omega), q_cI_s, q2, q_cI_s, if_neg (by omega), if_pos (by omega), q3, q_cI_s, Int.toNat_natCast, if_neg g1]
theorem cx_isG {sc : List Int} {d : Nat} {X : q_M} {r : Nat} {grs : List Nat} (hr : r < 30) (hG : GQ X grs) (hb : ∀ (g u : Nat), grs[g]? = some u → b01 (X 23 u)) (hd : 4 ≤ d) : ∃ x, pq sc d 21 [.inr (.inr 46), .inl (r : Int)] GF X = some (some (.inl x), GF, X) ∧ ((x = 1 ∧ isG X grs r) ∨ (x = 0 ∧ ¬ isG X grs r)) := by
  obtain ⟨F, x, q1, hx⟩ := ig_T (sc := sc) (d := d - 1) hr hG hb (by omega) grs.length 0 (by omega)
  refine ⟨x, (pq_e (by omega) (by decide) (Nat.le_of_ble_eq_true rfl) ⟨F + 1, sg_X2_isOfGroup_0.trans ?_⟩), ?_⟩
  · exact q1
  · rcases hx with ⟨e, hx⟩ | ⟨e, hx⟩
    · exact Or.inl ⟨e, fun g u hu => hx g u (Nat.zero_le _) hu⟩
    · exact Or.inr ⟨e, fun hh => hx (fun g u _ hu => hh g u hu)⟩
theorem lg_T {sc : List Int} {d : Nat} {X : q_M} {h : Nat} {grs : List Nat} (hh : X 43 3 = h) (h30 : h ≤ 30) (hG : GQ X grs) (hb : ∀ (g u : Nat), grs[g]? = some u → b01 (X 23 u)) (hd : 4 ≤ d) : ∀ (m r : Nat), r + m = h → ∃ F x, pr sc (pq sc d) 20 F 2 [some (.inr (.inr 46)), some (.inl (r : Int))] [] X = some (some (.inl x), GF, X) ∧ ((∃ i : Nat, r ≤ i ∧ i < h ∧ x = (i : Int) ∧ isG X grs i ∧ ∀ j, r ≤ j → j < i → ¬ isG X grs j) ∨ (x = -1 ∧ ∀ j, r ≤ j → j < h → ¬ isG X grs j)) := by
  intro m
  induction m with
  | zero =>
    intro r hr
    have q1 := sp_aheight (sc := sc) (d := d) (M := X) (by omega)
    rw [hh] at q1
    refine ⟨0 + 1, -1, sg_X2_lineOfGroup_2.trans ?_, Or.inr ⟨rfl, fun j h1 h2 => by omega⟩⟩
    rw [q1, q_cI_s, if_neg (by omega)]
  | succ m ih =>
    intro r hr
    have q1 := sp_aheight (sc := sc) (d := d) (M := X) (by omega)
    rw [hh] at q1
    obtain ⟨x, q2, hx⟩ := cx_isG (sc := sc) (d := d) (r := r) (by omega) hG hb hd
    rcases hx with ⟨rfl, hx⟩ | ⟨rfl, hx⟩
    · refine ⟨0 + 1, (r : Int), sg_X2_lineOfGroup_2.trans ?_, Or.inl ⟨r, Nat.le_refl _, by omega, rfl, hx, fun j h1 h2 => by omega⟩⟩
      rw [q1, q_cI_s, if_pos (by omega), q2, q_cI_s, if_neg (by decide)]
    · obtain ⟨F, x, q3, hx3⟩ := ih (r + 1) (by omega)
      refine ⟨F + 1, x, sg_X2_lineOfGroup_2.trans ?_, ?_⟩
      · rw [q1, q_cI_s, if_pos (by omega), q2, q_cI_s, if_pos rfl, qw1 (by omega), q3]
      · rcases hx3 with ⟨i, i1, i2, i3, i4, i5⟩ | ⟨e, hx3⟩
        · refine Or.inl ⟨i, by omega, i2, i3, i4, fun j h1 h2 => ?_⟩
          by_cases z : j = r
          · subst z; exact hx
          · exact i5 j (by omega) h2
        · refine Or.inr ⟨e, fun j h1 h2 => ?_⟩
          by_cases z : j = r
          · subst z; exact hx
          · exact hx3 j (by omega) h2
theorem cx_line {sc : List Int} {d : Nat} {X : q_M} {h : Nat} {grs : List Nat} (hh : X 43 3 = h) (h30 : h ≤ 30) (hG : GQ X grs) (hb : ∀ (g u : Nat), grs[g]? = some u → b01 (X 23 u)) (hd : 5 ≤ d) : ∃ x, pq sc d 20 [.inr (.inr 46)] GF X = some (some (.inl x), GF, X) ∧ ((∃ i : Nat, i < h ∧ x = (i : Int) ∧ isG X grs i ∧ ∀ j, j < i → ¬ isG X grs j) ∨ (x = -1 ∧ ∀ j, j < h → ¬ isG X grs j)) := by
  obtain ⟨F, x, q1, hx⟩ := lg_T (sc := sc) (d := d - 1) hh h30 hG hb (by omega) h 0 (by omega)
  refine ⟨x, (pq_e (by omega) (by decide) (Nat.le_of_ble_eq_true rfl) ⟨F + 1, sg_X2_lineOfGroup_0.trans ?_⟩), ?_⟩
  · exact q1
  · rcases hx with ⟨i, -, i2, i3, i4, i5⟩ | ⟨e, hx⟩
    · exact Or.inl ⟨i, i2, i3, i4, fun j hj => i5 j (Nat.zero_le _) hj⟩
    · exact Or.inr ⟨e, fun j hj => hx j (Nat.zero_le _) hj⟩
/-! the tallies of a line -/
theorem tl_T {sc : List Int} {d : Nat} {X0 : q_M} {r h : Nat} {ous : List aOu} {Ob On : Nat → Int} (hr : r < h) (hh : X0 43 3 = h) (h30 : h ≤ 30) (hw : X0 43 2 = ous.length) (hU : UQ X0 ous) (hV : UV X0 ous Ob On) (hc : ∀ k, k < ous.length → b01 (X0 45 (4 * r + k))) (hd : 3 ≤ d) : ∀ (m k : Nat) (X : q_M), k + m = ous.length → (∀ a, ¬ a = 44 → ¬ a = 45 → X a = X0 a) → (∀ j, k ≤ j → X 44 (4 * r + j) = X0 44 (4 * r + j) ∧ X 45 (4 * r + j) = X0 45 (4 * r + j)) → ∃ F X', pr sc (pq sc d) 19 F 43 [some (.inr (.inr 46)), some (.inl (r : Int)), some (.inl (k : Int))] [] X = some (some (.inl 1), GF, X') ∧ (∀ a, ¬ a = 44 → ¬ a = 45 → X' a = X0 a) ∧ (∀ j, j < 4 * r + k ∨ 4 * r + ous.length ≤ j → X' 44 j = X 44 j ∧ X' 45 j = X 45 j) ∧ (∀ (i : Nat) o, k ≤ i → ous[i]? = some o → X' 44 (4 * r + i) = talN o.1 (X0 44 (4 * r + i)) (X0 45 (4 * r + i)) (Ob i) (On i) ∧ X' 45 (4 * r + i) = talU o.1 (X0 45 (4 * r + i)) (Ob i)) := by
  have h4 := hU.2.1
  intro m
  induction m with
  | zero =>
    intro k X hk hX hX2
    have q1 := sp_outCount (sc := sc) (d := d) (M := X) (by omega)
    rw [hX 15 (by decide) (by decide), hU.1] at q1
    refine ⟨0 + 1, X, sg_X2_gather_43.trans ?_, hX, fun _ _ => ⟨rfl, rfl⟩, fun i o hi ho => ?_⟩
    · rw [q1, q_cI_s, if_neg (by omega)]
    · have := (List.getElem?_eq_some_iff.mp ho).1; omega
  | succ m ih =>
    intro k X hk hX hX2
    have q1 := sp_outCount (sc := sc) (d := d) (M := X) (by omega)
    rw [hX 15 (by decide) (by decide), hU.1] at q1
    have ho : ous[k]? = some ous[k] := List.getElem?_eq_getElem (by omega)
    generalize ous[k] = o at ho
    obtain ⟨e38, e39⟩ := hU.2.2 k o ho
    obtain ⟨v1, v2, v3⟩ := hV k o ho
    have q2 := sp_outKind (sc := sc) (d := d) (M := X) (show k < 4 by omega) (by omega)
    rw [hX 38 (by decide) (by decide), e38] at q2
    have q3 := sp_outColumn (sc := sc) (d := d) (M := X) (show k < 4 by omega) (by omega)
    rw [hX 39 (by decide) (by decide), e39] at q3
    obtain ⟨x1, x2⟩ := hX2 k (Nat.le_refl _)
    have hcol : ∃ u : Nat, (¬ o.1 = 266 → o.2.1 = (u : Int) ∧ u < 130 ∧ X 23 u = Ob k ∧ (Ob k = 0 → X 22 u = On k)) := by
      by_cases c : o.1 = 266
      · exact ⟨0, fun h => absurd c h⟩
      · obtain ⟨u, u1, u2, u3, u4⟩ := v3 c
        exact ⟨u, fun _ => ⟨u1, u2, by rw [hX 23 (by decide) (by decide)]; exact u3, by rw [hX 22 (by decide) (by decide)]; exact u4⟩⟩
    obtain ⟨u, hcol⟩ := hcol
    obtain ⟨A, q4, A0, A1, A2, A3⟩ := sp_tally (sc := sc) (d := d) (X := X) (k := k) (w := ous.length) (kd := o.1) (col := o.2.1) (b := Ob k) (v := On k) hr (by rw [hX 43 (by decide) (by decide)]; exact hh) h30 (by omega) (by rw [hX 43 (by decide) (by decide)]; exact hw) h4 hcol v1 (by rw [x2]; exact hc k (by omega)) (Or.inr (Or.inr trivial)) hd
    obtain ⟨F, X', q5, r1, r2, r3⟩ := ih (k + 1) A (by omega) (fun a h1 h2 => (A0 a h1 h2).trans (hX a h1 h2)) (fun j hj => by
      rw [(A1 (4 * r + j) (by omega)).1, (A1 (4 * r + j) (by omega)).2]; exact hX2 j (by omega))
    refine ⟨F + 1, X', sg_X2_gather_43.trans ?_, r1, fun j hj => ?_, fun i o' hi ho' => ?_⟩
    · rw [q1, q_cI_s, if_pos (by omega), q2, q_cI_s, q3, q_cI_s, q4, q_c0_s, qw1 (by omega), q5]
    · have := r2 j (by omega)
      rw [this.1, this.2]; exact A1 j (by omega)
    · by_cases e : i = k
      · subst e
        rw [ho] at ho'; cases ho'
        have := r2 (4 * r + i) (by omega)
        rw [this.1, this.2, A2, A3, x1, x2]; exact ⟨rfl, rfl⟩
      · exact r3 i o' (by omega) ho'
