/-- a word by its place -/
def pt_in (i : Nat) (w : Cond) : Bool := decide (tables_1[i]? = some w) && goodWord w
def pt_se (i : Nat) (w : Cond) : Bool := if i < 10000 then pt_in i w else (decide ((k2_sels lw_privs)[i - 10000]? = some w) && goodWord w)
theorem pt_in_ok {i : Nat} {w : Cond} (h : pt_in i w = true) : w ∈ q_WT := by
  simp only [pt_in, Bool.and_eq_true, decide_eq_true_eq] at h
  exact List.mem_filter.mpr ⟨List.mem_append_right _ (List.mem_of_getElem? h.1), h.2⟩
theorem pt_se_ok {i : Nat} {w : Cond} (h : pt_se i w = true) : w ∈ q_WT := by
  unfold pt_se at h
  split at h
  · exact pt_in_ok h
  · simp only [Bool.and_eq_true, decide_eq_true_eq] at h
    exact List.mem_filter.mpr ⟨List.mem_append_left _ (List.mem_of_getElem? h.1), h.2⟩
theorem pt_find {α β : Type} {tb : List (List (Nat × α))} {co idx : Nat} {f : Nat × α → β} {r : β} (h : ((tb.getD co []).find? (fun t => t.1 == idx)).map f = some r) {ok : Nat → Nat × α → Bool} (hall : tb.zipIdx.all (fun p => p.1.all (ok p.2)) = true) : ∃ t : Nat × α, t.1 = idx ∧ f t = r ∧ ok co t = true := by
  obtain ⟨t, h1, h2⟩ := Option.map_eq_some_iff.mp h
  have hm := List.mem_of_find?_eq_some h1
  have hi : t.1 = idx := by have := List.find?_some h1; simpa using this
  refine ⟨t, hi, h2, ?_⟩
  rcases hc : tb[co]? with _ | x
  · rw [List.getD_eq_getElem?_getD, hc] at hm; simp at hm
  · rw [List.getD_eq_getElem?_getD, hc] at hm
    have hx : (x, co) ∈ tb.zipIdx := by
      rw [List.mem_zipIdx_iff_getElem?]; exact hc
    exact List.all_eq_true.mp (List.all_eq_true.mp hall _ hx) t hm
theorem pt_fin2 {α β : Type} {tb : List (List (Nat × α))} {co idx : Nat} {f : Nat × α → β} {r : β} (h : ((tb.getD co []).find? (fun t => t.1 == idx)).map f = some r) {ok : Nat → Nat × α → Bool} (hall : ∀ (co : Nat) (x : List (Nat × α)), tb[co]? = some x → x.all (ok co) = true) : ∃ t : Nat × α, t.1 = idx ∧ f t = r ∧ ok co t = true := by
  obtain ⟨t, h1, h2⟩ := Option.map_eq_some_iff.mp h
  have hm := List.mem_of_find?_eq_some h1
  have hi : t.1 = idx := by have := List.find?_some h1; simpa using this
  refine ⟨t, hi, h2, ?_⟩
  rcases hc : tb[co]? with _ | x
  · rw [List.getD_eq_getElem?_getD, hc] at hm; simp at hm
  · rw [List.getD_eq_getElem?_getD, hc] at hm
    exact List.all_eq_true.mp (hall co x hc) t hm
def pt_F (co : Nat) (t : Nat × Nat × Nat × Nat) : Bool :=
  if t.2.1 = 100 then (if t.2.2.1 = 0 then pt_in t.2.2.2 (.fieldLink (pg_Rn co) t.1 "java/lang/String" "value" "[B") else pt_in t.2.2.2 (.fieldLink (pg_Rn co) t.1 "java/lang/String" "coder" "B"))
  else if t.2.1 = 101 then pt_in t.2.2.2 (.fieldLink (pg_Rn co) t.1 "java/lang/String" "COMPACT_STRINGS" "Z")
  else match vwCl[t.2.1]? with
    | some (_, T, N) => decide (t.2.2.1 < N) && pt_in t.2.2.2 (.fieldLink (pg_Rn co) t.1 (T t.2.2.1).1 (T t.2.2.1).2.1 (T t.2.2.1).2.2.1)
    | none => false
set_option maxRecDepth 100000 in
theorem pt_Fall : pg_FL.zipIdx.all (fun p => p.1.all (pt_F p.2)) = true := by decide +kernel
theorem pg_Fok {sc : List Int} : q_Fok (pg_P sc) pg_Rn := by
  intro co idx ci j h
  obtain ⟨t, h1, h2, h3⟩ := pt_find (ok := pt_F) h pt_Fall
  simp only [Prod.mk.injEq] at h2
  obtain ⟨rfl, rfl⟩ := h2
  subst h1
  unfold pt_F at h3
  split at h3
  · next e =>
    refine Or.inl ⟨e, ?_⟩
    split at h3
    · next e2 => exact Or.inl ⟨e2, pt_in_ok h3⟩
    · next e2 => exact Or.inr ⟨e2, pt_in_ok h3⟩
  · split at h3
    · next e => exact Or.inr (Or.inl ⟨e, pt_in_ok h3⟩)
    · split at h3
      · next C T N hcl =>
        simp only [Bool.and_eq_true, decide_eq_true_eq] at h3
        refine Or.inr (Or.inr ⟨(List.getElem?_eq_some_iff.mp hcl).1, fun C' T' N' hcl' => ?_⟩)
        rw [hcl] at hcl'
        cases hcl'
        exact ⟨h3.1, pt_in_ok h3.2⟩
      · cases h3
def pt_N (co : Nat) (t : Nat × Nat × Nat × Nat × Nat) : Bool := match vwCl[t.2.1]? with
  | some (C, _, N) => pt_in t.2.2.1 (.classLink (pg_Rn co) t.1 C) && pt_in t.2.2.2.1 (.instantiable C N) && pt_in t.2.2.2.2 (.initialized C)
  | none => false
set_option maxRecDepth 100000 in
theorem pt_Nall : pg_CN.zipIdx.all (fun p => p.1.all (pt_N p.2)) = true := by decide +kernel
theorem pg_Nok {sc : List Int} : q_Nok (pg_P sc) pg_Rn := by
  intro co idx ci h
  obtain ⟨t, h1, h2, h3⟩ := pt_find (ok := pt_N) h pt_Nall
  subst h1; subst h2
  unfold pt_N at h3
  split at h3
  · next C T N hcl =>
    simp only [Bool.and_eq_true] at h3
    exact ⟨C, T, N, hcl, pt_in_ok h3.1.1, pt_in_ok h3.1.2, pt_in_ok h3.2⟩
  · cases h3
def pt_L (co : Nat) (t : Nat × q_V × Nat) : Bool := match t.2.1 with
  | .inl x => decide (-2147483648 ≤ x ∧ x < 2147483648) && pt_in t.2.2 (.constant (pg_Rn co) t.1 (Int32.ofInt x))
  | .inr (.inr k) => decide (1000 ≤ k) && pg_SR.any (fun r => decide (r.1 = pg_Rn co ∧ r.2.1 = t.1 ∧ r.2.2.2 = k - 1000))
  | _ => false
set_option maxRecDepth 100000 in
theorem pt_Lall : pg_LD.zipIdx.all (fun p => p.1.all (pt_L p.2)) = true := by decide +kernel
theorem pg_Lok {sc : List Int} : q_Lok (pg_P sc) pg_SR pg_Rn := by
  intro co idx v h
  obtain ⟨t, h1, h2, h3⟩ := pt_find (ok := pt_L) h pt_Lall
  subst h1; subst h2
  unfold pt_L at h3
  split at h3
  · next x e =>
    simp only [Bool.and_eq_true, decide_eq_true_eq] at h3
    exact Or.inl ⟨x, e, h3.1, pt_in_ok h3.2⟩
  · next k e =>
    simp only [Bool.and_eq_true, decide_eq_true_eq, List.any_eq_true] at h3
    obtain ⟨hk, r, hr, e1, e2, e3⟩ := h3
    refine Or.inr ⟨k - 1000, r.2.2.1, by rw [e, show 1000 + (k - 1000) = k by omega], ?_⟩
    rw [← e1, ← e2, ← e3]
    exact hr
  · cases h3
theorem pg_Aok : q_Aok := ⟨pt_in_ok (i := 54) (by decide +kernel), pt_in_ok (i := 55) (by decide +kernel), pt_in_ok (i := 85) (by decide +kernel), pt_in_ok (i := 294) (by decide +kernel)⟩
theorem pg_Sok {sc : List Int} (h1 : sc.length < 1000) (h2 : ∀ x ∈ sc, q_r x) : q_Sok (pg_P sc) := by
  have h : pg_SB.all (fun bs => decide (bs.length < 1000) && bs.all (fun b => decide (0 ≤ b ∧ b < 128))) = true := by decide +kernel
  refine ⟨fun bs hb => ?_, h1, h2⟩
  have := List.all_eq_true.mp h bs hb
  simp only [Bool.and_eq_true, decide_eq_true_eq, List.all_eq_true] at this
  exact this
/-- idx, way, arguments, method; places of: link, instance or static, selects, code, initialized -/
def pt_M2 (co : Nat) (t : Nat × Nat × Nat × Nat × Nat × Nat × Nat × Nat × Nat) (Y : MethodName × ByteArray × Nat × Option FieldType) : Bool := match Y with
  | (y, b, ml, rt) => pt_in t.2.2.2.2.2.2.2.1 (q_cw (y, b, ml, rt)) && decide (q_hh y = none ∨ t.2.1 = 5) && pt_in t.2.2.2.2.2.2.2.2 (.initialized y.cls) && decide (y.cls ≠ "java/lang/invoke/MethodHandle") && decide (y.cls ≠ "java/lang/invoke/VarHandle") && decide (ml ≤ 40) &&
    (if t.2.1 = 0 then decide (1 ≤ t.2.2.1) && pt_in t.2.2.2.2.1 (.methodLink (pg_Rn co) t.1 y) && pt_in t.2.2.2.2.2.1 (.instanceMethod y) && pt_se t.2.2.2.2.2.2.1 (.selects y.cls y y) && decide ((parseMethodDescriptor y.desc).map (fun d => d.parameters.length) = some (t.2.2.1 - 1)) &&
        (if (pg_mm t.2.2.2.1).1 = 100 then decide (y.cls = "java/lang/String") else match vwCl[(pg_mm t.2.2.2.1).1]? with
          | some q => decide (q.1 = y.cls)
          | none => true)
    else if t.2.1 = 1 then pt_in t.2.2.2.2.1 (.methodLink (pg_Rn co) t.1 y) && pt_in t.2.2.2.2.2.1 (.static y) && decide ((parseMethodDescriptor y.desc).map (fun d => d.parameters.length) = some t.2.2.1)
    else if t.2.1 = 2 then decide (1 ≤ t.2.2.1) && pt_in t.2.2.2.2.1 (.methodLink (pg_Rn co) t.1 y) && pt_in t.2.2.2.2.2.1 (.instanceMethod y) && decide (y.name = "<init>") && decide (rt = none) && decide ((parseMethodDescriptor y.desc).map (fun d => d.parameters.length) = some (t.2.2.1 - 1))
    else if t.2.1 = 5 then (q_hh y).isSome && pt_in t.2.2.2.2.1 (.methodLink (pg_Rn co) t.1 y) && pt_in t.2.2.2.2.2.1 (.static y) && decide ((parseMethodDescriptor y.desc).map (fun d => d.parameters.length) = some t.2.2.1)
    else if t.2.1 = 3 then pg_NW.any (fun w => decide (w.1 = pg_Rn co ∧ w.2.1 = t.1 ∧ w.2.2.1 = y)) && pt_in t.2.2.2.2.2.1 (.static y) && decide ((parseMethodDescriptor y.desc).map (fun d => d.parameters.length) = some t.2.2.1)
    else if t.2.1 = 4 then decide (1 ≤ t.2.2.1) && pg_NW.any (fun w => decide (w.1 = pg_Rn co ∧ w.2.1 = t.1 ∧ w.2.2.1 = y)) && pt_in t.2.2.2.2.2.1 (.instanceMethod y) && decide (y.name = "<init>") && decide (rt = none) && decide ((parseMethodDescriptor y.desc).map (fun d => d.parameters.length) = some (t.2.2.1 - 1))
    else false)
def pt_M (co : Nat) (t : Nat × Nat × Nat × Nat × Nat × Nat × Nat × Nat × Nat) : Bool :=
  if t.2.1 = 9 then decide (t.2.2.1 = 1) && pt_in t.2.2.2.2.1 (.methodLink (pg_Rn co) t.1 Lib.objectInit) && pt_in t.2.2.2.2.2.1 (.instanceMethod Lib.objectInit) && pt_in t.2.2.2.2.2.2.2.1 (.code Lib.objectInit ⟨#[0xb1]⟩ 1 none)
  else pt_M2 co t (pg_ym t.2.2.2.1)
