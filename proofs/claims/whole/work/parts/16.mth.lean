/-! a method: its segments from its entry to a return -/
/-- class, whether a constructor, locals, instructions, stops with what is alive there -/
abbrev q_R : Type := Nat × Bool × Nat × q_I × List (Nat × List Nat)
def q_isr (ins : Instr) : Bool := match ins with
  | .ireturn => true
  | .lreturn => true
  | .areturn => true
  | .return_ => true
  | _ => false
def q_end (rt : Option FieldType) (ins : Instr) (st : List q_V) : Option (Option q_V) := match ins, rt, st with
  | .ireturn, some .int, [.inl x] => some (some (.inl x))
  | .ireturn, some .boolean, [.inl x] => if x = 0 ∨ x = 1 then some (some (.inl x)) else none
  | .ireturn, some .char, [.inl x] => if 0 ≤ x ∧ x < 65536 then some (some (.inl x)) else none
  | .ireturn, some .byte, [.inl x] => if x = 0 ∨ x = 1 then some (some (.inl x)) else none
  | .lreturn, some .long, [.inr (.inl x)] => some (some (.inr (.inl x)))
  | .areturn, some (.object _), [.inr (.inr k)] => some (some (.inr (.inr k)))
  | .return_, none, [] => some none
  | _, _, _ => none
def q_mask (lv : List Nat) (l : q_L) : q_L := l.mapIdx (fun i v => if i ∈ lv then v else none)
def q_ent : List q_V → q_L
  | [] => []
  | .inr (.inl x) :: r => some (.inr (.inl x)) :: none :: q_ent r
  | v :: r => some v :: q_ent r
def q_entry (nL : Nat) (as : List q_V) : q_L := q_ent as ++ List.replicate (nL - (q_ent as).length) none
def q_drv (orc : q_O) (P : q_P) (kc ks : Nat) (rt : Option FieldType) (mr : q_R) : Nat → Nat → q_L → List q_V → q_G → q_M → Nat → Nat → Option (Option q_V × q_G × q_M)
  | 0, _, _, _, _, _, _, _ => none
  | F + 1, pc, l, st, G, M, ca, sa => match q_den orc P mr.2.1 kc ks mr.1 mr.2.2.2.1 (mr.2.2.2.2.map (·.1)) 1000 false (q_seek (pc : Int) mr.2.2.2.1) l st G M ca sa with
    | none => none
    | some (pc', l', st', G', M', ca', sa') => match q_seek (pc' : Int) mr.2.2.2.1 with
      | [] => none
      | (_, ins, _) :: _ => if q_isr ins = true then (if ca' ≤ kc ∧ sa' ≤ ks then (match q_end rt ins st' with
          | some r => some (r, G', M')
          | none => none) else none)
        else q_drv orc P kc ks rt mr F pc' (q_mask (((mr.2.2.2.2.find? (fun q => q.1 == pc')).map (·.2)).getD []) l') st' G' M' ca' sa'
theorem q_drv_mono {orc : q_O} {P : q_P} {kc ks : Nat} {rt : Option FieldType} {mr : q_R} {r : Option q_V × q_G × q_M} : ∀ (F F' : Nat) (pc : Nat) (l : q_L) (st : List q_V) (G : q_G) (M : q_M) (ca sa : Nat), F ≤ F' → q_drv orc P kc ks rt mr F pc l st G M ca sa = some r → q_drv orc P kc ks rt mr F' pc l st G M ca sa = some r := by
  intro F
  induction F with
  | zero => intro F' pc l st G M ca sa _ h; cases h
  | succ F ih =>
    intro F' pc l st G M ca sa hF h
    obtain ⟨F', rfl⟩ : ∃ k, F' = k + 1 := ⟨F' - 1, by omega⟩
    unfold q_drv at h ⊢
    split at h
    · cases h
    · next pc' l' st' G' M' ca' sa' hden =>
      try rw [hden]
      try dsimp only
      split at h
      · cases h
      · next p0 ins ln tl hsk =>
        try rw [hsk]
        try dsimp only
        split at h
        · next hr => rw [if_pos hr]; exact h
        · next hr => rw [if_neg hr]; exact ih F' _ _ _ _ _ _ _ (by omega) h
/-- methods whose answer is told otherwise -/
abbrev q_X9 : Type := Nat → Option (List q_V → q_G → q_M → Option (Option q_V × q_G × q_M))
/-- the answer that a method comes to, with d frames left -/
noncomputable def q_f (P : q_P) (ym : q_ym) (MT : Nat → q_R) (ex : q_X9) : Nat → q_O
  | 0 => fun _ _ _ _ => none
  | d + 1 => fun mid as G M => match ex mid with
    | some g => if 3 ≤ d + 1 then g as G M else none
    | none => @dite _ (∃ r F, (q_ent as).length ≤ (ym mid).2.2.1 ∧ q_drv (q_f P ym MT ex d) P (q_mm P mid).2.1 (q_mm P mid).2.2 (ym mid).2.2.2 (MT mid) F 0 (q_entry (ym mid).2.2.1 as) [] G M 0 0 = some r) (Classical.propDecidable _) (fun h => some (Classical.choose h)) (fun _ => none)
theorem q_f_iff {P : q_P} {ym : q_ym} {MT : Nat → q_R} {ex : q_X9} {d mid : Nat} {as : List q_V} {G : q_G} {M : q_M} {r : Option q_V × q_G × q_M} (hex : ex mid = none) : q_f P ym MT ex (d + 1) mid as G M = some r ↔ (q_ent as).length ≤ (ym mid).2.2.1 ∧ ∃ F, q_drv (q_f P ym MT ex d) P (q_mm P mid).2.1 (q_mm P mid).2.2 (ym mid).2.2.2 (MT mid) F 0 (q_entry (ym mid).2.2.1 as) [] G M 0 0 = some r := by
  have key : ∀ r r' F F', q_drv (q_f P ym MT ex d) P (q_mm P mid).2.1 (q_mm P mid).2.2 (ym mid).2.2.2 (MT mid) F 0 (q_entry (ym mid).2.2.1 as) [] G M 0 0 = some r → q_drv (q_f P ym MT ex d) P (q_mm P mid).2.1 (q_mm P mid).2.2 (ym mid).2.2.2 (MT mid) F' 0 (q_entry (ym mid).2.2.1 as) [] G M 0 0 = some r' → r = r' := by
    intro r r' F F' h h'
    have h1 := q_drv_mono F (F + F') _ _ _ _ _ _ _ (by omega) h
    have h2 := q_drv_mono F' (F + F') _ _ _ _ _ _ _ (by omega) h'
    rw [h1] at h2
    exact Option.some.inj h2
  constructor
  · intro h
    simp only [q_f, hex] at h
    by_cases hx : ∃ r F, (q_ent as).length ≤ (ym mid).2.2.1 ∧ q_drv (q_f P ym MT ex d) P (q_mm P mid).2.1 (q_mm P mid).2.2 (ym mid).2.2.2 (MT mid) F 0 (q_entry (ym mid).2.2.1 as) [] G M 0 0 = some r
    · rw [dif_pos hx] at h
      cases h
      obtain ⟨F, h1, h2⟩ := Classical.choose_spec hx
      exact ⟨h1, F, h2⟩
    · rw [dif_neg hx] at h; cases h
  · rintro ⟨h0, F, h⟩
    have hx : ∃ r F, (q_ent as).length ≤ (ym mid).2.2.1 ∧ q_drv (q_f P ym MT ex d) P (q_mm P mid).2.1 (q_mm P mid).2.2 (ym mid).2.2.2 (MT mid) F 0 (q_entry (ym mid).2.2.1 as) [] G M 0 0 = some r := ⟨r, F, h0, h⟩
    simp only [q_f, hex]
    rw [dif_pos hx]
    obtain ⟨F', -, h'⟩ := Classical.choose_spec hx
    rw [key _ _ _ _ h h']
theorem q_mask_get {lv : List Nat} {l : q_L} {i : Nat} {v : q_V} (h : (q_mask lv l)[i]? = some (some v)) : l[i]? = some (some v) := by
  simp only [q_mask, List.getElem?_mapIdx, Option.map_eq_some_iff] at h
  obtain ⟨w, h1, h2⟩ := h
  split at h2
  · rw [h1, h2]
  · cases h2
theorem q_mask_len {lv : List Nat} {l : q_L} : (q_mask lv l).length = l.length := by simp [q_mask]
theorem q_ent_get {ad : Nat → Nat} : ∀ (as : List q_V) (k i : Nat) (v : q_V), (q_ent as)[i]? = some (some v) → (k + i, q_cv ad v) ∈ lv_args k (as.map (q_cv ad)) ∧ v ∈ as
  | [], k, i, v, h => by simp [q_ent] at h
  | .inr (.inl x) :: r, k, i, v, h => by
    simp only [q_ent] at h
    rcases i with _ | _ | i
    · simp at h; subst h; exact ⟨List.mem_cons_self, List.mem_cons_self⟩
    · simp at h
    · simp only [List.getElem?_cons_succ] at h
      obtain ⟨a, b⟩ := q_ent_get (ad := ad) r (k + 2) i v h
      refine ⟨?_, List.mem_cons_of_mem _ b⟩
      rw [show k + (i + 1 + 1) = k + 2 + i by omega]
      exact List.mem_cons_of_mem _ a
  | .inl x :: r, k, i, v, h => by
    simp only [q_ent] at h
    rcases i with _ | i
    · simp at h; subst h; exact ⟨List.mem_cons_self, List.mem_cons_self⟩
    · simp only [List.getElem?_cons_succ] at h
      obtain ⟨a, b⟩ := q_ent_get (ad := ad) r (k + 1) i v h
      refine ⟨?_, List.mem_cons_of_mem _ b⟩
      rw [show k + (i + 1) = k + 1 + i by omega]
      exact List.mem_cons_of_mem _ a
  | .inr (.inr x) :: r, k, i, v, h => by
    simp only [q_ent] at h
    rcases i with _ | i
    · simp at h; subst h; exact ⟨List.mem_cons_self, List.mem_cons_self⟩
    · simp only [List.getElem?_cons_succ] at h
      obtain ⟨a, b⟩ := q_ent_get (ad := ad) r (k + 1) i v h
      refine ⟨?_, List.mem_cons_of_mem _ b⟩
      rw [show k + (i + 1) = k + 1 + i by omega]
      exact List.mem_cons_of_mem _ a
theorem q_ent_len {ad : Nat → Nat} : ∀ (as : List q_V), (lg_sl (as.map (q_cv ad))).length = (q_ent as).length
  | [] => rfl
  | .inr (.inl x) :: r => by have := q_ent_len (ad := ad) r; simp [lg_sl, q_ent, q_cv, Value.category] at this ⊢; omega
  | .inl x :: r => by have := q_ent_len (ad := ad) r; simp [lg_sl, q_ent, q_cv, Value.category] at this ⊢; omega
  | .inr (.inr x) :: r => by have := q_ent_len (ad := ad) r; simp [lg_sl, q_ent, q_cv, Value.category] at this ⊢; omega
