/-! the constructors don't look at the script: their run can be computed -/
def q_ns (ins : Instr) : Bool := match ins with
  | .iaload => false
  | .arraylength => false
  | _ => true
set_option maxRecDepth 100000 in
theorem q_stp_sc {orc : q_O} {sc : List Int} {ini : Bool} {kc ks co : Nat} {ins : Instr} {l : q_L} {st : List q_V} {G : q_G} {M : q_M} {ca sa : Nat} (h : q_ns ins = true) : q_stp orc (pg_P sc) ini kc ks co ins l st G M ca sa = q_stp orc (pg_P []) ini kc ks co ins l st G M ca sa := by
  cases ins
  case iaload => cases h
  case arraylength => cases h
  all_goals rfl
theorem q_iv_sc {α : Type} {orc : q_O} {sc : List Int} {kc ks : Nat} {ws : List Nat} {co idx : Nat} {st : List q_V} {G : q_G} {M : q_M} {ca sa : Nat} {k : List q_V → q_M → Nat → Nat → Option α} : q_iv orc (pg_P sc) kc ks ws co idx st G M ca sa k = q_iv orc (pg_P []) kc ks ws co idx st G M ca sa k := rfl
theorem q_den_sc {orc : q_O} {sc : List Int} {ini : Bool} {kc ks co : Nat} {I : q_I} {sp : List Nat} (hI : ∀ q ∈ I, q_ns q.2.1 = true) (hc : q_ctg I = true) : ∀ (n : Nat) (b : Bool) (rm : q_I) (l : q_L) (st : List q_V) (G : q_G) (M : q_M) (ca sa : Nat), (∀ q ∈ rm, q ∈ I) → q_den orc (pg_P sc) ini kc ks co I sp n b rm l st G M ca sa = q_den orc (pg_P []) ini kc ks co I sp n b rm l st G M ca sa := by
  intro n
  induction n with
  | zero => intro b rm l st G M ca sa _; rfl
  | succ n ih =>
    intro b rm l st G M ca sa hr
    rcases rm with _ | ⟨⟨pc, ins, ln⟩, tl⟩
    · rfl
    · have hns : q_ns ins = true := hI _ (hr _ List.mem_cons_self)
      have htl : ∀ q ∈ tl, q ∈ I := fun q hq => hr q (List.mem_cons_of_mem _ hq)
      have hsk : ∀ t : Int, ∀ q ∈ q_seek t I, q ∈ I := fun t => (q_seek_ok (t := t) hc).2.1
      simp only [q_den]
      by_cases hb : b = true ∧ pc ∈ sp
      · rw [if_pos hb, if_pos hb]
      · rw [if_neg hb, if_neg hb]
        cases ins
        case goto off => exact ih _ _ _ _ _ _ _ _ (hsk _)
        case if_icmp c off =>
          rcases st with _ | ⟨y | y | y, st⟩ <;> try rfl
          rcases st with _ | ⟨x | x | x, st⟩ <;> try rfl
          dsimp only
          rw [ih _ _ _ _ _ _ _ _ (hsk _), ih _ _ _ _ _ _ _ _ htl]
        case ifCond c off =>
          rcases st with _ | ⟨y | y | y, st⟩ <;> try rfl
          dsimp only
          rw [ih _ _ _ _ _ _ _ _ (hsk _), ih _ _ _ _ _ _ _ _ htl]
        case invokevirtual idx =>
          dsimp only
          rw [q_iv_sc]
          congr 1
          funext st' M' ca' sa'
          exact ih _ _ _ _ _ _ _ _ htl
        case invokestatic idx =>
          dsimp only
          rw [q_iv_sc]
          congr 1
          funext st' M' ca' sa'
          exact ih _ _ _ _ _ _ _ _ htl
        all_goals (dsimp only; rw [q_stp_sc hns]; generalize q_stp orc (pg_P []) ini kc ks co _ l st G M ca sa = x; rcases x with _ | ⟨a, b, c, d, e, f⟩ <;> first | rfl | exact ih _ _ _ _ _ _ _ _ htl)
theorem q_drv_sc {orc : q_O} {sc : List Int} {kc ks : Nat} {rt : Option FieldType} {mr : q_R} (hI : ∀ q ∈ mr.2.2.2.1, q_ns q.2.1 = true) (hc : q_ctg mr.2.2.2.1 = true) : ∀ (F pc : Nat) (l : q_L) (st : List q_V) (G : q_G) (M : q_M) (ca sa : Nat), q_drv orc (pg_P sc) kc ks rt mr F pc l st G M ca sa = q_drv orc (pg_P []) kc ks rt mr F pc l st G M ca sa := by
  intro F
  induction F with
  | zero => intro pc l st G M ca sa; rfl
  | succ F ih =>
    intro pc l st G M ca sa
    rw [q_drv, q_drv, q_den_sc hI hc _ _ _ _ _ _ _ _ _ (q_seek_ok hc).2.1]
    simp only [ih]
/-- the constructors, and the two readers that they call -/
def ct_S : List Nat := [0, 8, 14, 26, 42, 59, 82, 95, 104, 118, 126, 132, 147, 62, 63]
def q_ct (sc : List Int) : Nat → q_O
  | 0 => fun _ _ _ _ => none
  | d + 1 => fun mid as G M => if mid ∈ ct_S then (if (q_ent as).length ≤ (pg_ym mid).2.2.1 then q_drv (q_ct sc d) (pg_P sc) (q_mm (pg_P sc) mid).2.1 (q_mm (pg_P sc) mid).2.2 (pg_ym mid).2.2.2 (pg_MT mid) 3 0 (q_entry (pg_ym mid).2.2.1 as) [] G M 0 0 else none) else none
set_option maxRecDepth 100000 in
theorem ct_ns : ∀ mid ∈ ct_S, (∀ q ∈ (pg_MT mid).2.2.2.1, q_ns q.2.1 = true) ∧ q_ctg (pg_MT mid).2.2.2.1 = true := by decide +kernel
theorem q_ct_sc {sc : List Int} : ∀ d, q_ct sc d = q_ct [] d
  | 0 => rfl
  | d + 1 => by
    funext mid as G M
    unfold q_ct
    rw [q_ct_sc d]
    by_cases h : mid ∈ ct_S
    · rw [if_pos h, if_pos h]
      obtain ⟨h1, h2⟩ := ct_ns mid h
      by_cases hl : (q_ent as).length ≤ (pg_ym mid).2.2.1
      · rw [if_pos hl, if_pos hl]
        exact q_drv_sc h1 h2 _ _ _ _ _ _ _ _
      · rw [if_neg hl, if_neg hl]
    · rw [if_neg h, if_neg h]
theorem q_ct_pq {sc : List Int} : ∀ d, q_le9 (q_ct sc d) (pq sc d)
  | 0 => fun mid as G M r h => by cases h
  | d + 1 => fun mid as G M r h => by
    unfold q_ct at h
    split at h
    · next hm =>
      have hne : mid ≠ 224 := fun e => by rw [e] at hm; exact absurd hm (by decide)
      split at h
      · next hl => exact (q_f_iff (by simp [pg_ex, hne])).mpr ⟨hl, 3, q_drv_mo (q_ct_pq d) _ _ _ _ _ _ _ _ h⟩
      · cases h
    · cases h
/-- the law's start, up to its loop -/
def in_I : q_I := pI_L_law.take 14
theorem in_Iok : q_Iok cL_law in_I := ⟨by decide +kernel, fun q h => pK_L_law.2 q (List.mem_of_mem_take h)⟩
theorem in_Ins : (∀ q ∈ in_I, q_ns q.2.1 = true) ∧ q_ctg in_I = true := by decide +kernel
def in_0 : Option (Nat × q_T) := q_den (q_ct [] 32) (pg_P []) false 600128 7301098 13 in_I [23] 1000 false (q_seek (0 : Int) in_I) [some (.inr (.inr 3000)), none, none, none, none, none, none] [] [] (fun _ _ => 0) 0 0
def q_e2 (v : Option q_V) : Nat × Int := match v with
  | none => (3, 0)
  | some (.inl x) => (0, x)
  | some (.inr (.inl x)) => (1, x)
  | some (.inr (.inr k)) => (2, (k : Int))
theorem q_e2i {a b : Option q_V} (h : q_e2 a = q_e2 b) : a = b := by
  rcases a with _ | a | a | a <;> rcases b with _ | b | b | b <;> simp [q_e2] at h ⊢ <;> omega
def q_e3 (v : q_S) : Nat × Nat × List Nat := match v with
  | .inl (a, b) => (0, a, [b])
  | .inr (a, l) => (1, a, l)
theorem q_e3i {a b : q_S} (h : q_e3 a = q_e3 b) : a = b := by
  rcases a with ⟨a, a'⟩ | ⟨a, a'⟩ <;> rcases b with ⟨b, b'⟩ | ⟨b, b'⟩ <;> simp [q_e3] at h ⊢ <;> exact h
def q_e4 (z : Nat × q_T) : Nat × List (Nat × Int) × List (Nat × Int) := (z.1, z.2.1.map q_e2, z.2.2.1.map (fun v => q_e2 (some v)))
def q_e5 (z : Nat × q_T) : List (Nat × Nat × List Nat) × Nat × Nat := (z.2.2.2.1.map q_e3, z.2.2.2.2.2.1, z.2.2.2.2.2.2)
def in_l : q_L := [some (.inr (.inr 3000)), some (.inr (.inr 0)), some (.inr (.inr 49)), some (.inr (.inr 81)), some (.inl 0), none, none]
set_option maxRecDepth 100000 in
theorem in_1a : in_0.map q_e4 = some (q_e4 (23, in_l, [], GF, (fun _ _ => 0), 82, 4713)) := by decide +kernel
set_option maxRecDepth 100000 in
theorem in_1b : in_0.map q_e5 = some (q_e5 (23, in_l, [], GF, (fun _ _ => 0), 82, 4713)) := by decide +kernel
def in_M : q_M := match in_0 with
  | some z => z.2.2.2.2.1
  | none => fun _ _ => 0
theorem in_2 : in_0 = some (23, in_l, [], GF, in_M, 82, 4713) := by
  have h := in_1a
  have h' := in_1b
  unfold in_M
  rcases hx : in_0 with _ | ⟨a, b, c, e, m, f, g⟩
  · rw [hx] at h; cases h
  · rw [hx] at h h'
    simp only [q_e4, q_e5, Option.map_some, Option.some.injEq, Prod.mk.injEq] at h h'
    obtain ⟨h1, h2, h3⟩ := h
    obtain ⟨h4, h5, h6⟩ := h'
    have e2 := (List.map_inj_right (fun x y => q_e2i)).mp h2
    have e4 := (List.map_inj_right (fun x y => q_e3i)).mp h4
    have e3 : c = [] := by
      rcases c with _ | ⟨v, c⟩
      · rfl
      · cases h3
    subst h1 h5 h6 e2 e4 e3
    rfl
/-- what of the first memory is wanted -/
def in_F : List (Nat × Nat × Int) := [(2, 0, 0), (2, 1, 0), (2, 2, 0), (3, 0, 0), (3, 1, 0), (3, 2, 0), (6, 2, 0), (9, 1, 0), (11, 3, 0), (11, 4, 0), (15, 7, 0), (15, 10, 0), (15, 12, 0), (16, 7, 0), (24, 4, 0), (24, 9, 0), (0, 9, 0), (0, 10, -1), (43, 2, 0), (43, 3, 0), (46, 7, 0), (46, 8, 0), (41, 4, 3), (42, 3, -1), (51, 0, 0), (51, 1, 0), (51, 2, 0), (52, 0, 0), (52, 1, 0), (52, 2, 0), (49, 1, 0), (49, 6, 0), (49, 9, 0), (49, 11, -1), (49, 12, 0), (49, 15, 0), (49, 16, 0), (49, 20, 0), (49, 22, 0), (49, 23, 0), (49, 26, 0), (49, 34, 0), (49, 36, 0), (49, 40, 0), (49, 44, 0), (49, 47, 0), (49, 48, 0), (49, 49, 0)] ++ (List.zip (List.range 16) [643175540, 215533, 343342, 398548, 494, 24385093, 7945904, 3659220, 20141, 13614, 13368, 498, 1476, 14836, 307, 480652]).map (fun q => (50, q.1, q.2))
set_option maxRecDepth 100000 in
theorem in_3 : ∀ q ∈ in_F, in_M q.1 q.2.1 = q.2.2 := by decide +kernel
