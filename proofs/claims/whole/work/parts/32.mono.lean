/-! a better oracle gives the same answers -/
def q_le9 (o1 o2 : q_O) : Prop := ∀ mid as G M r, o1 mid as G M = some r → o2 mid as G M = some r
theorem q_br_t {α : Type} {c : ClassFile.Cond} {x y : Int} {a b : α} (h : q_cP c x y) : q_br c x y a b = a := by
  cases c <;> simp only [q_br, q_cP] at h ⊢ <;> first | exact if_pos h | exact if_neg h
theorem q_br_f {α : Type} {c : ClassFile.Cond} {x y : Int} {a b : α} (h : ¬ q_cP c x y) : q_br c x y a b = b := by
  cases c <;> simp only [q_br, q_cP] at h ⊢ <;> first | exact if_neg h | exact if_pos (Classical.not_not.mp h)
theorem q_iv_mono {α : Type} {o1 o2 : q_O} (h : q_le9 o1 o2) {P : q_P} {kc ks : Nat} {ws : List Nat} {co idx : Nat} {st : List q_V} {G : q_G} {M : q_M} {ca sa : Nat} {k1 k2 : List q_V → q_M → Nat → Nat → Option α} {z : α} (hk : ∀ a b c d, k1 a b c d = some z → k2 a b c d = some z) (hs : q_iv o1 P kc ks ws co idx st G M ca sa k1 = some z) : q_iv o2 P kc ks ws co idx st G M ca sa k2 = some z := by
  unfold q_iv at hs ⊢
  split at hs
  · next w na mid hmk =>
    split at hs
    · next hc =>
      split at hs
      · next hc2 =>
        obtain ⟨v, M', e1, e2⟩ := q_ck_or hs
        have e3 := h _ _ _ _ _ e1
        try dsimp only
        rw [if_pos hc, if_pos hc2, e3]
        rw [e1] at hs
        unfold q_ck at hs ⊢
        split at hs
        · rcases v with _ | x
          · simp only [q_c0, if_true] at hs ⊢; exact hk _ _ _ _ hs
          · cases hs
        · rcases v with _ | x | x | x
          · cases hs
          · simp only [q_cI, if_true] at hs ⊢; exact hk _ _ _ _ hs
          · cases hs
          · cases hs
        · rcases v with _ | x | x | x
          · cases hs
          · cases hs
          · simp only [q_cL, if_true] at hs ⊢; exact hk _ _ _ _ hs
          · cases hs
        · rcases v with _ | x | x | x
          · cases hs
          · cases hs
          · cases hs
          · simp only [q_cR, if_true] at hs ⊢; exact hk _ _ _ _ hs
      · cases hs
    · cases hs
  · cases hs
theorem q_call_mono {o1 o2 : q_O} (h : q_le9 o1 o2) {P : q_P} {kc ks : Nat} {ws : List Nat} {co idx : Nat} {l : q_L} {st : List q_V} {G : q_G} {M : q_M} {ca sa : Nat} {T : q_T} (hs : q_call o1 P kc ks ws co idx l st G M ca sa = some T) : q_call o2 P kc ks ws co idx l st G M ca sa = some T := by
  unfold q_call at hs ⊢
  split at hs
  · next w na mid hmk =>
    try dsimp only
    split at hs
    · next hc =>
      rw [if_pos hc]
      split at hs
      · next h9 => rw [if_pos h9]; exact hs
      · next h9 =>
        rw [if_neg h9]
        split at hs
        · next hc2 =>
          rw [if_pos hc2]
          split at hs
          · next r G' M' he =>
            rw [h _ _ _ _ _ he]
            exact hs
          · cases hs
        · cases hs
    · cases hs
  · cases hs
theorem q_stp_mono {o1 o2 : q_O} (h : q_le9 o1 o2) {P : q_P} {ini : Bool} {kc ks co : Nat} {ins : Instr} {l : q_L} {st : List q_V} {G : q_G} {M : q_M} {ca sa : Nat} {T : q_T} (hs : q_stp o1 P ini kc ks co ins l st G M ca sa = some T) : q_stp o2 P ini kc ks co ins l st G M ca sa = some T := by
  cases ins
  case invokespecial idx => exact q_call_mono h hs
  all_goals exact hs
theorem q_den_mono {o1 o2 : q_O} (h : q_le9 o1 o2) {P : q_P} {ini : Bool} {kc ks co : Nat} {I : q_I} {sp : List Nat} {z : Nat × q_T} : ∀ (n : Nat) (b : Bool) (rm : q_I) (l : q_L) (st : List q_V) (G : q_G) (M : q_M) (ca sa : Nat), q_den o1 P ini kc ks co I sp n b rm l st G M ca sa = some z → q_den o2 P ini kc ks co I sp n b rm l st G M ca sa = some z := by
  intro n
  induction n with
  | zero => intro b rm l st G M ca sa hs; cases hs
  | succ n ih =>
    intro b rm l st G M ca sa hs
    have dflt : ∀ (x y : Option q_T) (tl : q_I), (∀ T, x = some T → y = some T) → (match x with
      | some (l', st', G', M', ca', sa') => q_den o1 P ini kc ks co I sp n true tl l' st' G' M' ca' sa'
      | none => none) = some z → (match y with
      | some (l', st', G', M', ca', sa') => q_den o2 P ini kc ks co I sp n true tl l' st' G' M' ca' sa'
      | none => none) = some z := by
      intro x y tl hxy hz
      rcases x with _ | ⟨a, b, c, d, e, f⟩
      · cases hz
      · rw [hxy _ rfl]
        exact ih _ _ _ _ _ _ _ _ hz
    rcases rm with _ | ⟨⟨pc, ins, ln⟩, tl⟩
    · cases hs
    · simp only [q_den] at hs ⊢
      by_cases hb : b = true ∧ pc ∈ sp
      · rw [if_pos hb] at hs ⊢; exact hs
      · rw [if_neg hb] at hs ⊢
        cases ins
        case goto off => exact ih _ _ _ _ _ _ _ _ hs
        case if_icmp c off =>
          rcases st with _ | ⟨y | y | y, st⟩ <;> try (cases hs; done)
          rcases st with _ | ⟨x | x | x, st⟩ <;> try (cases hs; done)
          dsimp only at hs ⊢
          rcases q_br_or hs with ⟨hc, hj⟩ | ⟨hc, hj⟩
          · rw [q_br_t hc]; exact ih _ _ _ _ _ _ _ _ hj
          · rw [q_br_f hc]; exact ih _ _ _ _ _ _ _ _ hj
        case ifCond c off =>
          rcases st with _ | ⟨y | y | y, st⟩ <;> try (cases hs; done)
          dsimp only at hs ⊢
          rcases q_br_or hs with ⟨hc, hj⟩ | ⟨hc, hj⟩
          · rw [q_br_t hc]; exact ih _ _ _ _ _ _ _ _ hj
          · rw [q_br_f hc]; exact ih _ _ _ _ _ _ _ _ hj
        case invokevirtual idx => exact q_iv_mono h (fun a b c d hz => ih _ _ _ _ _ _ _ _ hz) hs
        case invokestatic idx => exact q_iv_mono h (fun a b c d hz => ih _ _ _ _ _ _ _ _ hz) hs
        all_goals (dsimp only at hs ⊢; generalize h1 : q_stp o1 P ini kc ks co _ l st G M ca sa = x at hs; generalize h2 : q_stp o2 P ini kc ks co _ l st G M ca sa = y; exact dflt x y tl (fun T hT => h2.symm.trans (q_stp_mono h (h1.trans hT))) hs)
theorem q_drv_mo {o1 o2 : q_O} (h : q_le9 o1 o2) {P : q_P} {kc ks : Nat} {rt : Option FieldType} {mr : q_R} {r : Option q_V × q_G × q_M} : ∀ (F pc : Nat) (l : q_L) (st : List q_V) (G : q_G) (M : q_M) (ca sa : Nat), q_drv o1 P kc ks rt mr F pc l st G M ca sa = some r → q_drv o2 P kc ks rt mr F pc l st G M ca sa = some r := by
  intro F
  induction F with
  | zero => intro pc l st G M ca sa hs; cases hs
  | succ F ih =>
    intro pc l st G M ca sa hs
    rw [q_drv] at hs ⊢
    split at hs
    · cases hs
    · next pc' l' st' G' M' ca' sa' hden =>
      rw [q_den_mono h _ _ _ _ _ _ _ _ _ hden]
      dsimp only
      split at hs
      · cases hs
      · next p0 ins ln tl hsk =>
        try rw [hsk]
        try dsimp only
        split at hs
        · next hr => rw [if_pos hr]; exact hs
        · next hr => rw [if_neg hr]; exact ih _ _ _ _ _ _ _ hs
/-- an evaluator that computes -/
def q_ce (sc : List Int) : Nat → q_O
  | 0 => fun _ _ _ _ => none
  | d + 1 => fun mid as G M => if mid = 224 then none else if (q_ent as).length ≤ (pg_ym mid).2.2.1 then q_drv (q_ce sc d) (pg_P sc) (q_mm (pg_P sc) mid).2.1 (q_mm (pg_P sc) mid).2.2 (pg_ym mid).2.2.2 (pg_MT mid) 3 0 (q_entry (pg_ym mid).2.2.1 as) [] G M 0 0 else none
theorem q_ce_pq {sc : List Int} : ∀ d, q_le9 (q_ce sc d) (pq sc d)
  | 0 => fun mid as G M r h => by cases h
  | d + 1 => fun mid as G M r h => by
    unfold q_ce at h
    split at h
    · cases h
    · next hm =>
      split at h
      · next hl => exact (q_f_iff (by simp [pg_ex, hm])).mpr ⟨hl, 3, q_drv_mo (q_ce_pq d) _ _ _ _ _ _ _ _ h⟩
      · cases h
