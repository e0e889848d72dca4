def q_en {α : Type} (rt : Option FieldType) (ins : Instr) (st : List q_V) (k : Option q_V → Option α) : Option α := match ins, rt, st with
  | .ireturn, some .int, [.inl x] => k (some (.inl x))
  | .ireturn, some .boolean, [.inl x] => if x = 0 ∨ x = 1 then k (some (.inl x)) else none
  | .ireturn, some .char, [.inl x] => if 0 ≤ x ∧ x < 65536 then k (some (.inl x)) else none
  | .ireturn, some .byte, [.inl x] => if x = 0 ∨ x = 1 then k (some (.inl x)) else none
  | .lreturn, some .long, [.inr (.inl x)] => k (some (.inr (.inl x)))
  | .areturn, some (.object _), [.inr (.inr z)] => k (some (.inr (.inr z)))
  | .return_, none, [] => k none
  | _, _, _ => none
theorem q_end_k {rt : Option FieldType} {ins : Instr} {st : List q_V} : q_end rt ins st = q_en rt ins st some := rfl
theorem q_en_b {α : Type} {rt : Option FieldType} {ins : Instr} {st : List q_V} {k : Option q_V → Option α} : q_en rt ins st k = (q_en rt ins st some).bind k := by
  unfold q_en
  split
  · rfl
  · split <;> rfl
  · split <;> rfl
  · split <;> rfl
  · rfl
  · rfl
  · rfl
  · rfl
/-- one instruction, what comes behind it told by k -/
def q_aldk {α : Type} (t : Nat) (st : List q_V) (G : q_G) (M : q_M) (k : Int → List q_V → Option α) : Option α := match st with
  | .inl i :: .inr (.inr a) :: r => match G[a]? with
    | some (.inl (t', n)) => if t' = t then (if 0 ≤ i ∧ i < (n : Int) then k (M a i.toNat) r else none) else none
    | _ => none
  | _ => none
def q_baldk {α : Type} (P : q_P) (st : List q_V) (G : q_G) (M : q_M) (k : Int → List q_V → Option α) : Option α := match st with
  | .inl i :: .inr (.inr a) :: r => if 2000 ≤ a then (match (q_sb P)[a - 2000]? with
      | some bs => if 0 ≤ i ∧ i < (bs.length : Int) then k (bs.getD i.toNat 0) r else none
      | none => none) else q_aldk 1 st G M k
  | _ => none
def q_ialdk {α : Type} (P : q_P) (st : List q_V) (G : q_G) (M : q_M) (k : Int → List q_V → Option α) : Option α := match st with
  | .inl i :: .inr (.inr a) :: r => if a = 3000 then (if 0 ≤ i ∧ i < ((q_sc P).length : Int) then k ((q_sc P).getD i.toNat 0) r else none) else q_aldk 0 st G M k
  | _ => none
def q_astk {α : Type} (t : Nat) (st : List q_V) (G : q_G) (M : q_M) (k : q_M → List q_V → Option α) : Option α := match st with
  | .inl x :: .inl i :: .inr (.inr a) :: r => match G[a]? with
    | some (.inl (t', n)) => if t' = t then (if 0 ≤ i ∧ i < (n : Int) then (if t = 0 ∨ (t = 1 ∧ (x = 0 ∨ x = 1)) ∨ (t = 2 ∧ 0 ≤ x ∧ x < 65536) then k (q_up M a i.toNat x) r else none) else none) else none
    | _ => none
  | _ => none
def q_lastk {α : Type} (st : List q_V) (G : q_G) (M : q_M) (k : q_M → List q_V → Option α) : Option α := match st with
  | .inr (.inl x) :: .inl i :: .inr (.inr a) :: r => match G[a]? with
    | some (.inl (t', n)) => if t' = 3 then (if 0 ≤ i ∧ i < (n : Int) then k (q_up M a i.toNat x) r else none) else none
    | _ => none
  | _ => none
def q_putk {α : Type} (P : q_P) (ini : Bool) (co idx : Nat) (st : List q_V) (G : q_G) (M : q_M) (k : q_G → q_M → List q_V → Option α) : Option α := match q_fl P co idx, st with
  | some (ci, j), .inl x :: .inr (.inr a) :: r => match G[a]? with
      | some (.inr (cj, _)) => if cj = ci then (if q_ft P ci j = 0 then k G (q_up M a j x) r else if q_ft P ci j = 1 then (if x = 0 ∨ x = 1 then k G (q_up M a j x) r else none) else none) else none
      | _ => none
  | some (ci, j), .inr (.inr z) :: .inr (.inr a) :: r => match G[a]? with
      | some (.inr (cj, rs)) => if cj = ci ∧ ini = true ∧ ci = co ∧ q_ft P ci j = 4 ∧ z < G.length then k (G.set a (.inr (ci, rs.set j (z + 1)))) M r else none
      | _ => none
  | _, _ => none
def q_iik {α : Type} (st : List q_V) (k : Int → Int → List q_V → Option α) : Option α := match st with
  | .inl y :: .inl x :: r => k x y r
  | _ => none
def q_sk {α : Type} (orc : q_O) (P : q_P) (ini : Bool) (kc ks co : Nat) (ins : Instr) (l : q_L) (st : List q_V) (G : q_G) (M : q_M) (ca sa : Nat) (k : q_L → List q_V → q_G → q_M → Nat → Nat → Option α) : Option α := match ins with
  | .iaload => q_ialdk P st G M (fun x r => k l (.inl x :: r) G M ca sa)
  | .baload => q_baldk P st G M (fun x r => k l (.inl x :: r) G M ca sa)
  | .caload => q_aldk 2 st G M (fun x r => k l (.inl x :: r) G M ca sa)
  | .laload => q_aldk 3 st G M (fun x r => k l (.inr (.inl x) :: r) G M ca sa)
  | .iastore => q_astk 0 st G M (fun M' r => k l r G M' ca sa)
  | .bastore => q_astk 1 st G M (fun M' r => k l r G M' ca sa)
  | .castore => q_astk 2 st G M (fun M' r => k l r G M' ca sa)
  | .lastore => q_lastk st G M (fun M' r => k l r G M' ca sa)
  | .putfield idx => q_putk P ini co idx st G M (fun G' M' r => k l r G' M' ca sa)
  | .irem => q_iik st (fun x y r => if y = 2 ∧ 0 ≤ x then k l (.inl (x % 2) :: r) G M ca sa else none)
  | .ishr => q_iik st (fun x y r => if y = 0 then k l (.inl x :: r) G M ca sa else none)
  | .i2b => match st with
    | .inl x :: r => if -128 ≤ x ∧ x < 128 then k l (.inl x :: r) G M ca sa else none
    | _ => none
  | ins => match q_stp orc P ini kc ks co ins l st G M ca sa with
    | some (l', st', G', M', ca', sa') => k l' st' G' M' ca' sa'
    | none => none
theorem q_ald_k {t : Nat} {l : q_L} {st : List q_V} {G : q_G} {M : q_M} {ca sa : Nat} : q_ald t l st G M ca sa = q_aldk t st G M (fun x r => some (l, .inl x :: r, G, M, ca, sa)) := rfl
theorem q_lald_k {l : q_L} {st : List q_V} {G : q_G} {M : q_M} {ca sa : Nat} : q_lald l st G M ca sa = q_aldk 3 st G M (fun x r => some (l, .inr (.inl x) :: r, G, M, ca, sa)) := rfl
theorem q_bald_k {P : q_P} {l : q_L} {st : List q_V} {G : q_G} {M : q_M} {ca sa : Nat} : q_bald P l st G M ca sa = q_baldk P st G M (fun x r => some (l, .inl x :: r, G, M, ca, sa)) := rfl
theorem q_iald_k {P : q_P} {l : q_L} {st : List q_V} {G : q_G} {M : q_M} {ca sa : Nat} : q_iald P l st G M ca sa = q_ialdk P st G M (fun x r => some (l, .inl x :: r, G, M, ca, sa)) := rfl
theorem q_ast_k {t : Nat} {l : q_L} {st : List q_V} {G : q_G} {M : q_M} {ca sa : Nat} : q_ast t l st G M ca sa = q_astk t st G M (fun M' r => some (l, r, G, M', ca, sa)) := rfl
theorem q_last_k {l : q_L} {st : List q_V} {G : q_G} {M : q_M} {ca sa : Nat} : q_last l st G M ca sa = q_lastk st G M (fun M' r => some (l, r, G, M', ca, sa)) := rfl
theorem q_put_k {P : q_P} {ini : Bool} {co idx : Nat} {l : q_L} {st : List q_V} {G : q_G} {M : q_M} {ca sa : Nat} : q_put P ini co idx l st G M ca sa = q_putk P ini co idx st G M (fun G' M' r => some (l, r, G', M', ca, sa)) := rfl
theorem q_aldk_b {α β : Type} {t : Nat} {st : List q_V} {G : q_G} {M : q_M} {g : Int → List q_V → Option β} {k : β → Option α} : (q_aldk t st G M g).bind k = q_aldk t st G M (fun x r => (g x r).bind k) := by
  unfold q_aldk
  repeat' split
  all_goals rfl
theorem q_baldk_b {α β : Type} {P : q_P} {st : List q_V} {G : q_G} {M : q_M} {g : Int → List q_V → Option β} {k : β → Option α} : (q_baldk P st G M g).bind k = q_baldk P st G M (fun x r => (g x r).bind k) := by
  unfold q_baldk
  split
  · split
    · repeat' split
      all_goals rfl
    · exact q_aldk_b
  · rfl
theorem q_ialdk_b {α β : Type} {P : q_P} {st : List q_V} {G : q_G} {M : q_M} {g : Int → List q_V → Option β} {k : β → Option α} : (q_ialdk P st G M g).bind k = q_ialdk P st G M (fun x r => (g x r).bind k) := by
  unfold q_ialdk
  split
  · split
    · split <;> rfl
    · exact q_aldk_b
  · rfl
theorem q_astk_b {α β : Type} {t : Nat} {st : List q_V} {G : q_G} {M : q_M} {g : q_M → List q_V → Option β} {k : β → Option α} : (q_astk t st G M g).bind k = q_astk t st G M (fun x r => (g x r).bind k) := by
  unfold q_astk
  repeat' split
  all_goals rfl
theorem q_lastk_b {α β : Type} {st : List q_V} {G : q_G} {M : q_M} {g : q_M → List q_V → Option β} {k : β → Option α} : (q_lastk st G M g).bind k = q_lastk st G M (fun x r => (g x r).bind k) := by
  unfold q_lastk
  repeat' split
  all_goals rfl
theorem q_putk_b {α β : Type} {P : q_P} {ini : Bool} {co idx : Nat} {st : List q_V} {G : q_G} {M : q_M} {g : q_G → q_M → List q_V → Option β} {k : β → Option α} : (q_putk P ini co idx st G M g).bind k = q_putk P ini co idx st G M (fun x y r => (g x y r).bind k) := by
  unfold q_putk
  repeat' split
  all_goals rfl
def q_k6 {α : Type} (k : q_L → List q_V → q_G → q_M → Nat → Nat → Option α) (T : q_T) : Option α := k T.1 T.2.1 T.2.2.1 T.2.2.2.1 T.2.2.2.2.1 T.2.2.2.2.2
theorem q_sk_eq {α : Type} {orc : q_O} {P : q_P} {ini : Bool} {kc ks co : Nat} {ins : Instr} {l : q_L} {st : List q_V} {G : q_G} {M : q_M} {ca sa : Nat} {k : q_L → List q_V → q_G → q_M → Nat → Nat → Option α} : q_sk orc P ini kc ks co ins l st G M ca sa k = (q_stp orc P ini kc ks co ins l st G M ca sa).bind (q_k6 k) := by
  have dflt : ∀ x : Option q_T, (match x with
    | some (l', st', G', M', ca', sa') => k l' st' G' M' ca' sa'
    | none => none) = x.bind (q_k6 k) := fun x => by rcases x with _ | ⟨a, b, c, d, e, f⟩ <;> rfl
  cases ins
  case iaload => simp only [q_sk, q_stp, q_iald_k, q_ialdk_b]; rfl
  case baload => simp only [q_sk, q_stp, q_bald_k, q_baldk_b]; rfl
  case caload => simp only [q_sk, q_stp, q_ald_k, q_aldk_b]; rfl
  case laload => simp only [q_sk, q_stp, q_lald_k, q_aldk_b]; rfl
  case iastore => simp only [q_sk, q_stp, q_ast_k, q_astk_b]; rfl
  case bastore => simp only [q_sk, q_stp, q_ast_k, q_astk_b]; rfl
  case castore => simp only [q_sk, q_stp, q_ast_k, q_astk_b]; rfl
  case lastore => simp only [q_sk, q_stp, q_last_k, q_lastk_b]; rfl
  case putfield => simp only [q_sk, q_stp, q_put_k, q_putk_b]; rfl
  case irem =>
    simp only [q_sk, q_stp, q_iik, q_ii]
    rcases st with _ | ⟨y | y | y, st⟩ <;> try rfl
    rcases st with _ | ⟨x | x | x, st⟩ <;> try rfl
    dsimp only
    split <;> rfl
  case ishr =>
    simp only [q_sk, q_stp, q_iik, q_ii]
    rcases st with _ | ⟨y | y | y, st⟩ <;> try rfl
    rcases st with _ | ⟨x | x | x, st⟩ <;> try rfl
    dsimp only
    split <;> rfl
  case i2b =>
    simp only [q_sk, q_stp]
    rcases st with _ | ⟨y | y | y, st⟩ <;> try rfl
    dsimp only
    split <;> rfl
  all_goals (simp only [q_sk]; generalize q_stp orc P ini kc ks co _ l st G M ca sa = x; exact dflt x)
/-- the small machine's run, what comes behind a stop told by k -/
def q_dk {α : Type} (orc : q_O) (P : q_P) (ini : Bool) (kc ks co : Nat) (I : q_I) (sp : List Nat) (k : Nat → q_T → Option α) : Nat → Bool → q_I → q_L → List q_V → q_G → q_M → Nat → Nat → Option α
  | 0, _, _, _, _, _, _, _, _ => none
  | n + 1, b, rm, l, st, G, M, ca, sa => match rm with
    | [] => none
    | (pc, ins, _) :: tl => if b = true ∧ pc ∈ sp then k pc (l, st, G, M, ca, sa) else match ins with
      | .goto off => q_dk orc P ini kc ks co I sp k n true (q_seek ((pc : Int) + off) I) l st G M ca sa
      | .if_icmp c off => match st with
        | .inl y :: .inl x :: r => q_br c x y (q_dk orc P ini kc ks co I sp k n true (q_seek ((pc : Int) + off) I) l r G M ca sa) (q_dk orc P ini kc ks co I sp k n true tl l r G M ca sa)
        | _ => none
      | .ifCond c off => match st with
        | .inl x :: r => q_br c x 0 (q_dk orc P ini kc ks co I sp k n true (q_seek ((pc : Int) + off) I) l r G M ca sa) (q_dk orc P ini kc ks co I sp k n true tl l r G M ca sa)
        | _ => none
      | .invokevirtual idx => q_iv orc P kc ks [0] co idx st G M ca sa (fun st' M' ca' sa' => q_dk orc P ini kc ks co I sp k n true tl l st' G M' ca' sa')
      | .invokestatic idx => q_iv orc P kc ks [1, 3, 5] co idx st G M ca sa (fun st' M' ca' sa' => q_dk orc P ini kc ks co I sp k n true tl l st' G M' ca' sa')
      | ins => q_sk orc P ini kc ks co ins l st G M ca sa (fun l' st' G' M' ca' sa' => q_dk orc P ini kc ks co I sp k n true tl l' st' G' M' ca' sa')
def q_bd {α β : Type} (x : Option (Nat × β)) (k : Nat → β → Option α) : Option α := match x with
  | some (a, b) => k a b
  | none => none
theorem q_br_bd {α β : Type} {c : ClassFile.Cond} {x y : Int} {a b : Option (Nat × β)} {k : Nat → β → Option α} : q_bd (q_br c x y a b) k = q_br c x y (q_bd a k) (q_bd b k) := by
  cases c <;> simp only [q_br] <;> split <;> rfl
theorem q_iv_bd {α β : Type} {orc : q_O} {P : q_P} {kc ks : Nat} {ws : List Nat} {co idx : Nat} {st : List q_V} {G : q_G} {M : q_M} {ca sa : Nat} {f : List q_V → q_M → Nat → Nat → Option (Nat × β)} {k : Nat → β → Option α} : q_bd (q_iv orc P kc ks ws co idx st G M ca sa f) k = q_iv orc P kc ks ws co idx st G M ca sa (fun a b c d => q_bd (f a b c d) k) := by
  unfold q_iv
  split
  · split
    · split
      · unfold q_ck
        split
        · unfold q_c0; repeat' split
          all_goals rfl
        · unfold q_cI; repeat' split
          all_goals rfl
        · unfold q_cL; repeat' split
          all_goals rfl
        · unfold q_cR; repeat' split
          all_goals rfl
      · rfl
    · rfl
  · rfl
theorem q_dk_eq {α : Type} {orc : q_O} {P : q_P} {ini : Bool} {kc ks co : Nat} {I : q_I} {sp : List Nat} {k : Nat → q_T → Option α} : ∀ (n : Nat) (b : Bool) (rm : q_I) (l : q_L) (st : List q_V) (G : q_G) (M : q_M) (ca sa : Nat), q_dk orc P ini kc ks co I sp k n b rm l st G M ca sa = q_bd (q_den orc P ini kc ks co I sp n b rm l st G M ca sa) k := by
  intro n
  induction n with
  | zero => intro b rm l st G M ca sa; rfl
  | succ n ih =>
    intro b rm l st G M ca sa
    have dflt : ∀ (x : Option q_T) (tl : q_I), x.bind (q_k6 (fun l' st' G' M' ca' sa' => q_dk orc P ini kc ks co I sp k n true tl l' st' G' M' ca' sa')) = q_bd (match x with
      | some (l', st', G', M', ca', sa') => q_den orc P ini kc ks co I sp n true tl l' st' G' M' ca' sa'
      | none => none) k := by
      intro x tl
      rcases x with _ | ⟨a, b, c, d, e, f⟩
      · rfl
      · exact ih _ _ _ _ _ _ _ _
    rcases rm with _ | ⟨⟨pc, ins, ln⟩, tl⟩
    · rfl
    · simp only [q_dk, q_den]
      by_cases hb : b = true ∧ pc ∈ sp
      · rw [if_pos hb, if_pos hb]; rfl
      · rw [if_neg hb, if_neg hb]
        cases ins
        case goto off => exact ih _ _ _ _ _ _ _ _
        case if_icmp c off =>
          rcases st with _ | ⟨y | y | y, st⟩ <;> try rfl
          rcases st with _ | ⟨x | x | x, st⟩ <;> try rfl
          dsimp only
          rw [q_br_bd]; simp only [ih]
        case ifCond c off =>
          rcases st with _ | ⟨y | y | y, st⟩ <;> try rfl
          dsimp only
          rw [q_br_bd]; simp only [ih]
        case invokevirtual idx => dsimp only; rw [q_iv_bd]; simp only [ih]
        case invokestatic idx => dsimp only; rw [q_iv_bd]; simp only [ih]
        all_goals (dsimp only; rw [q_sk_eq]; generalize q_stp orc P ini kc ks co _ l st G M ca sa = x; exact dflt x tl)
