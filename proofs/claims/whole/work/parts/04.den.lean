/-! a small machine over whole numbers: what a method's bytecode does to a world of known shape -/
/-- an int, a long, a reference (the number of a thing) -/
abbrev q_V : Type := Int ⊕ Int ⊕ Nat
/-- an array (its type, its length), or an object (its kind, its references: number + 1) -/
abbrev q_S : Type := (Nat × Nat) ⊕ (Nat × List Nat)
abbrev q_G : Type := List q_S
abbrev q_M : Type := Nat → Nat → Int
abbrev q_L : Type := List (Option q_V)
abbrev q_I : Type := List (Nat × Instr × Nat)
abbrev q_O : Type := Nat → List q_V → q_G → q_M → Option (Option q_V × q_G × q_M)
abbrev q_T : Type := q_L × List q_V × q_G × q_M × Nat × Nat
abbrev q_vI (x : Int) : q_V := Sum.inl x
abbrev q_vL (x : Int) : q_V := Sum.inr (Sum.inl x)
abbrev q_vR (k : Nat) : q_V := Sum.inr (Sum.inr k)
def q_w (x : Int) : Int := Int.bmod x 4294967296
def q_w6 (x : Int) : Int := Int.bmod x 18446744073709551616
def q_r (x : Int) : Prop := -2147483648 ≤ x ∧ x < 2147483648
def q_r6 (x : Int) : Prop := -9223372036854775808 ≤ x ∧ x < 9223372036854775808
def q_up (M : q_M) (k j : Nat) (v : Int) : q_M := fun a b => if a = k then (if b = j then v else M a b) else M a b
def q_zr (M : q_M) (k : Nat) : q_M := fun a b => if a = k then 0 else M a b
/-- the tables of the program: by class (its constant pool) and index -/
abbrev q_P : Type := (Nat → Nat → Option (Nat × Nat)) × (Nat → Nat → Option (Nat × Nat × Nat)) × (Nat → Nat → Option Nat) × (Nat → Nat → Option q_V) × (Nat → Nat → Nat) × (Nat → Nat × Nat × Nat) × (Nat → Nat) × List (List Int) × (Nat → Nat) × List Int
/-- a field: kind and slot -/
abbrev q_fl (P : q_P) : Nat → Nat → Option (Nat × Nat) := P.1
/-- a call: how, how many arguments (this among them), which method -/
abbrev q_mk (P : q_P) : Nat → Nat → Option (Nat × Nat × Nat) := P.2.1
/-- the kind that 'new' makes -/
abbrev q_cn (P : q_P) : Nat → Nat → Option Nat := P.2.2.1
/-- a constant -/
abbrev q_ld (P : q_P) : Nat → Nat → Option q_V := P.2.2.2.1
/-- a field's type: 0 int, 1 boolean, 4 reference -/
abbrev q_ft (P : q_P) : Nat → Nat → Nat := P.2.2.2.2.1
/-- a method's kind of receiver, what cells and slots it may make -/
abbrev q_mm (P : q_P) : Nat → Nat × Nat × Nat := P.2.2.2.2.2.1
/-- how many fields a kind has -/
abbrev q_nf (P : q_P) : Nat → Nat := P.2.2.2.2.2.2.1
/-- the bytes of the String constants -/
abbrev q_sb (P : q_P) : List (List Int) := P.2.2.2.2.2.2.2.1
/-- what a method answers: 0 nothing, 1 an int, 2 a long, 3 a reference -/
abbrev q_rk (P : q_P) : Nat → Nat := P.2.2.2.2.2.2.2.2.1
/-- the script, thing 3000 -/
abbrev q_sc (P : q_P) : List Int := P.2.2.2.2.2.2.2.2.2
def q_cat (v : q_V) : Nat := match v with
  | .inr (.inl _) => 2
  | _ => 1
def q_nl (l : q_L) (k : Nat) : Bool := match k with
  | 0 => true
  | k + 1 => match l.getD k none with
    | some (.inr (.inl _)) => false
    | _ => true
def q_sto (l : q_L) (k : Nat) (v : q_V) : Option q_L := if k < l.length ∧ q_nl l k = true then some (l.set k (some v)) else none
def q_sto2 (l : q_L) (k : Nat) (v : q_V) : Option q_L := if k + 1 < l.length ∧ q_nl l k = true then some ((l.set k (some v)).set (k + 1) none) else none
def q_at (a : ArrayType) : Nat := match a with
  | .int => 0
  | .boolean => 1
  | .char => 2
  | .long => 3
  | _ => 9
/-- one instruction that goes on to the next one -/
def q_ldI (l : q_L) (k : Nat) (st : List q_V) (G : q_G) (M : q_M) (ca sa : Nat) : Option q_T := match l.getD k none with
  | some (.inl x) => some (l, .inl x :: st, G, M, ca, sa)
  | _ => none
def q_ldL (l : q_L) (k : Nat) (st : List q_V) (G : q_G) (M : q_M) (ca sa : Nat) : Option q_T := match l.getD k none with
  | some (.inr (.inl x)) => some (l, .inr (.inl x) :: st, G, M, ca, sa)
  | _ => none
def q_ldR (l : q_L) (k : Nat) (st : List q_V) (G : q_G) (M : q_M) (ca sa : Nat) : Option q_T := match l.getD k none with
  | some (.inr (.inr x)) => some (l, .inr (.inr x) :: st, G, M, ca, sa)
  | _ => none
def q_stI (l : q_L) (k : Nat) (st : List q_V) (G : q_G) (M : q_M) (ca sa : Nat) : Option q_T := match st with
  | .inl x :: r => match q_sto l k (.inl x) with
    | some l' => some (l', r, G, M, ca, sa)
    | none => none
  | _ => none
def q_stL (l : q_L) (k : Nat) (st : List q_V) (G : q_G) (M : q_M) (ca sa : Nat) : Option q_T := match st with
  | .inr (.inl x) :: r => match q_sto2 l k (.inr (.inl x)) with
    | some l' => some (l', r, G, M, ca, sa)
    | none => none
  | _ => none
def q_stR (l : q_L) (k : Nat) (st : List q_V) (G : q_G) (M : q_M) (ca sa : Nat) : Option q_T := match st with
  | .inr (.inr x) :: r => match q_sto l k (.inr (.inr x)) with
    | some l' => some (l', r, G, M, ca, sa)
    | none => none
  | _ => none
def q_get (P : q_P) (co idx : Nat) (l : q_L) (st : List q_V) (G : q_G) (M : q_M) (ca sa : Nat) : Option q_T := match q_fl P co idx, st with
  | some (ci, j), .inr (.inr a) :: r =>
    if ci = 100 then (if 1000 ≤ a ∧ a < 1000 + (q_sb P).length then (if j = 0 then some (l, .inr (.inr (a + 1000)) :: r, G, M, ca, sa) else some (l, .inl 0 :: r, G, M, ca, sa)) else none)
    else match G[a]? with
      | some (.inr (cj, rs)) => if cj = ci then (if q_ft P ci j = 4 then (match rs[j]? with
          | some (k + 1) => some (l, .inr (.inr k) :: r, G, M, ca, sa)
          | _ => none) else some (l, .inl (M a j) :: r, G, M, ca, sa)) else none
      | _ => none
  | _, _ => none
def q_put (P : q_P) (ini : Bool) (co idx : Nat) (l : q_L) (st : List q_V) (G : q_G) (M : q_M) (ca sa : Nat) : Option q_T := match q_fl P co idx, st with
  | some (ci, j), .inl x :: .inr (.inr a) :: r => match G[a]? with
      | some (.inr (cj, _)) => if cj = ci then (if q_ft P ci j = 0 then some (l, r, G, q_up M a j x, ca, sa) else if q_ft P ci j = 1 then (if x = 0 ∨ x = 1 then some (l, r, G, q_up M a j x, ca, sa) else none) else none) else none
      | _ => none
  | some (ci, j), .inr (.inr k) :: .inr (.inr a) :: r => match G[a]? with
      | some (.inr (cj, rs)) => if cj = ci ∧ ini = true ∧ ci = co ∧ q_ft P ci j = 4 ∧ k < G.length then some (l, r, G.set a (.inr (ci, rs.set j (k + 1))), M, ca, sa) else none
      | _ => none
  | _, _ => none
def q_ald (t : Nat) (l : q_L) (st : List q_V) (G : q_G) (M : q_M) (ca sa : Nat) : Option q_T := match st with
  | .inl i :: .inr (.inr a) :: r => match G[a]? with
    | some (.inl (t', n)) => if t' = t then (if 0 ≤ i ∧ i < (n : Int) then some (l, .inl (M a i.toNat) :: r, G, M, ca, sa) else none) else none
    | _ => none
  | _ => none
def q_bald (P : q_P) (l : q_L) (st : List q_V) (G : q_G) (M : q_M) (ca sa : Nat) : Option q_T := match st with
  | .inl i :: .inr (.inr a) :: r => if 2000 ≤ a then (match (q_sb P)[a - 2000]? with
      | some bs => if 0 ≤ i ∧ i < (bs.length : Int) then some (l, .inl (bs.getD i.toNat 0) :: r, G, M, ca, sa) else none
      | none => none) else q_ald 1 l st G M ca sa
  | _ => none
def q_iald (P : q_P) (l : q_L) (st : List q_V) (G : q_G) (M : q_M) (ca sa : Nat) : Option q_T := match st with
  | .inl i :: .inr (.inr a) :: r => if a = 3000 then (if 0 ≤ i ∧ i < ((q_sc P).length : Int) then some (l, .inl ((q_sc P).getD i.toNat 0) :: r, G, M, ca, sa) else none) else q_ald 0 l st G M ca sa
  | _ => none
def q_lald (l : q_L) (st : List q_V) (G : q_G) (M : q_M) (ca sa : Nat) : Option q_T := match st with
  | .inl i :: .inr (.inr a) :: r => match G[a]? with
    | some (.inl (t', n)) => if t' = 3 then (if 0 ≤ i ∧ i < (n : Int) then some (l, .inr (.inl (M a i.toNat)) :: r, G, M, ca, sa) else none) else none
    | _ => none
  | _ => none
def q_ast (t : Nat) (l : q_L) (st : List q_V) (G : q_G) (M : q_M) (ca sa : Nat) : Option q_T := match st with
  | .inl x :: .inl i :: .inr (.inr a) :: r => match G[a]? with
    | some (.inl (t', n)) => if t' = t then (if 0 ≤ i ∧ i < (n : Int) then (if t = 0 ∨ (t = 1 ∧ (x = 0 ∨ x = 1)) ∨ (t = 2 ∧ 0 ≤ x ∧ x < 65536) then some (l, r, G, q_up M a i.toNat x, ca, sa) else none) else none) else none
    | _ => none
  | _ => none
def q_last (l : q_L) (st : List q_V) (G : q_G) (M : q_M) (ca sa : Nat) : Option q_T := match st with
  | .inr (.inl x) :: .inl i :: .inr (.inr a) :: r => match G[a]? with
    | some (.inl (t', n)) => if t' = 3 then (if 0 ≤ i ∧ i < (n : Int) then some (l, r, G, q_up M a i.toNat x, ca, sa) else none) else none
    | _ => none
  | _ => none
def q_len (P : q_P) (l : q_L) (st : List q_V) (G : q_G) (M : q_M) (ca sa : Nat) : Option q_T := match st with
  | .inr (.inr a) :: r => if a = 3000 then some (l, .inl ((q_sc P).length : Int) :: r, G, M, ca, sa) else if 2000 ≤ a then (match (q_sb P)[a - 2000]? with
      | some bs => some (l, .inl (bs.length : Int) :: r, G, M, ca, sa)
      | none => none) else match G[a]? with
      | some (.inl (_, n)) => some (l, .inl (n : Int) :: r, G, M, ca, sa)
      | _ => none
  | _ => none
def q_newa (kc ks : Nat) (at' : ArrayType) (l : q_L) (st : List q_V) (G : q_G) (M : q_M) (ca sa : Nat) : Option q_T := match st with
  | .inl x :: r => if 0 ≤ x ∧ x ≤ 1000 ∧ q_at at' ≤ 3 ∧ ca + 1 ≤ kc ∧ sa + x.toNat ≤ ks ∧ G.length < 900 then some (l, .inr (.inr G.length) :: r, G ++ [.inl (q_at at', x.toNat)], q_zr M G.length, ca + 1, sa + x.toNat) else none
  | _ => none
def q_new (P : q_P) (kc ks co idx : Nat) (l : q_L) (st : List q_V) (G : q_G) (M : q_M) (ca sa : Nat) : Option q_T := match q_cn P co idx with
  | some ci => if ca + 1 ≤ kc ∧ sa + q_nf P ci ≤ ks ∧ G.length < 900 then some (l, .inr (.inr G.length) :: st, G ++ [.inr (ci, List.replicate (q_nf P ci) 0)], q_zr M G.length, ca + 1, sa + q_nf P ci) else none
  | none => none
/-- the receiver is of the kind that the method wants -/
def q_rc (P : q_P) (G : q_G) (c : Nat) (as : List q_V) : Bool := match as with
  | .inr (.inr a) :: _ => if c = 100 then decide (1000 ≤ a ∧ a < 1000 + (q_sb P).length) else match G[a]? with
    | some (.inr (cj, _)) => decide (cj = c)
    | _ => false
  | _ => false
/-- ways of a call: 0 virtual, 1 static, 2 a constructor, 3 static in the nest, 4 a constructor in the nest, 5 static with a table of its own, 9 Object's constructor -/
def q_call (orc : q_O) (P : q_P) (kc ks : Nat) (ws : List Nat) (co idx : Nat) (l : q_L) (st : List q_V) (G : q_G) (M : q_M) (ca sa : Nat) : Option q_T := match q_mk P co idx with
  | some (w, na, mid) =>
    if w ∈ ws ∧ na ≤ st.length ∧ ((st.drop na).map q_cat).sum ≤ 8 then
      (if w = 9 then (match st with
        | .inr (.inr _) :: r => some (l, r, G, M, ca, sa)
        | _ => none)
      else if (w = 1 ∨ w = 3 ∨ w = 5 ∨ q_rc P G (q_mm P mid).1 (st.take na).reverse = true) ∧ ca + (q_mm P mid).2.1 ≤ kc ∧ sa + (q_mm P mid).2.2 ≤ ks then (match orc mid (st.take na).reverse G M with
        | some (r, G', M') => some (l, r.toList ++ st.drop na, G', M', ca + (q_mm P mid).2.1, sa + (q_mm P mid).2.2)
        | none => none) else none)
    else none
  | none => none
def q_push (b : Bool) (v : q_V) (l : q_L) (st : List q_V) (G : q_G) (M : q_M) (ca sa : Nat) : Option q_T := if b = true then some (l, v :: st, G, M, ca, sa) else none
def q_ii (f : Int → Int → Option Int) (l : q_L) (st : List q_V) (G : q_G) (M : q_M) (ca sa : Nat) : Option q_T := match st with
  | .inl y :: .inl x :: r => match f x y with
    | some z => some (l, .inl z :: r, G, M, ca, sa)
    | none => none
  | _ => none
def q_stp (orc : q_O) (P : q_P) (ini : Bool) (kc ks co : Nat) (ins : Instr) (l : q_L) (st : List q_V) (G : q_G) (M : q_M) (ca sa : Nat) : Option q_T :=
  match ins with
  | .iload_n k => q_ldI l k.val st G M ca sa
  | .iload k => q_ldI l k st G M ca sa
  | .lload_n k => q_ldL l k.val st G M ca sa
  | .lload k => q_ldL l k st G M ca sa
  | .aload_n k => q_ldR l k.val st G M ca sa
  | .aload k => q_ldR l k st G M ca sa
  | .istore_n k => q_stI l k.val st G M ca sa
  | .istore k => q_stI l k st G M ca sa
  | .lstore_n k => q_stL l k.val st G M ca sa
  | .lstore k => q_stL l k st G M ca sa
  | .astore_n k => q_stR l k.val st G M ca sa
  | .astore k => q_stR l k st G M ca sa
  | .iinc k c => match l.getD k none with
    | some (.inl x) => match q_sto l k (.inl (q_w (x + c))) with
      | some l' => some (l', st, G, M, ca, sa)
      | none => none
    | _ => none
  | .iconst n => q_push (decide (-1 ≤ n ∧ n ≤ 5)) (.inl n) l st G M ca sa
  | .bipush n => q_push (decide (-128 ≤ n ∧ n < 128)) (.inl n) l st G M ca sa
  | .sipush n => q_push (decide (-32768 ≤ n ∧ n < 32768)) (.inl n) l st G M ca sa
  | .lconst n => q_push true (.inr (.inl (n.val : Int))) l st G M ca sa
  | .ldc idx => match q_ld P co idx with
    | some v => some (l, v :: st, G, M, ca, sa)
    | none => none
  | .getstatic idx => match q_fl P co idx with
    | some (101, _) => some (l, .inl 1 :: st, G, M, ca, sa)
    | _ => none
  | .iadd => q_ii (fun x y => some (q_w (x + y))) l st G M ca sa
  | .isub => q_ii (fun x y => some (q_w (x - y))) l st G M ca sa
  | .imul => q_ii (fun x y => some (q_w (x * y))) l st G M ca sa
  | .irem => q_ii (fun x y => if y = 2 ∧ 0 ≤ x then some (x % 2) else none) l st G M ca sa
  | .iand => q_ii (fun x y => if y = 15 then some (x % 16) else if y = 255 then some (x % 256) else none) l st G M ca sa
  | .ishr => q_ii (fun x y => if y = 0 then some x else none) l st G M ca sa
  | .ineg => match st with
    | .inl x :: r => some (l, .inl (q_w (-x)) :: r, G, M, ca, sa)
    | _ => none
  | .i2c => match st with
    | .inl x :: r => some (l, .inl (x % 65536) :: r, G, M, ca, sa)
    | _ => none
  | .i2b => match st with
    | .inl x :: r => if -128 ≤ x ∧ x < 128 then some (l, .inl x :: r, G, M, ca, sa) else none
    | _ => none
  | .i2l => match st with
    | .inl x :: r => some (l, .inr (.inl x) :: r, G, M, ca, sa)
    | _ => none
  | .ladd => match st with
    | .inr (.inl y) :: .inr (.inl x) :: r => some (l, .inr (.inl (q_w6 (x + y))) :: r, G, M, ca, sa)
    | _ => none
  | .lcmp => match st with
    | .inr (.inl y) :: .inr (.inl x) :: r => some (l, .inl (if x < y then -1 else if y < x then 1 else 0) :: r, G, M, ca, sa)
    | _ => none
  | .dup => match st with
    | v :: r => if q_cat v = 1 then some (l, v :: v :: r, G, M, ca, sa) else none
    | _ => none
  | .pop => match st with
    | v :: r => if q_cat v = 1 then some (l, r, G, M, ca, sa) else none
    | _ => none
  | .dup2 => match st with
    | v :: w :: r => if q_cat v = 1 ∧ q_cat w = 1 then some (l, v :: w :: v :: w :: r, G, M, ca, sa) else none
    | _ => none
  | .getfield idx => q_get P co idx l st G M ca sa
  | .putfield idx => q_put P ini co idx l st G M ca sa
  | .iaload => q_iald P l st G M ca sa
  | .baload => q_bald P l st G M ca sa
  | .caload => q_ald 2 l st G M ca sa
  | .laload => q_lald l st G M ca sa
  | .iastore => q_ast 0 l st G M ca sa
  | .bastore => q_ast 1 l st G M ca sa
  | .castore => q_ast 2 l st G M ca sa
  | .lastore => q_last l st G M ca sa
  | .arraylength => q_len P l st G M ca sa
  | .newarray a => q_newa kc ks a l st G M ca sa
  | .new idx => q_new P kc ks co idx l st G M ca sa
  | .invokespecial idx => q_call orc P kc ks [2, 4, 9] co idx l st G M ca sa
  | _ => none
/-- a road forks -/
def q_br {α : Type} (c : ClassFile.Cond) (x y : Int) (a b : α) : α := match c with
  | .eq => if x = y then a else b
  | .ne => if x = y then b else a
  | .lt => if x < y then a else b
  | .ge => if x < y then b else a
  | .gt => if y < x then a else b
  | .le => if y < x then b else a
def q_seek (t : Int) : q_I → q_I
  | [] => []
  | q :: l => if (q.1 : Int) = t then q :: l else q_seek t l
/-- what a callee answered, the shapes being the same -/
def q_c0 {α : Type} (r : Option (Option q_V × q_G × q_M)) (G : q_G) (k : q_M → Option α) : Option α := match r with
  | some (none, G', M') => if G' = G then k M' else none
  | _ => none
def q_cI {α : Type} (r : Option (Option q_V × q_G × q_M)) (G : q_G) (k : Int → q_M → Option α) : Option α := match r with
  | some (some (.inl x), G', M') => if G' = G then k x M' else none
  | _ => none
def q_cL {α : Type} (r : Option (Option q_V × q_G × q_M)) (G : q_G) (k : Int → q_M → Option α) : Option α := match r with
  | some (some (.inr (.inl x)), G', M') => if G' = G then k x M' else none
  | _ => none
def q_cR {α : Type} (r : Option (Option q_V × q_G × q_M)) (G : q_G) (k : Nat → q_M → Option α) : Option α := match r with
  | some (some (.inr (.inr x)), G', M') => if G' = G then k x M' else none
  | _ => none
def q_ck {α : Type} (rk : Nat) (r : Option (Option q_V × q_G × q_M)) (G : q_G) (k : List q_V → q_M → Option α) : Option α := match rk with
  | 0 => q_c0 r G (k [])
  | 1 => q_cI r G (fun x => k [.inl x])
  | 2 => q_cL r G (fun x => k [.inr (.inl x)])
  | _ => q_cR r G (fun x => k [.inr (.inr x)])
def q_iv {α : Type} (orc : q_O) (P : q_P) (kc ks : Nat) (ws : List Nat) (co idx : Nat) (st : List q_V) (G : q_G) (M : q_M) (ca sa : Nat) (k : List q_V → q_M → Nat → Nat → Option α) : Option α := match q_mk P co idx with
  | some (w, na, mid) => if w ∈ ws ∧ w ≠ 9 ∧ na ≤ st.length ∧ ((st.drop na).map q_cat).sum ≤ 8 ∧ (w = 1 ∨ w = 3 ∨ w = 5 ∨ q_rc P G (q_mm P mid).1 (st.take na).reverse = true) then
      if ca + (q_mm P mid).2.1 ≤ kc ∧ sa + (q_mm P mid).2.2 ≤ ks then q_ck (q_rk P mid) (orc mid (st.take na).reverse G M) G (fun r M' => k (r ++ st.drop na) M' (ca + (q_mm P mid).2.1) (sa + (q_mm P mid).2.2)) else none
    else none
  | none => none
/-- from one stop to the next: pc, locals, stack, shapes, numbers, cells and slots made -/
def q_den (orc : q_O) (P : q_P) (ini : Bool) (kc ks co : Nat) (I : q_I) (sp : List Nat) : Nat → Bool → q_I → q_L → List q_V → q_G → q_M → Nat → Nat → Option (Nat × q_T)
  | 0, _, _, _, _, _, _, _, _ => none
  | n + 1, b, rm, l, st, G, M, ca, sa => match rm with
    | [] => none
    | (pc, ins, _) :: tl => if b = true ∧ pc ∈ sp then some (pc, l, st, G, M, ca, sa) else match ins with
      | .goto off => q_den orc P ini kc ks co I sp n true (q_seek ((pc : Int) + off) I) l st G M ca sa
      | .if_icmp c off => match st with
        | .inl y :: .inl x :: r => q_br c x y (q_den orc P ini kc ks co I sp n true (q_seek ((pc : Int) + off) I) l r G M ca sa) (q_den orc P ini kc ks co I sp n true tl l r G M ca sa)
        | _ => none
      | .ifCond c off => match st with
        | .inl x :: r => q_br c x 0 (q_den orc P ini kc ks co I sp n true (q_seek ((pc : Int) + off) I) l r G M ca sa) (q_den orc P ini kc ks co I sp n true tl l r G M ca sa)
        | _ => none
      | .invokevirtual idx => q_iv orc P kc ks [0] co idx st G M ca sa (fun st' M' ca' sa' => q_den orc P ini kc ks co I sp n true tl l st' G M' ca' sa')
      | .invokestatic idx => q_iv orc P kc ks [1, 3, 5] co idx st G M ca sa (fun st' M' ca' sa' => q_den orc P ini kc ks co I sp n true tl l st' G M' ca' sa')
      | ins => match q_stp orc P ini kc ks co ins l st G M ca sa with
        | some (l', st', G', M', ca', sa') => q_den orc P ini kc ks co I sp n true tl l' st' G' M' ca' sa'
        | none => none
