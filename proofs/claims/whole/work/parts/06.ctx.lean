/-! what a method's body stands on -/
def q_WT : List Cond := lw_tbl.filter goodWord
abbrev q_SRt : Type := List (String × Nat × String × Nat)
/-- statics that hold a reference or null -/
def q_ZS : List (String × String × String) := [("jdk/internal/util/Preconditions", "SIOOBE_FORMATTER", "Ljava/util/function/BiFunction;"), ("java/lang/Throwable", "UNASSIGNED_STACK", "[Ljava/lang/StackTraceElement;"), ("java/lang/Throwable", "SUPPRESSED_SENTINEL", "Ljava/util/List;")]
/-- words of a throw that the good ones don't tell -/
def q_DL : List MethodName := [⟨"java/lang/RuntimeException", "<init>", "()V"⟩, ⟨"java/lang/RuntimeException", "<init>", "(Ljava/lang/String;)V"⟩, ⟨"java/lang/Exception", "<init>", "()V"⟩, ⟨"java/lang/Exception", "<init>", "(Ljava/lang/String;)V"⟩, ⟨"java/lang/Throwable", "<init>", "()V"⟩, ⟨"java/lang/Throwable", "<init>", "(Ljava/lang/String;)V"⟩]
def q_CL : List String := ["java/lang/IllegalArgumentException", "java/lang/IllegalStateException", "java/lang/UnsupportedOperationException"]
/-- an exception that another's handler doesn't take -/
def q_NC : List (String × String) := [("java/lang/IllegalStateException", "java/lang/IllegalArgumentException"), ("java/lang/UnsupportedOperationException", "java/lang/IllegalStateException")]
def q_E9 (P : q_P) (a : Nat) (A : Nat → Prop) (U : State) (H : Heap) : Prop := va_T .int a (q_sc P).length (fun j => .int (Int32.ofInt ((q_sc P).getD j 0))) A U H ∧ (∀ z ∈ q_ZS, vx_Zq z.1 z.2.1 z.2.2 A U H) ∧ (∀ x ∈ q_DL, va_Nw (.declares x) U) ∧ (∀ x ∈ q_CL, va_Nw (.castable x x) U) ∧ ∀ x ∈ q_NC, va_Nc x.1 x.2 U
/-- what isn't in the world: links in the nest, the String constants, String's static -/
def q_E (P : q_P) (NW : List (String × Nat × MethodName × String)) (SR : q_SRt) (ad : Nat → Nat) (A : Nat → Prop) (U : State) (H : Heap) : Prop :=
  (∀ w ∈ NW, va_Nw (.methodLinkNest w.1 w.2.1 w.2.2.1 w.2.2.2) U) ∧ (∀ r ∈ SR, vk_R r.1 r.2.1 r.2.2.1 (ad (1000 + r.2.2.2)) U) ∧
  vk_S (q_sb P).length ((q_sb P).map List.length) ((q_sb P).map (List.map Int32.ofInt)) (fun i => ad (1000 + i)) (fun i => ad (2000 + i)) A U H ∧ va_Z "java/lang/String" "COMPACT_STRINGS" "Z" (.int 1) A U H ∧ q_E9 P (ad 3000) A U H
theorem q_E.go {P : q_P} {NW : List (String × Nat × MethodName × String)} {SR : q_SRt} {ad ad' : Nat → Nat} {A B : Nat → Prop} {s U : State} {H : Heap} {locs : List Loc} {n : Nat} (h : q_E P NW SR ad A s s.heap) (hS : va_S A s.heap H locs) (hW : s.WarmedH U.vm) (hU : U.heap = H) (hB : ∀ q, B q → A q) (ha : q_adx n ad ad') : q_E P NW SR ad' B U U.heap := by
  obtain ⟨h1, h2, h3, h4, h9⟩ := h
  have e1 : ∀ i, ad' (1000 + i) = ad (1000 + i) := fun i => ha _ (Or.inr (by omega))
  have e2 : ∀ i, ad' (2000 + i) = ad (2000 + i) := fun i => ha _ (Or.inr (by omega))
  refine ⟨fun w hw => va_Nw.warmM hW (h1 w hw), fun r hr => by rw [e1]; exact vk_R.warm hW (h2 r hr), ?_, ?_, ?_, fun z hz => ?_, fun x hx => va_Nw.warmD hW (h9.2.2.1 x hx), fun x hx => va_Nw.warmC hW (h9.2.2.2.1 x hx), fun x hx => va_Nc.moved hW.alike (h9.2.2.2.2 x hx)⟩
  · rw [hU]
    simp only [e1, e2]
    exact ((h3.kept (fun a h5 h6 => hS.2.1 a h5 h6)).narrow hB).moved hW.alike
  · rw [hU]
    exact ((h4.kept (fun a h5 h6 => hS.2.1 a h5 h6)).narrow hB).moved hW.alike
  · rw [hU, ha 3000 (Or.inr (by decide))]
    exact ((h9.1.kept (fun a h5 h6 => hS.2.1 a h5 h6)).narrow hB).moved hW.alike
  · rw [hU]
    exact (((h9.2.1 z hz).kept (fun a h5 h6 => hS.2.1 a h5 h6)).narrow hB).moved hW.alike
/-- the tables of fields, kinds, constants are right -/
def q_Fok (P : q_P) (Rn : Nat → String) : Prop := ∀ co idx ci j : Nat, q_fl P co idx = some (ci, j) →
  (ci = 100 ∧ ((j = 0 ∧ Cond.fieldLink (Rn co) idx "java/lang/String" "value" "[B" ∈ q_WT) ∨ (j ≠ 0 ∧ Cond.fieldLink (Rn co) idx "java/lang/String" "coder" "B" ∈ q_WT))) ∨
  (ci = 101 ∧ Cond.fieldLink (Rn co) idx "java/lang/String" "COMPACT_STRINGS" "Z" ∈ q_WT) ∨
  (ci < 13 ∧ ∀ (C : String) (T : u_T) (N : Nat), vwCl[ci]? = some (C, T, N) → j < N ∧ Cond.fieldLink (Rn co) idx (T j).1 (T j).2.1 (T j).2.2.1 ∈ q_WT)
def q_Cok (P : q_P) (Rn : Nat → String) : Prop := ∀ (ci : Nat) (C : String) (T : u_T) (N : Nat), vwCl[ci]? = some (C, T, N) → q_nf P ci = N ∧ N ≤ 100 ∧ Rn ci = C ∧ (∀ w ∈ u_ws C T N, w ∈ q_WT) ∧ (∀ a, a < N → ∀ b, b < N → a ≠ b → (T a).2.1 ≠ (T b).2.1) ∧
  ∃ ty : Nat → FieldType, (∀ k, k < N → parseFieldDescriptor (T k).2.2.1 = some (ty k)) ∧ ∀ j, j < N → (q_ft P ci j = 0 ∧ ty j = .int ∧ (T j).2.2.2 = false) ∨ (q_ft P ci j = 1 ∧ ty j = .boolean ∧ (T j).2.2.2 = false) ∨ (q_ft P ci j = 4 ∧ (T j).2.2.2 = true ∧ (T j).1 = C ∧ ((∃ n, ty j = .object n) ∨ ∃ t, ty j = .array t))
def q_Nok (P : q_P) (Rn : Nat → String) : Prop := ∀ co idx ci : Nat, q_cn P co idx = some ci → ∃ (C : String) (T : u_T) (N : Nat), vwCl[ci]? = some (C, T, N) ∧ Cond.classLink (Rn co) idx C ∈ q_WT ∧ Cond.instantiable C N ∈ q_WT ∧ Cond.initialized C ∈ q_WT
def q_Lok (P : q_P) (SR : q_SRt) (Rn : Nat → String) : Prop := ∀ (co idx : Nat) (v : q_V), q_ld P co idx = some v → (∃ x : Int, v = .inl x ∧ q_r x ∧ Cond.constant (Rn co) idx (Int32.ofInt x) ∈ q_WT) ∨ ∃ (i : Nat) (tx : String), v = .inr (.inr (1000 + i)) ∧ (Rn co, idx, tx, i) ∈ SR
def q_Aok : Prop := Cond.arrayClass .int ∈ q_WT ∧ Cond.arrayClass .boolean ∈ q_WT ∧ Cond.arrayClass .char ∈ q_WT ∧ Cond.arrayClass .long ∈ q_WT
def q_X (p : Program) (s : State) (m : MethodId) (args : Array Value) (meth : Method) (c : Code) (Rn : Nat → String) (co : Nat) (cc : ByteArray) (nL : Nat) (ini : Bool) (D : va_G) (cT : Nat → ClassId) (A : Nat → Prop) : Prop :=
  p.tables.exec = Jvm.exec ∧ c.code = cc ∧ c.maxLocals = nL ∧ s.vm.findClass (Rn co) = some m.cls ∧ (∀ w ∈ q_WT, w.before args s = true) ∧ va_K D vwCl (q_tys cT) s ∧ (∀ q, s.heap.size ≤ q → A q) ∧ (ini = true → meth.name = "<init>")
def q_Y (P : q_P) (NW : List (String × Nat × MethodName × String)) (SR : q_SRt) (s : State) (nL : Nat) (D : va_G) (cT : Nat → ClassId) (A : Nat → Prop) (ad : Nat → Nat) (l : q_L) (st : List q_V) (G : q_G) (M : q_M) (H : Heap) (locs : List Loc) (ls : Array Slot) : Prop :=
  va_P D vwCl (q_ws P cT ad G M) H ∧ va_D A (q_ws P cT ad G M) ∧ va_S A s.heap H locs ∧ q_oG P G ∧ q_oM G M ∧ q_lc ad ls l ∧ (∀ v, some v ∈ l → q_ov G.length v) ∧ (∀ v ∈ st, q_ov G.length v) ∧ l.length = nL ∧ q_E P NW SR ad A s s.heap
theorem q_Y.st {P : q_P} {NW : List (String × Nat × MethodName × String)} {SR : q_SRt} {s : State} {nL : Nat} {D : va_G} {cT : Nat → ClassId} {A : Nat → Prop} {ad : Nat → Nat} {l : q_L} {st st' : List q_V} {G : q_G} {M : q_M} {H : Heap} {locs : List Loc} {ls : Array Slot} (h : q_Y P NW SR s nL D cT A ad l st G M H locs ls) (hs : ∀ v ∈ st', q_ov G.length v) : q_Y P NW SR s nL D cT A ad l st' G M H locs ls := by
  obtain ⟨a, b, c, d, e, f, g, -, i, j⟩ := h
  exact ⟨a, b, c, d, e, f, g, hs, i, j⟩
theorem q_Y.lc {P : q_P} {NW : List (String × Nat × MethodName × String)} {SR : q_SRt} {s : State} {nL : Nat} {D : va_G} {cT : Nat → ClassId} {A : Nat → Prop} {ad : Nat → Nat} {l l' : q_L} {st st' : List q_V} {G : q_G} {M : q_M} {H : Heap} {locs : List Loc} {ls ls' : Array Slot} (h : q_Y P NW SR s nL D cT A ad l st G M H locs ls) (hs : ∀ v ∈ st', q_ov G.length v) (hl : q_lc ad ls' l') (ho : ∀ v, some v ∈ l' → q_ov G.length v) (hn : l'.length = nL) : q_Y P NW SR s nL D cT A ad l' st' G M H locs ls' := by
  obtain ⟨a, b, c, d, e, -, -, -, -, j⟩ := h
  exact ⟨a, b, c, d, e, hl, ho, hs, hn, j⟩
/-- one row of numbers has changed -/
theorem q_ws_set {P : q_P} {cT : Nat → ClassId} {ad : Nat → Nat} {G : q_G} {M M' : q_M} {k : Nat} {sh : q_S} (h : G[k]? = some sh) (ho : ∀ a, a ≠ k → M' a = M a) : (q_ws P cT ad G M).set k (ad k, q_c P cT ad sh (M' k)) = q_ws P cT ad G M' := by
  apply List.ext_getElem?
  intro i
  have hl : k < G.length := (List.getElem?_eq_some_iff.mp h).1
  by_cases e : i = k
  · subst e
    rw [List.getElem?_set_self (by rw [q_ws_len]; exact hl), q_ws_get h]
  · rw [List.getElem?_set_ne (Ne.symm e)]
    simp only [q_ws, List.getElem?_mapIdx, ho i e]
theorem q_up_o {M : q_M} {k j : Nat} {v : Int} : ∀ a, a ≠ k → q_up M k j v a = M a := fun a h => by funext b; simp [q_up, h]
theorem q_up_k {M : q_M} {k j : Nat} {v : Int} : q_up M k j v k = fun b => if b = j then v else M k b := by funext b; simp [q_up]
theorem q_oM_up {G : q_G} {M : q_M} {k j : Nat} {v : Int} (h : q_oM G M) (h6 : q_r6 v) (h3 : (∀ n : Nat, G[k]? ≠ some (Sum.inl (3, n))) → q_r v) : q_oM G (q_up M k j v) := by
  intro a b
  unfold q_up
  by_cases e : a = k
  · subst e
    rw [if_pos rfl]
    split
    · exact ⟨h6, h3⟩
    · exact h a b
  · rw [if_neg e]; exact h a b
theorem q_r_6 {x : Int} (h : q_r x) : q_r6 x := ⟨by have := h.1; omega, by have := h.2; omega⟩
