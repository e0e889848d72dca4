
def skp (T : Nat → Int) (len : Nat) : Nat → Nat → Nat
  | 0, x => x
  | f + 1, x => if x < len ∧ T x = 32 then skp T len f (x + 1) else x
def wen (T : Nat → Int) (len : Nat) : Nat → Nat → Nat
  | 0, x => x
  | f + 1, x => if x < len ∧ 97 ≤ T x ∧ T x ≤ 122 then wen T len f (x + 1) else x
def den (T : Nat → Int) (len : Nat) : Nat → Nat → Nat
  | 0, x => x
  | f + 1, x => if x < len ∧ 48 ≤ T x ∧ T x ≤ 57 then den T len f (x + 1) else x
def dva (T : Nat → Int) (len : Nat) : Nat → Nat → Int → Int
  | 0, _, v => v
  | f + 1, x, v => if x < len ∧ 48 ≤ T x ∧ T x ≤ 57 then dva T len f (x + 1) (10 * v + (T x - 48)) else v
/-- the word between a and e, as a list -/
def wrd (T : Nat → Int) (a e : Nat) : List Int := (List.range (e - a)).map (fun i => T (a + i))
def wds : List (List Int) := [[115, 101, 108, 101, 99, 116], [102, 114, 111, 109], [106, 111, 105, 110], [108, 101, 102, 116], [111, 110], [119, 104, 101, 114, 101], [103, 114, 111, 117, 112], [99, 111, 117, 110, 116], [115, 117, 109], [109, 105, 110], [109, 97, 120], [111, 114], [97, 110, 100], [110, 111, 116], [105, 115], [110, 117, 108, 108]]
def wki (w : List Int) : List (List Int) → Int → Int
  | [], _ => 257
  | x :: l, k => if w = x then k else wki w l (k + 1)
def wk (T : Nat → Int) (a e : Nat) : Int := wki (wrd T a e) wds 259
def nbg (T : Nat → Int) (y : Nat) : Nat := if T y = 45 then y + 1 else y
def nen (T : Nat → Int) (len y : Nat) : Nat := den T len 200 (nbg T y)
def tkC (T : Nat → Int) (len y : Nat) : Int := if 97 ≤ T y ∧ T y ≤ 122 then (if wen T len 200 y = y + 1 then T y else wk T y (wen T len 200 y)) else if T y = 45 ∨ (48 ≤ T y ∧ T y ≤ 57) then (if nbg T y < nen T len y ∧ nen T len y ≤ nbg T y + 6 then 258 else 257) else if (65 ≤ T y ∧ T y ≤ 90) ∨ T y = 40 ∨ T y = 41 ∨ T y = 44 ∨ T y = 46 ∨ T y = 61 ∨ T y = 60 ∨ T y = 62 then T y else 257
def tkE (T : Nat → Int) (len y : Nat) : Nat := if 97 ≤ T y ∧ T y ≤ 122 then wen T len 200 y else if T y = 45 ∨ (48 ≤ T y ∧ T y ≤ 57) then nen T len y else y + 1
def tkS (T : Nat → Int) (len y : Nat) : Prop := ¬ (97 ≤ T y ∧ T y ≤ 122) ∧ tkC T len y = 257
def tkN (T : Nat → Int) (len y : Nat) : Int := if T y = 45 then - dva T len 200 (y + 1) 0 else dva T len 200 y 0
/-- text, length, numbers, ends -/
abbrev tZ : Type := (Nat → Int) × Nat × (Nat → Int) × (Nat → Nat)
def kR (c : Int) : Prop := (33 ≤ c ∧ c ≤ 126) ∨ (256 ≤ c ∧ c ≤ 274)
def TE (Z : tZ) (n : Nat) (C P : Nat → Int) (S : Nat → Prop) : Prop := Z.2.2.2 0 = 0 ∧ 1 ≤ n ∧ Z.2.1 ≤ 130 ∧ n ≤ Z.2.1 + 1 ∧ (∀ i, i < Z.2.1 → 32 ≤ Z.1 i ∧ Z.1 i ≤ 126) ∧ (∀ i, i < n → P i = (skp Z.1 Z.2.1 200 (Z.2.2.2 i) : Int)) ∧ (∀ i, i + 1 < n → skp Z.1 Z.2.1 200 (Z.2.2.2 i) < Z.2.1 ∧ C i = tkC Z.1 Z.2.1 (skp Z.1 Z.2.1 200 (Z.2.2.2 i)) ∧ (C i = 258 → Z.2.2.1 i = tkN Z.1 Z.2.1 (skp Z.1 Z.2.1 200 (Z.2.2.2 i))) ∧ Z.2.2.2 (i + 1) = tkE Z.1 Z.2.1 (skp Z.1 Z.2.1 200 (Z.2.2.2 i)) ∧ (S i ↔ tkS Z.1 Z.2.1 (skp Z.1 Z.2.1 200 (Z.2.2.2 i)))) ∧ skp Z.1 Z.2.1 200 (Z.2.2.2 (n - 1)) = Z.2.1 ∧ C (n - 1) = 256 ∧ ¬ S (n - 1) ∧ (∀ i, i < n → kR (C i)) ∧ (∀ i, i < n → Z.2.2.2 i ≤ Z.2.1)
theorem TE_C {Z : tZ} {n : Nat} {C P : Nat → Int} {S : Nat → Prop} (hE : TE Z n C P S) : TC n C := ⟨hE.2.2.2.2.2.2.2.2.1, fun i hi => by have := hE.2.2.2.2.2.2.2.2.2.2.1 i hi; unfold kR at this; omega⟩
theorem TE_n {Z : tZ} {n : Nat} {C P : Nat → Int} {S : Nat → Prop} (hE : TE Z n C P S) : n ≤ 131 := by have := hE.2.2.1; have := hE.2.2.2.1; omega
theorem TE_R {Z : tZ} {n : Nat} {C P : Nat → Int} {S : Nat → Prop} (hE : TE Z n C P S) {i : Nat} (hi : i < n) : kR (C i) := hE.2.2.2.2.2.2.2.2.2.2.1 i hi
theorem TE_S {Z : tZ} {n : Nat} {C P : Nat → Int} {S : Nat → Prop} (hE : TE Z n C P S) {i : Nat} (hi : i < n) (hs : S i) : C i = 257 := by
  rcases Nat.lt_or_ge (i + 1) n with h | h
  · have := hE.2.2.2.2.2.2.1 i h
    rw [this.2.1]
    exact (this.2.2.2.2.mp hs).2
  · have e : i = n - 1 := by omega
    rw [e] at hs
    exact absurd hs hE.2.2.2.2.2.2.2.2.2.1
def kp (c : Int) : Int := if c = 256 then 0 else if c = 258 then 1 else if 259 ≤ c ∧ c ≤ 274 then c - 59 else if 119 ≤ c ∧ c ≤ 122 then c + 101 else if 97 ≤ c ∧ c ≤ 100 then c + 133 else if (101 ≤ c ∧ c ≤ 118) ∨ c = 257 then 240 else c
theorem kp_ne {a b : Int} (ha : kR a) (hb : kR b) (hg : ¬ b = 257) (hg2 : ¬ (101 ≤ b ∧ b ≤ 118)) (h : kp a = kp b) : a = b := by
  unfold kp at h
  unfold kR at ha hb
  repeat' split at h
  all_goals omega
/-- what a look leaves alone -/
def FL (M M' : q_M) : Prop := (∀ a, ¬ (58 ≤ a ∧ a ≤ 60) → ¬ a = 49 → M' a = M a) ∧ (∀ j, ¬ (12 ≤ j ∧ j ≤ 15) → M' 49 j = M 49 j)
/-- what the reading of a condition leaves alone -/
def FR (M M' : q_M) : Prop := (∀ a, ¬ (58 ≤ a ∧ a ≤ 61) → ¬ a = 49 → M' a = M a) ∧ (∀ j, ¬ (12 ≤ j ∧ j ≤ 16) → ¬ j = 20 → M' 49 j = M 49 j)
theorem FR_r {M : q_M} : FR M M := ⟨fun _ _ _ => rfl, fun _ _ _ => rfl⟩
theorem FL_r {M : q_M} : FL M M := ⟨fun _ _ _ => rfl, fun _ _ => rfl⟩
theorem FR_t {M M' M'' : q_M} (h : FR M M') (h' : FR M' M'') : FR M M'' := ⟨fun a h1 h2 => (h'.1 a h1 h2).trans (h.1 a h1 h2), fun j h1 h2 => (h'.2 j h1 h2).trans (h.2 j h1 h2)⟩
theorem FL_R {M M' : q_M} (h : FL M M') : FR M M' := ⟨fun a h1 h2 => h.1 a (by omega) h2, fun j h1 _ => h.2 j (by omega)⟩
theorem FR_u {M : q_M} {j : Nat} {v : Int} (hj : (12 ≤ j ∧ j ≤ 16) ∨ j = 20) : FR M (q_up M 49 j v) := ⟨fun a _ h2 => q_upf h2, fun k h1 h2 => q_up_sn (by omega)⟩
theorem FR_61 {M : q_M} {j : Nat} {v : Int} : FR M (q_up M 61 j v) := ⟨fun a h1 h2 => q_upf (by omega), fun k h1 h2 => q_up_ne (by omega)⟩
def IL (M : q_M) (x : Int) : Prop := M 49 12 = 1 ∧ M 49 13 = x ∧ 0 ≤ M 49 16 ∧ M 49 16 < 132
def IT (M : q_M) (x : Int) : Prop := IL M x ∧ M 49 15 ≤ M 49 16
/-- the model's parser: it has read t tokens, and needs the one of number p -/
def wv : List Int := [643175540, 215533, 343342, 398548, 494, 24385093, 7945904, 3659220, 20141, 13614, 13368, 498, 1476, 14836, 307, 480652]
def WD (f : Nat → Int) : Prop := ∀ k : Nat, k < 16 → f k = wv.getD k 0
/-- as far as the text may go -/
def TQ (f T : Nat → Int) : Prop := ∀ i, i < 130 → f i = T i
theorem TQ_e {f f' T : Nat → Int} (e : f' = f) (h : TQ f T) : TQ f' T := by rw [e]; exact h
def MP (Z : tZ) (n : Nat) (C P : Nat → Int) (S : Nat → Prop) (M : q_M) (p t : Nat) : Prop := (TQ (M 57) Z.1 ∧ WD (M 50)) ∧ M 49 9 = Z.2.1 ∧ M 49 12 = 0 ∧ M 49 16 = p ∧ M 49 15 = t ∧ (t = p ∨ t = p + 1) ∧ p < n ∧ (t < n → M 49 14 = Z.2.2.2 t) ∧ (∀ i, i < t → ¬ S i ∧ M 58 i = kp (C i) ∧ M 59 i = P i ∧ (C i = 258 → M 60 i = Z.2.2.1 i))
theorem MP_fr {Z : tZ} {n : Nat} {C P : Nat → Int} {S : Nat → Prop} {M M' : q_M} {p t : Nat} (h : MP Z n C P S M p t) (hf : ∀ a, (a = 50 ∨ 57 ≤ a) → a ≤ 60 → M' a = M a) (h9 : M' 49 9 = M 49 9) (hj : ∀ j, 12 ≤ j → j ≤ 16 → M' 49 j = M 49 j) : MP Z n C P S M' p t := by
  unfold MP at h ⊢
  rw [hf 50 (by omega) (by omega), hf 57 (by omega) (by omega), hf 58 (by omega) (by omega), hf 59 (by omega) (by omega), hf 60 (by omega) (by omega), h9, hj 12 (by omega) (by omega), hj 14 (by omega) (by omega), hj 15 (by omega) (by omega), hj 16 (by omega) (by omega)]
  exact h
theorem MP_adv {Z : tZ} {n : Nat} {C P : Nat → Int} {S : Nat → Prop} {M : q_M} {p : Nat} (h : MP Z n C P S M p (p + 1)) (hp : p + 1 < n) : MP Z n C P S (q_up M 49 16 ((p : Int) + 1)) (p + 1) (p + 1) := by
  obtain ⟨h1, h2, h3, h4, h5, h6, h7, h8, h9⟩ := h
  refine ⟨⟨TQ_e (q_upf (by decide)) h1.1, by rw [q_upf (by decide)]; exact h1.2⟩, (q_up_sn (by decide)).trans h2, (q_up_sn (by decide)).trans h3, q_up_s.trans (by omega), (q_up_sn (by decide)).trans h5, Or.inl rfl, hp, fun ht => (q_up_sn (by decide)).trans (h8 ht), ?_⟩
  rw [q_upf (by decide), q_upf (by decide), q_upf (by decide)]
  exact h9
