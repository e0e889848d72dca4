/-! the class's strings -/
theorem ifz {α : Type} {p : Prop} [Decidable p] {a b : α} : (if (if p then (1 : Int) else 0) = 0 then a else b) = if p then b else a := by
  by_cases h : p
  · rw [if_pos h, if_pos h, if_neg (by decide)]
  · rw [if_neg h, if_neg h, if_pos rfl]
def TXc (T : Nat → Int) (len : Nat) (M : q_M) : Prop := M 10 = T ∧ M 9 1 = len ∧ len ≤ 130 ∧ ∀ i, i < len → 32 ≤ T i ∧ T i ≤ 126
theorem sp_codeAt {sc : List Int} {d : Nat} {M : q_M} {T : Nat → Int} {len x : Nat} (h : TXc T len M) (hx : x < len) (hd : 1 ≤ d) : pq sc d 108 [.inr (.inr 9), .inl (x : Int)] GF M = some (some (.inl (T x)), GF, M) := by
  obtain ⟨h1, h2, h3, h4⟩ := h
  have := h4 x hx
  refine pq_e (by omega) (by decide) (Nat.le_of_ble_eq_true rfl) ⟨0 + 1, sg_X8_codeAt_0.trans ?_⟩
  rw [if_neg (by omega), if_pos (by omega), if_pos (by omega), if_pos (by omega), Int.toNat_natCast, h1, if_pos (by omega)]
/-- a word of the program, thing s, spelled w -/
def SW (sc : List Int) (s : Nat) (w : List Int) : Prop := (∀ (d : Nat) (M : q_M), 2 ≤ d → pq sc d 214 [.inr (.inr s)] GF M = some (some (.inl (w.length : Int)), GF, M)) ∧ (∀ (d : Nat) (M : q_M) (i : Nat), i < w.length → 5 ≤ d → pq sc d 216 [.inr (.inr s), .inl (i : Int)] GF M = some (some (.inl (w.getD i 0)), GF, M)) ∧ (∀ (orc : q_O) (F : Nat) (M : q_M) (a1 a2 : Int), pr sc orc 113 (F + 1) 0 [some (.inr (.inr 9)), some (.inl (a1)), some (.inl (a2)), some (.inr (.inr s)), none] [] M =
  q_cI (orc 214 [.inr (.inr s)] GF M) GF (fun x2 M1 =>
  if (q_w (a2 - a1)) = x2 then
    pr sc orc 113 F 15 [some (.inr (.inr 9)), some (.inl (a1)), none, some (.inr (.inr s)), some (.inl (0))] [] M1
  else
    some (some (.inl (0)), GF, M1))) ∧ (∀ (orc : q_O) (F : Nat) (M : q_M) (b1 b4 : Int), pr sc orc 113 (F + 1) 15 [some (.inr (.inr 9)), some (.inl (b1)), none, some (.inr (.inr s)), some (.inl (b4))] [] M =
  q_cI (orc 214 [.inr (.inr s)] GF M) GF (fun x2 M1 =>
  if b4 < x2 then
    q_cI (orc 108 [.inr (.inr 9), .inl (q_w (b1 + b4))] GF M1) GF (fun x4 M3 =>
    q_cI (orc 216 [.inr (.inr s), .inl (b4)] GF M3) GF (fun x6 M5 =>
    if x4 = x6 then
      pr sc orc 113 F 15 [some (.inr (.inr 9)), some (.inl (b1)), none, some (.inr (.inr s)), some (.inl (q_w (b4 + (1))))] [] M5
    else
      some (some (.inl (0)), GF, M5)))
  else
    some (some (.inl (1)), GF, M1)))
theorem sp_spellT {sc : List Int} {d s : Nat} {M : q_M} {T : Nat → Int} {len a e : Nat} {w : List Int} (hS : SW sc s w) (h : TXc T len M) (he : e ≤ len) (hw : a + w.length = e) (hd : 6 ≤ d) : ∀ (m i : Nat), i + m = w.length → (∀ j, j < i → T (a + j) = w.getD j 0) → ∃ F b, pr sc (pq sc d) 113 F 15 [some (.inr (.inr 9)), some (.inl (a : Int)), none, some (.inr (.inr s)), some (.inl (i : Int))] [] M = some (some (.inl b), GF, M) ∧ ((b = 1 ∧ ∀ j, j < w.length → T (a + j) = w.getD j 0) ∨ (b = 0 ∧ ¬ ∀ j, j < w.length → T (a + j) = w.getD j 0)) := by
  have hl := h.2.2.1
  intro m
  induction m with
  | zero =>
    intro i hi hj
    refine ⟨0 + 1, 1, (hS.2.2.2 _ _ _ _ _).trans ?_, Or.inl ⟨rfl, fun j h => hj j (by omega)⟩⟩
    rw [hS.1 d M (by omega), q_cI_s, if_neg (by omega)]
  | succ m ih =>
    intro i hi hj
    have ew : q_w ((a : Int) + (i : Int)) = ((a + i : Nat) : Int) := by rw [q_wid (by omega) (by omega)]; omega
    have ew2 : q_w ((i : Int) + 1) = ((i + 1 : Nat) : Int) := by rw [q_wid (by omega) (by omega)]; omega
    by_cases g : T (a + i) = w.getD i 0
    · obtain ⟨F, b, q, hb⟩ := ih (i + 1) (by omega) (fun j h => by
        by_cases e : j = i
        · subst e; exact g
        · exact hj j (by omega))
      refine ⟨F + 1, b, (hS.2.2.2 _ _ _ _ _).trans ?_, hb⟩
      rw [hS.1 d M (by omega), q_cI_s, if_pos (by omega), ew, sp_codeAt h (by omega) (by omega), q_cI_s, hS.2.1 d M i (by omega) (by omega), q_cI_s, if_pos g, ew2, q]
    · refine ⟨0 + 1, 0, (hS.2.2.2 _ _ _ _ _).trans ?_, Or.inr ⟨rfl, fun hh => g (hh i (by omega))⟩⟩
      rw [hS.1 d M (by omega), q_cI_s, if_pos (by omega), ew, sp_codeAt h (by omega) (by omega), q_cI_s, hS.2.1 d M i (by omega) (by omega), q_cI_s, if_neg g]
theorem wrd_eq {T : Nat → Int} {a e : Nat} {w : List Int} (hw : a + w.length = e) : wrd T a e = w ↔ ∀ j, j < w.length → T (a + j) = w.getD j 0 := by
  have hl : (wrd T a e).length = w.length := by rw [wrd_len]; omega
  constructor
  · intro h j hj
    rw [← h]
    unfold wrd
    simp [List.getD_eq_getElem?_getD, List.getElem?_map, List.getElem?_range (show j < e - a by omega)]
  · intro h
    apply List.ext_getElem hl
    intro j h1 h2
    have := h j h2
    rw [List.getD_eq_getElem?_getD, List.getElem?_eq_getElem h2] at this
    simpa [wrd] using this
theorem sp_spells {sc : List Int} {d s : Nat} {M : q_M} {T : Nat → Int} {len a e : Nat} {w : List Int} (hS : SW sc s w) (h : TXc T len M) (ha : a ≤ e) (he : e ≤ len) (hd : 7 ≤ d) : pq sc d 113 [.inr (.inr 9), .inl (a : Int), .inl (e : Int), .inr (.inr s)] GF M = some (some (.inl (if wrd T a e = w then 1 else 0)), GF, M) := by
  have hl := h.2.2.1
  have ew : q_w ((e : Int) - (a : Int)) = ((e - a : Nat) : Int) := by rw [q_wid (by omega) (by omega)]; omega
  by_cases hw : a + w.length = e
  · obtain ⟨F, b, q, hb⟩ := sp_spellT (sc := sc) (d := d - 1) hS h he hw (by omega) w.length 0 (by omega) (fun j hj => by omega)
    refine pq_e (by omega) (by decide) (Nat.le_of_ble_eq_true rfl) ⟨F + 1, (hS.2.2.1 _ _ _ _ _).trans ?_⟩
    rw [hS.1 (d - 1) M (by omega), q_cI_s, ew, if_pos (by omega)]
    rw [Int.natCast_zero] at q
    rw [q]
    rcases hb with ⟨rfl, hh⟩ | ⟨rfl, hh⟩
    · rw [if_pos ((wrd_eq hw).mpr hh)]
    · rw [if_neg (fun g => hh ((wrd_eq hw).mp g))]
  · refine pq_e (by omega) (by decide) (Nat.le_of_ble_eq_true rfl) ⟨0 + 1, (hS.2.2.1 _ _ _ _ _).trans ?_⟩
    rw [hS.1 (d - 1) M (by omega), q_cI_s, ew, if_neg (by omega), if_neg (fun g => hw (by rw [← g, wrd_len]; omega))]
theorem sw_0 {sc : List Int} : SW sc 1002 [115, 101, 108, 101, 99, 116] := by
  have cd : ∀ (d : Nat) (M : q_M), 1 ≤ d → pq sc d 215 [.inr (.inr 1002)] GF M = some (some (.inl 0), GF, M) := fun d M hd => pq_e hd (by decide) (Nat.le_of_ble_eq_true rfl) ⟨0 + 1, sg_J0_coder_7d493_0_s2.trans (if_neg (by decide))⟩
  have il : ∀ (d : Nat) (M : q_M), 1 ≤ d → pq sc d 217 [.inr (.inr 1002)] GF M = some (some (.inl 1), GF, M) := fun d M hd => pq_e hd (by decide) (Nat.le_of_ble_eq_true rfl) ⟨0 + 1, sg_J0_isLatin1_aae02_0_s2.trans ((if_neg (by decide)).trans (if_pos rfl))⟩
  refine ⟨fun d M hd => ?_, fun d M i hi hd => ?_, fun orc F M a1 a2 => sg_X8_spells_0_s2, fun orc F M b1 b4 => sg_X8_spells_15_s2⟩
  · refine pq_e (by omega) (by decide) (Nat.le_of_ble_eq_true rfl) ⟨0 + 1, sg_J0_length_8abf5_0_s2.trans ?_⟩
    rw [cd (d - 1) M (by omega), q_cI_s, if_pos rfl]
    rfl
  · have hi' : i < 6 := hi
    have key : ∀ j : Nat, j < 6 → 0 ≤ ((([115, 101, 108, 101, 99, 116] : List Int).getD j 0) % 256) % 65536 ∧ ((([115, 101, 108, 101, 99, 116] : List Int).getD j 0) % 256) % 65536 < 65536 ∧ ((([115, 101, 108, 101, 99, 116] : List Int).getD j 0) % 256) % 65536 = ([115, 101, 108, 101, 99, 116] : List Int).getD j 0 := by decide
    obtain ⟨k1, k2, k3⟩ := key i hi'
    have q2 : pq sc (d - 1) 220 [.inr (.inr 2002), .inl (i : Int)] GF M = some (some (.inl (([115, 101, 108, 101, 99, 116] : List Int).getD i 0)), GF, M) := by
      refine pq_e (by omega) (by decide) (Nat.le_of_ble_eq_true rfl) ⟨0 + 1, sg_J1_charAt_3b067_0_s2.trans ?_⟩
      rw [pq_ci (by omega) (by omega), q_c0_s, if_pos (by omega), Int.toNat_natCast, if_pos ⟨k1, k2⟩, k3]
    refine pq_e (by omega) (by decide) (Nat.le_of_ble_eq_true rfl) ⟨0 + 1, sg_J0_charAt_5068e_0_s2.trans ?_⟩
    rw [il (d - 1) M (by omega), q_cI_s, if_neg (by decide), q2, q_cI_s, if_pos (by omega)]
theorem sw_1 {sc : List Int} : SW sc 1003 [102, 114, 111, 109] := by
  have cd : ∀ (d : Nat) (M : q_M), 1 ≤ d → pq sc d 215 [.inr (.inr 1003)] GF M = some (some (.inl 0), GF, M) := fun d M hd => pq_e hd (by decide) (Nat.le_of_ble_eq_true rfl) ⟨0 + 1, sg_J0_coder_7d493_0_s3.trans (if_neg (by decide))⟩
  have il : ∀ (d : Nat) (M : q_M), 1 ≤ d → pq sc d 217 [.inr (.inr 1003)] GF M = some (some (.inl 1), GF, M) := fun d M hd => pq_e hd (by decide) (Nat.le_of_ble_eq_true rfl) ⟨0 + 1, sg_J0_isLatin1_aae02_0_s3.trans ((if_neg (by decide)).trans (if_pos rfl))⟩
  refine ⟨fun d M hd => ?_, fun d M i hi hd => ?_, fun orc F M a1 a2 => sg_X8_spells_0_s3, fun orc F M b1 b4 => sg_X8_spells_15_s3⟩
  · refine pq_e (by omega) (by decide) (Nat.le_of_ble_eq_true rfl) ⟨0 + 1, sg_J0_length_8abf5_0_s3.trans ?_⟩
    rw [cd (d - 1) M (by omega), q_cI_s, if_pos rfl]
    rfl
  · have hi' : i < 4 := hi
    have key : ∀ j : Nat, j < 4 → 0 ≤ ((([102, 114, 111, 109] : List Int).getD j 0) % 256) % 65536 ∧ ((([102, 114, 111, 109] : List Int).getD j 0) % 256) % 65536 < 65536 ∧ ((([102, 114, 111, 109] : List Int).getD j 0) % 256) % 65536 = ([102, 114, 111, 109] : List Int).getD j 0 := by decide
    obtain ⟨k1, k2, k3⟩ := key i hi'
    have q2 : pq sc (d - 1) 220 [.inr (.inr 2003), .inl (i : Int)] GF M = some (some (.inl (([102, 114, 111, 109] : List Int).getD i 0)), GF, M) := by
      refine pq_e (by omega) (by decide) (Nat.le_of_ble_eq_true rfl) ⟨0 + 1, sg_J1_charAt_3b067_0_s3.trans ?_⟩
      rw [pq_ci (by omega) (by omega), q_c0_s, if_pos (by omega), Int.toNat_natCast, if_pos ⟨k1, k2⟩, k3]
    refine pq_e (by omega) (by decide) (Nat.le_of_ble_eq_true rfl) ⟨0 + 1, sg_J0_charAt_5068e_0_s3.trans ?_⟩
    rw [il (d - 1) M (by omega), q_cI_s, if_neg (by decide), q2, q_cI_s, if_pos (by omega)]
theorem sw_2 {sc : List Int} : SW sc 1004 [106, 111, 105, 110] := by
  have cd : ∀ (d : Nat) (M : q_M), 1 ≤ d → pq sc d 215 [.inr (.inr 1004)] GF M = some (some (.inl 0), GF, M) := fun d M hd => pq_e hd (by decide) (Nat.le_of_ble_eq_true rfl) ⟨0 + 1, sg_J0_coder_7d493_0_s4.trans (if_neg (by decide))⟩
  have il : ∀ (d : Nat) (M : q_M), 1 ≤ d → pq sc d 217 [.inr (.inr 1004)] GF M = some (some (.inl 1), GF, M) := fun d M hd => pq_e hd (by decide) (Nat.le_of_ble_eq_true rfl) ⟨0 + 1, sg_J0_isLatin1_aae02_0_s4.trans ((if_neg (by decide)).trans (if_pos rfl))⟩
  refine ⟨fun d M hd => ?_, fun d M i hi hd => ?_, fun orc F M a1 a2 => sg_X8_spells_0_s4, fun orc F M b1 b4 => sg_X8_spells_15_s4⟩
  · refine pq_e (by omega) (by decide) (Nat.le_of_ble_eq_true rfl) ⟨0 + 1, sg_J0_length_8abf5_0_s4.trans ?_⟩
    rw [cd (d - 1) M (by omega), q_cI_s, if_pos rfl]
    rfl
  · have hi' : i < 4 := hi
    have key : ∀ j : Nat, j < 4 → 0 ≤ ((([106, 111, 105, 110] : List Int).getD j 0) % 256) % 65536 ∧ ((([106, 111, 105, 110] : List Int).getD j 0) % 256) % 65536 < 65536 ∧ ((([106, 111, 105, 110] : List Int).getD j 0) % 256) % 65536 = ([106, 111, 105, 110] : List Int).getD j 0 := by decide
    obtain ⟨k1, k2, k3⟩ := key i hi'
    have q2 : pq sc (d - 1) 220 [.inr (.inr 2004), .inl (i : Int)] GF M = some (some (.inl (([106, 111, 105, 110] : List Int).getD i 0)), GF, M) := by
      refine pq_e (by omega) (by decide) (Nat.le_of_ble_eq_true rfl) ⟨0 + 1, sg_J1_charAt_3b067_0_s4.trans ?_⟩
      rw [pq_ci (by omega) (by omega), q_c0_s, if_pos (by omega), Int.toNat_natCast, if_pos ⟨k1, k2⟩, k3]
    refine pq_e (by omega) (by decide) (Nat.le_of_ble_eq_true rfl) ⟨0 + 1, sg_J0_charAt_5068e_0_s4.trans ?_⟩
    rw [il (d - 1) M (by omega), q_cI_s, if_neg (by decide), q2, q_cI_s, if_pos (by omega)]
theorem sw_3 {sc : List Int} : SW sc 1005 [108, 101, 102, 116] := by
  have cd : ∀ (d : Nat) (M : q_M), 1 ≤ d → pq sc d 215 [.inr (.inr 1005)] GF M = some (some (.inl 0), GF, M) := fun d M hd => pq_e hd (by decide) (Nat.le_of_ble_eq_true rfl) ⟨0 + 1, sg_J0_coder_7d493_0_s5.trans (if_neg (by decide))⟩
  have il : ∀ (d : Nat) (M : q_M), 1 ≤ d → pq sc d 217 [.inr (.inr 1005)] GF M = some (some (.inl 1), GF, M) := fun d M hd => pq_e hd (by decide) (Nat.le_of_ble_eq_true rfl) ⟨0 + 1, sg_J0_isLatin1_aae02_0_s5.trans ((if_neg (by decide)).trans (if_pos rfl))⟩
  refine ⟨fun d M hd => ?_, fun d M i hi hd => ?_, fun orc F M a1 a2 => sg_X8_spells_0_s5, fun orc F M b1 b4 => sg_X8_spells_15_s5⟩
  · refine pq_e (by omega) (by decide) (Nat.le_of_ble_eq_true rfl) ⟨0 + 1, sg_J0_length_8abf5_0_s5.trans ?_⟩
    rw [cd (d - 1) M (by omega), q_cI_s, if_pos rfl]
    rfl
  · have hi' : i < 4 := hi
    have key : ∀ j : Nat, j < 4 → 0 ≤ ((([108, 101, 102, 116] : List Int).getD j 0) % 256) % 65536 ∧ ((([108, 101, 102, 116] : List Int).getD j 0) % 256) % 65536 < 65536 ∧ ((([108, 101, 102, 116] : List Int).getD j 0) % 256) % 65536 = ([108, 101, 102, 116] : List Int).getD j 0 := by decide
    obtain ⟨k1, k2, k3⟩ := key i hi'
    have q2 : pq sc (d - 1) 220 [.inr (.inr 2005), .inl (i : Int)] GF M = some (some (.inl (([108, 101, 102, 116] : List Int).getD i 0)), GF, M) := by
      refine pq_e (by omega) (by decide) (Nat.le_of_ble_eq_true rfl) ⟨0 + 1, sg_J1_charAt_3b067_0_s5.trans ?_⟩
      rw [pq_ci (by omega) (by omega), q_c0_s, if_pos (by omega), Int.toNat_natCast, if_pos ⟨k1, k2⟩, k3]
    refine pq_e (by omega) (by decide) (Nat.le_of_ble_eq_true rfl) ⟨0 + 1, sg_J0_charAt_5068e_0_s5.trans ?_⟩
    rw [il (d - 1) M (by omega), q_cI_s, if_neg (by decide), q2, q_cI_s, if_pos (by omega)]
theorem sw_4 {sc : List Int} : SW sc 1006 [111, 110] := by
  have cd : ∀ (d : Nat) (M : q_M), 1 ≤ d → pq sc d 215 [.inr (.inr 1006)] GF M = some (some (.inl 0), GF, M) := fun d M hd => pq_e hd (by decide) (Nat.le_of_ble_eq_true rfl) ⟨0 + 1, sg_J0_coder_7d493_0_s6.trans (if_neg (by decide))⟩
  have il : ∀ (d : Nat) (M : q_M), 1 ≤ d → pq sc d 217 [.inr (.inr 1006)] GF M = some (some (.inl 1), GF, M) := fun d M hd => pq_e hd (by decide) (Nat.le_of_ble_eq_true rfl) ⟨0 + 1, sg_J0_isLatin1_aae02_0_s6.trans ((if_neg (by decide)).trans (if_pos rfl))⟩
  refine ⟨fun d M hd => ?_, fun d M i hi hd => ?_, fun orc F M a1 a2 => sg_X8_spells_0_s6, fun orc F M b1 b4 => sg_X8_spells_15_s6⟩
  · refine pq_e (by omega) (by decide) (Nat.le_of_ble_eq_true rfl) ⟨0 + 1, sg_J0_length_8abf5_0_s6.trans ?_⟩
    rw [cd (d - 1) M (by omega), q_cI_s, if_pos rfl]
    rfl
  · have hi' : i < 2 := hi
    have key : ∀ j : Nat, j < 2 → 0 ≤ ((([111, 110] : List Int).getD j 0) % 256) % 65536 ∧ ((([111, 110] : List Int).getD j 0) % 256) % 65536 < 65536 ∧ ((([111, 110] : List Int).getD j 0) % 256) % 65536 = ([111, 110] : List Int).getD j 0 := by decide
    obtain ⟨k1, k2, k3⟩ := key i hi'
    have q2 : pq sc (d - 1) 220 [.inr (.inr 2006), .inl (i : Int)] GF M = some (some (.inl (([111, 110] : List Int).getD i 0)), GF, M) := by
      refine pq_e (by omega) (by decide) (Nat.le_of_ble_eq_true rfl) ⟨0 + 1, sg_J1_charAt_3b067_0_s6.trans ?_⟩
      rw [pq_ci (by omega) (by omega), q_c0_s, if_pos (by omega), Int.toNat_natCast, if_pos ⟨k1, k2⟩, k3]
    refine pq_e (by omega) (by decide) (Nat.le_of_ble_eq_true rfl) ⟨0 + 1, sg_J0_charAt_5068e_0_s6.trans ?_⟩
    rw [il (d - 1) M (by omega), q_cI_s, if_neg (by decide), q2, q_cI_s, if_pos (by omega)]
theorem sw_5 {sc : List Int} : SW sc 1007 [119, 104, 101, 114, 101] := by
  have cd : ∀ (d : Nat) (M : q_M), 1 ≤ d → pq sc d 215 [.inr (.inr 1007)] GF M = some (some (.inl 0), GF, M) := fun d M hd => pq_e hd (by decide) (Nat.le_of_ble_eq_true rfl) ⟨0 + 1, sg_J0_coder_7d493_0_s7.trans (if_neg (by decide))⟩
  have il : ∀ (d : Nat) (M : q_M), 1 ≤ d → pq sc d 217 [.inr (.inr 1007)] GF M = some (some (.inl 1), GF, M) := fun d M hd => pq_e hd (by decide) (Nat.le_of_ble_eq_true rfl) ⟨0 + 1, sg_J0_isLatin1_aae02_0_s7.trans ((if_neg (by decide)).trans (if_pos rfl))⟩
  refine ⟨fun d M hd => ?_, fun d M i hi hd => ?_, fun orc F M a1 a2 => sg_X8_spells_0_s7, fun orc F M b1 b4 => sg_X8_spells_15_s7⟩
  · refine pq_e (by omega) (by decide) (Nat.le_of_ble_eq_true rfl) ⟨0 + 1, sg_J0_length_8abf5_0_s7.trans ?_⟩
    rw [cd (d - 1) M (by omega), q_cI_s, if_pos rfl]
    rfl
  · have hi' : i < 5 := hi
    have key : ∀ j : Nat, j < 5 → 0 ≤ ((([119, 104, 101, 114, 101] : List Int).getD j 0) % 256) % 65536 ∧ ((([119, 104, 101, 114, 101] : List Int).getD j 0) % 256) % 65536 < 65536 ∧ ((([119, 104, 101, 114, 101] : List Int).getD j 0) % 256) % 65536 = ([119, 104, 101, 114, 101] : List Int).getD j 0 := by decide
    obtain ⟨k1, k2, k3⟩ := key i hi'
    have q2 : pq sc (d - 1) 220 [.inr (.inr 2007), .inl (i : Int)] GF M = some (some (.inl (([119, 104, 101, 114, 101] : List Int).getD i 0)), GF, M) := by
      refine pq_e (by omega) (by decide) (Nat.le_of_ble_eq_true rfl) ⟨0 + 1, sg_J1_charAt_3b067_0_s7.trans ?_⟩
      rw [pq_ci (by omega) (by omega), q_c0_s, if_pos (by omega), Int.toNat_natCast, if_pos ⟨k1, k2⟩, k3]
    refine pq_e (by omega) (by decide) (Nat.le_of_ble_eq_true rfl) ⟨0 + 1, sg_J0_charAt_5068e_0_s7.trans ?_⟩
    rw [il (d - 1) M (by omega), q_cI_s, if_neg (by decide), q2, q_cI_s, if_pos (by omega)]
theorem sw_6 {sc : List Int} : SW sc 1008 [103, 114, 111, 117, 112] := by
  have cd : ∀ (d : Nat) (M : q_M), 1 ≤ d → pq sc d 215 [.inr (.inr 1008)] GF M = some (some (.inl 0), GF, M) := fun d M hd => pq_e hd (by decide) (Nat.le_of_ble_eq_true rfl) ⟨0 + 1, sg_J0_coder_7d493_0_s8.trans (if_neg (by decide))⟩
  have il : ∀ (d : Nat) (M : q_M), 1 ≤ d → pq sc d 217 [.inr (.inr 1008)] GF M = some (some (.inl 1), GF, M) := fun d M hd => pq_e hd (by decide) (Nat.le_of_ble_eq_true rfl) ⟨0 + 1, sg_J0_isLatin1_aae02_0_s8.trans ((if_neg (by decide)).trans (if_pos rfl))⟩
  refine ⟨fun d M hd => ?_, fun d M i hi hd => ?_, fun orc F M a1 a2 => sg_X8_spells_0_s8, fun orc F M b1 b4 => sg_X8_spells_15_s8⟩
  · refine pq_e (by omega) (by decide) (Nat.le_of_ble_eq_true rfl) ⟨0 + 1, sg_J0_length_8abf5_0_s8.trans ?_⟩
    rw [cd (d - 1) M (by omega), q_cI_s, if_pos rfl]
    rfl
  · have hi' : i < 5 := hi
    have key : ∀ j : Nat, j < 5 → 0 ≤ ((([103, 114, 111, 117, 112] : List Int).getD j 0) % 256) % 65536 ∧ ((([103, 114, 111, 117, 112] : List Int).getD j 0) % 256) % 65536 < 65536 ∧ ((([103, 114, 111, 117, 112] : List Int).getD j 0) % 256) % 65536 = ([103, 114, 111, 117, 112] : List Int).getD j 0 := by decide
    obtain ⟨k1, k2, k3⟩ := key i hi'
    have q2 : pq sc (d - 1) 220 [.inr (.inr 2008), .inl (i : Int)] GF M = some (some (.inl (([103, 114, 111, 117, 112] : List Int).getD i 0)), GF, M) := by
      refine pq_e (by omega) (by decide) (Nat.le_of_ble_eq_true rfl) ⟨0 + 1, sg_J1_charAt_3b067_0_s8.trans ?_⟩
      rw [pq_ci (by omega) (by omega), q_c0_s, if_pos (by omega), Int.toNat_natCast, if_pos ⟨k1, k2⟩, k3]
    refine pq_e (by omega) (by decide) (Nat.le_of_ble_eq_true rfl) ⟨0 + 1, sg_J0_charAt_5068e_0_s8.trans ?_⟩
    rw [il (d - 1) M (by omega), q_cI_s, if_neg (by decide), q2, q_cI_s, if_pos (by omega)]
theorem sw_7 {sc : List Int} : SW sc 1009 [99, 111, 117, 110, 116] := by
  have cd : ∀ (d : Nat) (M : q_M), 1 ≤ d → pq sc d 215 [.inr (.inr 1009)] GF M = some (some (.inl 0), GF, M) := fun d M hd => pq_e hd (by decide) (Nat.le_of_ble_eq_true rfl) ⟨0 + 1, sg_J0_coder_7d493_0_s9.trans (if_neg (by decide))⟩
  have il : ∀ (d : Nat) (M : q_M), 1 ≤ d → pq sc d 217 [.inr (.inr 1009)] GF M = some (some (.inl 1), GF, M) := fun d M hd => pq_e hd (by decide) (Nat.le_of_ble_eq_true rfl) ⟨0 + 1, sg_J0_isLatin1_aae02_0_s9.trans ((if_neg (by decide)).trans (if_pos rfl))⟩
  refine ⟨fun d M hd => ?_, fun d M i hi hd => ?_, fun orc F M a1 a2 => sg_X8_spells_0_s9, fun orc F M b1 b4 => sg_X8_spells_15_s9⟩
  · refine pq_e (by omega) (by decide) (Nat.le_of_ble_eq_true rfl) ⟨0 + 1, sg_J0_length_8abf5_0_s9.trans ?_⟩
    rw [cd (d - 1) M (by omega), q_cI_s, if_pos rfl]
    rfl
  · have hi' : i < 5 := hi
    have key : ∀ j : Nat, j < 5 → 0 ≤ ((([99, 111, 117, 110, 116] : List Int).getD j 0) % 256) % 65536 ∧ ((([99, 111, 117, 110, 116] : List Int).getD j 0) % 256) % 65536 < 65536 ∧ ((([99, 111, 117, 110, 116] : List Int).getD j 0) % 256) % 65536 = ([99, 111, 117, 110, 116] : List Int).getD j 0 := by decide
    obtain ⟨k1, k2, k3⟩ := key i hi'
    have q2 : pq sc (d - 1) 220 [.inr (.inr 2009), .inl (i : Int)] GF M = some (some (.inl (([99, 111, 117, 110, 116] : List Int).getD i 0)), GF, M) := by
      refine pq_e (by omega) (by decide) (Nat.le_of_ble_eq_true rfl) ⟨0 + 1, sg_J1_charAt_3b067_0_s9.trans ?_⟩
      rw [pq_ci (by omega) (by omega), q_c0_s, if_pos (by omega), Int.toNat_natCast, if_pos ⟨k1, k2⟩, k3]
    refine pq_e (by omega) (by decide) (Nat.le_of_ble_eq_true rfl) ⟨0 + 1, sg_J0_charAt_5068e_0_s9.trans ?_⟩
    rw [il (d - 1) M (by omega), q_cI_s, if_neg (by decide), q2, q_cI_s, if_pos (by omega)]
theorem sw_8 {sc : List Int} : SW sc 1010 [115, 117, 109] := by
  have cd : ∀ (d : Nat) (M : q_M), 1 ≤ d → pq sc d 215 [.inr (.inr 1010)] GF M = some (some (.inl 0), GF, M) := fun d M hd => pq_e hd (by decide) (Nat.le_of_ble_eq_true rfl) ⟨0 + 1, sg_J0_coder_7d493_0_s10.trans (if_neg (by decide))⟩
  have il : ∀ (d : Nat) (M : q_M), 1 ≤ d → pq sc d 217 [.inr (.inr 1010)] GF M = some (some (.inl 1), GF, M) := fun d M hd => pq_e hd (by decide) (Nat.le_of_ble_eq_true rfl) ⟨0 + 1, sg_J0_isLatin1_aae02_0_s10.trans ((if_neg (by decide)).trans (if_pos rfl))⟩
  refine ⟨fun d M hd => ?_, fun d M i hi hd => ?_, fun orc F M a1 a2 => sg_X8_spells_0_s10, fun orc F M b1 b4 => sg_X8_spells_15_s10⟩
  · refine pq_e (by omega) (by decide) (Nat.le_of_ble_eq_true rfl) ⟨0 + 1, sg_J0_length_8abf5_0_s10.trans ?_⟩
    rw [cd (d - 1) M (by omega), q_cI_s, if_pos rfl]
    rfl
  · have hi' : i < 3 := hi
    have key : ∀ j : Nat, j < 3 → 0 ≤ ((([115, 117, 109] : List Int).getD j 0) % 256) % 65536 ∧ ((([115, 117, 109] : List Int).getD j 0) % 256) % 65536 < 65536 ∧ ((([115, 117, 109] : List Int).getD j 0) % 256) % 65536 = ([115, 117, 109] : List Int).getD j 0 := by decide
    obtain ⟨k1, k2, k3⟩ := key i hi'
    have q2 : pq sc (d - 1) 220 [.inr (.inr 2010), .inl (i : Int)] GF M = some (some (.inl (([115, 117, 109] : List Int).getD i 0)), GF, M) := by
      refine pq_e (by omega) (by decide) (Nat.le_of_ble_eq_true rfl) ⟨0 + 1, sg_J1_charAt_3b067_0_s10.trans ?_⟩
      rw [pq_ci (by omega) (by omega), q_c0_s, if_pos (by omega), Int.toNat_natCast, if_pos ⟨k1, k2⟩, k3]
    refine pq_e (by omega) (by decide) (Nat.le_of_ble_eq_true rfl) ⟨0 + 1, sg_J0_charAt_5068e_0_s10.trans ?_⟩
    rw [il (d - 1) M (by omega), q_cI_s, if_neg (by decide), q2, q_cI_s, if_pos (by omega)]
theorem sw_9 {sc : List Int} : SW sc 1011 [109, 105, 110] := by
  have cd : ∀ (d : Nat) (M : q_M), 1 ≤ d → pq sc d 215 [.inr (.inr 1011)] GF M = some (some (.inl 0), GF, M) := fun d M hd => pq_e hd (by decide) (Nat.le_of_ble_eq_true rfl) ⟨0 + 1, sg_J0_coder_7d493_0_s11.trans (if_neg (by decide))⟩
  have il : ∀ (d : Nat) (M : q_M), 1 ≤ d → pq sc d 217 [.inr (.inr 1011)] GF M = some (some (.inl 1), GF, M) := fun d M hd => pq_e hd (by decide) (Nat.le_of_ble_eq_true rfl) ⟨0 + 1, sg_J0_isLatin1_aae02_0_s11.trans ((if_neg (by decide)).trans (if_pos rfl))⟩
  refine ⟨fun d M hd => ?_, fun d M i hi hd => ?_, fun orc F M a1 a2 => sg_X8_spells_0_s11, fun orc F M b1 b4 => sg_X8_spells_15_s11⟩
  · refine pq_e (by omega) (by decide) (Nat.le_of_ble_eq_true rfl) ⟨0 + 1, sg_J0_length_8abf5_0_s11.trans ?_⟩
    rw [cd (d - 1) M (by omega), q_cI_s, if_pos rfl]
    rfl
  · have hi' : i < 3 := hi
    have key : ∀ j : Nat, j < 3 → 0 ≤ ((([109, 105, 110] : List Int).getD j 0) % 256) % 65536 ∧ ((([109, 105, 110] : List Int).getD j 0) % 256) % 65536 < 65536 ∧ ((([109, 105, 110] : List Int).getD j 0) % 256) % 65536 = ([109, 105, 110] : List Int).getD j 0 := by decide
    obtain ⟨k1, k2, k3⟩ := key i hi'
    have q2 : pq sc (d - 1) 220 [.inr (.inr 2011), .inl (i : Int)] GF M = some (some (.inl (([109, 105, 110] : List Int).getD i 0)), GF, M) := by
      refine pq_e (by omega) (by decide) (Nat.le_of_ble_eq_true rfl) ⟨0 + 1, sg_J1_charAt_3b067_0_s11.trans ?_⟩
      rw [pq_ci (by omega) (by omega), q_c0_s, if_pos (by omega), Int.toNat_natCast, if_pos ⟨k1, k2⟩, k3]
    refine pq_e (by omega) (by decide) (Nat.le_of_ble_eq_true rfl) ⟨0 + 1, sg_J0_charAt_5068e_0_s11.trans ?_⟩
    rw [il (d - 1) M (by omega), q_cI_s, if_neg (by decide), q2, q_cI_s, if_pos (by omega)]
theorem sw_10 {sc : List Int} : SW sc 1012 [109, 97, 120] := by
  have cd : ∀ (d : Nat) (M : q_M), 1 ≤ d → pq sc d 215 [.inr (.inr 1012)] GF M = some (some (.inl 0), GF, M) := fun d M hd => pq_e hd (by decide) (Nat.le_of_ble_eq_true rfl) ⟨0 + 1, sg_J0_coder_7d493_0_s12.trans (if_neg (by decide))⟩
  have il : ∀ (d : Nat) (M : q_M), 1 ≤ d → pq sc d 217 [.inr (.inr 1012)] GF M = some (some (.inl 1), GF, M) := fun d M hd => pq_e hd (by decide) (Nat.le_of_ble_eq_true rfl) ⟨0 + 1, sg_J0_isLatin1_aae02_0_s12.trans ((if_neg (by decide)).trans (if_pos rfl))⟩
  refine ⟨fun d M hd => ?_, fun d M i hi hd => ?_, fun orc F M a1 a2 => sg_X8_spells_0_s12, fun orc F M b1 b4 => sg_X8_spells_15_s12⟩
  · refine pq_e (by omega) (by decide) (Nat.le_of_ble_eq_true rfl) ⟨0 + 1, sg_J0_length_8abf5_0_s12.trans ?_⟩
    rw [cd (d - 1) M (by omega), q_cI_s, if_pos rfl]
    rfl
  · have hi' : i < 3 := hi
    have key : ∀ j : Nat, j < 3 → 0 ≤ ((([109, 97, 120] : List Int).getD j 0) % 256) % 65536 ∧ ((([109, 97, 120] : List Int).getD j 0) % 256) % 65536 < 65536 ∧ ((([109, 97, 120] : List Int).getD j 0) % 256) % 65536 = ([109, 97, 120] : List Int).getD j 0 := by decide
    obtain ⟨k1, k2, k3⟩ := key i hi'
    have q2 : pq sc (d - 1) 220 [.inr (.inr 2012), .inl (i : Int)] GF M = some (some (.inl (([109, 97, 120] : List Int).getD i 0)), GF, M) := by
      refine pq_e (by omega) (by decide) (Nat.le_of_ble_eq_true rfl) ⟨0 + 1, sg_J1_charAt_3b067_0_s12.trans ?_⟩
      rw [pq_ci (by omega) (by omega), q_c0_s, if_pos (by omega), Int.toNat_natCast, if_pos ⟨k1, k2⟩, k3]
    refine pq_e (by omega) (by decide) (Nat.le_of_ble_eq_true rfl) ⟨0 + 1, sg_J0_charAt_5068e_0_s12.trans ?_⟩
    rw [il (d - 1) M (by omega), q_cI_s, if_neg (by decide), q2, q_cI_s, if_pos (by omega)]
theorem sw_11 {sc : List Int} : SW sc 1013 [111, 114] := by
  have cd : ∀ (d : Nat) (M : q_M), 1 ≤ d → pq sc d 215 [.inr (.inr 1013)] GF M = some (some (.inl 0), GF, M) := fun d M hd => pq_e hd (by decide) (Nat.le_of_ble_eq_true rfl) ⟨0 + 1, sg_J0_coder_7d493_0_s13.trans (if_neg (by decide))⟩
  have il : ∀ (d : Nat) (M : q_M), 1 ≤ d → pq sc d 217 [.inr (.inr 1013)] GF M = some (some (.inl 1), GF, M) := fun d M hd => pq_e hd (by decide) (Nat.le_of_ble_eq_true rfl) ⟨0 + 1, sg_J0_isLatin1_aae02_0_s13.trans ((if_neg (by decide)).trans (if_pos rfl))⟩
  refine ⟨fun d M hd => ?_, fun d M i hi hd => ?_, fun orc F M a1 a2 => sg_X8_spells_0_s13, fun orc F M b1 b4 => sg_X8_spells_15_s13⟩
  · refine pq_e (by omega) (by decide) (Nat.le_of_ble_eq_true rfl) ⟨0 + 1, sg_J0_length_8abf5_0_s13.trans ?_⟩
    rw [cd (d - 1) M (by omega), q_cI_s, if_pos rfl]
    rfl
  · have hi' : i < 2 := hi
    have key : ∀ j : Nat, j < 2 → 0 ≤ ((([111, 114] : List Int).getD j 0) % 256) % 65536 ∧ ((([111, 114] : List Int).getD j 0) % 256) % 65536 < 65536 ∧ ((([111, 114] : List Int).getD j 0) % 256) % 65536 = ([111, 114] : List Int).getD j 0 := by decide
    obtain ⟨k1, k2, k3⟩ := key i hi'
    have q2 : pq sc (d - 1) 220 [.inr (.inr 2013), .inl (i : Int)] GF M = some (some (.inl (([111, 114] : List Int).getD i 0)), GF, M) := by
      refine pq_e (by omega) (by decide) (Nat.le_of_ble_eq_true rfl) ⟨0 + 1, sg_J1_charAt_3b067_0_s13.trans ?_⟩
      rw [pq_ci (by omega) (by omega), q_c0_s, if_pos (by omega), Int.toNat_natCast, if_pos ⟨k1, k2⟩, k3]
    refine pq_e (by omega) (by decide) (Nat.le_of_ble_eq_true rfl) ⟨0 + 1, sg_J0_charAt_5068e_0_s13.trans ?_⟩
    rw [il (d - 1) M (by omega), q_cI_s, if_neg (by decide), q2, q_cI_s, if_pos (by omega)]
theorem sw_12 {sc : List Int} : SW sc 1014 [97, 110, 100] := by
  have cd : ∀ (d : Nat) (M : q_M), 1 ≤ d → pq sc d 215 [.inr (.inr 1014)] GF M = some (some (.inl 0), GF, M) := fun d M hd => pq_e hd (by decide) (Nat.le_of_ble_eq_true rfl) ⟨0 + 1, sg_J0_coder_7d493_0_s14.trans (if_neg (by decide))⟩
  have il : ∀ (d : Nat) (M : q_M), 1 ≤ d → pq sc d 217 [.inr (.inr 1014)] GF M = some (some (.inl 1), GF, M) := fun d M hd => pq_e hd (by decide) (Nat.le_of_ble_eq_true rfl) ⟨0 + 1, sg_J0_isLatin1_aae02_0_s14.trans ((if_neg (by decide)).trans (if_pos rfl))⟩
  refine ⟨fun d M hd => ?_, fun d M i hi hd => ?_, fun orc F M a1 a2 => sg_X8_spells_0_s14, fun orc F M b1 b4 => sg_X8_spells_15_s14⟩
  · refine pq_e (by omega) (by decide) (Nat.le_of_ble_eq_true rfl) ⟨0 + 1, sg_J0_length_8abf5_0_s14.trans ?_⟩
    rw [cd (d - 1) M (by omega), q_cI_s, if_pos rfl]
    rfl
  · have hi' : i < 3 := hi
    have key : ∀ j : Nat, j < 3 → 0 ≤ ((([97, 110, 100] : List Int).getD j 0) % 256) % 65536 ∧ ((([97, 110, 100] : List Int).getD j 0) % 256) % 65536 < 65536 ∧ ((([97, 110, 100] : List Int).getD j 0) % 256) % 65536 = ([97, 110, 100] : List Int).getD j 0 := by decide
    obtain ⟨k1, k2, k3⟩ := key i hi'
    have q2 : pq sc (d - 1) 220 [.inr (.inr 2014), .inl (i : Int)] GF M = some (some (.inl (([97, 110, 100] : List Int).getD i 0)), GF, M) := by
      refine pq_e (by omega) (by decide) (Nat.le_of_ble_eq_true rfl) ⟨0 + 1, sg_J1_charAt_3b067_0_s14.trans ?_⟩
      rw [pq_ci (by omega) (by omega), q_c0_s, if_pos (by omega), Int.toNat_natCast, if_pos ⟨k1, k2⟩, k3]
    refine pq_e (by omega) (by decide) (Nat.le_of_ble_eq_true rfl) ⟨0 + 1, sg_J0_charAt_5068e_0_s14.trans ?_⟩
    rw [il (d - 1) M (by omega), q_cI_s, if_neg (by decide), q2, q_cI_s, if_pos (by omega)]
theorem sw_13 {sc : List Int} : SW sc 1015 [110, 111, 116] := by
  have cd : ∀ (d : Nat) (M : q_M), 1 ≤ d → pq sc d 215 [.inr (.inr 1015)] GF M = some (some (.inl 0), GF, M) := fun d M hd => pq_e hd (by decide) (Nat.le_of_ble_eq_true rfl) ⟨0 + 1, sg_J0_coder_7d493_0_s15.trans (if_neg (by decide))⟩
  have il : ∀ (d : Nat) (M : q_M), 1 ≤ d → pq sc d 217 [.inr (.inr 1015)] GF M = some (some (.inl 1), GF, M) := fun d M hd => pq_e hd (by decide) (Nat.le_of_ble_eq_true rfl) ⟨0 + 1, sg_J0_isLatin1_aae02_0_s15.trans ((if_neg (by decide)).trans (if_pos rfl))⟩
  refine ⟨fun d M hd => ?_, fun d M i hi hd => ?_, fun orc F M a1 a2 => sg_X8_spells_0_s15, fun orc F M b1 b4 => sg_X8_spells_15_s15⟩
  · refine pq_e (by omega) (by decide) (Nat.le_of_ble_eq_true rfl) ⟨0 + 1, sg_J0_length_8abf5_0_s15.trans ?_⟩
    rw [cd (d - 1) M (by omega), q_cI_s, if_pos rfl]
    rfl
  · have hi' : i < 3 := hi
    have key : ∀ j : Nat, j < 3 → 0 ≤ ((([110, 111, 116] : List Int).getD j 0) % 256) % 65536 ∧ ((([110, 111, 116] : List Int).getD j 0) % 256) % 65536 < 65536 ∧ ((([110, 111, 116] : List Int).getD j 0) % 256) % 65536 = ([110, 111, 116] : List Int).getD j 0 := by decide
    obtain ⟨k1, k2, k3⟩ := key i hi'
    have q2 : pq sc (d - 1) 220 [.inr (.inr 2015), .inl (i : Int)] GF M = some (some (.inl (([110, 111, 116] : List Int).getD i 0)), GF, M) := by
      refine pq_e (by omega) (by decide) (Nat.le_of_ble_eq_true rfl) ⟨0 + 1, sg_J1_charAt_3b067_0_s15.trans ?_⟩
      rw [pq_ci (by omega) (by omega), q_c0_s, if_pos (by omega), Int.toNat_natCast, if_pos ⟨k1, k2⟩, k3]
    refine pq_e (by omega) (by decide) (Nat.le_of_ble_eq_true rfl) ⟨0 + 1, sg_J0_charAt_5068e_0_s15.trans ?_⟩
    rw [il (d - 1) M (by omega), q_cI_s, if_neg (by decide), q2, q_cI_s, if_pos (by omega)]
theorem sw_14 {sc : List Int} : SW sc 1016 [105, 115] := by
  have cd : ∀ (d : Nat) (M : q_M), 1 ≤ d → pq sc d 215 [.inr (.inr 1016)] GF M = some (some (.inl 0), GF, M) := fun d M hd => pq_e hd (by decide) (Nat.le_of_ble_eq_true rfl) ⟨0 + 1, sg_J0_coder_7d493_0_s16.trans (if_neg (by decide))⟩
  have il : ∀ (d : Nat) (M : q_M), 1 ≤ d → pq sc d 217 [.inr (.inr 1016)] GF M = some (some (.inl 1), GF, M) := fun d M hd => pq_e hd (by decide) (Nat.le_of_ble_eq_true rfl) ⟨0 + 1, sg_J0_isLatin1_aae02_0_s16.trans ((if_neg (by decide)).trans (if_pos rfl))⟩
  refine ⟨fun d M hd => ?_, fun d M i hi hd => ?_, fun orc F M a1 a2 => sg_X8_spells_0_s16, fun orc F M b1 b4 => sg_X8_spells_15_s16⟩
  · refine pq_e (by omega) (by decide) (Nat.le_of_ble_eq_true rfl) ⟨0 + 1, sg_J0_length_8abf5_0_s16.trans ?_⟩
    rw [cd (d - 1) M (by omega), q_cI_s, if_pos rfl]
    rfl
  · have hi' : i < 2 := hi
    have key : ∀ j : Nat, j < 2 → 0 ≤ ((([105, 115] : List Int).getD j 0) % 256) % 65536 ∧ ((([105, 115] : List Int).getD j 0) % 256) % 65536 < 65536 ∧ ((([105, 115] : List Int).getD j 0) % 256) % 65536 = ([105, 115] : List Int).getD j 0 := by decide
    obtain ⟨k1, k2, k3⟩ := key i hi'
    have q2 : pq sc (d - 1) 220 [.inr (.inr 2016), .inl (i : Int)] GF M = some (some (.inl (([105, 115] : List Int).getD i 0)), GF, M) := by
      refine pq_e (by omega) (by decide) (Nat.le_of_ble_eq_true rfl) ⟨0 + 1, sg_J1_charAt_3b067_0_s16.trans ?_⟩
      rw [pq_ci (by omega) (by omega), q_c0_s, if_pos (by omega), Int.toNat_natCast, if_pos ⟨k1, k2⟩, k3]
    refine pq_e (by omega) (by decide) (Nat.le_of_ble_eq_true rfl) ⟨0 + 1, sg_J0_charAt_5068e_0_s16.trans ?_⟩
    rw [il (d - 1) M (by omega), q_cI_s, if_neg (by decide), q2, q_cI_s, if_pos (by omega)]
theorem sw_15 {sc : List Int} : SW sc 1017 [110, 117, 108, 108] := by
  have cd : ∀ (d : Nat) (M : q_M), 1 ≤ d → pq sc d 215 [.inr (.inr 1017)] GF M = some (some (.inl 0), GF, M) := fun d M hd => pq_e hd (by decide) (Nat.le_of_ble_eq_true rfl) ⟨0 + 1, sg_J0_coder_7d493_0_s17.trans (if_neg (by decide))⟩
  have il : ∀ (d : Nat) (M : q_M), 1 ≤ d → pq sc d 217 [.inr (.inr 1017)] GF M = some (some (.inl 1), GF, M) := fun d M hd => pq_e hd (by decide) (Nat.le_of_ble_eq_true rfl) ⟨0 + 1, sg_J0_isLatin1_aae02_0_s17.trans ((if_neg (by decide)).trans (if_pos rfl))⟩
  refine ⟨fun d M hd => ?_, fun d M i hi hd => ?_, fun orc F M a1 a2 => sg_X8_spells_0_s17, fun orc F M b1 b4 => sg_X8_spells_15_s17⟩
  · refine pq_e (by omega) (by decide) (Nat.le_of_ble_eq_true rfl) ⟨0 + 1, sg_J0_length_8abf5_0_s17.trans ?_⟩
    rw [cd (d - 1) M (by omega), q_cI_s, if_pos rfl]
    rfl
  · have hi' : i < 4 := hi
    have key : ∀ j : Nat, j < 4 → 0 ≤ ((([110, 117, 108, 108] : List Int).getD j 0) % 256) % 65536 ∧ ((([110, 117, 108, 108] : List Int).getD j 0) % 256) % 65536 < 65536 ∧ ((([110, 117, 108, 108] : List Int).getD j 0) % 256) % 65536 = ([110, 117, 108, 108] : List Int).getD j 0 := by decide
    obtain ⟨k1, k2, k3⟩ := key i hi'
    have q2 : pq sc (d - 1) 220 [.inr (.inr 2017), .inl (i : Int)] GF M = some (some (.inl (([110, 117, 108, 108] : List Int).getD i 0)), GF, M) := by
      refine pq_e (by omega) (by decide) (Nat.le_of_ble_eq_true rfl) ⟨0 + 1, sg_J1_charAt_3b067_0_s17.trans ?_⟩
      rw [pq_ci (by omega) (by omega), q_c0_s, if_pos (by omega), Int.toNat_natCast, if_pos ⟨k1, k2⟩, k3]
    refine pq_e (by omega) (by decide) (Nat.le_of_ble_eq_true rfl) ⟨0 + 1, sg_J0_charAt_5068e_0_s17.trans ?_⟩
    rw [il (d - 1) M (by omega), q_cI_s, if_neg (by decide), q2, q_cI_s, if_pos (by omega)]
theorem sp_wordKind {sc : List Int} {d : Nat} {M : q_M} {T : Nat → Int} {len a e : Nat} (h : TXc T len M) (ha : a ≤ e) (he : e ≤ len) (hd : 8 ≤ d) : pq sc d 112 [.inr (.inr 9), .inl (a : Int), .inl (e : Int)] GF M = some (some (.inl (wk T a e)), GF, M) := by
  have q0 := sp_spells (sc := sc) (d := d - 1) (sw_0 (sc := sc)) h ha he (by omega)
  have q1 := sp_spells (sc := sc) (d := d - 1) (sw_1 (sc := sc)) h ha he (by omega)
  have q2 := sp_spells (sc := sc) (d := d - 1) (sw_2 (sc := sc)) h ha he (by omega)
  have q3 := sp_spells (sc := sc) (d := d - 1) (sw_3 (sc := sc)) h ha he (by omega)
  have q4 := sp_spells (sc := sc) (d := d - 1) (sw_4 (sc := sc)) h ha he (by omega)
  have q5 := sp_spells (sc := sc) (d := d - 1) (sw_5 (sc := sc)) h ha he (by omega)
  have q6 := sp_spells (sc := sc) (d := d - 1) (sw_6 (sc := sc)) h ha he (by omega)
  have q7 := sp_spells (sc := sc) (d := d - 1) (sw_7 (sc := sc)) h ha he (by omega)
  have q8 := sp_spells (sc := sc) (d := d - 1) (sw_8 (sc := sc)) h ha he (by omega)
  have q9 := sp_spells (sc := sc) (d := d - 1) (sw_9 (sc := sc)) h ha he (by omega)
  have q10 := sp_spells (sc := sc) (d := d - 1) (sw_10 (sc := sc)) h ha he (by omega)
  have q11 := sp_spells (sc := sc) (d := d - 1) (sw_11 (sc := sc)) h ha he (by omega)
  have q12 := sp_spells (sc := sc) (d := d - 1) (sw_12 (sc := sc)) h ha he (by omega)
  have q13 := sp_spells (sc := sc) (d := d - 1) (sw_13 (sc := sc)) h ha he (by omega)
  have q14 := sp_spells (sc := sc) (d := d - 1) (sw_14 (sc := sc)) h ha he (by omega)
  have q15 := sp_spells (sc := sc) (d := d - 1) (sw_15 (sc := sc)) h ha he (by omega)
  refine pq_e (by omega) (by decide) (Nat.le_of_ble_eq_true rfl) ⟨0 + 1, sg_X8_wordKind_0.trans ?_⟩
  simp only [q0, q1, q2, q3, q4, q5, q6, q7, q8, q9, q10, q11, q12, q13, q14, q15, q_cI_s, ifz]
  simp only [wk, wki, wds, Int.reduceAdd]
  by_cases g0 : wrd T a e = [115, 101, 108, 101, 99, 116]
  · rw [if_pos g0, if_pos g0]
  rw [if_neg g0, if_neg g0]
  by_cases g1 : wrd T a e = [102, 114, 111, 109]
  · rw [if_pos g1, if_pos g1]
  rw [if_neg g1, if_neg g1]
  by_cases g2 : wrd T a e = [106, 111, 105, 110]
  · rw [if_pos g2, if_pos g2]
  rw [if_neg g2, if_neg g2]
  by_cases g3 : wrd T a e = [108, 101, 102, 116]
  · rw [if_pos g3, if_pos g3]
  rw [if_neg g3, if_neg g3]
  by_cases g4 : wrd T a e = [111, 110]
  · rw [if_pos g4, if_pos g4]
  rw [if_neg g4, if_neg g4]
  by_cases g5 : wrd T a e = [119, 104, 101, 114, 101]
  · rw [if_pos g5, if_pos g5]
  rw [if_neg g5, if_neg g5]
  by_cases g6 : wrd T a e = [103, 114, 111, 117, 112]
  · rw [if_pos g6, if_pos g6]
  rw [if_neg g6, if_neg g6]
  by_cases g7 : wrd T a e = [99, 111, 117, 110, 116]
  · rw [if_pos g7, if_pos g7]
  rw [if_neg g7, if_neg g7]
  by_cases g8 : wrd T a e = [115, 117, 109]
  · rw [if_pos g8, if_pos g8]
  rw [if_neg g8, if_neg g8]
  by_cases g9 : wrd T a e = [109, 105, 110]
  · rw [if_pos g9, if_pos g9]
  rw [if_neg g9, if_neg g9]
  by_cases g10 : wrd T a e = [109, 97, 120]
  · rw [if_pos g10, if_pos g10]
  rw [if_neg g10, if_neg g10]
  by_cases g11 : wrd T a e = [111, 114]
  · rw [if_pos g11, if_pos g11]
  rw [if_neg g11, if_neg g11]
  by_cases g12 : wrd T a e = [97, 110, 100]
  · rw [if_pos g12, if_pos g12]
  rw [if_neg g12, if_neg g12]
  by_cases g13 : wrd T a e = [110, 111, 116]
  · rw [if_pos g13, if_pos g13]
  rw [if_neg g13, if_neg g13]
  by_cases g14 : wrd T a e = [105, 115]
  · rw [if_pos g14, if_pos g14]
  rw [if_neg g14, if_neg g14]
  by_cases g15 : wrd T a e = [110, 117, 108, 108]
  · rw [if_pos g15, if_pos g15]
  rw [if_neg g15, if_neg g15]
