/-! the model checks -/
def FS (M M' : q_M) : Prop := (∀ a, ¬ a = 49 → M' a = M a) ∧ (∀ j, ¬ j = 12 → ¬ j = 13 → ¬ j = 40 → M' 49 j = M 49 j)
theorem FS_r {M : q_M} : FS M M := ⟨fun _ _ => rfl, fun _ _ _ _ => rfl⟩
theorem FS_t {M M' M'' : q_M} (h : FS M M') (h' : FS M' M'') : FS M M'' := ⟨fun a h1 => (h'.1 a h1).trans (h.1 a h1), fun j h1 h2 h3 => (h'.2 j h1 h2 h3).trans (h.2 j h1 h2 h3)⟩
def MS (M : q_M) (x : Int) : Prop := (M 49 12 = 0 ∧ x = -1) ∨ (M 49 12 = 1 ∧ M 49 13 = x ∧ 0 ≤ x)
/-- a column's token -/
def CT (C : Nat → Int) (q t : Nat) : Prop := 119 ≤ C t ∧ C t ≤ 122 ∧ 97 ≤ C (t + 2) ∧ C (t + 2) ≤ 100 ∧ t + 2 ≤ q
/-- what the model knows of a query -/
def SM (M : q_M) (C P N : Nat → Int) (q : Nat) (its : List aIt) (ous : List aOu) (gts : List Nat) (wf wt : Nat) : Prop := MK C P N M (q + 1) ∧ q ≤ 130 ∧ MI M C its ∧ MO M ous ∧ MG M gts ∧ M 49 32 = wf ∧ M 49 33 = wt
theorem SM_fr {M M' : q_M} {C P N : Nat → Int} {q : Nat} {its : List aIt} {ous : List aOu} {gts : List Nat} {wf wt : Nat} (h : SM M C P N q its ous gts wf wt) (hf : FS M M') : SM M' C P N q its ous gts wf wt := by
  obtain ⟨h1, h2, h3, h4, h5, h6, h7⟩ := h
  refine ⟨?_, h2, MI_fr h3 (fun a _ _ => hf.1 a (by omega)) (hf.2 26 (by decide) (by decide) (by decide)), MO_fr h4 (hf.1 62 (by decide)) (hf.1 63 (by decide)) (hf.2 23 (by decide) (by decide) (by decide)), MG_fr h5 (hf.1 69 (by decide)) (hf.2 34 (by decide) (by decide) (by decide)), by rw [hf.2 32 (by decide) (by decide) (by decide)]; exact h6, by rw [hf.2 33 (by decide) (by decide) (by decide)]; exact h7⟩
  unfold MK at h1 ⊢
  rw [hf.1 58 (by decide), hf.1 59 (by decide), hf.1 60 (by decide)]; exact h1
def TIq (C : Nat → Int) (q : Nat) (tl : List Nat) : Prop := tl.length ≤ 3 ∧ ∀ t ∈ tl, 84 ≤ C t ∧ C t ≤ 86 ∧ 119 ≤ C (t + 1) ∧ C (t + 1) ≤ 122 ∧ t + 1 ≤ q
theorem kp_a {c : Int} (h : 119 ≤ c ∧ c ≤ 122) : kp c = c + 101 := by
  unfold kp
  rw [if_neg (by omega), if_neg (by omega), if_neg (by omega), if_pos (by omega)]
theorem kp_l {c : Int} (h : 97 ≤ c ∧ c ≤ 100) : kp c = c + 133 := by
  unfold kp
  rw [if_neg (by omega), if_neg (by omega), if_neg (by omega), if_neg (by omega), if_pos (by omega)]
theorem mk_itemT {sc : List Int} {orc : q_O} {M : q_M} {C P N : Nat → Int} {q : Nat} {its : List aIt} {ous : List aOu} {gts : List Nat} {wf wt tok : Nat} (h : SM M C P N q its ous gts wf wt) (hT : TIq C q (its.map (·.1))) (ha : 119 ≤ C tok ∧ C tok ≤ 122) (htq : tok ≤ q) : ∀ (l : List aIt) (i : Nat), (∀ j, its[i + j]? = l[j]?) → i + l.length = its.length → ∃ F, pr sc orc 180 F 2 [some (.inr (.inr 49)), some (.inl (tok : Int)), some (.inl (i : Int))] [] M = some (some (.inl (iw (als C (l.map (·.1))) (C tok) i)), GF, M) := by
  obtain ⟨hK, hq, hI, -⟩ := h
  have hl3 := hT.1
  rw [List.length_map] at hl3
  intro l
  induction l with
  | nil =>
    intro i hj hi
    refine ⟨0 + 1, sg_X12_itemOf_2.trans ?_⟩
    rw [hI.1, if_neg (by simp at hi; omega)]
    rfl
  | cons it l ih =>
    intro i hj hi
    simp only [List.length_cons] at hi
    have ht : its[i]? = some it := by have := hj 0; simpa using this
    obtain ⟨F, qq⟩ := ih (i + 1) (fun j => by have := hj (j + 1); rw [show i + (j + 1) = i + 1 + j by omega] at this; simpa using this) (by omega)
    rw [n1] at qq
    have e65 := (hI.2 i it ht).1
    obtain ⟨t1, t2, t3, t4, t5⟩ := hT.2 it.1 (List.mem_map_of_mem (List.mem_of_getElem? ht))
    have k1 := (hK (it.1 + 1) (by omega)).1
    have k2 := (hK tok (by omega)).1
    rw [kp_a ⟨t3, t4⟩] at k1
    rw [kp_a ha] at k2
    have hst : ∀ F, pr sc orc 180 (F + 1) 2 [some (.inr (.inr 49)), some (.inl (tok : Int)), some (.inl (i : Int))] [] M = if C (it.1 + 1) + 101 = C tok + 101 then some (some (.inl (i : Int)), GF, M) else pr sc orc 180 F 2 [some (.inr (.inr 49)), some (.inl (tok : Int)), some (.inl ((i : Int) + 1))] [] M := by
      intro F
      refine sg_X12_itemOf_2.trans ?_
      rw [hI.1, if_pos (by omega), if_pos (by omega), Int.toNat_natCast, e65, qw1 (by omega), if_pos (by omega), if_pos (by omega), Int.toNat_natCast, Int.toNat_natCast, k1, k2, q_wid (by omega) (by omega)]
    by_cases g : C (it.1 + 1) = C tok
    · refine ⟨0 + 1, (hst 0).trans ?_⟩
      rw [if_pos (by omega)]
      show _ = some (some (Sum.inl (if C (it.1 + 1) = C tok then (i : Int) else _)), GF, M)
      rw [if_pos g]
    · refine ⟨F + 1, (hst F).trans ?_⟩
      rw [if_neg (by omega), qq]
      show _ = some (some (Sum.inl (if C (it.1 + 1) = C tok then (i : Int) else iw (als C (l.map (·.1))) (C tok) ((i : Int) + 1))), GF, M)
      rw [if_neg g]
theorem mk_itemOf {sc : List Int} {d : Nat} {M : q_M} {C P N : Nat → Int} {q : Nat} {its : List aIt} {ous : List aOu} {gts : List Nat} {wf wt tok : Nat} (h : SM M C P N q its ous gts wf wt) (hT : TIq C q (its.map (·.1))) (ha : 119 ≤ C tok ∧ C tok ≤ 122) (htq : tok ≤ q) (hd : 1 ≤ d) : pq sc d 180 [.inr (.inr 49), .inl (tok : Int)] GF M = some (some (.inl (itm C (its.map (·.1)) (C tok))), GF, M) := by
  obtain ⟨F, q1⟩ := mk_itemT (sc := sc) (orc := pq sc (d - 1)) h hT ha htq its 0 (fun j => by rw [Nat.zero_add]) (by omega)
  refine (pq_e (by omega) (by decide) (Nat.le_of_ble_eq_true rfl) ⟨F + 1, sg_X12_itemOf_0.trans ?_⟩)
  exact q1
theorem mk_columnOf {sc : List Int} {d : Nat} {M : q_M} {C P N : Nat → Int} {q : Nat} {its : List aIt} {ous : List aOu} {gts : List Nat} {wf wt tok : Nat} (h : SM M C P N q its ous gts wf wt) (hc : CT C q tok) (hd : 1 ≤ d) : pq sc d 181 [.inr (.inr 49), .inl (tok : Int)] GF M = some (some (.inl (C (tok + 2) - 97)), GF, M) := by
  obtain ⟨hK, hq, -⟩ := h
  obtain ⟨-, -, c3, c4, c5⟩ := hc
  have k1 := (hK (tok + 2) (by omega)).1
  rw [kp_l ⟨c3, c4⟩] at k1
  refine (pq_e (by omega) (by decide) (Nat.le_of_ble_eq_true rfl) ⟨0 + 1, sg_X12_columnOf_0.trans ?_⟩)
  rw [q_wid (x := (tok : Int) + 2) (by omega) (by omega), show (tok : Int) + 2 = ((tok + 2 : Nat) : Int) by omega, Int.toNat_natCast, k1, if_pos (by omega), q_wid (by omega) (by omega), show C (tok + 2) + 133 - 230 = C (tok + 2) - 97 by omega]
theorem mk_spot {sc : List Int} {d : Nat} {M : q_M} {tok : Nat} {x a : Int} (h59 : M 59 tok = a) (ha : 0 ≤ a) (ht : tok < 132) (hx : MS M x) (hd : 1 ≤ d) : ∃ M', pq sc d 179 [.inr (.inr 49), .inl (tok : Int)] GF M = some (none, GF, M') ∧ FS M M' ∧ M' 49 40 = M 49 40 ∧ MS M' (nIl x a) := by
  have f1 : FS M (q_up (q_up M 49 13 a) 49 12 1) := ⟨fun b hb => by rw [q_upf hb, q_upf hb], fun j h1 h2 _ => by rw [q_up_sn h1, q_up_sn h2]⟩
  have f2 : FS M (q_up M 49 12 1) := ⟨fun b hb => by rw [q_upf hb], fun j h1 h2 _ => by rw [q_up_sn h1]⟩
  unfold nIl
  rcases hx with ⟨h1, h2⟩ | ⟨h1, h2, h3⟩
  · rw [if_pos h2]
    refine ⟨_, (pq_e (by omega) (by decide) (Nat.le_of_ble_eq_true rfl) ⟨0 + 1, sg_X12_spot_0.trans ?_⟩), f1, by rw [q_up_sn (by decide), q_up_sn (by decide)], Or.inr ⟨q_up_s, by rw [q_up_sn (by decide), q_up_s], ha⟩⟩
    rw [if_pos (by omega), if_pos h1, Int.toNat_natCast, h59]
  · rw [if_neg (by omega)]
    by_cases g : a < x
    · rw [if_pos g]
      refine ⟨_, (pq_e (by omega) (by decide) (Nat.le_of_ble_eq_true rfl) ⟨0 + 1, sg_X12_spot_0.trans ?_⟩), f1, by rw [q_up_sn (by decide), q_up_sn (by decide)], Or.inr ⟨q_up_s, by rw [q_up_sn (by decide), q_up_s], ha⟩⟩
      rw [if_pos (by omega), if_neg (by omega), Int.toNat_natCast, h59, h2, if_pos g]
    · rw [if_neg g]
      refine ⟨_, (pq_e (by omega) (by decide) (Nat.le_of_ble_eq_true rfl) ⟨0 + 1, sg_X12_spot_0.trans ?_⟩), f2, by rw [q_up_sn (by decide)], Or.inr ⟨q_up_s, by rw [q_up_sn (by decide)]; exact h2, h3⟩⟩
      rw [if_pos (by omega), if_neg (by omega), Int.toNat_natCast, h59, h2, if_neg g]
theorem mk_column {sc : List Int} {d : Nat} {M : q_M} {C P N : Nat → Int} {q : Nat} {its : List aIt} {ous : List aOu} {gts : List Nat} {wf wt : Nat} {tok : Nat} {last x : Int} {B : Int → Prop} (h : SM M C P N q its ous gts wf wt) (hT : TIq C q (its.map (·.1))) (hP : PN P) (hc : CT C q tok) (hx : MS M x) (hB : IS x B) (hd : 2 ≤ d) : ∃ M' x', pq sc d 182 [.inr (.inr 49), .inl (tok : Int), .inl last] GF M = some (none, GF, M') ∧ FS M M' ∧ M' 49 40 = M 49 40 ∧ MS M' x' ∧ IS x' (fun p => B p ∨ (bc (M 51) C (its.map (·.1)) tok last ∧ p = P tok)) := by
  have hK := h.1
  have hq := h.2.1
  have hc5 := hc.2.2.2.2
  have q1 := mk_itemOf (sc := sc) (d := d - 1) h hT ⟨hc.1, hc.2.1⟩ (by omega) (by omega)
  have k59 := (hK tok (by omega)).2.1
  obtain ⟨M1, q2, f1, e40, hx1⟩ := mk_spot (sc := sc) (d := d - 1) k59 (hP tok) (by omega) hx (by omega)
  have bad : bc (M 51) C (its.map (·.1)) tok last → pq sc d 182 [.inr (.inr 49), .inl (tok : Int), .inl last] GF M = some (none, GF, M1) → ∃ M' x', pq sc d 182 [.inr (.inr 49), .inl (tok : Int), .inl last] GF M = some (none, GF, M') ∧ FS M M' ∧ M' 49 40 = M 49 40 ∧ MS M' x' ∧ IS x' (fun p => B p ∨ (bc (M 51) C (its.map (·.1)) tok last ∧ p = P tok)) := by
    intro hb hst
    refine ⟨M1, _, hst, f1, e40, hx1, IS_c (IS_n hB (hP tok)) (fun p => ?_)⟩
    constructor
    · rintro (hh | hh)
      · exact Or.inl hh
      · exact Or.inr ⟨hb, hh⟩
    · rintro (hh | ⟨-, hh⟩)
      · exact Or.inl hh
      · exact Or.inr hh
  rcases itm_s (C := C) (tl := its.map (·.1)) (a := C tok) with ⟨k1, -⟩ | ⟨k, t, k1, k2, k3, -⟩
  · refine bad (Or.inl k1) (pq_e (by omega) (by decide) (Nat.le_of_ble_eq_true rfl) ⟨0 + 1, sg_X12_checkColumn_0.trans ?_⟩)
    rw [q1, q_cI_s, if_pos (by omega), q2, q_c0_s]
  · have hkl : k < (its.map (·.1)).length := (List.getElem?_eq_some_iff.mp k1).1
    have hk3 : k < 3 := by have := hT.1; omega
    obtain ⟨t1, t2, t3, t4, t5⟩ := hT.2 t (List.mem_of_getElem? k1)
    rw [k2] at q1
    by_cases g2 : last < (k : Int)
    · refine bad (Or.inr (Or.inl (by rw [k2]; exact g2))) (pq_e (by omega) (by decide) (Nat.le_of_ble_eq_true rfl) ⟨0 + 1, sg_X12_checkColumn_0.trans ?_⟩)
      rw [q1, q_cI_s, if_neg (by omega), if_pos g2, q2, q_c0_s]
    · have q3 := mk_columnOf (sc := sc) (d := d - 1) h hc (by omega)
      have hit : ∃ it, its[k]? = some it ∧ it.1 = t := by
        rw [List.getElem?_map] at k1
        rcases hh : its[k]? with _ | it
        · rw [hh] at k1; cases k1
        · rw [hh] at k1; exact ⟨it, rfl, by simpa using k1⟩
      obtain ⟨it, hit1, hit2⟩ := hit
      have e64 := (h.2.2.1.2 k it hit1).2.1
      rw [hit2] at e64
      have ewof : wof (M 51) C (its.map (·.1)) (itm C (its.map (·.1)) (C tok)) = M 51 (C t - 84).toNat := by
        unfold wof
        rw [k2, Int.toNat_natCast, List.getD_eq_getElem?_getD, k1]; rfl
      by_cases g3 : C (tok + 2) - 97 < M 51 (C t - 84).toNat
      · refine ⟨M, x, (pq_e (by omega) (by decide) (Nat.le_of_ble_eq_true rfl) ⟨0 + 1, sg_X12_checkColumn_0.trans ?_⟩), FS_r, rfl, hx, IS_c hB (fun p => ⟨Or.inl, fun hh => ?_⟩)⟩
        · rw [q1, q_cI_s, if_neg (by omega), if_neg g2, q3, q_cI_s, if_pos (by omega), Int.toNat_natCast, e64, if_pos (by omega), if_pos g3]
        · rcases hh with hh | ⟨hh, -⟩
          · exact hh
          · rcases hh with hh | hh | hh
            · omega
            · omega
            · rw [ewof] at hh; exact absurd g3 hh
      · refine bad (Or.inr (Or.inr (by rw [ewof]; exact g3))) (pq_e (by omega) (by decide) (Nat.le_of_ble_eq_true rfl) ⟨0 + 1, sg_X12_checkColumn_0.trans ?_⟩)
        rw [q1, q_cI_s, if_neg (by omega), if_neg g2, q3, q_cI_s, if_pos (by omega), Int.toNat_natCast, e64, if_pos (by omega), if_neg g3, q2, q_c0_s]
/-- a range of tokens: all aliases in it begin columns -/
def RG (C : Nat → Int) (q a b : Nat) : Prop := a ≤ b ∧ b ≤ q ∧ ∀ t, a ≤ t → t < b → 119 ≤ C t → C t ≤ 122 → CT C q t
theorem mk_rangeT {sc : List Int} {d : Nat} {M0 : q_M} {C P N : Nat → Int} {q : Nat} {its : List aIt} {ous : List aOu} {gts : List Nat} {wf wt : Nat} {a b : Nat} {last : Int} (h : SM M0 C P N q its ous gts wf wt) (hT : TIq C q (its.map (·.1))) (hP : PN P) (hR : RG C q a b) (hk : ∀ i, i < b → kR (C i)) (hd : 3 ≤ d) : ∀ (m t : Nat) (M : q_M) (x : Int) (B : Int → Prop), t + m = b → a ≤ t → FS M0 M → MS M x → IS x B → ∃ F M' x', pr sc (pq sc d) 183 F 3 [some (.inr (.inr 49)), none, some (.inl (b : Int)), some (.inl last), some (.inl (t : Int))] [] M = some (none, GF, M') ∧ FS M M' ∧ M' 49 40 = M 49 40 ∧ MS M' x' ∧ IS x' (fun p => B p ∨ ∃ u, t ≤ u ∧ u < b ∧ 119 ≤ C u ∧ C u ≤ 122 ∧ bc (M0 51) C (its.map (·.1)) u last ∧ p = P u) := by
  have hq := h.2.1
  have hbq := hR.2.1
  intro m
  induction m with
  | zero =>
    intro t M x B ht hat hM hx hB
    refine ⟨0 + 1, M, x, sg_X12_checkRange_3.trans ?_, FS_r, rfl, hx, IS_c hB (fun p => ⟨Or.inl, fun hh => ?_⟩)⟩
    · rw [if_neg (by omega)]
    · rcases hh with hh | ⟨u, h1, h2, -⟩
      · exact hh
      · omega
  | succ m ih =>
    intro t M x B ht hat hM hx hB
    have hS := SM_fr h hM
    have k58 := (hS.1 t (by omega)).1
    have q1 := sp_isIn (sc := sc) (d := d) (M := M) (a := kp (C t)) (b := 220) (by omega) (by omega) (by omega)
    by_cases g : 119 ≤ C t ∧ C t ≤ 122
    · rw [if_pos ((kp_al (hk t (by omega))).mpr g)] at q1
      obtain ⟨M1, x1, q2, f1, e1, hx1, hB1⟩ := mk_column (sc := sc) (d := d) (last := last) hS hT hP (hR.2.2 t hat (by omega) g.1 g.2) hx hB (by omega)
      obtain ⟨F, M', x', q3, f3, e3, hx3, hB3⟩ := ih (t + 1) M1 x1 _ (by omega) (by omega) (FS_t hM f1) hx1 hB1
      refine ⟨F + 1, M', x', sg_X12_checkRange_3.trans ?_, FS_t f1 f3, e3.trans e1, hx3, IS_c hB3 (fun p => ?_)⟩
      · rw [if_pos (by omega), if_pos (by omega), Int.toNat_natCast, k58, q1, q_cI_s, if_neg (by decide), q2, q_c0_s, qw1 (by omega), q3]
      · rw [hM.1 51 (by decide)]
        constructor
        · rintro ((hh | ⟨h1, h2⟩) | ⟨u, h1, h2⟩)
          · exact Or.inl hh
          · exact Or.inr ⟨t, Nat.le_refl _, by omega, g.1, g.2, h1, h2⟩
          · exact Or.inr ⟨u, by omega, h2⟩
        · rintro (hh | ⟨u, h1, h2, h3, h4, h5, h6⟩)
          · exact Or.inl (Or.inl hh)
          · by_cases e : u = t
            · subst e; exact Or.inl (Or.inr ⟨h5, h6⟩)
            · exact Or.inr ⟨u, by omega, h2, h3, h4, h5, h6⟩
    · rw [if_neg (fun e => g ((kp_al (hk t (by omega))).mp e))] at q1
      obtain ⟨F, M', x', q3, f3, e3, hx3, hB3⟩ := ih (t + 1) M x B (by omega) (by omega) hM hx hB
      refine ⟨F + 1, M', x', sg_X12_checkRange_3.trans ?_, f3, e3, hx3, IS_c hB3 (fun p => ?_)⟩
      · rw [if_pos (by omega), if_pos (by omega), Int.toNat_natCast, k58, q1, q_cI_s, if_pos rfl, qw1 (by omega), q3]
      · constructor
        · rintro (hh | ⟨u, h1, h2⟩)
          · exact Or.inl hh
          · exact Or.inr ⟨u, by omega, h2⟩
        · rintro (hh | ⟨u, h1, h2, h3, h4, h5⟩)
          · exact Or.inl hh
          · by_cases e : u = t
            · subst e; exact absurd ⟨h3, h4⟩ g
            · exact Or.inr ⟨u, by omega, h2, h3, h4, h5⟩
theorem mk_range {sc : List Int} {d : Nat} {M : q_M} {C P N : Nat → Int} {q : Nat} {its : List aIt} {ous : List aOu} {gts : List Nat} {wf wt : Nat} {a b : Nat} {last x : Int} {B : Int → Prop} (h : SM M C P N q its ous gts wf wt) (hT : TIq C q (its.map (·.1))) (hP : PN P) (hR : RG C q a b) (hk : ∀ i, i < b → kR (C i)) (hx : MS M x) (hB : IS x B) (hd : 4 ≤ d) : ∃ M' x', pq sc d 183 [.inr (.inr 49), .inl (a : Int), .inl (b : Int), .inl last] GF M = some (none, GF, M') ∧ FS M M' ∧ M' 49 40 = M 49 40 ∧ MS M' x' ∧ IS x' (fun p => B p ∨ ∃ u, a ≤ u ∧ u < b ∧ 119 ≤ C u ∧ C u ≤ 122 ∧ bc (M 51) C (its.map (·.1)) u last ∧ p = P u) := by
  obtain ⟨F, M', x', q1, hh⟩ := mk_rangeT (sc := sc) (d := d - 1) (last := last) h hT hP hR hk (by omega) (b - a) a M x B (by have := hR.1; omega) (Nat.le_refl _) FS_r hx hB
  refine ⟨M', x', (pq_e (by omega) (by decide) (Nat.le_of_ble_eq_true rfl) ⟨F + 1, sg_X12_checkRange_0.trans ?_⟩), hh⟩
  exact q1
