def GF : q_G := [.inr (11, [2, 7, 10, 12, 16, 42, 43, 44, 47, 0, 0]), .inr (7, [3, 4, 5, 6]), .inl (0, 3), .inl (0, 3), .inl (0, 120), .inl (1, 120), .inr (10, [8, 9, 0]), .inl (0, 4), .inl (1, 4), .inr (8, [11, 0]), .inl (2, 130), .inr (9, [13, 14, 15, 0, 0]), .inl (0, 131), .inl (0, 131), .inl (0, 131), .inr (5, [17, 25, 34, 35, 36, 37, 38, 0, 39, 40, 0, 41, 0]), .inr (3, [18, 19, 20, 21, 22, 23, 24, 0]), .inl (0, 130), .inl (0, 130), .inl (0, 130), .inl (0, 130), .inl (0, 130), .inl (0, 130), .inl (1, 130), .inr (6, [17, 26, 27, 28, 0, 29, 30, 31, 32, 0, 33]), .inl (0, 130), .inl (0, 130), .inl (0, 130), .inl (0, 130), .inl (0, 130), .inl (0, 130), .inl (1, 130), .inl (0, 130), .inl (0, 3), .inl (0, 3), .inl (0, 3), .inl (0, 3), .inl (1, 3), .inl (0, 4), .inl (0, 4), .inl (0, 3), .inr (4, [12, 16, 17, 25, 0]), .inr (1, [16, 17, 2, 0]), .inr (0, [45, 46, 0, 0]), .inl (3, 120), .inl (1, 120), .inr (2, [16, 17, 25, 2, 44, 48, 49, 0, 0]), .inl (0, 90), .inl (1, 90), .inr (12, [51, 0, 52, 53, 54, 55, 0, 56, 57, 0, 58, 0, 0, 0, 0, 0, 0, 59, 60, 61, 0, 62, 0, 0, 63, 64, 0, 65, 66, 67, 68, 69, 0, 0, 0, 70, 0, 71, 72, 73, 0, 74, 75, 76, 0, 0, 77, 0, 0, 0, 78, 79, 80, 81, 0]), .inl (0, 16), .inl (0, 3), .inl (0, 3), .inl (0, 120), .inl (1, 120), .inl (0, 4), .inl (1, 4), .inl (2, 130), .inl (0, 132), .inl (0, 132), .inl (0, 132), .inl (0, 8), .inl (0, 5), .inl (0, 5), .inl (0, 4), .inl (0, 4), .inl (1, 4), .inl (0, 4), .inl (0, 4), .inl (0, 4), .inl (0, 40), .inl (0, 40), .inl (0, 40), .inl (0, 8), .inl (0, 8), .inl (0, 8), .inl (0, 3), .inl (1, 120), .inl (3, 120), .inl (1, 90), .inl (0, 90), .inl (3, 1)]
/-- String.checkIndex, its formatter left aside -/
def pg_ci : List q_V → q_G → q_M → Option (Option q_V × q_G × q_M) := fun as G M => match as with
  | [.inl i, .inl n] => if 0 ≤ i ∧ i < n then some (none, G, M) else none
  | _ => none
def pg_ex : q_X9 := fun mid => if mid = 224 then some pg_ci else none
noncomputable def pq (sc : List Int) (d : Nat) : q_O := q_f (pg_P sc) pg_ym pg_MT pg_ex d
def pr (sc : List Int) (orc : q_O) (mid F pc : Nat) (l : q_L) (st : List q_V) (M : q_M) : Option (Option q_V × q_G × q_M) := q_drv orc (pg_P sc) (q_mm (pg_P sc) mid).2.1 (q_mm (pg_P sc) mid).2.2 (pg_ym mid).2.2.2 (pg_MT mid) F pc l st GF M 0 0
theorem pq_of {sc : List Int} {d mid F : Nat} {as : List q_V} {M : q_M} {r : Option q_V × q_G × q_M} (hx : mid ≠ 224) (hl : (q_ent as).length ≤ (pg_ym mid).2.2.1) (h : pr sc (pq sc d) mid F 0 (q_entry (pg_ym mid).2.2.1 as) [] M = some r) : pq sc (d + 1) mid as GF M = some r := (q_f_iff (by simp [pg_ex, hx])).mpr ⟨hl, F, h⟩
/-- a segment: from a stop to the next one -/
theorem pr_st {sc : List Int} {orc : q_O} {mid F pc : Nat} {l : q_L} {st : List q_V} {M : q_M} : pr sc orc mid (F + 1) pc l st M = q_dk orc (pg_P sc) (pg_MT mid).2.1 (q_mm (pg_P sc) mid).2.1 (q_mm (pg_P sc) mid).2.2 (pg_MT mid).1 (pg_MT mid).2.2.2.1 ((pg_MT mid).2.2.2.2.map (·.1)) (fun pc' T => match q_seek (pc' : Int) (pg_MT mid).2.2.2.1 with
      | [] => none
      | (_, ins, _) :: _ => if q_isr ins = true then (if T.2.2.2.2.1 ≤ (q_mm (pg_P sc) mid).2.1 ∧ T.2.2.2.2.2 ≤ (q_mm (pg_P sc) mid).2.2 then (q_en (pg_ym mid).2.2.2 ins T.2.1 (fun r => some (r, T.2.2.1, T.2.2.2.1))) else none)
        else q_drv orc (pg_P sc) (q_mm (pg_P sc) mid).2.1 (q_mm (pg_P sc) mid).2.2 (pg_ym mid).2.2.2 (pg_MT mid) F pc' (q_mask ((((pg_MT mid).2.2.2.2.find? (fun q => q.1 == pc')).map (·.2)).getD []) T.1) T.2.1 T.2.2.1 T.2.2.2.1 T.2.2.2.2.1 T.2.2.2.2.2) 1000 false (q_seek (pc : Int) (pg_MT mid).2.2.2.1) l st GF M 0 0 := by
  rw [q_dk_eq]
  show q_drv orc (pg_P sc) (q_mm (pg_P sc) mid).2.1 (q_mm (pg_P sc) mid).2.2 (pg_ym mid).2.2.2 (pg_MT mid) (F + 1) pc l st GF M 0 0 = _
  rw [q_drv]
  generalize q_den orc (pg_P sc) (pg_MT mid).2.1 (q_mm (pg_P sc) mid).2.1 (q_mm (pg_P sc) mid).2.2 (pg_MT mid).1 (pg_MT mid).2.2.2.1 ((pg_MT mid).2.2.2.2.map (·.1)) 1000 false (q_seek (pc : Int) (pg_MT mid).2.2.2.1) l st GF M 0 0 = x
  rcases x with _ | ⟨pc', l', st', G', M', ca', sa'⟩
  · rfl
  · dsimp only [q_bd]
    rcases q_seek (pc' : Int) (pg_MT mid).2.2.2.1 with _ | ⟨⟨p0, ins, ln⟩, tl⟩
    · rfl
    · dsimp only
      split
      · split
        · rw [q_en_b, ← q_end_k]
          rcases q_end (pg_ym mid).2.2.2 ins st' with _ | r <;> rfl
        · rfl
      · rfl
