/-! the three methods that may throw, stop by stop -/
def px (sc : List Int) (orc : q_O) (mid : Nat) (th : List Nat) (F pc : Nat) (l : q_L) (st : List q_V) (M : q_M) : Option q_Rx := q_drx orc (pg_P sc) (pg_ym mid).2.2.2 (pg_MT mid) th F pc l st GF M
theorem px_st {sc : List Int} {orc : q_O} {mid F pc : Nat} {th : List Nat} {l : q_L} {st : List q_V} {M : q_M} : px sc orc mid th (F + 1) pc l st M = q_dk orc (pg_P sc) (pg_MT mid).2.1 0 0 (pg_MT mid).1 (pg_MT mid).2.2.2.1 ((pg_MT mid).2.2.2.2.map (·.1)) (fun pc' T => if T.2.2.2.2.1 = 0 ∧ T.2.2.2.2.2 = 0 then (if pc' ∈ th then (if T.2.1 = [] then some (.inr (pc', T.2.2.1, T.2.2.2.1)) else none) else match q_seek (pc' : Int) (pg_MT mid).2.2.2.1 with
      | [] => none
      | (_, ins, _) :: _ => if q_isr ins = true then q_en (pg_ym mid).2.2.2 ins T.2.1 (fun r => some (.inl (r, T.2.2.1, T.2.2.2.1)))
        else q_drx orc (pg_P sc) (pg_ym mid).2.2.2 (pg_MT mid) th F pc' (q_mask ((((pg_MT mid).2.2.2.2.find? (fun q => q.1 == pc')).map (·.2)).getD []) T.1) T.2.1 T.2.2.1 T.2.2.2.1) else none) 1000 false (q_seek (pc : Int) (pg_MT mid).2.2.2.1) l st GF M 0 0 := by
  rw [q_dk_eq]
  show q_drx orc (pg_P sc) (pg_ym mid).2.2.2 (pg_MT mid) th (F + 1) pc l st GF M = _
  rw [q_drx]
  generalize q_den orc (pg_P sc) (pg_MT mid).2.1 0 0 (pg_MT mid).1 (pg_MT mid).2.2.2.1 ((pg_MT mid).2.2.2.2.map (·.1)) 1000 false (q_seek (pc : Int) (pg_MT mid).2.2.2.1) l st GF M 0 0 = x
  rcases x with _ | ⟨pc', l', st', G', M', ca', sa'⟩
  · rfl
  · dsimp only [q_bd]
    split
    · split
      · rfl
      · rcases q_seek (pc' : Int) (pg_MT mid).2.2.2.1 with _ | ⟨⟨p0, ins, ln⟩, tl⟩
        · rfl
        · dsimp only
          split
          · rw [q_en_b, ← q_end_k]
            rcases q_end (pg_ym mid).2.2.2 ins st' with _ | r <;> rfl
          · rfl
    · rfl
set_option maxRecDepth 20000 in
theorem sgx_X11_row_0 {sc : List Int} {orc : q_O} {M : q_M} {F : Nat} {a1 : Int} : px sc orc 136 [82, 97] (F + 1) 0 [some (.inr (.inr 0)), some (.inl (a1)), none, none, none] [] M =
  q_cI (orc 96 [.inr (.inr 1), .inl (a1)] GF M) GF (fun x2 M1 =>
  if 0 < x2 then
    q_cI (orc 127 [.inr (.inr 6)] GF M1) GF (fun x6 M5 =>
    if x2 = x6 then
      q_cI (orc 97 [.inr (.inr 1), .inl (a1)] GF M5) GF (fun x10 M9 =>
      if x10 < 10 then
        px sc orc 136 [82, 97] F 50 [some (.inr (.inr 0)), some (.inl (a1)), none, some (.inl (1)), some (.inl (0))] [] M9
      else
        px sc orc 136 [82, 97] F 50 [some (.inr (.inr 0)), some (.inl (a1)), none, some (.inl (1)), some (.inl (1))] [] M9)
    else
      q_cI (orc 97 [.inr (.inr 1), .inl (a1)] GF M5) GF (fun x8 M7 =>
      if x8 < 10 then
        px sc orc 136 [82, 97] F 50 [some (.inr (.inr 0)), some (.inl (a1)), none, some (.inl (0)), some (.inl (0))] [] M7
      else
        px sc orc 136 [82, 97] F 50 [some (.inr (.inr 0)), some (.inl (a1)), none, some (.inl (0)), some (.inl (1))] [] M7))
  else
    q_cI (orc 97 [.inr (.inr 1), .inl (a1)] GF M1) GF (fun x4 M3 =>
    if x4 < 10 then
      px sc orc 136 [82, 97] F 50 [some (.inr (.inr 0)), some (.inl (a1)), none, some (.inl (0)), some (.inl (0))] [] M3
    else
      px sc orc 136 [82, 97] F 50 [some (.inr (.inr 0)), some (.inl (a1)), none, some (.inl (0)), some (.inl (1))] [] M3)) := by
  rw [px_st]; rfl
set_option maxRecDepth 20000 in
theorem sgx_X11_row_50 {sc : List Int} {orc : q_O} {M : q_M} {F : Nat} {b1 b3 b4 : Int} : px sc orc 136 [82, 97] (F + 1) 50 [some (.inr (.inr 0)), some (.inl (b1)), none, some (.inl (b3)), some (.inl (b4))] [] M =
  if b3 = 0 then
    q_c0 (orc 128 [.inr (.inr 6)] GF M) GF (fun M1 =>
    if b3 = 0 then
      some (.inr (82, GF, M1))
    else
      if b4 = 0 then
        q_cI (orc 97 [.inr (.inr 1), .inl (b1)] GF M1) GF (fun x3 M2 =>
        some (.inl (some (.inl (x3)), GF, M2)))
      else
        some (.inr (97, GF, M1)))
  else
    if b4 = 0 then
      q_c0 (orc 99 [.inr (.inr 1), .inl (b1), .inr (.inr 6)] GF M) GF (fun M7 =>
      q_c0 (orc 128 [.inr (.inr 6)] GF M7) GF (fun M8 =>
      if b3 = 0 then
        some (.inr (82, GF, M8))
      else
        if b4 = 0 then
          q_cI (orc 97 [.inr (.inr 1), .inl (b1)] GF M8) GF (fun x10 M9 =>
          some (.inl (some (.inl (x10)), GF, M9)))
        else
          some (.inr (97, GF, M8))))
    else
      q_c0 (orc 128 [.inr (.inr 6)] GF M) GF (fun M4 =>
      if b3 = 0 then
        some (.inr (82, GF, M4))
      else
        if b4 = 0 then
          q_cI (orc 97 [.inr (.inr 1), .inl (b1)] GF M4) GF (fun x6 M5 =>
          some (.inl (some (.inl (x6)), GF, M5)))
        else
          some (.inr (97, GF, M4))) := by
  rw [px_st]; rfl
set_option maxRecDepth 20000 in
theorem sgx_X11_compile_0 {sc : List Int} {orc : q_O} {M : q_M} {F : Nat} : px sc orc 139 [81] (F + 1) 0 [some (.inr (.inr 0))] [] M =
  q_c0 (orc 107 [.inr (.inr 9), .inr (.inr 11)] GF M) GF (fun M1 =>
  q_c0 (orc 106 [.inr (.inr 9)] GF M1) GF (fun M2 =>
  q_c0 (orc 1 [.inr (.inr 43), .inl (0)] GF M2) GF (fun M3 =>
  q_cI (orc 43 [.inr (.inr 41)] GF M3) GF (fun x5 M4 =>
  if x5 = 0 then
    q_cI (orc 122 [.inr (.inr 11)] GF M4) GF (fun x7 M6 =>
    if x7 = (-1) then
      if 1 = 0 then
        some (.inr (81, GF, (q_up (q_up M6 0 10 x7) 0 9 1)))
      else
        q_c0 (orc 61 [.inr (.inr 15)] GF (q_up (q_up M6 0 10 x7) 0 9 1)) GF (fun M11 =>
        q_cI (orc 67 [.inr (.inr 15)] GF M11) GF (fun x13 M12 =>
        some (.inl (some (.inl (x13)), GF, M12))))
    else
      if 0 = 0 then
        some (.inr (81, GF, (q_up (q_up M6 0 10 x7) 0 9 0)))
      else
        q_c0 (orc 61 [.inr (.inr 15)] GF (q_up (q_up M6 0 10 x7) 0 9 0)) GF (fun M8 =>
        q_cI (orc 67 [.inr (.inr 15)] GF M8) GF (fun x10 M9 =>
        some (.inl (some (.inl (x10)), GF, M9)))))
  else
    q_cI (orc 9 [.inr (.inr 42)] GF M4) GF (fun x15 M14 =>
    if x15 = (-1) then
      if 1 = 0 then
        some (.inr (81, GF, (q_up (q_up M14 0 10 x15) 0 9 1)))
      else
        q_c0 (orc 61 [.inr (.inr 15)] GF (q_up (q_up M14 0 10 x15) 0 9 1)) GF (fun M19 =>
        q_cI (orc 67 [.inr (.inr 15)] GF M19) GF (fun x21 M20 =>
        some (.inl (some (.inl (x21)), GF, M20))))
    else
      if 0 = 0 then
        some (.inr (81, GF, (q_up (q_up M14 0 10 x15) 0 9 0)))
      else
        q_c0 (orc 61 [.inr (.inr 15)] GF (q_up (q_up M14 0 10 x15) 0 9 0)) GF (fun M16 =>
        q_cI (orc 67 [.inr (.inr 15)] GF M16) GF (fun x18 M17 =>
        some (.inl (some (.inl (x18)), GF, M17))))))))) := by
  rw [px_st]; rfl
set_option maxRecDepth 20000 in
theorem sgx_X11_run_0 {sc : List Int} {orc : q_O} {M : q_M} {F : Nat} : px sc orc 141 [7, 35] (F + 1) 0 [some (.inr (.inr 0))] [] M =
  if (M 0 9) = 0 then
    some (.inr (7, GF, M))
  else
    q_cI (orc 16 [.inr (.inr 46)] GF M) GF (fun x2 M1 =>
    if x2 = 0 then
      q_c0 (orc 1 [.inr (.inr 43), .inl (0)] GF M1) GF (fun M5 =>
      some (.inr (35, GF, M5)))
    else
      q_cI (orc 2 [.inr (.inr 43)] GF M1) GF (fun x4 M3 =>
      some (.inl (some (.inl (x4)), GF, M3)))) := by
  rw [px_st]; rfl
theorem q_drx_mono {orc : q_O} {P : q_P} {rt : Option FieldType} {mr : q_R} {th : List Nat} {r : q_Rx} : ∀ (F F' : Nat) (pc : Nat) (l : q_L) (st : List q_V) (G : q_G) (M : q_M), F ≤ F' → q_drx orc P rt mr th F pc l st G M = some r → q_drx orc P rt mr th F' pc l st G M = some r := by
  intro F
  induction F with
  | zero => intro F' pc l st G M _ h; cases h
  | succ F ih =>
    intro F' pc l st G M hF h
    obtain ⟨F', rfl⟩ : ∃ k, F' = k + 1 := ⟨F' - 1, by omega⟩
    unfold q_drx at h ⊢
    split at h
    · cases h
    · next pc' l' st' G' M' ca' sa' hden =>
      try rw [hden]
      try dsimp only
      split at h
      · next hz =>
        rw [if_pos hz]
        split at h
        · next hth => rw [if_pos hth]; exact h
        · next hth =>
          rw [if_neg hth]
          split at h
          · cases h
          · next p0 ins ln tl hsk =>
            try rw [hsk]
            try dsimp only
            split at h
            · next hr => rw [if_pos hr]; exact h
            · next hr => rw [if_neg hr]; exact ih F' _ _ _ _ _ (by omega) h
      · cases h
theorem px_det {sc : List Int} {orc : q_O} {mid : Nat} {th : List Nat} {F F' pc : Nat} {l : q_L} {st : List q_V} {M : q_M} {r r' : q_Rx} (h : px sc orc mid th F pc l st M = some r) (h' : px sc orc mid th F' pc l st M = some r') : r = r' := by
  have h1 := q_drx_mono F (F + F') _ _ _ _ _ (by omega) h
  have h2 := q_drx_mono F' (F + F') _ _ _ _ _ (by omega) h'
  rw [h1] at h2
  exact Option.some.inj h2
