set_option maxRecDepth 20000 in
theorem sg_X0_clear_0 {sc : List Int} {orc : q_O} {M : q_M} {F : Nat} {a1 : Int} : pr sc orc 1 (F + 1) 0 [some (.inr (.inr 43)), some (.inl (a1))] [] M =
  some (none, GF, (q_up (q_up M 43 2 a1) 43 3 0)) := by
  rw [pr_st]; rfl
set_option maxRecDepth 20000 in
theorem sg_X0_height_0 {sc : List Int} {orc : q_O} {M : q_M} {F : Nat} : pr sc orc 2 (F + 1) 0 [some (.inr (.inr 43))] [] M =
  some (some (.inl (M 43 3)), GF, M) := by
  rw [pr_st]; rfl
set_option maxRecDepth 20000 in
theorem sg_X0_append_0 {sc : List Int} {orc : q_O} {M : q_M} {F : Nat} : pr sc orc 3 (F + 1) 0 [some (.inr (.inr 43))] [] M =
  if (M 43 3) < 30 then
    some (some (.inl (q_w (q_w (M 43 3 + 1) - 1))), GF, (q_up M 43 3 (q_w (M 43 3 + 1))))
  else
    some (some (.inl ((-1))), GF, M) := by
  rw [pr_st]; rfl
set_option maxRecDepth 20000 in
theorem sg_X0_has_0 {sc : List Int} {orc : q_O} {M : q_M} {F : Nat} {a1 a2 : Int} : pr sc orc 4 (F + 1) 0 [some (.inr (.inr 43)), some (.inl (a1)), some (.inl (a2))] [] M =
  if a1 < 0 then
    some (some (.inl (0)), GF, M)
  else
    if a1 < (M 43 3) then
      if a1 < 30 then
        if a2 < 0 then
          some (some (.inl (0)), GF, M)
        else
          if a2 < (M 43 2) then
            if a2 < 4 then
              some (some (.inl (1)), GF, M)
            else
              some (some (.inl (0)), GF, M)
          else
            some (some (.inl (0)), GF, M)
      else
        some (some (.inl (0)), GF, M)
    else
      some (some (.inl (0)), GF, M) := by
  rw [pr_st]; rfl
set_option maxRecDepth 20000 in
theorem sg_X0_unknownAt_0 {sc : List Int} {orc : q_O} {M : q_M} {F : Nat} {a1 a2 : Int} : pr sc orc 5 (F + 1) 0 [some (.inr (.inr 43)), some (.inl (a1)), some (.inl (a2))] [] M =
  q_cI (orc 4 [.inr (.inr 43), .inl (a1), .inl (a2)] GF M) GF (fun x2 M1 =>
  if x2 = 0 then
    some (some (.inl (0)), GF, M1)
  else
    if 0 ≤ q_w (q_w (a1 * 4) + a2) ∧ q_w (q_w (a1 * 4) + a2) < ((120 : Nat) : Int) then
    if (M1 45 (q_w (q_w (a1 * 4) + a2) : Int).toNat) = 0 then
      some (some (.inl (0)), GF, M1)
    else
      some (some (.inl (1)), GF, M1)
    else none) := by
  rw [pr_st]; rfl
set_option maxRecDepth 20000 in
theorem sg_X0_numberAt_0 {sc : List Int} {orc : q_O} {M : q_M} {F : Nat} {a1 a2 : Int} : pr sc orc 6 (F + 1) 0 [some (.inr (.inr 43)), some (.inl (a1)), some (.inl (a2))] [] M =
  q_cI (orc 4 [.inr (.inr 43), .inl (a1), .inl (a2)] GF M) GF (fun x2 M1 =>
  if x2 = 0 then
    some (some (.inr (.inl (0))), GF, M1)
  else
    if 0 ≤ q_w (q_w (a1 * 4) + a2) ∧ q_w (q_w (a1 * 4) + a2) < ((120 : Nat) : Int) then
    some (some (.inr (.inl (M1 44 (q_w (q_w (a1 * 4) + a2) : Int).toNat))), GF, M1)
    else none) := by
  rw [pr_st]; rfl
set_option maxRecDepth 20000 in
theorem sg_X0_set_0 {sc : List Int} {orc : q_O} {M : q_M} {F : Nat} {a1 a2 a3 a4 : Int} : pr sc orc 7 (F + 1) 0 [some (.inr (.inr 43)), some (.inl (a1)), some (.inl (a2)), some (.inr (.inl (a3))), none, some (.inl (a4))] [] M =
  q_cI (orc 4 [.inr (.inr 43), .inl (a1), .inl (a2)] GF M) GF (fun x2 M1 =>
  if x2 = 0 then
    some (none, GF, M1)
  else
    if a4 = 0 then
      if 0 ≤ q_w (q_w (a1 * 4) + a2) ∧ q_w (q_w (a1 * 4) + a2) < ((120 : Nat) : Int) then
      if 0 ≤ q_w (q_w (a1 * 4) + a2) ∧ q_w (q_w (a1 * 4) + a2) < ((120 : Nat) : Int) then
      if (1 : Nat) = 0 ∨ ((1 : Nat) = 1 ∧ (a4 = 0 ∨ a4 = 1)) ∨ ((1 : Nat) = 2 ∧ 0 ≤ a4 ∧ a4 < 65536) then
      some (none, GF, (q_up (q_up M1 44 ((q_w (q_w (a1 * 4) + a2) : Int).toNat) a3) 45 ((q_w (q_w (a1 * 4) + a2) : Int).toNat) a4))
      else none
      else none
      else none
    else
      if 0 ≤ q_w (q_w (a1 * 4) + a2) ∧ q_w (q_w (a1 * 4) + a2) < ((120 : Nat) : Int) then
      if 0 ≤ q_w (q_w (a1 * 4) + a2) ∧ q_w (q_w (a1 * 4) + a2) < ((120 : Nat) : Int) then
      if (1 : Nat) = 0 ∨ ((1 : Nat) = 1 ∧ (a4 = 0 ∨ a4 = 1)) ∨ ((1 : Nat) = 2 ∧ 0 ≤ a4 ∧ a4 < 65536) then
      some (none, GF, (q_up (q_up M1 44 ((q_w (q_w (a1 * 4) + a2) : Int).toNat) 0) 45 ((q_w (q_w (a1 * 4) + a2) : Int).toNat) a4))
      else none
      else none
      else none) := by
  rw [pr_st]; rfl
set_option maxRecDepth 20000 in
theorem sg_X1_firstIll_0 {sc : List Int} {orc : q_O} {M : q_M} {F : Nat} : pr sc orc 9 (F + 1) 0 [some (.inr (.inr 42))] [] M =
  q_c0 (orc 11 [.inr (.inr 42)] GF (q_up M 42 3 (-1))) GF (fun M1 =>
  q_c0 (orc 12 [.inr (.inr 42)] GF M1) GF (fun M2 =>
  q_c0 (orc 13 [.inr (.inr 42)] GF M2) GF (fun M3 =>
  some (some (.inl (M3 42 3)), GF, M3)))) := by
  rw [pr_st]; rfl
set_option maxRecDepth 20000 in
theorem sg_X1_noteIll_0 {sc : List Int} {orc : q_O} {M : q_M} {F : Nat} {a1 : Int} : pr sc orc 10 (F + 1) 0 [some (.inr (.inr 42)), some (.inl (a1))] [] M =
  if (M 42 3) = (-1) then
    some (none, GF, (q_up M 42 3 a1))
  else
    if a1 < (M 42 3) then
      some (none, GF, (q_up M 42 3 a1))
    else
      some (none, GF, M) := by
  rw [pr_st]; rfl
set_option maxRecDepth 20000 in
theorem sg_X1_checkItems_0 {sc : List Int} {orc : q_O} {M : q_M} {F : Nat} : pr sc orc 11 (F + 1) 0 [some (.inr (.inr 42)), none] [] M =
  pr sc orc 11 F 2 [some (.inr (.inr 42)), some (.inl (0))] [] M := by
  rw [pr_st]; rfl
set_option maxRecDepth 20000 in
theorem sg_X1_checkItems_2 {sc : List Int} {orc : q_O} {M : q_M} {F : Nat} {b1 : Int} : pr sc orc 11 (F + 1) 2 [some (.inr (.inr 42)), some (.inl (b1))] [] M =
  q_cI (orc 67 [.inr (.inr 15)] GF M) GF (fun x2 M1 =>
  if b1 < x2 then
    q_cI (orc 68 [.inr (.inr 15), .inl (b1)] GF M1) GF (fun x4 M3 =>
    q_cI (orc 96 [.inr (.inr 1), .inl (x4)] GF M3) GF (fun x6 M5 =>
    if x6 = 0 then
      q_cI (orc 69 [.inr (.inr 15), .inl (b1)] GF M5) GF (fun x15 M14 =>
      q_c0 (orc 10 [.inr (.inr 42), .inl (x15)] GF M14) GF (fun M16 =>
      q_cI (orc 70 [.inr (.inr 15), .inl (b1)] GF M16) GF (fun x18 M17 =>
      q_cI (orc 73 [.inr (.inr 15), .inl (x18)] GF M17) GF (fun x20 M19 =>
      if x20 = b1 then
        pr sc orc 11 F 2 [some (.inr (.inr 42)), some (.inl (q_w (b1 + (1))))] [] M19
      else
        q_cI (orc 71 [.inr (.inr 15), .inl (b1)] GF M19) GF (fun x22 M21 =>
        q_c0 (orc 10 [.inr (.inr 42), .inl (x22)] GF M21) GF (fun M23 =>
        pr sc orc 11 F 2 [some (.inr (.inr 42)), some (.inl (q_w (b1 + (1))))] [] M23))))))
    else
      q_cI (orc 70 [.inr (.inr 15), .inl (b1)] GF M5) GF (fun x8 M7 =>
      q_cI (orc 73 [.inr (.inr 15), .inl (x8)] GF M7) GF (fun x10 M9 =>
      if x10 = b1 then
        pr sc orc 11 F 2 [some (.inr (.inr 42)), some (.inl (q_w (b1 + (1))))] [] M9
      else
        q_cI (orc 71 [.inr (.inr 15), .inl (b1)] GF M9) GF (fun x12 M11 =>
        q_c0 (orc 10 [.inr (.inr 42), .inl (x12)] GF M11) GF (fun M13 =>
        pr sc orc 11 F 2 [some (.inr (.inr 42)), some (.inl (q_w (b1 + (1))))] [] M13))))))
  else
    some (none, GF, M1)) := by
  rw [pr_st]; rfl
set_option maxRecDepth 20000 in
theorem sg_X1_checkColumns_0 {sc : List Int} {orc : q_O} {M : q_M} {F : Nat} : pr sc orc 12 (F + 1) 0 [some (.inr (.inr 42)), none, none] [] M =
  pr sc orc 12 F 2 [some (.inr (.inr 42)), some (.inl (0)), none] [] M := by
  rw [pr_st]; rfl
set_option maxRecDepth 20000 in
theorem sg_X1_checkColumns_2 {sc : List Int} {orc : q_O} {M : q_M} {F : Nat} {b1 : Int} : pr sc orc 12 (F + 1) 2 [some (.inr (.inr 42)), some (.inl (b1)), none] [] M =
  q_cI (orc 28 [.inr (.inr 16)] GF M) GF (fun x2 M1 =>
  if b1 < x2 then
    q_cI (orc 31 [.inr (.inr 16), .inl (b1)] GF M1) GF (fun x4 M3 =>
    if x4 = 0 then
      pr sc orc 12 F 2 [some (.inr (.inr 42)), some (.inl (q_w (b1 + (1)))), none] [] M3
    else
      q_cI (orc 33 [.inr (.inr 16), .inl (b1)] GF M3) GF (fun x6 M5 =>
      q_cI (orc 73 [.inr (.inr 15), .inl (x6)] GF M5) GF (fun x8 M7 =>
      q_c0 (orc 37 [.inr (.inr 16), .inl (b1), .inl (x8)] GF M7) GF (fun M9 =>
      if x8 = (-1) then
        q_cI (orc 32 [.inr (.inr 16), .inl (b1)] GF M9) GF (fun x11 M10 =>
        q_c0 (orc 10 [.inr (.inr 42), .inl (x11)] GF M10) GF (fun M12 =>
        pr sc orc 12 F 2 [some (.inr (.inr 42)), some (.inl (q_w (b1 + (1)))), none] [] M12))
      else
        q_cI (orc 35 [.inr (.inr 16), .inl (b1)] GF M9) GF (fun x14 M13 =>
        if x14 < x8 then
          q_cI (orc 32 [.inr (.inr 16), .inl (b1)] GF M13) GF (fun x16 M15 =>
          q_c0 (orc 10 [.inr (.inr 42), .inl (x16)] GF M15) GF (fun M17 =>
          pr sc orc 12 F 2 [some (.inr (.inr 42)), some (.inl (q_w (b1 + (1)))), none] [] M17))
        else
          q_cI (orc 34 [.inr (.inr 16), .inl (b1)] GF M13) GF (fun x19 M18 =>
          q_cI (orc 68 [.inr (.inr 15), .inl (x8)] GF M18) GF (fun x21 M20 =>
          q_cI (orc 96 [.inr (.inr 1), .inl (x21)] GF M20) GF (fun x23 M22 =>
          if x19 < x23 then
            pr sc orc 12 F 2 [some (.inr (.inr 42)), some (.inl (q_w (b1 + (1)))), none] [] M22
          else
            q_cI (orc 32 [.inr (.inr 16), .inl (b1)] GF M22) GF (fun x25 M24 =>
            q_c0 (orc 10 [.inr (.inr 42), .inl (x25)] GF M24) GF (fun M26 =>
            pr sc orc 12 F 2 [some (.inr (.inr 42)), some (.inl (q_w (b1 + (1)))), none] [] M26))))))))))
  else
    some (none, GF, M1)) := by
  rw [pr_st]; rfl
set_option maxRecDepth 20000 in
theorem sg_X1_checkOuts_0 {sc : List Int} {orc : q_O} {M : q_M} {F : Nat} : pr sc orc 13 (F + 1) 0 [some (.inr (.inr 42)), none, none] [] M =
  q_cI (orc 81 [.inr (.inr 15)] GF M) GF (fun x2 M1 =>
  if x2 = 0 then
    some (none, GF, M1)
  else
    pr sc orc 13 F 13 [some (.inr (.inr 42)), some (.inl (0)), none] [] M1) := by
  rw [pr_st]; rfl
set_option maxRecDepth 20000 in
theorem sg_X1_checkOuts_13 {sc : List Int} {orc : q_O} {M : q_M} {F : Nat} {b1 : Int} : pr sc orc 13 (F + 1) 13 [some (.inr (.inr 42)), some (.inl (b1)), none] [] M =
  q_cI (orc 75 [.inr (.inr 15)] GF M) GF (fun x2 M1 =>
  if b1 < x2 then
    q_cI (orc 77 [.inr (.inr 15), .inl (b1)] GF M1) GF (fun x4 M3 =>
    q_cI (orc 76 [.inr (.inr 15), .inl (b1)] GF M3) GF (fun x6 M5 =>
    if x6 = 275 then
      q_cI (orc 80 [.inr (.inr 15), .inl (x4)] GF M5) GF (fun x8 M7 =>
      if x8 = 0 then
        q_cI (orc 32 [.inr (.inr 16), .inl (x4)] GF M7) GF (fun x10 M9 =>
        q_c0 (orc 10 [.inr (.inr 42), .inl (x10)] GF M9) GF (fun M11 =>
        pr sc orc 13 F 13 [some (.inr (.inr 42)), some (.inl (q_w (b1 + (1)))), none] [] M11))
      else
        pr sc orc 13 F 13 [some (.inr (.inr 42)), some (.inl (q_w (b1 + (1)))), none] [] M7)
    else
      pr sc orc 13 F 13 [some (.inr (.inr 42)), some (.inl (q_w (b1 + (1)))), none] [] M5))
  else
    some (none, GF, M1)) := by
  rw [pr_st]; rfl
set_option maxRecDepth 20000 in
theorem sg_X2_seen_0 {sc : List Int} {orc : q_O} {M : q_M} {F : Nat} : pr sc orc 15 (F + 1) 0 [some (.inr (.inr 46))] [] M =
  some (some (.inl (M 46 8)), GF, M) := by
  rw [pr_st]; rfl
set_option maxRecDepth 20000 in
theorem sg_X2_goThroughAll_0 {sc : List Int} {orc : q_O} {M : q_M} {F : Nat} : pr sc orc 16 (F + 1) 0 [some (.inr (.inr 46))] [] M =
  q_cI (orc 81 [.inr (.inr 15)] GF (q_up M 46 8 0)) GF (fun x2 M1 =>
  if x2 = 0 ∨ x2 = 1 then
  q_cI (orc 75 [.inr (.inr 15)] GF (q_up M1 46 7 x2)) GF (fun x4 M3 =>
  q_c0 (orc 1 [.inr (.inr 43), .inl (x4)] GF M3) GF (fun M5 =>
  if (M5 46 7) = 0 then
    q_cI (orc 17 [.inr (.inr 46), .inl (0)] GF M5) GF (fun x7 M6 =>
    if x7 = 0 ∨ x7 = 1 then some (some (.inl (x7)), GF, M6) else none)
  else
    q_cI (orc 78 [.inr (.inr 15)] GF M5) GF (fun x9 M8 =>
    if x9 = 0 then
      q_cI (orc 3 [.inr (.inr 43)] GF M8) GF (fun x13 M12 =>
      q_c0 (orc 23 [.inr (.inr 46), .inl (x13)] GF M12) GF (fun M14 =>
      q_cI (orc 17 [.inr (.inr 46), .inl (0)] GF M14) GF (fun x16 M15 =>
      if x16 = 0 ∨ x16 = 1 then some (some (.inl (x16)), GF, M15) else none)))
    else
      q_cI (orc 17 [.inr (.inr 46), .inl (0)] GF M8) GF (fun x11 M10 =>
      if x11 = 0 ∨ x11 = 1 then some (some (.inl (x11)), GF, M10) else none))))
  else none) := by
  rw [pr_st]; rfl
set_option maxRecDepth 20000 in
theorem sg_X2_goThrough_0 {sc : List Int} {orc : q_O} {M : q_M} {F : Nat} {a1 : Int} : pr sc orc 17 (F + 1) 0 [some (.inr (.inr 46)), some (.inl (a1)), none, none, none, none] [] M =
  q_cI (orc 67 [.inr (.inr 15)] GF M) GF (fun x2 M1 =>
  if a1 < x2 then
    if a1 < 3 then
      q_cI (orc 68 [.inr (.inr 15), .inl (a1)] GF M1) GF (fun x6 M5 =>
      q_cI (orc 97 [.inr (.inr 1), .inl (x6)] GF M5) GF (fun x8 M7 =>
      pr sc orc 17 F 45 [some (.inr (.inr 46)), some (.inl (a1)), some (.inl (x6)), some (.inl (x8)), some (.inl (0)), some (.inl (0))] [] M7))
    else
      q_cI (orc 19 [.inr (.inr 46)] GF M1) GF (fun x10 M9 =>
      if x10 = 0 ∨ x10 = 1 then some (some (.inl (x10)), GF, M9) else none)
  else
    q_cI (orc 19 [.inr (.inr 46)] GF M1) GF (fun x4 M3 =>
    if x4 = 0 ∨ x4 = 1 then some (some (.inl (x4)), GF, M3) else none)) := by
  rw [pr_st]; rfl
set_option maxRecDepth 20000 in
theorem sg_X2_goThrough_45 {sc : List Int} {orc : q_O} {M : q_M} {F : Nat} {b1 b2 b3 b4 b5 : Int} : pr sc orc 17 (F + 1) 45 [some (.inr (.inr 46)), some (.inl (b1)), some (.inl (b2)), some (.inl (b3)), some (.inl (b4)), some (.inl (b5))] [] M =
  if b5 < b3 then
    q_c0 (orc 41 [.inr (.inr 16), .inl (b1), .inr (.inr 1), .inl (b2), .inl (b5)] GF (q_up M 46 8 (q_w (M 46 8 + 1)))) GF (fun M6 =>
    q_cI (orc 90 [.inr (.inr 24), .inl (b1), .inl (0)] GF M6) GF (fun x8 M7 =>
    if x8 = 0 then
      pr sc orc 17 F 45 [some (.inr (.inr 46)), some (.inl (b1)), some (.inl (b2)), some (.inl (b3)), some (.inl (b4)), some (.inl (q_w (b5 + (1))))] [] M7
    else
      q_cI (orc 18 [.inr (.inr 46), .inl (b1)] GF M7) GF (fun x10 M9 =>
      if x10 = 0 then
        some (some (.inl (0)), GF, M9)
      else
        pr sc orc 17 F 45 [some (.inr (.inr 46)), some (.inl (b1)), some (.inl (b2)), some (.inl (b3)), some (.inl (1)), some (.inl (q_w (b5 + (1))))] [] M9)))
  else
    if b4 = 0 then
      q_cI (orc 72 [.inr (.inr 15), .inl (b1)] GF M) GF (fun x2 M1 =>
      if x2 = 0 then
        some (some (.inl (1)), GF, M1)
      else
        q_c0 (orc 41 [.inr (.inr 16), .inl (b1), .inr (.inr 1), .inl (b2), .inl ((-1))] GF M1) GF (fun M3 =>
        q_cI (orc 18 [.inr (.inr 46), .inl (b1)] GF M3) GF (fun x5 M4 =>
        if x5 = 0 ∨ x5 = 1 then some (some (.inl (x5)), GF, M4) else none)))
    else
      some (some (.inl (1)), GF, M) := by
  rw [pr_st]; rfl
set_option maxRecDepth 20000 in
theorem sg_X2_goOn_0 {sc : List Int} {orc : q_O} {M : q_M} {F : Nat} {a1 : Int} : pr sc orc 18 (F + 1) 0 [some (.inr (.inr 46)), some (.inl (a1))] [] M =
  q_cI (orc 90 [.inr (.inr 24), .inl (a1), .inl (1)] GF M) GF (fun x2 M1 =>
  if x2 = 0 then
    some (some (.inl (1)), GF, M1)
  else
    q_cI (orc 17 [.inr (.inr 46), .inl (q_w (a1 + 1))] GF M1) GF (fun x4 M3 =>
    if x4 = 0 then
      some (some (.inl (0)), GF, M3)
    else
      some (some (.inl (1)), GF, M3))) := by
  rw [pr_st]; rfl
set_option maxRecDepth 20000 in
theorem sg_X2_gather_0 {sc : List Int} {orc : q_O} {M : q_M} {F : Nat} : pr sc orc 19 (F + 1) 0 [some (.inr (.inr 46)), none, none] [] M =
  if (M 46 7) = 0 then
    if (-1) = (-1) then
      q_cI (orc 3 [.inr (.inr 43)] GF M) GF (fun x2 M1 =>
      if x2 = (-1) then
        some (some (.inl (0)), GF, M1)
      else
        q_c0 (orc 23 [.inr (.inr 46), .inl (x2)] GF M1) GF (fun M3 =>
        pr sc orc 19 F 43 [some (.inr (.inr 46)), some (.inl (x2)), some (.inl (0))] [] M3))
    else
      pr sc orc 19 F 43 [some (.inr (.inr 46)), some (.inl ((-1))), some (.inl (0))] [] M
  else
    q_cI (orc 20 [.inr (.inr 46)] GF M) GF (fun x5 M4 =>
    if x5 = (-1) then
      q_cI (orc 3 [.inr (.inr 43)] GF M4) GF (fun x7 M6 =>
      if x7 = (-1) then
        some (some (.inl (0)), GF, M6)
      else
        q_c0 (orc 23 [.inr (.inr 46), .inl (x7)] GF M6) GF (fun M8 =>
        pr sc orc 19 F 43 [some (.inr (.inr 46)), some (.inl (x7)), some (.inl (0))] [] M8))
    else
      pr sc orc 19 F 43 [some (.inr (.inr 46)), some (.inl (x5)), some (.inl (0))] [] M4) := by
  rw [pr_st]; rfl
set_option maxRecDepth 20000 in
theorem sg_X2_gather_43 {sc : List Int} {orc : q_O} {M : q_M} {F : Nat} {b1 b2 : Int} : pr sc orc 19 (F + 1) 43 [some (.inr (.inr 46)), some (.inl (b1)), some (.inl (b2))] [] M =
  q_cI (orc 75 [.inr (.inr 15)] GF M) GF (fun x2 M1 =>
  if b2 < x2 then
    q_cI (orc 76 [.inr (.inr 15), .inl (b2)] GF M1) GF (fun x4 M3 =>
    q_cI (orc 77 [.inr (.inr 15), .inl (b2)] GF M3) GF (fun x6 M5 =>
    q_c0 (orc 24 [.inr (.inr 46), .inl (b1), .inl (b2), .inl (x4), .inl (x6)] GF M5) GF (fun M7 =>
    pr sc orc 19 F 43 [some (.inr (.inr 46)), some (.inl (b1)), some (.inl (q_w (b2 + (1))))] [] M7)))
  else
    some (some (.inl (1)), GF, M1)) := by
  rw [pr_st]; rfl
set_option maxRecDepth 20000 in
theorem sg_X2_lineOfGroup_0 {sc : List Int} {orc : q_O} {M : q_M} {F : Nat} : pr sc orc 20 (F + 1) 0 [some (.inr (.inr 46)), none] [] M =
  pr sc orc 20 F 2 [some (.inr (.inr 46)), some (.inl (0))] [] M := by
  rw [pr_st]; rfl
set_option maxRecDepth 20000 in
theorem sg_X2_lineOfGroup_2 {sc : List Int} {orc : q_O} {M : q_M} {F : Nat} {b1 : Int} : pr sc orc 20 (F + 1) 2 [some (.inr (.inr 46)), some (.inl (b1))] [] M =
  q_cI (orc 2 [.inr (.inr 43)] GF M) GF (fun x2 M1 =>
  if b1 < x2 then
    q_cI (orc 21 [.inr (.inr 46), .inl (b1)] GF M1) GF (fun x4 M3 =>
    if x4 = 0 then
      pr sc orc 20 F 2 [some (.inr (.inr 46)), some (.inl (q_w (b1 + (1))))] [] M3
    else
      some (some (.inl (b1)), GF, M3))
  else
    some (some (.inl ((-1))), GF, M1)) := by
  rw [pr_st]; rfl
set_option maxRecDepth 20000 in
theorem sg_X2_isOfGroup_0 {sc : List Int} {orc : q_O} {M : q_M} {F : Nat} {a1 : Int} : pr sc orc 21 (F + 1) 0 [some (.inr (.inr 46)), some (.inl (a1)), none, none, none] [] M =
  pr sc orc 21 F 2 [some (.inr (.inr 46)), some (.inl (a1)), some (.inl (0)), none, none] [] M := by
  rw [pr_st]; rfl
set_option maxRecDepth 20000 in
theorem sg_X2_isOfGroup_2 {sc : List Int} {orc : q_O} {M : q_M} {F : Nat} {b1 b2 : Int} : pr sc orc 21 (F + 1) 2 [some (.inr (.inr 46)), some (.inl (b1)), some (.inl (b2)), none, none] [] M =
  q_cI (orc 78 [.inr (.inr 15)] GF M) GF (fun x2 M1 =>
  if b2 < x2 then
    q_cI (orc 22 [.inl (b1), .inl (b2)] GF M1) GF (fun x4 M3 =>
    q_cI (orc 79 [.inr (.inr 15), .inl (b2)] GF M3) GF (fun x6 M5 =>
    if x4 = (-1) then
      some (some (.inl (0)), GF, M5)
    else
      if 0 ≤ x4 ∧ x4 < ((90 : Nat) : Int) then
      q_cI (orc 40 [.inr (.inr 16), .inl (x6)] GF M5) GF (fun x8 M7 =>
      if (M5 48 (x4 : Int).toNat) = x8 then
        if 0 ≤ x4 ∧ x4 < ((90 : Nat) : Int) then
        if (M7 48 (x4 : Int).toNat) = 0 then
          if 0 ≤ x4 ∧ x4 < ((90 : Nat) : Int) then
          q_cI (orc 39 [.inr (.inr 16), .inl (x6)] GF M7) GF (fun x10 M9 =>
          if (M7 47 (x4 : Int).toNat) = x10 then
            pr sc orc 21 F 2 [some (.inr (.inr 46)), some (.inl (b1)), some (.inl (q_w (b2 + (1)))), none, none] [] M9
          else
            some (some (.inl (0)), GF, M9))
          else none
        else
          pr sc orc 21 F 2 [some (.inr (.inr 46)), some (.inl (b1)), some (.inl (q_w (b2 + (1)))), none, none] [] M7
        else none
      else
        some (some (.inl (0)), GF, M7))
      else none))
  else
    some (some (.inl (1)), GF, M1)) := by
  rw [pr_st]; rfl
set_option maxRecDepth 20000 in
theorem sg_X2_keyOf_0 {sc : List Int} {orc : q_O} {M : q_M} {F : Nat} {a1 a2 : Int} : pr sc orc 22 (F + 1) 0 [some (.inl (a1)), some (.inl (a2))] [] M =
  if a1 < 0 then
    some (some (.inl ((-1))), GF, M)
  else
    if a1 < 30 then
      if a2 < 0 then
        some (some (.inl ((-1))), GF, M)
      else
        if a2 < 3 then
          some (some (.inl (q_w (q_w (a1 * 3) + a2))), GF, M)
        else
          some (some (.inl ((-1))), GF, M)
    else
      some (some (.inl ((-1))), GF, M) := by
  rw [pr_st]; rfl
set_option maxRecDepth 20000 in
theorem sg_X2_begin_0 {sc : List Int} {orc : q_O} {M : q_M} {F : Nat} {a1 : Int} : pr sc orc 23 (F + 1) 0 [some (.inr (.inr 46)), some (.inl (a1)), none, none, none] [] M =
  pr sc orc 23 F 2 [some (.inr (.inr 46)), some (.inl (a1)), some (.inl (0)), none, none] [] M := by
  rw [pr_st]; rfl
set_option maxRecDepth 20000 in
theorem sg_X2_begin_2 {sc : List Int} {orc : q_O} {M : q_M} {F : Nat} {b1 b2 : Int} : pr sc orc 23 (F + 1) 2 [some (.inr (.inr 46)), some (.inl (b1)), some (.inl (b2)), none, none] [] M =
  q_cI (orc 78 [.inr (.inr 15)] GF M) GF (fun x2 M1 =>
  if b2 < x2 then
    q_cI (orc 22 [.inl (b1), .inl (b2)] GF M1) GF (fun x4 M3 =>
    if x4 = (-1) then
      pr sc orc 23 F 2 [some (.inr (.inr 46)), some (.inl (b1)), some (.inl (q_w (b2 + (1)))), none, none] [] M3
    else
      q_cI (orc 79 [.inr (.inr 15), .inl (b2)] GF M3) GF (fun x6 M5 =>
      q_cI (orc 39 [.inr (.inr 16), .inl (x6)] GF M5) GF (fun x8 M7 =>
      if 0 ≤ x4 ∧ x4 < ((90 : Nat) : Int) then
      q_cI (orc 79 [.inr (.inr 15), .inl (b2)] GF (q_up M7 47 ((x4 : Int).toNat) x8)) GF (fun x10 M9 =>
      q_cI (orc 40 [.inr (.inr 16), .inl (x10)] GF M9) GF (fun x12 M11 =>
      if 0 ≤ x4 ∧ x4 < ((90 : Nat) : Int) then
      if (1 : Nat) = 0 ∨ ((1 : Nat) = 1 ∧ (x12 = 0 ∨ x12 = 1)) ∨ ((1 : Nat) = 2 ∧ 0 ≤ x12 ∧ x12 < 65536) then
      pr sc orc 23 F 2 [some (.inr (.inr 46)), some (.inl (b1)), some (.inl (q_w (b2 + (1)))), none, none] [] (q_up M11 48 ((x4 : Int).toNat) x12)
      else none
      else none))
      else none)))
  else
    pr sc orc 23 F 74 [some (.inr (.inr 46)), some (.inl (b1)), some (.inl (0)), none, none] [] M1) := by
  rw [pr_st]; rfl
set_option maxRecDepth 20000 in
theorem sg_X2_begin_74 {sc : List Int} {orc : q_O} {M : q_M} {F : Nat} {b1 b2 : Int} : pr sc orc 23 (F + 1) 74 [some (.inr (.inr 46)), some (.inl (b1)), some (.inl (b2)), none, none] [] M =
  q_cI (orc 75 [.inr (.inr 15)] GF M) GF (fun x2 M1 =>
  if b2 < x2 then
    q_cI (orc 76 [.inr (.inr 15), .inl (b2)] GF M1) GF (fun x4 M3 =>
    q_cI (orc 77 [.inr (.inr 15), .inl (b2)] GF M3) GF (fun x6 M5 =>
    if x4 = 275 then
      q_cI (orc 39 [.inr (.inr 16), .inl (x6)] GF M5) GF (fun x10 M9 =>
      q_cI (orc 40 [.inr (.inr 16), .inl (x6)] GF M9) GF (fun x12 M11 =>
      q_c0 (orc 7 [.inr (.inr 43), .inl (b1), .inl (b2), .inr (.inl (x10)), .inl (x12)] GF M11) GF (fun M13 =>
      pr sc orc 23 F 74 [some (.inr (.inr 46)), some (.inl (b1)), some (.inl (q_w (b2 + (1)))), none, none] [] M13)))
    else
      if x4 = 266 then
        q_c0 (orc 7 [.inr (.inr 43), .inl (b1), .inl (b2), .inr (.inl (0)), .inl (0)] GF M5) GF (fun M7 =>
        pr sc orc 23 F 74 [some (.inr (.inr 46)), some (.inl (b1)), some (.inl (q_w (b2 + (1)))), none, none] [] M7)
      else
        q_c0 (orc 7 [.inr (.inr 43), .inl (b1), .inl (b2), .inr (.inl (0)), .inl (1)] GF M5) GF (fun M8 =>
        pr sc orc 23 F 74 [some (.inr (.inr 46)), some (.inl (b1)), some (.inl (q_w (b2 + (1)))), none, none] [] M8)))
  else
    some (none, GF, M1)) := by
  rw [pr_st]; rfl
set_option maxRecDepth 20000 in
theorem sg_X2_tally_0 {sc : List Int} {orc : q_O} {M : q_M} {F : Nat} {a1 a2 a3 a4 : Int} : pr sc orc 24 (F + 1) 0 [some (.inr (.inr 46)), some (.inl (a1)), some (.inl (a2)), some (.inl (a3)), some (.inl (a4)), none, none, none, none, none] [] M =
  q_cL (orc 6 [.inr (.inr 43), .inl (a1), .inl (a2)] GF M) GF (fun x2 M1 =>
  if a3 = 266 then
    q_c0 (orc 7 [.inr (.inr 43), .inl (a1), .inl (a2), .inr (.inl (q_w6 (x2 + 1))), .inl (0)] GF M1) GF (fun M13 =>
    some (none, GF, M13))
  else
    if a3 = 275 then
      some (none, GF, M1)
    else
      q_cI (orc 40 [.inr (.inr 16), .inl (a4)] GF M1) GF (fun x4 M3 =>
      if x4 = 0 then
        q_cI (orc 39 [.inr (.inr 16), .inl (a4)] GF M3) GF (fun x6 M5 =>
        q_cI (orc 5 [.inr (.inr 43), .inl (a1), .inl (a2)] GF M5) GF (fun x8 M7 =>
        if x8 = 0 then
          q_cL (orc 25 [.inl (a3), .inr (.inl (x2)), .inr (.inl (x6))] GF M7) GF (fun x10 M9 =>
          q_c0 (orc 7 [.inr (.inr 43), .inl (a1), .inl (a2), .inr (.inl (x10)), .inl (0)] GF M9) GF (fun M11 =>
          some (none, GF, M11)))
        else
          q_c0 (orc 7 [.inr (.inr 43), .inl (a1), .inl (a2), .inr (.inl (x6)), .inl (0)] GF M7) GF (fun M12 =>
          some (none, GF, M12))))
      else
        some (none, GF, M3))) := by
  rw [pr_st]; rfl
set_option maxRecDepth 20000 in
theorem sg_X2_joined_0 {sc : List Int} {orc : q_O} {M : q_M} {F : Nat} {a1 a2 a3 : Int} : pr sc orc 25 (F + 1) 0 [some (.inl (a1)), some (.inr (.inl (a2))), none, some (.inr (.inl (a3))), none] [] M =
  if a1 = 267 then
    some (some (.inr (.inl (q_w6 (a2 + a3)))), GF, M)
  else
    if a1 = 268 then
      q_cL (orc 228 [.inr (.inl (a2)), .inr (.inl (a3))] GF M) GF (fun x4 M3 =>
      some (some (.inr (.inl (x4))), GF, M3))
    else
      q_cL (orc 226 [.inr (.inl (a2)), .inr (.inl (a3))] GF M) GF (fun x2 M1 =>
      some (some (.inr (.inl (x2))), GF, M1)) := by
  rw [pr_st]; rfl
set_option maxRecDepth 20000 in
theorem sg_X3_clear_0 {sc : List Int} {orc : q_O} {M : q_M} {F : Nat} : pr sc orc 27 (F + 1) 0 [some (.inr (.inr 16))] [] M =
  some (none, GF, (q_up M 16 7 0)) := by
  rw [pr_st]; rfl
set_option maxRecDepth 20000 in
theorem sg_X3_count_0 {sc : List Int} {orc : q_O} {M : q_M} {F : Nat} : pr sc orc 28 (F + 1) 0 [some (.inr (.inr 16))] [] M =
  some (some (.inl (M 16 7)), GF, M) := by
  rw [pr_st]; rfl
set_option maxRecDepth 20000 in
theorem sg_X3_addColumn_0 {sc : List Int} {orc : q_O} {M : q_M} {F : Nat} {a1 a2 a3 a4 : Int} : pr sc orc 29 (F + 1) 0 [some (.inr (.inr 16)), some (.inl (a1)), some (.inl (a2)), some (.inl (a3)), some (.inl (a4))] [] M =
  if (M 16 7) < 0 then
    some (some (.inl ((-1))), GF, M)
  else
    if (M 16 7) < 130 then
      if 0 ≤ M 16 7 ∧ M 16 7 < ((130 : Nat) : Int) then
      if 0 ≤ M 16 7 ∧ M 16 7 < ((130 : Nat) : Int) then
      if 0 ≤ M 16 7 ∧ M 16 7 < ((130 : Nat) : Int) then
      if 0 ≤ M 16 7 ∧ M 16 7 < ((130 : Nat) : Int) then
      if 0 ≤ M 16 7 ∧ M 16 7 < ((130 : Nat) : Int) then
      if 0 ≤ M 16 7 ∧ M 16 7 < ((130 : Nat) : Int) then
      if 0 ≤ M 16 7 ∧ M 16 7 < ((130 : Nat) : Int) then
      some (some (.inl (q_w (q_w (M 16 7 + 1) - 1))), GF, (q_up (q_up (q_up (q_up (q_up (q_up (q_up (q_up M 17 ((M 16 7 : Int).toNat) a1) 18 ((M 16 7 : Int).toNat) a2) 19 ((M 16 7 : Int).toNat) a3) 20 ((M 16 7 : Int).toNat) a4) 21 ((M 16 7 : Int).toNat) (-1)) 22 ((M 16 7 : Int).toNat) 0) 23 ((M 16 7 : Int).toNat) 1) 16 7 (q_w (M 16 7 + 1))))
      else none
      else none
      else none
      else none
      else none
      else none
      else none
    else
      some (some (.inl ((-1))), GF, M) := by
  rw [pr_st]; rfl
