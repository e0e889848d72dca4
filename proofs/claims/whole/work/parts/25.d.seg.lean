set_option maxRecDepth 20000 in
theorem sg_X7_width_0 {sc : List Int} {orc : q_O} {M : q_M} {F : Nat} {a1 : Int} : pr sc orc 96 (F + 1) 0 [some (.inr (.inr 1)), some (.inl (a1))] [] M =
  if a1 < 0 then
    some (some (.inl (0)), GF, M)
  else
    if a1 < 3 then
      if 0 ≤ a1 ∧ a1 < ((3 : Nat) : Int) then
      some (some (.inl (M 2 (a1 : Int).toNat)), GF, M)
      else none
    else
      some (some (.inl (0)), GF, M) := by
  rw [pr_st]; rfl
set_option maxRecDepth 20000 in
theorem sg_X7_height_0 {sc : List Int} {orc : q_O} {M : q_M} {F : Nat} {a1 : Int} : pr sc orc 97 (F + 1) 0 [some (.inr (.inr 1)), some (.inl (a1))] [] M =
  if a1 < 0 then
    some (some (.inl (0)), GF, M)
  else
    if a1 < 3 then
      if 0 ≤ a1 ∧ a1 < ((3 : Nat) : Int) then
      some (some (.inl (M 3 (a1 : Int).toNat)), GF, M)
      else none
    else
      some (some (.inl (0)), GF, M) := by
  rw [pr_st]; rfl
set_option maxRecDepth 20000 in
theorem sg_X7_make_0 {sc : List Int} {orc : q_O} {M : q_M} {F : Nat} {a1 a2 : Int} : pr sc orc 98 (F + 1) 0 [some (.inr (.inr 1)), some (.inl (a1)), some (.inl (a2))] [] M =
  if a1 < 0 then
    some (some (.inl (0)), GF, M)
  else
    if a1 < 3 then
      if a2 < 1 then
        some (some (.inl (0)), GF, M)
      else
        if 4 < a2 then
          some (some (.inl (0)), GF, M)
        else
          if 0 ≤ a1 ∧ a1 < ((3 : Nat) : Int) then
          if 0 ≤ a1 ∧ a1 < ((3 : Nat) : Int) then
          some (some (.inl (1)), GF, (q_up (q_up M 2 ((a1 : Int).toNat) a2) 3 ((a1 : Int).toNat) 0))
          else none
          else none
    else
      some (some (.inl (0)), GF, M) := by
  rw [pr_st]; rfl
set_option maxRecDepth 20000 in
theorem sg_X7_append_0 {sc : List Int} {orc : q_O} {M : q_M} {F : Nat} {a1 : Int} : pr sc orc 99 (F + 1) 0 [some (.inr (.inr 1)), some (.inl (a1)), some (.inr (.inr 6)), none, none, none] [] M =
  q_cI (orc 97 [.inr (.inr 1), .inl (a1)] GF M) GF (fun x2 M1 =>
  if a1 < 0 then
    some (none, GF, M1)
  else
    if a1 < 3 then
      if x2 < 10 then
        if 0 ≤ a1 ∧ a1 < ((3 : Nat) : Int) then
        pr sc orc 99 F 34 [some (.inr (.inr 1)), some (.inl (a1)), some (.inr (.inr 6)), some (.inl (x2)), some (.inl (0)), none] [] (q_up M1 3 ((a1 : Int).toNat) (q_w (x2 + 1)))
        else none
      else
        some (none, GF, M1)
    else
      some (none, GF, M1)) := by
  rw [pr_st]; rfl
set_option maxRecDepth 20000 in
theorem sg_X7_append_34 {sc : List Int} {orc : q_O} {M : q_M} {F : Nat} {b1 b3 b4 : Int} : pr sc orc 99 (F + 1) 34 [some (.inr (.inr 1)), some (.inl (b1)), some (.inr (.inr 6)), some (.inl (b3)), some (.inl (b4)), none] [] M =
  if b4 < 4 then
    q_cI (orc 103 [.inr (.inr 1), .inl (b1), .inl (b3), .inl (b4)] GF M) GF (fun x2 M1 =>
    if x2 = (-1) then
      pr sc orc 99 F 34 [some (.inr (.inr 1)), some (.inl (b1)), some (.inr (.inr 6)), some (.inl (b3)), some (.inl (q_w (b4 + (1)))), none] [] M1
    else
      q_cI (orc 130 [.inr (.inr 6), .inl (b4)] GF M1) GF (fun x4 M3 =>
      if 0 ≤ x2 ∧ x2 < ((120 : Nat) : Int) then
      q_cI (orc 131 [.inr (.inr 6), .inl (b4)] GF (q_up M3 4 ((x2 : Int).toNat) x4)) GF (fun x6 M5 =>
      if 0 ≤ x2 ∧ x2 < ((120 : Nat) : Int) then
      if (1 : Nat) = 0 ∨ ((1 : Nat) = 1 ∧ (x6 = 0 ∨ x6 = 1)) ∨ ((1 : Nat) = 2 ∧ 0 ≤ x6 ∧ x6 < 65536) then
      pr sc orc 99 F 34 [some (.inr (.inr 1)), some (.inl (b1)), some (.inr (.inr 6)), some (.inl (b3)), some (.inl (q_w (b4 + (1)))), none] [] (q_up M5 5 ((x2 : Int).toNat) x6)
      else none
      else none)
      else none))
  else
    some (none, GF, M) := by
  rw [pr_st]; rfl
set_option maxRecDepth 20000 in
theorem sg_X7_dropFirst_0 {sc : List Int} {orc : q_O} {M : q_M} {F : Nat} {a1 : Int} : pr sc orc 100 (F + 1) 0 [some (.inr (.inr 1)), some (.inl (a1)), none, none, none] [] M =
  if a1 < 0 then
    some (some (.inl ((-1))), GF, M)
  else
    if a1 < 3 then
      if 0 ≤ a1 ∧ a1 < ((3 : Nat) : Int) then
      if 0 < (M 3 (a1 : Int).toNat) then
        pr sc orc 100 F 35 [some (.inr (.inr 1)), some (.inl (a1)), none, some (.inl (q_w (q_w (q_w (a1 * 10) * 4) + 36))), some (.inl (q_w (q_w (a1 * 10) * 4)))] [] M
      else
        some (some (.inl ((-1))), GF, M)
      else none
    else
      some (some (.inl ((-1))), GF, M) := by
  rw [pr_st]; rfl
set_option maxRecDepth 20000 in
theorem sg_X7_dropFirst_35 {sc : List Int} {orc : q_O} {M : q_M} {F : Nat} {b1 b3 b4 : Int} : pr sc orc 100 (F + 1) 35 [some (.inr (.inr 1)), some (.inl (b1)), none, some (.inl (b3)), some (.inl (b4))] [] M =
  if b4 < b3 then
    if 0 ≤ q_w (b4 + 4) ∧ q_w (b4 + 4) < ((120 : Nat) : Int) then
    if 0 ≤ b4 ∧ b4 < ((120 : Nat) : Int) then
    if 0 ≤ q_w (b4 + 4) ∧ q_w (b4 + 4) < ((120 : Nat) : Int) then
    if 0 ≤ b4 ∧ b4 < ((120 : Nat) : Int) then
    if (1 : Nat) = 0 ∨ ((1 : Nat) = 1 ∧ ((M 5 (q_w (b4 + 4) : Int).toNat) = 0 ∨ (M 5 (q_w (b4 + 4) : Int).toNat) = 1)) ∨ ((1 : Nat) = 2 ∧ 0 ≤ M 5 (q_w (b4 + 4) : Int).toNat ∧ M 5 (q_w (b4 + 4) : Int).toNat < 65536) then
    pr sc orc 100 F 35 [some (.inr (.inr 1)), some (.inl (b1)), none, some (.inl (b3)), some (.inl (q_w (b4 + (1))))] [] (q_up (q_up M 4 ((b4 : Int).toNat) (M 4 (q_w (b4 + 4) : Int).toNat)) 5 ((b4 : Int).toNat) (M 5 (q_w (b4 + 4) : Int).toNat))
    else none
    else none
    else none
    else none
    else none
  else
    if 0 ≤ b1 ∧ b1 < ((3 : Nat) : Int) then
    if 0 ≤ b1 ∧ b1 < ((3 : Nat) : Int) then
    if 0 ≤ b1 ∧ b1 < ((3 : Nat) : Int) then
    some (some (.inl ((q_up M 3 ((b1 : Int).toNat) (q_w (M 3 (b1 : Int).toNat - 1))) 3 (b1 : Int).toNat)), GF, (q_up M 3 ((b1 : Int).toNat) (q_w (M 3 (b1 : Int).toNat - 1))))
    else none
    else none
    else none := by
  rw [pr_st]; rfl
set_option maxRecDepth 20000 in
theorem sg_X7_numberAt_0 {sc : List Int} {orc : q_O} {M : q_M} {F : Nat} {a1 a2 a3 : Int} : pr sc orc 101 (F + 1) 0 [some (.inr (.inr 1)), some (.inl (a1)), some (.inl (a2)), some (.inl (a3)), none] [] M =
  q_cI (orc 103 [.inr (.inr 1), .inl (a1), .inl (a2), .inl (a3)] GF M) GF (fun x2 M1 =>
  if x2 = (-1) then
    some (some (.inl (0)), GF, M1)
  else
    if 0 ≤ x2 ∧ x2 < ((120 : Nat) : Int) then
    some (some (.inl (M1 4 (x2 : Int).toNat)), GF, M1)
    else none) := by
  rw [pr_st]; rfl
set_option maxRecDepth 20000 in
theorem sg_X7_unknownAt_0 {sc : List Int} {orc : q_O} {M : q_M} {F : Nat} {a1 a2 a3 : Int} : pr sc orc 102 (F + 1) 0 [some (.inr (.inr 1)), some (.inl (a1)), some (.inl (a2)), some (.inl (a3)), none] [] M =
  q_cI (orc 103 [.inr (.inr 1), .inl (a1), .inl (a2), .inl (a3)] GF M) GF (fun x2 M1 =>
  if x2 = (-1) then
    some (some (.inl (1)), GF, M1)
  else
    if 0 ≤ x2 ∧ x2 < ((120 : Nat) : Int) then
    if (M1 5 (x2 : Int).toNat) = 0 then
      some (some (.inl (0)), GF, M1)
    else
      some (some (.inl (1)), GF, M1)
    else none) := by
  rw [pr_st]; rfl
set_option maxRecDepth 20000 in
theorem sg_X7_cellOf_0 {sc : List Int} {orc : q_O} {M : q_M} {F : Nat} {a1 a2 a3 : Int} : pr sc orc 103 (F + 1) 0 [some (.inr (.inr 1)), some (.inl (a1)), some (.inl (a2)), some (.inl (a3))] [] M =
  if a1 < 0 then
    some (some (.inl ((-1))), GF, M)
  else
    if a1 < 3 then
      if a2 < 0 then
        some (some (.inl ((-1))), GF, M)
      else
        if a2 < 10 then
          if 0 ≤ a1 ∧ a1 < ((3 : Nat) : Int) then
          if a2 < (M 3 (a1 : Int).toNat) then
            if a3 < 0 then
              some (some (.inl ((-1))), GF, M)
            else
              if a3 < 4 then
                if 0 ≤ a1 ∧ a1 < ((3 : Nat) : Int) then
                if a3 < (M 2 (a1 : Int).toNat) then
                  some (some (.inl (q_w (q_w (q_w (q_w (a1 * 10) + a2) * 4) + a3))), GF, M)
                else
                  some (some (.inl ((-1))), GF, M)
                else none
              else
                some (some (.inl ((-1))), GF, M)
          else
            some (some (.inl ((-1))), GF, M)
          else none
        else
          some (some (.inl ((-1))), GF, M)
    else
      some (some (.inl ((-1))), GF, M) := by
  rw [pr_st]; rfl
set_option maxRecDepth 20000 in
theorem sg_X8_append_0 {sc : List Int} {orc : q_O} {M : q_M} {F : Nat} {a1 : Int} : pr sc orc 105 (F + 1) 0 [some (.inr (.inr 9)), some (.inl (a1))] [] M =
  if a1 < 32 then
    some (some (.inl (0)), GF, M)
  else
    if 126 < a1 then
      some (some (.inl (0)), GF, M)
    else
      if (M 9 1) < 0 then
        some (some (.inl (0)), GF, M)
      else
        if (M 9 1) < 130 then
          if 0 ≤ M 9 1 ∧ M 9 1 < ((130 : Nat) : Int) then
          if (2 : Nat) = 0 ∨ ((2 : Nat) = 1 ∧ (a1 = 0 ∨ a1 = 1)) ∨ ((2 : Nat) = 2 ∧ 0 ≤ a1 ∧ a1 < 65536) then
          some (some (.inl (1)), GF, (q_up (q_up M 10 ((M 9 1 : Int).toNat) a1) 9 1 (q_w (M 9 1 + 1))))
          else none
          else none
        else
          some (some (.inl (0)), GF, M) := by
  rw [pr_st]; rfl
set_option maxRecDepth 20000 in
theorem sg_X8_clear_0 {sc : List Int} {orc : q_O} {M : q_M} {F : Nat} : pr sc orc 106 (F + 1) 0 [some (.inr (.inr 9))] [] M =
  some (none, GF, (q_up M 9 1 0)) := by
  rw [pr_st]; rfl
set_option maxRecDepth 20000 in
theorem sg_X8_splitInto_0 {sc : List Int} {orc : q_O} {M : q_M} {F : Nat} : pr sc orc 107 (F + 1) 0 [some (.inr (.inr 9)), some (.inr (.inr 11)), none, none] [] M =
  q_c0 (orc 119 [.inr (.inr 11)] GF M) GF (fun M1 =>
  pr sc orc 107 F 8 [some (.inr (.inr 9)), some (.inr (.inr 11)), some (.inl (0)), some (.inl (0))] [] M1) := by
  rw [pr_st]; rfl
set_option maxRecDepth 20000 in
theorem sg_X8_splitInto_8 {sc : List Int} {orc : q_O} {M : q_M} {F : Nat} {b2 b3 : Int} : pr sc orc 107 (F + 1) 8 [some (.inr (.inr 9)), some (.inr (.inr 11)), some (.inl (b2)), some (.inl (b3))] [] M =
  if b3 < (M 9 1) then
    if b3 < b2 then
      pr sc orc 107 F 8 [some (.inr (.inr 9)), some (.inr (.inr 11)), some (.inl (b2)), some (.inl (q_w (b3 + (1))))] [] M
    else
      q_cI (orc 108 [.inr (.inr 9), .inl (b3)] GF M) GF (fun x3 M2 =>
      if x3 = 32 then
        pr sc orc 107 F 8 [some (.inr (.inr 9)), some (.inr (.inr 11)), some (.inl (b2)), some (.inl (q_w (b3 + (1))))] [] M2
      else
        q_cI (orc 109 [.inr (.inr 9), .inl (b3), .inr (.inr 11)] GF M2) GF (fun x5 M4 =>
        pr sc orc 107 F 8 [some (.inr (.inr 9)), some (.inr (.inr 11)), some (.inl (x5)), some (.inl (q_w (b3 + (1))))] [] M4))
  else
    q_c0 (orc 120 [.inr (.inr 11), .inl (256), .inl (M 9 1), .inl (0)] GF M) GF (fun M1 =>
    some (none, GF, M1)) := by
  rw [pr_st]; rfl
set_option maxRecDepth 20000 in
theorem sg_X8_codeAt_0 {sc : List Int} {orc : q_O} {M : q_M} {F : Nat} {a1 : Int} : pr sc orc 108 (F + 1) 0 [some (.inr (.inr 9)), some (.inl (a1))] [] M =
  if a1 < 0 then
    if 0 ≤ 32 ∧ 32 < 65536 then some (some (.inl (32)), GF, M) else none
  else
    if a1 < (M 9 1) then
      if a1 < 130 then
        if 0 ≤ a1 ∧ a1 < ((130 : Nat) : Int) then
        if 0 ≤ M 10 (a1 : Int).toNat ∧ M 10 (a1 : Int).toNat < 65536 then some (some (.inl (M 10 (a1 : Int).toNat)), GF, M) else none
        else none
      else
        if 0 ≤ 32 ∧ 32 < 65536 then some (some (.inl (32)), GF, M) else none
    else
      if 0 ≤ 32 ∧ 32 < 65536 then some (some (.inl (32)), GF, M) else none := by
  rw [pr_st]; rfl
set_option maxRecDepth 20000 in
theorem sg_X8_readToken_0 {sc : List Int} {orc : q_O} {M : q_M} {F : Nat} {a1 : Int} : pr sc orc 109 (F + 1) 0 [some (.inr (.inr 9)), some (.inl (a1)), some (.inr (.inr 11)), none, none, none] [] M =
  q_cI (orc 108 [.inr (.inr 9), .inl (a1)] GF M) GF (fun x2 M1 =>
  q_cI (orc 114 [.inl (x2)] GF M1) GF (fun x4 M3 =>
  if x4 = 0 then
    if x2 = 45 then
      q_cI (orc 111 [.inr (.inr 9), .inl (a1), .inr (.inr 11)] GF M3) GF (fun x6 M5 =>
      some (some (.inl (x6)), GF, M5))
    else
      q_cI (orc 116 [.inl (x2)] GF M3) GF (fun x8 M7 =>
      if x8 = 0 then
        q_cI (orc 115 [.inl (x2)] GF M7) GF (fun x10 M9 =>
        if x10 = 0 then
          q_cI (orc 117 [.inl (x2)] GF M9) GF (fun x13 M12 =>
          if x13 = 0 then
            q_c0 (orc 120 [.inr (.inr 11), .inl (257), .inl (a1), .inl (0)] GF M12) GF (fun M14 =>
            some (some (.inl (q_w (a1 + 1))), GF, M14))
          else
            q_c0 (orc 120 [.inr (.inr 11), .inl (x2), .inl (a1), .inl (0)] GF M12) GF (fun M15 =>
            some (some (.inl (q_w (a1 + 1))), GF, M15)))
        else
          q_c0 (orc 120 [.inr (.inr 11), .inl (x2), .inl (a1), .inl (0)] GF M9) GF (fun M11 =>
          some (some (.inl (q_w (a1 + 1))), GF, M11)))
      else
        q_cI (orc 111 [.inr (.inr 9), .inl (a1), .inr (.inr 11)] GF M7) GF (fun x17 M16 =>
        some (some (.inl (x17)), GF, M16)))
  else
    q_cI (orc 110 [.inr (.inr 9), .inl (a1)] GF M3) GF (fun x19 M18 =>
    if x19 = (q_w (a1 + 1)) then
      q_c0 (orc 120 [.inr (.inr 11), .inl (x2), .inl (a1), .inl (0)] GF M18) GF (fun M23 =>
      some (some (.inl (x19)), GF, M23))
    else
      q_cI (orc 112 [.inr (.inr 9), .inl (a1), .inl (x19)] GF M18) GF (fun x21 M20 =>
      q_c0 (orc 120 [.inr (.inr 11), .inl (x21), .inl (a1), .inl (0)] GF M20) GF (fun M22 =>
      some (some (.inl (x19)), GF, M22)))))) := by
  rw [pr_st]; rfl
set_option maxRecDepth 20000 in
theorem sg_X8_endOfWord_0 {sc : List Int} {orc : q_O} {M : q_M} {F : Nat} {a1 : Int} : pr sc orc 110 (F + 1) 0 [some (.inr (.inr 9)), some (.inl (a1)), none, none] [] M =
  pr sc orc 110 F 4 [some (.inr (.inr 9)), none, some (.inl (a1)), some (.inl (a1))] [] M := by
  rw [pr_st]; rfl
set_option maxRecDepth 20000 in
theorem sg_X8_endOfWord_4 {sc : List Int} {orc : q_O} {M : q_M} {F : Nat} {b2 b3 : Int} : pr sc orc 110 (F + 1) 4 [some (.inr (.inr 9)), none, some (.inl (b2)), some (.inl (b3))] [] M =
  if b3 < (M 9 1) then
    q_cI (orc 108 [.inr (.inr 9), .inl (b3)] GF M) GF (fun x2 M1 =>
    q_cI (orc 114 [.inl (x2)] GF M1) GF (fun x4 M3 =>
    if x4 = 0 then
      some (some (.inl (b2)), GF, M3)
    else
      pr sc orc 110 F 4 [some (.inr (.inr 9)), none, some (.inl (q_w (b3 + 1))), some (.inl (q_w (b3 + (1))))] [] M3))
  else
    some (some (.inl (b2)), GF, M) := by
  rw [pr_st]; rfl
set_option maxRecDepth 20000 in
theorem sg_X8_readNumeral_0 {sc : List Int} {orc : q_O} {M : q_M} {F : Nat} {a1 : Int} : pr sc orc 111 (F + 1) 0 [some (.inr (.inr 9)), some (.inl (a1)), some (.inr (.inr 11)), none, none, none, none, none] [] M =
  q_cI (orc 108 [.inr (.inr 9), .inl (a1)] GF M) GF (fun x2 M1 =>
  if x2 = 45 then
    if 1 = 0 then
      pr sc orc 111 F 40 [some (.inr (.inr 9)), some (.inl (a1)), some (.inr (.inr 11)), some (.inl (1)), some (.inl (a1)), some (.inl (a1)), some (.inl (0)), some (.inl (a1))] [] M1
    else
      pr sc orc 111 F 40 [some (.inr (.inr 9)), some (.inl (a1)), some (.inr (.inr 11)), some (.inl (1)), some (.inl (q_w (a1 + 1))), some (.inl (q_w (a1 + 1))), some (.inl (0)), some (.inl (q_w (a1 + 1)))] [] M1
  else
    if 0 = 0 then
      pr sc orc 111 F 40 [some (.inr (.inr 9)), some (.inl (a1)), some (.inr (.inr 11)), some (.inl (0)), some (.inl (a1)), some (.inl (a1)), some (.inl (0)), some (.inl (a1))] [] M1
    else
      pr sc orc 111 F 40 [some (.inr (.inr 9)), some (.inl (a1)), some (.inr (.inr 11)), some (.inl (0)), some (.inl (q_w (a1 + 1))), some (.inl (q_w (a1 + 1))), some (.inl (0)), some (.inl (q_w (a1 + 1)))] [] M1) := by
  rw [pr_st]; rfl
set_option maxRecDepth 20000 in
theorem sg_X8_readNumeral_40 {sc : List Int} {orc : q_O} {M : q_M} {F : Nat} {b1 b3 b4 b5 b6 b7 : Int} : pr sc orc 111 (F + 1) 40 [some (.inr (.inr 9)), some (.inl (b1)), some (.inr (.inr 11)), some (.inl (b3)), some (.inl (b4)), some (.inl (b5)), some (.inl (b6)), some (.inl (b7))] [] M =
  if b7 < (M 9 1) then
    q_cI (orc 108 [.inr (.inr 9), .inl (b7)] GF M) GF (fun x2 M1 =>
    q_cI (orc 116 [.inl (x2)] GF M1) GF (fun x4 M3 =>
    if x4 = 0 then
      if b4 < b5 then
        if 6 < (q_w (b5 - b4)) then
          pr sc orc 111 F 114 [none, some (.inl (b1)), some (.inr (.inr 11)), some (.inl (b3)), none, some (.inl (b5)), some (.inl (b6)), some (.inl (0))] [] M3
        else
          pr sc orc 111 F 114 [none, some (.inl (b1)), some (.inr (.inr 11)), some (.inl (b3)), none, some (.inl (b5)), some (.inl (b6)), some (.inl (1))] [] M3
      else
        pr sc orc 111 F 114 [none, some (.inl (b1)), some (.inr (.inr 11)), some (.inl (b3)), none, some (.inl (b5)), some (.inl (b6)), some (.inl (0))] [] M3
    else
      q_cI (orc 108 [.inr (.inr 9), .inl (b7)] GF M3) GF (fun x6 M5 =>
      pr sc orc 111 F 40 [some (.inr (.inr 9)), some (.inl (b1)), some (.inr (.inr 11)), some (.inl (b3)), some (.inl (b4)), some (.inl (q_w (b7 + 1))), some (.inl (q_w (q_w (b6 * 10) + (q_w (x6 - 48))))), some (.inl (q_w (b7 + (1))))] [] M5)))
  else
    if b4 < b5 then
      if 6 < (q_w (b5 - b4)) then
        pr sc orc 111 F 114 [none, some (.inl (b1)), some (.inr (.inr 11)), some (.inl (b3)), none, some (.inl (b5)), some (.inl (b6)), some (.inl (0))] [] M
      else
        pr sc orc 111 F 114 [none, some (.inl (b1)), some (.inr (.inr 11)), some (.inl (b3)), none, some (.inl (b5)), some (.inl (b6)), some (.inl (1))] [] M
    else
      pr sc orc 111 F 114 [none, some (.inl (b1)), some (.inr (.inr 11)), some (.inl (b3)), none, some (.inl (b5)), some (.inl (b6)), some (.inl (0))] [] M := by
  rw [pr_st]; rfl
set_option maxRecDepth 20000 in
theorem sg_X8_readNumeral_114 {sc : List Int} {orc : q_O} {M : q_M} {F : Nat} {b1 b3 b5 b6 b7 : Int} : pr sc orc 111 (F + 1) 114 [none, some (.inl (b1)), some (.inr (.inr 11)), some (.inl (b3)), none, some (.inl (b5)), some (.inl (b6)), some (.inl (b7))] [] M =
  if b7 = 0 then
    if b3 = 0 then
      q_c0 (orc 120 [.inr (.inr 11), .inl (257), .inl (b1), .inl (b6)] GF M) GF (fun M1 =>
      some (some (.inl (b5)), GF, M1))
    else
      q_c0 (orc 120 [.inr (.inr 11), .inl (257), .inl (b1), .inl (q_w (-b6))] GF M) GF (fun M2 =>
      some (some (.inl (b5)), GF, M2))
  else
    if b3 = 0 then
      q_c0 (orc 120 [.inr (.inr 11), .inl (258), .inl (b1), .inl (b6)] GF M) GF (fun M3 =>
      some (some (.inl (b5)), GF, M3))
    else
      q_c0 (orc 120 [.inr (.inr 11), .inl (258), .inl (b1), .inl (q_w (-b6))] GF M) GF (fun M4 =>
      some (some (.inl (b5)), GF, M4)) := by
  rw [pr_st]; rfl
set_option maxRecDepth 20000 in
theorem sg_X8_wordKind_0 {sc : List Int} {orc : q_O} {M : q_M} {F : Nat} {a1 a2 : Int} : pr sc orc 112 (F + 1) 0 [some (.inr (.inr 9)), some (.inl (a1)), some (.inl (a2))] [] M =
  q_cI (orc 113 [.inr (.inr 9), .inl (a1), .inl (a2), .inr (.inr 1002)] GF M) GF (fun x2 M1 =>
  if x2 = 0 then
    q_cI (orc 113 [.inr (.inr 9), .inl (a1), .inl (a2), .inr (.inr 1003)] GF M1) GF (fun x4 M3 =>
    if x4 = 0 then
      q_cI (orc 113 [.inr (.inr 9), .inl (a1), .inl (a2), .inr (.inr 1004)] GF M3) GF (fun x6 M5 =>
      if x6 = 0 then
        q_cI (orc 113 [.inr (.inr 9), .inl (a1), .inl (a2), .inr (.inr 1005)] GF M5) GF (fun x8 M7 =>
        if x8 = 0 then
          q_cI (orc 113 [.inr (.inr 9), .inl (a1), .inl (a2), .inr (.inr 1006)] GF M7) GF (fun x10 M9 =>
          if x10 = 0 then
            q_cI (orc 113 [.inr (.inr 9), .inl (a1), .inl (a2), .inr (.inr 1007)] GF M9) GF (fun x12 M11 =>
            if x12 = 0 then
              q_cI (orc 113 [.inr (.inr 9), .inl (a1), .inl (a2), .inr (.inr 1008)] GF M11) GF (fun x14 M13 =>
              if x14 = 0 then
                q_cI (orc 113 [.inr (.inr 9), .inl (a1), .inl (a2), .inr (.inr 1009)] GF M13) GF (fun x16 M15 =>
                if x16 = 0 then
                  q_cI (orc 113 [.inr (.inr 9), .inl (a1), .inl (a2), .inr (.inr 1010)] GF M15) GF (fun x18 M17 =>
                  if x18 = 0 then
                    q_cI (orc 113 [.inr (.inr 9), .inl (a1), .inl (a2), .inr (.inr 1011)] GF M17) GF (fun x20 M19 =>
                    if x20 = 0 then
                      q_cI (orc 113 [.inr (.inr 9), .inl (a1), .inl (a2), .inr (.inr 1012)] GF M19) GF (fun x22 M21 =>
                      if x22 = 0 then
                        q_cI (orc 113 [.inr (.inr 9), .inl (a1), .inl (a2), .inr (.inr 1013)] GF M21) GF (fun x24 M23 =>
                        if x24 = 0 then
                          q_cI (orc 113 [.inr (.inr 9), .inl (a1), .inl (a2), .inr (.inr 1014)] GF M23) GF (fun x26 M25 =>
                          if x26 = 0 then
                            q_cI (orc 113 [.inr (.inr 9), .inl (a1), .inl (a2), .inr (.inr 1015)] GF M25) GF (fun x28 M27 =>
                            if x28 = 0 then
                              q_cI (orc 113 [.inr (.inr 9), .inl (a1), .inl (a2), .inr (.inr 1016)] GF M27) GF (fun x30 M29 =>
                              if x30 = 0 then
                                q_cI (orc 113 [.inr (.inr 9), .inl (a1), .inl (a2), .inr (.inr 1017)] GF M29) GF (fun x32 M31 =>
                                if x32 = 0 then
                                  some (some (.inl (257)), GF, M31)
                                else
                                  some (some (.inl (274)), GF, M31))
                              else
                                some (some (.inl (273)), GF, M29))
                            else
                              some (some (.inl (272)), GF, M27))
                          else
                            some (some (.inl (271)), GF, M25))
                        else
                          some (some (.inl (270)), GF, M23))
                      else
                        some (some (.inl (269)), GF, M21))
                    else
                      some (some (.inl (268)), GF, M19))
                  else
                    some (some (.inl (267)), GF, M17))
                else
                  some (some (.inl (266)), GF, M15))
              else
                some (some (.inl (265)), GF, M13))
            else
              some (some (.inl (264)), GF, M11))
          else
            some (some (.inl (263)), GF, M9))
        else
          some (some (.inl (262)), GF, M7))
      else
        some (some (.inl (261)), GF, M5))
    else
      some (some (.inl (260)), GF, M3))
  else
    some (some (.inl (259)), GF, M1)) := by
  rw [pr_st]; rfl
set_option maxRecDepth 20000 in
theorem sg_X8_isSmall_0 {sc : List Int} {orc : q_O} {M : q_M} {F : Nat} {a1 : Int} : pr sc orc 114 (F + 1) 0 [some (.inl (a1))] [] M =
  if a1 < 97 then
    some (some (.inl (0)), GF, M)
  else
    if 122 < a1 then
      some (some (.inl (0)), GF, M)
    else
      some (some (.inl (1)), GF, M) := by
  rw [pr_st]; rfl
set_option maxRecDepth 20000 in
theorem sg_X8_isCapital_0 {sc : List Int} {orc : q_O} {M : q_M} {F : Nat} {a1 : Int} : pr sc orc 115 (F + 1) 0 [some (.inl (a1))] [] M =
  if a1 < 65 then
    some (some (.inl (0)), GF, M)
  else
    if 90 < a1 then
      some (some (.inl (0)), GF, M)
    else
      some (some (.inl (1)), GF, M) := by
  rw [pr_st]; rfl
set_option maxRecDepth 20000 in
theorem sg_X8_isDigit_0 {sc : List Int} {orc : q_O} {M : q_M} {F : Nat} {a1 : Int} : pr sc orc 116 (F + 1) 0 [some (.inl (a1))] [] M =
  if a1 < 48 then
    some (some (.inl (0)), GF, M)
  else
    if 57 < a1 then
      some (some (.inl (0)), GF, M)
    else
      some (some (.inl (1)), GF, M) := by
  rw [pr_st]; rfl
set_option maxRecDepth 20000 in
theorem sg_X8_isSign_0 {sc : List Int} {orc : q_O} {M : q_M} {F : Nat} {a1 : Int} : pr sc orc 117 (F + 1) 0 [some (.inl (a1))] [] M =
  q_cI (orc 218 [.inr (.inr 1018), .inl (a1)] GF M) GF (fun x2 M1 =>
  if x2 < 0 then
    some (some (.inl (0)), GF, M1)
  else
    some (some (.inl (1)), GF, M1)) := by
  rw [pr_st]; rfl
set_option maxRecDepth 20000 in
theorem sg_X9_clear_0 {sc : List Int} {orc : q_O} {M : q_M} {F : Nat} : pr sc orc 119 (F + 1) 0 [some (.inr (.inr 11))] [] M =
  some (none, GF, (q_up (q_up M 11 3 0) 11 4 0)) := by
  rw [pr_st]; rfl
set_option maxRecDepth 20000 in
theorem sg_X9_add_0 {sc : List Int} {orc : q_O} {M : q_M} {F : Nat} {a1 a2 a3 : Int} : pr sc orc 120 (F + 1) 0 [some (.inr (.inr 11)), some (.inl (a1)), some (.inl (a2)), some (.inl (a3))] [] M =
  if (M 11 3) < 0 then
    some (none, GF, M)
  else
    if (M 11 3) < ((131 : Nat) : Int) then
      if 0 ≤ M 11 3 ∧ M 11 3 < ((131 : Nat) : Int) then
      if 0 ≤ M 11 3 ∧ M 11 3 < ((131 : Nat) : Int) then
      if 0 ≤ M 11 3 ∧ M 11 3 < ((131 : Nat) : Int) then
      some (none, GF, (q_up (q_up (q_up (q_up M 12 ((M 11 3 : Int).toNat) a1) 13 ((M 11 3 : Int).toNat) a2) 14 ((M 11 3 : Int).toNat) a3) 11 3 (q_w (M 11 3 + 1))))
      else none
      else none
      else none
    else
      some (none, GF, M) := by
  rw [pr_st]; rfl
set_option maxRecDepth 20000 in
theorem sg_X9_nextKind_0 {sc : List Int} {orc : q_O} {M : q_M} {F : Nat} : pr sc orc 121 (F + 1) 0 [some (.inr (.inr 11))] [] M =
  if (M 11 4) < 0 then
    some (some (.inl (256)), GF, M)
  else
    if (M 11 4) < (M 11 3) then
      if (M 11 4) < ((131 : Nat) : Int) then
        if 0 ≤ M 11 4 ∧ M 11 4 < ((131 : Nat) : Int) then
        some (some (.inl (M 12 (M 11 4 : Int).toNat)), GF, M)
        else none
      else
        some (some (.inl (256)), GF, M)
    else
      some (some (.inl (256)), GF, M) := by
  rw [pr_st]; rfl
set_option maxRecDepth 20000 in
theorem sg_X9_nextPlace_0 {sc : List Int} {orc : q_O} {M : q_M} {F : Nat} : pr sc orc 122 (F + 1) 0 [some (.inr (.inr 11))] [] M =
  if (M 11 4) < 0 then
    some (some (.inl (0)), GF, M)
  else
    if (M 11 4) < (M 11 3) then
      if (M 11 4) < ((131 : Nat) : Int) then
        if 0 ≤ M 11 4 ∧ M 11 4 < ((131 : Nat) : Int) then
        some (some (.inl (M 13 (M 11 4 : Int).toNat)), GF, M)
        else none
      else
        some (some (.inl (0)), GF, M)
    else
      some (some (.inl (0)), GF, M) := by
  rw [pr_st]; rfl
set_option maxRecDepth 20000 in
theorem sg_X9_nextNumber_0 {sc : List Int} {orc : q_O} {M : q_M} {F : Nat} : pr sc orc 123 (F + 1) 0 [some (.inr (.inr 11))] [] M =
  if (M 11 4) < 0 then
    some (some (.inl (0)), GF, M)
  else
    if (M 11 4) < (M 11 3) then
      if (M 11 4) < ((131 : Nat) : Int) then
        if 0 ≤ M 11 4 ∧ M 11 4 < ((131 : Nat) : Int) then
        some (some (.inl (M 14 (M 11 4 : Int).toNat)), GF, M)
        else none
      else
        some (some (.inl (0)), GF, M)
    else
      some (some (.inl (0)), GF, M) := by
  rw [pr_st]; rfl
set_option maxRecDepth 20000 in
theorem sg_X9_advance_0 {sc : List Int} {orc : q_O} {M : q_M} {F : Nat} : pr sc orc 124 (F + 1) 0 [some (.inr (.inr 11))] [] M =
  if (M 11 4) < (q_w (M 11 3 - 1)) then
    some (none, GF, (q_up M 11 4 (q_w (M 11 4 + 1))))
  else
    some (none, GF, M) := by
  rw [pr_st]; rfl
