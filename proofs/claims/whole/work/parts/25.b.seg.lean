set_option maxRecDepth 20000 in
theorem sg_X3_addConstant_0 {sc : List Int} {orc : q_O} {M : q_M} {F : Nat} {a1 a2 : Int} : pr sc orc 30 (F + 1) 0 [some (.inr (.inr 16)), some (.inl (a1)), some (.inl (a2)), none] [] M =
  q_cI (orc 29 [.inr (.inr 16), .inl ((-1)), .inl ((-1)), .inl ((-1)), .inl ((-1))] GF M) GF (fun x2 M1 =>
  if x2 < 0 then
    some (some (.inl (x2)), GF, M1)
  else
    if x2 < 130 then
      if 0 ≤ x2 ∧ x2 < ((130 : Nat) : Int) then
      if 0 ≤ x2 ∧ x2 < ((130 : Nat) : Int) then
      if (1 : Nat) = 0 ∨ ((1 : Nat) = 1 ∧ (a2 = 0 ∨ a2 = 1)) ∨ ((1 : Nat) = 2 ∧ 0 ≤ a2 ∧ a2 < 65536) then
      some (some (.inl (x2)), GF, (q_up (q_up M1 22 ((x2 : Int).toNat) a1) 23 ((x2 : Int).toNat) a2))
      else none
      else none
      else none
    else
      some (some (.inl (x2)), GF, M1)) := by
  rw [pr_st]; rfl
set_option maxRecDepth 20000 in
theorem sg_X3_isColumn_0 {sc : List Int} {orc : q_O} {M : q_M} {F : Nat} {a1 : Int} : pr sc orc 31 (F + 1) 0 [some (.inr (.inr 16)), some (.inl (a1))] [] M =
  q_cI (orc 146 [.inr (.inr 18), .inl (a1)] GF M) GF (fun x2 M1 =>
  if x2 = (-1) then
    some (some (.inl (0)), GF, M1)
  else
    some (some (.inl (1)), GF, M1)) := by
  rw [pr_st]; rfl
set_option maxRecDepth 20000 in
theorem sg_X3_placeOf_0 {sc : List Int} {orc : q_O} {M : q_M} {F : Nat} {a1 : Int} : pr sc orc 32 (F + 1) 0 [some (.inr (.inr 16)), some (.inl (a1))] [] M =
  q_cI (orc 146 [.inr (.inr 17), .inl (a1)] GF M) GF (fun x2 M1 =>
  some (some (.inl (x2)), GF, M1)) := by
  rw [pr_st]; rfl
set_option maxRecDepth 20000 in
theorem sg_X3_aliasOf_0 {sc : List Int} {orc : q_O} {M : q_M} {F : Nat} {a1 : Int} : pr sc orc 33 (F + 1) 0 [some (.inr (.inr 16)), some (.inl (a1))] [] M =
  q_cI (orc 146 [.inr (.inr 18), .inl (a1)] GF M) GF (fun x2 M1 =>
  some (some (.inl (x2)), GF, M1)) := by
  rw [pr_st]; rfl
set_option maxRecDepth 20000 in
theorem sg_X3_letterOf_0 {sc : List Int} {orc : q_O} {M : q_M} {F : Nat} {a1 : Int} : pr sc orc 34 (F + 1) 0 [some (.inr (.inr 16)), some (.inl (a1))] [] M =
  q_cI (orc 146 [.inr (.inr 19), .inl (a1)] GF M) GF (fun x2 M1 =>
  some (some (.inl (x2)), GF, M1)) := by
  rw [pr_st]; rfl
set_option maxRecDepth 20000 in
theorem sg_X3_lastItemOf_0 {sc : List Int} {orc : q_O} {M : q_M} {F : Nat} {a1 : Int} : pr sc orc 35 (F + 1) 0 [some (.inr (.inr 16)), some (.inl (a1))] [] M =
  q_cI (orc 146 [.inr (.inr 20), .inl (a1)] GF M) GF (fun x2 M1 =>
  some (some (.inl (x2)), GF, M1)) := by
  rw [pr_st]; rfl
set_option maxRecDepth 20000 in
theorem sg_X3_itemOf_0 {sc : List Int} {orc : q_O} {M : q_M} {F : Nat} {a1 : Int} : pr sc orc 36 (F + 1) 0 [some (.inr (.inr 16)), some (.inl (a1))] [] M =
  q_cI (orc 146 [.inr (.inr 21), .inl (a1)] GF M) GF (fun x2 M1 =>
  some (some (.inl (x2)), GF, M1)) := by
  rw [pr_st]; rfl
set_option maxRecDepth 20000 in
theorem sg_X3_setItem_0 {sc : List Int} {orc : q_O} {M : q_M} {F : Nat} {a1 a2 : Int} : pr sc orc 37 (F + 1) 0 [some (.inr (.inr 16)), some (.inl (a1)), some (.inl (a2))] [] M =
  if a1 < 0 then
    some (none, GF, M)
  else
    if a1 < 130 then
      if 0 ≤ a1 ∧ a1 < ((130 : Nat) : Int) then
      some (none, GF, (q_up M 21 ((a1 : Int).toNat) a2))
      else none
    else
      some (none, GF, M) := by
  rw [pr_st]; rfl
set_option maxRecDepth 20000 in
theorem sg_X3_sameColumn_0 {sc : List Int} {orc : q_O} {M : q_M} {F : Nat} {a1 a2 : Int} : pr sc orc 38 (F + 1) 0 [some (.inr (.inr 16)), some (.inl (a1)), some (.inl (a2))] [] M =
  q_cI (orc 33 [.inr (.inr 16), .inl (a1)] GF M) GF (fun x2 M1 =>
  q_cI (orc 33 [.inr (.inr 16), .inl (a2)] GF M1) GF (fun x4 M3 =>
  if x2 = x4 then
    q_cI (orc 34 [.inr (.inr 16), .inl (a1)] GF M3) GF (fun x6 M5 =>
    q_cI (orc 34 [.inr (.inr 16), .inl (a2)] GF M5) GF (fun x8 M7 =>
    if x6 = x8 then
      some (some (.inl (1)), GF, M7)
    else
      some (some (.inl (0)), GF, M7)))
  else
    some (some (.inl (0)), GF, M3))) := by
  rw [pr_st]; rfl
set_option maxRecDepth 20000 in
theorem sg_X3_numberOf_0 {sc : List Int} {orc : q_O} {M : q_M} {F : Nat} {a1 : Int} : pr sc orc 39 (F + 1) 0 [some (.inr (.inr 16)), some (.inl (a1))] [] M =
  if a1 < 0 then
    some (some (.inl (0)), GF, M)
  else
    if a1 < 130 then
      if 0 ≤ a1 ∧ a1 < ((130 : Nat) : Int) then
      some (some (.inl (M 22 (a1 : Int).toNat)), GF, M)
      else none
    else
      some (some (.inl (0)), GF, M) := by
  rw [pr_st]; rfl
set_option maxRecDepth 20000 in
theorem sg_X3_unknownOf_0 {sc : List Int} {orc : q_O} {M : q_M} {F : Nat} {a1 : Int} : pr sc orc 40 (F + 1) 0 [some (.inr (.inr 16)), some (.inl (a1))] [] M =
  if a1 < 0 then
    some (some (.inl (1)), GF, M)
  else
    if a1 < 130 then
      if 0 ≤ a1 ∧ a1 < ((130 : Nat) : Int) then
      if (M 23 (a1 : Int).toNat) = 0 then
        some (some (.inl (0)), GF, M)
      else
        some (some (.inl (1)), GF, M)
      else none
    else
      some (some (.inl (1)), GF, M) := by
  rw [pr_st]; rfl
set_option maxRecDepth 20000 in
theorem sg_X3_load_0 {sc : List Int} {orc : q_O} {M : q_M} {F : Nat} {a1 a3 a4 : Int} : pr sc orc 41 (F + 1) 0 [some (.inr (.inr 16)), some (.inl (a1)), some (.inr (.inr 1)), some (.inl (a3)), some (.inl (a4)), none] [] M =
  pr sc orc 41 F 3 [some (.inr (.inr 16)), some (.inl (a1)), some (.inr (.inr 1)), some (.inl (a3)), some (.inl (a4)), some (.inl (0))] [] M := by
  rw [pr_st]; rfl
set_option maxRecDepth 20000 in
theorem sg_X3_load_3 {sc : List Int} {orc : q_O} {M : q_M} {F : Nat} {b1 b3 b4 b5 : Int} : pr sc orc 41 (F + 1) 3 [some (.inr (.inr 16)), some (.inl (b1)), some (.inr (.inr 1)), some (.inl (b3)), some (.inl (b4)), some (.inl (b5))] [] M =
  if b5 < (M 16 7) then
    if b5 < 130 then
      if 0 ≤ b5 ∧ b5 < ((130 : Nat) : Int) then
      if (M 21 (b5 : Int).toNat) = b1 then
        if 0 ≤ b5 ∧ b5 < ((130 : Nat) : Int) then
        q_cI (orc 101 [.inr (.inr 1), .inl (b3), .inl (b4), .inl (M 19 (b5 : Int).toNat)] GF M) GF (fun x2 M1 =>
        if 0 ≤ b5 ∧ b5 < ((130 : Nat) : Int) then
        if 0 ≤ b5 ∧ b5 < ((130 : Nat) : Int) then
        q_cI (orc 102 [.inr (.inr 1), .inl (b3), .inl (b4), .inl (M1 19 (b5 : Int).toNat)] GF (q_up M1 22 ((b5 : Int).toNat) x2)) GF (fun x4 M3 =>
        if 0 ≤ b5 ∧ b5 < ((130 : Nat) : Int) then
        if (1 : Nat) = 0 ∨ ((1 : Nat) = 1 ∧ (x4 = 0 ∨ x4 = 1)) ∨ ((1 : Nat) = 2 ∧ 0 ≤ x4 ∧ x4 < 65536) then
        pr sc orc 41 F 3 [some (.inr (.inr 16)), some (.inl (b1)), some (.inr (.inr 1)), some (.inl (b3)), some (.inl (b4)), some (.inl (q_w (b5 + (1))))] [] (q_up M3 23 ((b5 : Int).toNat) x4)
        else none
        else none)
        else none
        else none)
        else none
      else
        pr sc orc 41 F 3 [some (.inr (.inr 16)), some (.inl (b1)), some (.inr (.inr 1)), some (.inl (b3)), some (.inl (b4)), some (.inl (q_w (b5 + (1))))] [] M
      else none
    else
      some (none, GF, M)
  else
    some (none, GF, M) := by
  rw [pr_st]; rfl
set_option maxRecDepth 20000 in
theorem sg_X4_readQuery_0 {sc : List Int} {orc : q_O} {M : q_M} {F : Nat} : pr sc orc 43 (F + 1) 0 [some (.inr (.inr 41))] [] M =
  q_c0 (orc 60 [.inr (.inr 15)] GF M) GF (fun M1 =>
  q_cI (orc 125 [.inr (.inr 11), .inl (259)] GF (q_up M1 41 4 3)) GF (fun x3 M2 =>
  if x3 = 0 then
    some (some (.inl (0)), GF, M2)
  else
    q_cI (orc 44 [.inr (.inr 41)] GF M2) GF (fun x5 M4 =>
    if x5 = 0 then
      some (some (.inl (0)), GF, M4)
    else
      q_cI (orc 125 [.inr (.inr 11), .inl (260)] GF M4) GF (fun x7 M6 =>
      if x7 = 0 then
        some (some (.inl (0)), GF, M6)
      else
        q_cI (orc 46 [.inr (.inr 41), .inl (0)] GF M6) GF (fun x9 M8 =>
        if x9 = 0 then
          some (some (.inl (0)), GF, M8)
        else
          q_cI (orc 47 [.inr (.inr 41)] GF M8) GF (fun x11 M10 =>
          if x11 = 0 then
            some (some (.inl (0)), GF, M10)
          else
            q_cI (orc 48 [.inr (.inr 41)] GF M10) GF (fun x13 M12 =>
            if x13 = 0 then
              some (some (.inl (0)), GF, M12)
            else
              q_cI (orc 49 [.inr (.inr 41)] GF M12) GF (fun x15 M14 =>
              if x15 = 0 then
                some (some (.inl (0)), GF, M14)
              else
                q_cI (orc 121 [.inr (.inr 11)] GF M14) GF (fun x17 M16 =>
                if x17 = 256 then
                  some (some (.inl (1)), GF, M16)
                else
                  some (some (.inl (0)), GF, M16)))))))))) := by
  rw [pr_st]; rfl
set_option maxRecDepth 20000 in
theorem sg_X4_readOuts_0 {sc : List Int} {orc : q_O} {M : q_M} {F : Nat} : pr sc orc 44 (F + 1) 0 [some (.inr (.inr 41)), none] [] M =
  q_cI (orc 45 [.inr (.inr 41)] GF M) GF (fun x2 M1 =>
  if x2 = 0 then
    some (some (.inl (0)), GF, M1)
  else
    pr sc orc 44 F 11 [some (.inr (.inr 41)), some (.inl (1))] [] M1) := by
  rw [pr_st]; rfl
set_option maxRecDepth 20000 in
theorem sg_X4_readOuts_11 {sc : List Int} {orc : q_O} {M : q_M} {F : Nat} {b1 : Int} : pr sc orc 44 (F + 1) 11 [some (.inr (.inr 41)), some (.inl (b1))] [] M =
  if b1 < 4 then
    q_cI (orc 125 [.inr (.inr 11), .inl (44)] GF M) GF (fun x2 M1 =>
    if x2 = 0 then
      some (some (.inl (1)), GF, M1)
    else
      q_cI (orc 45 [.inr (.inr 41)] GF M1) GF (fun x4 M3 =>
      if x4 = 0 then
        some (some (.inl (0)), GF, M3)
      else
        pr sc orc 44 F 11 [some (.inr (.inr 41)), some (.inl (q_w (b1 + (1))))] [] M3))
  else
    some (some (.inl (1)), GF, M) := by
  rw [pr_st]; rfl
set_option maxRecDepth 20000 in
theorem sg_X4_readOut_0 {sc : List Int} {orc : q_O} {M : q_M} {F : Nat} : pr sc orc 45 (F + 1) 0 [some (.inr (.inr 41)), none, none, none] [] M =
  q_cI (orc 121 [.inr (.inr 11)] GF M) GF (fun x2 M1 =>
  if x2 = 266 then
    q_c0 (orc 124 [.inr (.inr 11)] GF M1) GF (fun M3 =>
    q_c0 (orc 65 [.inr (.inr 15), .inl (266), .inl ((-1))] GF M3) GF (fun M4 =>
    some (some (.inl (1)), GF, M4)))
  else
    if x2 = 267 then
      pr sc orc 45 F 62 [some (.inr (.inr 41)), some (.inl (x2)), some (.inl (1)), none] [] M1
    else
      if x2 = 268 then
        pr sc orc 45 F 62 [some (.inr (.inr 41)), some (.inl (x2)), some (.inl (1)), none] [] M1
      else
        if x2 = 269 then
          pr sc orc 45 F 62 [some (.inr (.inr 41)), some (.inl (x2)), some (.inl (1)), none] [] M1
        else
          pr sc orc 45 F 62 [some (.inr (.inr 41)), some (.inl (x2)), some (.inl (0)), none] [] M1) := by
  rw [pr_st]; rfl
set_option maxRecDepth 20000 in
theorem sg_X4_readOut_62 {sc : List Int} {orc : q_O} {M : q_M} {F : Nat} {b1 b2 : Int} : pr sc orc 45 (F + 1) 62 [some (.inr (.inr 41)), some (.inl (b1)), some (.inl (b2)), none] [] M =
  if b2 = 0 then
    q_cI (orc 57 [.inr (.inr 41)] GF M) GF (fun x2 M1 =>
    if x2 = (-1) then
      some (some (.inl (0)), GF, M1)
    else
      if b2 = 0 then
        q_c0 (orc 65 [.inr (.inr 15), .inl (275), .inl (x2)] GF M1) GF (fun M3 =>
        if b2 = 0 then
          some (some (.inl (1)), GF, M3)
        else
          q_cI (orc 125 [.inr (.inr 11), .inl (41)] GF M3) GF (fun x5 M4 =>
          if x5 = 0 then
            some (some (.inl (0)), GF, M4)
          else
            some (some (.inl (1)), GF, M4)))
      else
        q_c0 (orc 65 [.inr (.inr 15), .inl (b1), .inl (x2)] GF M1) GF (fun M6 =>
        if b2 = 0 then
          some (some (.inl (1)), GF, M6)
        else
          q_cI (orc 125 [.inr (.inr 11), .inl (41)] GF M6) GF (fun x8 M7 =>
          if x8 = 0 then
            some (some (.inl (0)), GF, M7)
          else
            some (some (.inl (1)), GF, M7))))
  else
    q_c0 (orc 124 [.inr (.inr 11)] GF M) GF (fun M9 =>
    q_cI (orc 125 [.inr (.inr 11), .inl (40)] GF M9) GF (fun x11 M10 =>
    if x11 = 0 then
      some (some (.inl (0)), GF, M10)
    else
      q_cI (orc 57 [.inr (.inr 41)] GF M10) GF (fun x13 M12 =>
      if x13 = (-1) then
        some (some (.inl (0)), GF, M12)
      else
        if b2 = 0 then
          q_c0 (orc 65 [.inr (.inr 15), .inl (275), .inl (x13)] GF M12) GF (fun M14 =>
          if b2 = 0 then
            some (some (.inl (1)), GF, M14)
          else
            q_cI (orc 125 [.inr (.inr 11), .inl (41)] GF M14) GF (fun x16 M15 =>
            if x16 = 0 then
              some (some (.inl (0)), GF, M15)
            else
              some (some (.inl (1)), GF, M15)))
        else
          q_c0 (orc 65 [.inr (.inr 15), .inl (b1), .inl (x13)] GF M12) GF (fun M17 =>
          if b2 = 0 then
            some (some (.inl (1)), GF, M17)
          else
            q_cI (orc 125 [.inr (.inr 11), .inl (41)] GF M17) GF (fun x19 M18 =>
            if x19 = 0 then
              some (some (.inl (0)), GF, M18)
            else
              some (some (.inl (1)), GF, M18)))))) := by
  rw [pr_st]; rfl
set_option maxRecDepth 20000 in
theorem sg_X4_readItem_0 {sc : List Int} {orc : q_O} {M : q_M} {F : Nat} {a1 : Int} : pr sc orc 46 (F + 1) 0 [some (.inr (.inr 41)), some (.inl (a1)), none, none, none] [] M =
  q_cI (orc 121 [.inr (.inr 11)] GF M) GF (fun x2 M1 =>
  q_cI (orc 122 [.inr (.inr 11)] GF M1) GF (fun x4 M3 =>
  if (q_w (x2 - 84)) < 0 then
    some (some (.inl (0)), GF, M3)
  else
    if (q_w (x2 - 84)) < 3 then
      q_c0 (orc 124 [.inr (.inr 11)] GF M3) GF (fun M5 =>
      q_cI (orc 121 [.inr (.inr 11)] GF M5) GF (fun x7 M6 =>
      q_cI (orc 58 [.inl (x7)] GF M6) GF (fun x9 M8 =>
      if x9 = 0 then
        some (some (.inl (0)), GF, M8)
      else
        q_cI (orc 122 [.inr (.inr 11)] GF M8) GF (fun x11 M10 =>
        q_c0 (orc 64 [.inr (.inr 15), .inl (q_w (x2 - 84)), .inl (x4), .inl (x7), .inl (x11), .inl (a1)] GF M10) GF (fun M12 =>
        q_c0 (orc 124 [.inr (.inr 11)] GF M12) GF (fun M13 =>
        some (some (.inl (1)), GF, M13)))))))
    else
      some (some (.inl (0)), GF, M3))) := by
  rw [pr_st]; rfl
set_option maxRecDepth 20000 in
theorem sg_X4_readJoined_0 {sc : List Int} {orc : q_O} {M : q_M} {F : Nat} : pr sc orc 47 (F + 1) 0 [some (.inr (.inr 41)), none, none] [] M =
  pr sc orc 47 F 2 [some (.inr (.inr 41)), some (.inl (1)), none] [] M := by
  rw [pr_st]; rfl
set_option maxRecDepth 20000 in
theorem sg_X4_readJoined_2 {sc : List Int} {orc : q_O} {M : q_M} {F : Nat} {b1 : Int} : pr sc orc 47 (F + 1) 2 [some (.inr (.inr 41)), some (.inl (b1)), none] [] M =
  if b1 < 3 then
    q_cI (orc 121 [.inr (.inr 11)] GF M) GF (fun x2 M1 =>
    if x2 = 261 then
      q_c0 (orc 124 [.inr (.inr 11)] GF M1) GF (fun M3 =>
      if x2 = 262 then
        q_cI (orc 46 [.inr (.inr 41), .inl (1)] GF (q_up M3 41 4 b1)) GF (fun x11 M10 =>
        if x11 = 0 then
          some (some (.inl (0)), GF, M10)
        else
          q_cI (orc 125 [.inr (.inr 11), .inl (263)] GF M10) GF (fun x13 M12 =>
          if x13 = 0 then
            some (some (.inl (0)), GF, M12)
          else
            q_cI (orc 50 [.inr (.inr 41), .inl (0)] GF M12) GF (fun x15 M14 =>
            if x15 = 0 then
              some (some (.inl (0)), GF, M14)
            else
              pr sc orc 47 F 2 [some (.inr (.inr 41)), some (.inl (q_w (b1 + (1)))), none] [] M14)))
      else
        q_cI (orc 46 [.inr (.inr 41), .inl (0)] GF (q_up M3 41 4 b1)) GF (fun x5 M4 =>
        if x5 = 0 then
          some (some (.inl (0)), GF, M4)
        else
          q_cI (orc 125 [.inr (.inr 11), .inl (263)] GF M4) GF (fun x7 M6 =>
          if x7 = 0 then
            some (some (.inl (0)), GF, M6)
          else
            q_cI (orc 50 [.inr (.inr 41), .inl (0)] GF M6) GF (fun x9 M8 =>
            if x9 = 0 then
              some (some (.inl (0)), GF, M8)
            else
              pr sc orc 47 F 2 [some (.inr (.inr 41)), some (.inl (q_w (b1 + (1)))), none] [] M8))))
    else
      if x2 = 262 then
        q_c0 (orc 124 [.inr (.inr 11)] GF M1) GF (fun M16 =>
        if x2 = 262 then
          q_cI (orc 46 [.inr (.inr 41), .inl (1)] GF (q_up M16 41 4 b1)) GF (fun x24 M23 =>
          if x24 = 0 then
            some (some (.inl (0)), GF, M23)
          else
            q_cI (orc 125 [.inr (.inr 11), .inl (263)] GF M23) GF (fun x26 M25 =>
            if x26 = 0 then
              some (some (.inl (0)), GF, M25)
            else
              q_cI (orc 50 [.inr (.inr 41), .inl (0)] GF M25) GF (fun x28 M27 =>
              if x28 = 0 then
                some (some (.inl (0)), GF, M27)
              else
                pr sc orc 47 F 2 [some (.inr (.inr 41)), some (.inl (q_w (b1 + (1)))), none] [] M27)))
        else
          q_cI (orc 46 [.inr (.inr 41), .inl (0)] GF (q_up M16 41 4 b1)) GF (fun x18 M17 =>
          if x18 = 0 then
            some (some (.inl (0)), GF, M17)
          else
            q_cI (orc 125 [.inr (.inr 11), .inl (263)] GF M17) GF (fun x20 M19 =>
            if x20 = 0 then
              some (some (.inl (0)), GF, M19)
            else
              q_cI (orc 50 [.inr (.inr 41), .inl (0)] GF M19) GF (fun x22 M21 =>
              if x22 = 0 then
                some (some (.inl (0)), GF, M21)
              else
                pr sc orc 47 F 2 [some (.inr (.inr 41)), some (.inl (q_w (b1 + (1)))), none] [] M21))))
      else
        some (some (.inl (1)), GF, (q_up M1 41 4 3)))
  else
    some (some (.inl (1)), GF, (q_up M 41 4 3)) := by
  rw [pr_st]; rfl
set_option maxRecDepth 20000 in
theorem sg_X4_readWhere_0 {sc : List Int} {orc : q_O} {M : q_M} {F : Nat} : pr sc orc 48 (F + 1) 0 [some (.inr (.inr 41))] [] M =
  q_cI (orc 125 [.inr (.inr 11), .inl (264)] GF M) GF (fun x2 M1 =>
  if x2 = 0 then
    some (some (.inl (1)), GF, M1)
  else
    q_cI (orc 50 [.inr (.inr 41), .inl (0)] GF M1) GF (fun x4 M3 =>
    if x4 = 0 then
      some (some (.inl (0)), GF, M3)
    else
      some (some (.inl (1)), GF, M3))) := by
  rw [pr_st]; rfl
set_option maxRecDepth 20000 in
theorem sg_X4_readGroup_0 {sc : List Int} {orc : q_O} {M : q_M} {F : Nat} : pr sc orc 49 (F + 1) 0 [some (.inr (.inr 41)), none, none] [] M =
  q_cI (orc 125 [.inr (.inr 11), .inl (265)] GF M) GF (fun x2 M1 =>
  if x2 = 0 then
    some (some (.inl (1)), GF, M1)
  else
    pr sc orc 49 F 17 [some (.inr (.inr 41)), some (.inl (1)), none] [] M1) := by
  rw [pr_st]; rfl
set_option maxRecDepth 20000 in
theorem sg_X4_readGroup_17 {sc : List Int} {orc : q_O} {M : q_M} {F : Nat} {b1 : Int} : pr sc orc 49 (F + 1) 17 [some (.inr (.inr 41)), some (.inl (b1)), none] [] M =
  if 3 < b1 then
    some (some (.inl (1)), GF, M)
  else
    q_cI (orc 57 [.inr (.inr 41)] GF M) GF (fun x2 M1 =>
    if x2 = (-1) then
      some (some (.inl (0)), GF, M1)
    else
      q_c0 (orc 66 [.inr (.inr 15), .inl (x2)] GF M1) GF (fun M3 =>
      if b1 = 3 then
        some (some (.inl (1)), GF, M3)
      else
        q_cI (orc 125 [.inr (.inr 11), .inl (44)] GF M3) GF (fun x5 M4 =>
        if x5 = 0 then
          some (some (.inl (1)), GF, M4)
        else
          pr sc orc 49 F 17 [some (.inr (.inr 41)), some (.inl (q_w (b1 + (1)))), none] [] M4))) := by
  rw [pr_st]; rfl
set_option maxRecDepth 20000 in
theorem sg_X4_readCondition_0 {sc : List Int} {orc : q_O} {M : q_M} {F : Nat} {a1 : Int} : pr sc orc 50 (F + 1) 0 [some (.inr (.inr 41)), some (.inl (a1)), none, none, none] [] M =
  q_cI (orc 84 [.inr (.inr 24)] GF M) GF (fun x2 M1 =>
  q_cI (orc 85 [.inr (.inr 24)] GF M1) GF (fun x4 M3 =>
  q_cI (orc 51 [.inr (.inr 41), .inl (a1)] GF M3) GF (fun x6 M5 =>
  if x6 = 0 then
    some (some (.inl (0)), GF, M5)
  else
    pr sc orc 50 F 29 [some (.inr (.inr 41)), some (.inl (a1)), some (.inl (x2)), some (.inl (x4)), some (.inl (0))] [] M5))) := by
  rw [pr_st]; rfl
set_option maxRecDepth 20000 in
theorem sg_X4_readCondition_29 {sc : List Int} {orc : q_O} {M : q_M} {F : Nat} {b1 b2 b3 b4 : Int} : pr sc orc 50 (F + 1) 29 [some (.inr (.inr 41)), some (.inl (b1)), some (.inl (b2)), some (.inl (b3)), some (.inl (b4))] [] M =
  if b4 < 130 then
    q_cI (orc 121 [.inr (.inr 11)] GF M) GF (fun x2 M1 =>
    if x2 = 270 then
      q_c0 (orc 124 [.inr (.inr 11)] GF M1) GF (fun M3 =>
      q_cI (orc 51 [.inr (.inr 41), .inl (b1)] GF M3) GF (fun x5 M4 =>
      if x5 = 0 then
        some (some (.inl (0)), GF, M4)
      else
        q_c0 (orc 86 [.inr (.inr 24), .inl (270), .inl ((-1)), .inl ((-1))] GF M4) GF (fun M6 =>
        q_c0 (orc 53 [.inr (.inr 41), .inl (b1), .inl (b3), .inl (b2)] GF M6) GF (fun M7 =>
        pr sc orc 50 F 29 [some (.inr (.inr 41)), some (.inl (b1)), some (.inl (b2)), some (.inl (b3)), some (.inl (q_w (b4 + (1))))] [] M7))))
    else
      some (some (.inl (1)), GF, M1))
  else
    some (some (.inl (1)), GF, M) := by
  rw [pr_st]; rfl
set_option maxRecDepth 20000 in
theorem sg_X4_readConjunction_0 {sc : List Int} {orc : q_O} {M : q_M} {F : Nat} {a1 : Int} : pr sc orc 51 (F + 1) 0 [some (.inr (.inr 41)), some (.inl (a1)), none] [] M =
  q_cI (orc 52 [.inr (.inr 41), .inl (a1)] GF M) GF (fun x2 M1 =>
  if x2 = 0 then
    some (some (.inl (0)), GF, M1)
  else
    pr sc orc 51 F 12 [some (.inr (.inr 41)), some (.inl (a1)), some (.inl (0))] [] M1) := by
  rw [pr_st]; rfl
set_option maxRecDepth 20000 in
theorem sg_X4_readConjunction_12 {sc : List Int} {orc : q_O} {M : q_M} {F : Nat} {b1 b2 : Int} : pr sc orc 51 (F + 1) 12 [some (.inr (.inr 41)), some (.inl (b1)), some (.inl (b2))] [] M =
  if b2 < 130 then
    q_cI (orc 121 [.inr (.inr 11)] GF M) GF (fun x2 M1 =>
    if x2 = 271 then
      q_c0 (orc 124 [.inr (.inr 11)] GF M1) GF (fun M3 =>
      q_cI (orc 52 [.inr (.inr 41), .inl (b1)] GF M3) GF (fun x5 M4 =>
      if x5 = 0 then
        some (some (.inl (0)), GF, M4)
      else
        q_c0 (orc 86 [.inr (.inr 24), .inl (271), .inl ((-1)), .inl ((-1))] GF M4) GF (fun M6 =>
        pr sc orc 51 F 12 [some (.inr (.inr 41)), some (.inl (b1)), some (.inl (q_w (b2 + (1))))] [] M6)))
    else
      some (some (.inl (1)), GF, M1))
  else
    some (some (.inl (1)), GF, M) := by
  rw [pr_st]; rfl
set_option maxRecDepth 20000 in
theorem sg_X4_readPart_0 {sc : List Int} {orc : q_O} {M : q_M} {F : Nat} {a1 : Int} : pr sc orc 52 (F + 1) 0 [some (.inr (.inr 41)), some (.inl (a1)), none] [] M =
  q_cI (orc 84 [.inr (.inr 24)] GF M) GF (fun x2 M1 =>
  q_cI (orc 54 [.inr (.inr 41), .inl (a1)] GF M1) GF (fun x4 M3 =>
  if x4 = 0 then
    some (some (.inl (0)), GF, M3)
  else
    q_cI (orc 85 [.inr (.inr 24)] GF M3) GF (fun x6 M5 =>
    q_c0 (orc 53 [.inr (.inr 41), .inl (a1), .inl (x6), .inl (x2)] GF M5) GF (fun M7 =>
    some (some (.inl (1)), GF, M7))))) := by
  rw [pr_st]; rfl
set_option maxRecDepth 20000 in
theorem sg_X4_notePart_0 {sc : List Int} {orc : q_O} {M : q_M} {F : Nat} {a1 a2 a3 : Int} : pr sc orc 53 (F + 1) 0 [some (.inr (.inr 41)), some (.inl (a1)), some (.inl (a2)), some (.inl (a3))] [] M =
  if a1 = 0 then
    if (M 41 4) = 3 then
      q_c0 (orc 87 [.inr (.inr 24), .inl (a2), .inl (a3), .inl (M 41 4), .inl (1)] GF M) GF (fun M2 =>
      some (none, GF, M2))
    else
      q_c0 (orc 87 [.inr (.inr 24), .inl (a2), .inl (a3), .inl (M 41 4), .inl (0)] GF M) GF (fun M1 =>
      some (none, GF, M1))
  else
    some (none, GF, M) := by
  rw [pr_st]; rfl
set_option maxRecDepth 20000 in
theorem sg_X4_readTest_0 {sc : List Int} {orc : q_O} {M : q_M} {F : Nat} {a1 : Int} : pr sc orc 54 (F + 1) 0 [some (.inr (.inr 41)), some (.inl (a1)), none] [] M =
  q_cI (orc 121 [.inr (.inr 11)] GF M) GF (fun x2 M1 =>
  if x2 = 272 then
    if a1 < 4 then
      q_c0 (orc 124 [.inr (.inr 11)] GF M1) GF (fun M3 =>
      if x2 = 40 then
        q_cI (orc 50 [.inr (.inr 41), .inl (q_w (a1 + 1))] GF M3) GF (fun x8 M7 =>
        if x8 = 0 then
          some (some (.inl (0)), GF, M7)
        else
          q_cI (orc 125 [.inr (.inr 11), .inl (41)] GF M7) GF (fun x10 M9 =>
          if x10 = 0 then
            some (some (.inl (0)), GF, M9)
          else
            some (some (.inl (1)), GF, M9)))
      else
        q_cI (orc 54 [.inr (.inr 41), .inl (q_w (a1 + 1))] GF M3) GF (fun x5 M4 =>
        if x5 = 0 then
          some (some (.inl (0)), GF, M4)
        else
          q_c0 (orc 86 [.inr (.inr 24), .inl (272), .inl ((-1)), .inl ((-1))] GF M4) GF (fun M6 =>
          some (some (.inl (1)), GF, M6))))
    else
      some (some (.inl (0)), GF, M1)
  else
    if x2 = 40 then
      if a1 < 4 then
        q_c0 (orc 124 [.inr (.inr 11)] GF M1) GF (fun M11 =>
        if x2 = 40 then
          q_cI (orc 50 [.inr (.inr 41), .inl (q_w (a1 + 1))] GF M11) GF (fun x16 M15 =>
          if x16 = 0 then
            some (some (.inl (0)), GF, M15)
          else
            q_cI (orc 125 [.inr (.inr 11), .inl (41)] GF M15) GF (fun x18 M17 =>
            if x18 = 0 then
              some (some (.inl (0)), GF, M17)
            else
              some (some (.inl (1)), GF, M17)))
        else
          q_cI (orc 54 [.inr (.inr 41), .inl (q_w (a1 + 1))] GF M11) GF (fun x13 M12 =>
          if x13 = 0 then
            some (some (.inl (0)), GF, M12)
          else
            q_c0 (orc 86 [.inr (.inr 24), .inl (272), .inl ((-1)), .inl ((-1))] GF M12) GF (fun M14 =>
            some (some (.inl (1)), GF, M14))))
      else
        some (some (.inl (0)), GF, M1)
    else
      q_cI (orc 55 [.inr (.inr 41)] GF M1) GF (fun x20 M19 =>
      if x20 = 0 ∨ x20 = 1 then some (some (.inl (x20)), GF, M19) else none)) := by
  rw [pr_st]; rfl
set_option maxRecDepth 20000 in
theorem sg_X4_readComparison_0 {sc : List Int} {orc : q_O} {M : q_M} {F : Nat} : pr sc orc 55 (F + 1) 0 [some (.inr (.inr 41)), none, none, none] [] M =
  q_cI (orc 56 [.inr (.inr 41)] GF M) GF (fun x2 M1 =>
  if x2 = (-1) then
    some (some (.inl (0)), GF, M1)
  else
    q_cI (orc 121 [.inr (.inr 11)] GF M1) GF (fun x4 M3 =>
    if x4 = 273 then
      q_c0 (orc 124 [.inr (.inr 11)] GF M3) GF (fun M5 =>
      if x4 = 273 then
        q_c0 (orc 86 [.inr (.inr 24), .inl (273), .inl (x2), .inl ((-1))] GF M5) GF (fun M9 =>
        q_cI (orc 125 [.inr (.inr 11), .inl (274)] GF M9) GF (fun x11 M10 =>
        if x11 = 0 ∨ x11 = 1 then some (some (.inl (x11)), GF, M10) else none))
      else
        q_cI (orc 56 [.inr (.inr 41)] GF M5) GF (fun x7 M6 =>
        q_c0 (orc 86 [.inr (.inr 24), .inl (x4), .inl (x2), .inl (x7)] GF M6) GF (fun M8 =>
        if x7 = (-1) then
          some (some (.inl (0)), GF, M8)
        else
          some (some (.inl (1)), GF, M8))))
    else
      if x4 = 61 then
        q_c0 (orc 124 [.inr (.inr 11)] GF M3) GF (fun M12 =>
        if x4 = 273 then
          q_c0 (orc 86 [.inr (.inr 24), .inl (273), .inl (x2), .inl ((-1))] GF M12) GF (fun M16 =>
          q_cI (orc 125 [.inr (.inr 11), .inl (274)] GF M16) GF (fun x18 M17 =>
          if x18 = 0 ∨ x18 = 1 then some (some (.inl (x18)), GF, M17) else none))
        else
          q_cI (orc 56 [.inr (.inr 41)] GF M12) GF (fun x14 M13 =>
          q_c0 (orc 86 [.inr (.inr 24), .inl (x4), .inl (x2), .inl (x14)] GF M13) GF (fun M15 =>
          if x14 = (-1) then
            some (some (.inl (0)), GF, M15)
          else
            some (some (.inl (1)), GF, M15))))
      else
        if x4 = 60 then
          q_c0 (orc 124 [.inr (.inr 11)] GF M3) GF (fun M19 =>
          if x4 = 273 then
            q_c0 (orc 86 [.inr (.inr 24), .inl (273), .inl (x2), .inl ((-1))] GF M19) GF (fun M23 =>
            q_cI (orc 125 [.inr (.inr 11), .inl (274)] GF M23) GF (fun x25 M24 =>
            if x25 = 0 ∨ x25 = 1 then some (some (.inl (x25)), GF, M24) else none))
          else
            q_cI (orc 56 [.inr (.inr 41)] GF M19) GF (fun x21 M20 =>
            q_c0 (orc 86 [.inr (.inr 24), .inl (x4), .inl (x2), .inl (x21)] GF M20) GF (fun M22 =>
            if x21 = (-1) then
              some (some (.inl (0)), GF, M22)
            else
              some (some (.inl (1)), GF, M22))))
        else
          if x4 = 62 then
            q_c0 (orc 124 [.inr (.inr 11)] GF M3) GF (fun M26 =>
            if x4 = 273 then
              q_c0 (orc 86 [.inr (.inr 24), .inl (273), .inl (x2), .inl ((-1))] GF M26) GF (fun M30 =>
              q_cI (orc 125 [.inr (.inr 11), .inl (274)] GF M30) GF (fun x32 M31 =>
              if x32 = 0 ∨ x32 = 1 then some (some (.inl (x32)), GF, M31) else none))
            else
              q_cI (orc 56 [.inr (.inr 41)] GF M26) GF (fun x28 M27 =>
              q_c0 (orc 86 [.inr (.inr 24), .inl (x4), .inl (x2), .inl (x28)] GF M27) GF (fun M29 =>
              if x28 = (-1) then
                some (some (.inl (0)), GF, M29)
              else
                some (some (.inl (1)), GF, M29))))
          else
            some (some (.inl (0)), GF, M3))) := by
  rw [pr_st]; rfl
