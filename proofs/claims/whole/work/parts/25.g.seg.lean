set_option maxRecDepth 20000 in
theorem sg_X12_spot_0 {sc : List Int} {orc : q_O} {M : q_M} {F : Nat} {a1 : Int} : pr sc orc 179 (F + 1) 0 [some (.inr (.inr 49)), some (.inl (a1)), none] [] M =
  if 0 ≤ a1 ∧ a1 < ((132 : Nat) : Int) then
  if (M 49 12) = 0 then
    some (none, GF, (q_up (q_up M 49 13 (M 59 (a1 : Int).toNat)) 49 12 1))
  else
    if (M 59 (a1 : Int).toNat) < (M 49 13) then
      some (none, GF, (q_up (q_up M 49 13 (M 59 (a1 : Int).toNat)) 49 12 1))
    else
      some (none, GF, (q_up M 49 12 1))
  else none := by
  rw [pr_st]; rfl
set_option maxRecDepth 20000 in
theorem sg_X12_itemOf_0 {sc : List Int} {orc : q_O} {M : q_M} {F : Nat} {a1 : Int} : pr sc orc 180 (F + 1) 0 [some (.inr (.inr 49)), some (.inl (a1)), none] [] M =
  pr sc orc 180 F 2 [some (.inr (.inr 49)), some (.inl (a1)), some (.inl (0))] [] M := by
  rw [pr_st]; rfl
set_option maxRecDepth 20000 in
theorem sg_X12_itemOf_2 {sc : List Int} {orc : q_O} {M : q_M} {F : Nat} {b1 b2 : Int} : pr sc orc 180 (F + 1) 2 [some (.inr (.inr 49)), some (.inl (b1)), some (.inl (b2))] [] M =
  if b2 < (M 49 26) then
    if 0 ≤ b2 ∧ b2 < ((4 : Nat) : Int) then
    if 0 ≤ q_w (M 65 (b2 : Int).toNat + 1) ∧ q_w (M 65 (b2 : Int).toNat + 1) < ((132 : Nat) : Int) then
    if 0 ≤ b1 ∧ b1 < ((132 : Nat) : Int) then
    if (M 58 (q_w (M 65 (b2 : Int).toNat + 1) : Int).toNat) = (M 58 (b1 : Int).toNat) then
      some (some (.inl (b2)), GF, M)
    else
      pr sc orc 180 F 2 [some (.inr (.inr 49)), some (.inl (b1)), some (.inl (q_w (b2 + (1))))] [] M
    else none
    else none
    else none
  else
    some (some (.inl ((-1))), GF, M) := by
  rw [pr_st]; rfl
set_option maxRecDepth 20000 in
theorem sg_X12_columnOf_0 {sc : List Int} {orc : q_O} {M : q_M} {F : Nat} {a1 : Int} : pr sc orc 181 (F + 1) 0 [some (.inr (.inr 49)), some (.inl (a1))] [] M =
  if 0 ≤ q_w (a1 + 2) ∧ q_w (a1 + 2) < ((132 : Nat) : Int) then
  some (some (.inl (q_w (M 58 (q_w (a1 + 2) : Int).toNat - 230))), GF, M)
  else none := by
  rw [pr_st]; rfl
set_option maxRecDepth 20000 in
theorem sg_X12_checkColumn_0 {sc : List Int} {orc : q_O} {M : q_M} {F : Nat} {a1 a2 : Int} : pr sc orc 182 (F + 1) 0 [some (.inr (.inr 49)), some (.inl (a1)), some (.inl (a2)), none] [] M =
  q_cI (orc 180 [.inr (.inr 49), .inl (a1)] GF M) GF (fun x2 M1 =>
  if x2 < 0 then
    q_c0 (orc 179 [.inr (.inr 49), .inl (a1)] GF M1) GF (fun M7 =>
    some (none, GF, M7))
  else
    if a2 < x2 then
      q_c0 (orc 179 [.inr (.inr 49), .inl (a1)] GF M1) GF (fun M3 =>
      some (none, GF, M3))
    else
      q_cI (orc 181 [.inr (.inr 49), .inl (a1)] GF M1) GF (fun x5 M4 =>
      if 0 ≤ x2 ∧ x2 < ((4 : Nat) : Int) then
      if 0 ≤ M4 64 (x2 : Int).toNat ∧ M4 64 (x2 : Int).toNat < ((3 : Nat) : Int) then
      if x5 < (M4 51 (M4 64 (x2 : Int).toNat : Int).toNat) then
        some (none, GF, M4)
      else
        q_c0 (orc 179 [.inr (.inr 49), .inl (a1)] GF M4) GF (fun M6 =>
        some (none, GF, M6))
      else none
      else none)) := by
  rw [pr_st]; rfl
set_option maxRecDepth 20000 in
theorem sg_X12_checkRange_0 {sc : List Int} {orc : q_O} {M : q_M} {F : Nat} {a1 a2 a3 : Int} : pr sc orc 183 (F + 1) 0 [some (.inr (.inr 49)), some (.inl (a1)), some (.inl (a2)), some (.inl (a3)), none] [] M =
  pr sc orc 183 F 3 [some (.inr (.inr 49)), none, some (.inl (a2)), some (.inl (a3)), some (.inl (a1))] [] M := by
  rw [pr_st]; rfl
set_option maxRecDepth 20000 in
theorem sg_X12_checkRange_3 {sc : List Int} {orc : q_O} {M : q_M} {F : Nat} {b2 b3 b4 : Int} : pr sc orc 183 (F + 1) 3 [some (.inr (.inr 49)), none, some (.inl (b2)), some (.inl (b3)), some (.inl (b4))] [] M =
  if b4 < b2 then
    if 0 ≤ b4 ∧ b4 < ((132 : Nat) : Int) then
    q_cI (orc 168 [.inl (M 58 (b4 : Int).toNat), .inl (220), .inl (4)] GF M) GF (fun x2 M1 =>
    if x2 = 0 then
      pr sc orc 183 F 3 [some (.inr (.inr 49)), none, some (.inl (b2)), some (.inl (b3)), some (.inl (q_w (b4 + (1))))] [] M1
    else
      q_c0 (orc 182 [.inr (.inr 49), .inl (b4), .inl (b3)] GF M1) GF (fun M3 =>
      pr sc orc 183 F 3 [some (.inr (.inr 49)), none, some (.inl (b2)), some (.inl (b3)), some (.inl (q_w (b4 + (1))))] [] M3))
    else none
  else
    some (none, GF, M) := by
  rw [pr_st]; rfl
set_option maxRecDepth 20000 in
theorem sg_X12_isGrouped_0 {sc : List Int} {orc : q_O} {M : q_M} {F : Nat} {a1 : Int} : pr sc orc 184 (F + 1) 0 [some (.inr (.inr 49)), some (.inl (a1)), none, none] [] M =
  pr sc orc 184 F 4 [some (.inr (.inr 49)), some (.inl (a1)), some (.inl (0)), some (.inl (0))] [] M := by
  rw [pr_st]; rfl
set_option maxRecDepth 20000 in
theorem sg_X12_isGrouped_4 {sc : List Int} {orc : q_O} {M : q_M} {F : Nat} {b1 b2 b3 : Int} : pr sc orc 184 (F + 1) 4 [some (.inr (.inr 49)), some (.inl (b1)), some (.inl (b2)), some (.inl (b3))] [] M =
  if b3 < (M 49 34) then
    if b2 = 0 then
      if 0 ≤ b3 ∧ b3 < ((4 : Nat) : Int) then
      q_cI (orc 180 [.inr (.inr 49), .inl (M 69 (b3 : Int).toNat)] GF M) GF (fun x2 M1 =>
      q_cI (orc 180 [.inr (.inr 49), .inl (b1)] GF M1) GF (fun x4 M3 =>
      if x2 = x4 then
        if 0 ≤ b3 ∧ b3 < ((4 : Nat) : Int) then
        q_cI (orc 181 [.inr (.inr 49), .inl (M3 69 (b3 : Int).toNat)] GF M3) GF (fun x6 M5 =>
        q_cI (orc 181 [.inr (.inr 49), .inl (b1)] GF M5) GF (fun x8 M7 =>
        if x6 = x8 then
          pr sc orc 184 F 4 [some (.inr (.inr 49)), some (.inl (b1)), some (.inl (1)), some (.inl (q_w (b3 + (1))))] [] M7
        else
          pr sc orc 184 F 4 [some (.inr (.inr 49)), some (.inl (b1)), some (.inl (0)), some (.inl (q_w (b3 + (1))))] [] M7))
        else none
      else
        pr sc orc 184 F 4 [some (.inr (.inr 49)), some (.inl (b1)), some (.inl (0)), some (.inl (q_w (b3 + (1))))] [] M3))
      else none
    else
      pr sc orc 184 F 4 [some (.inr (.inr 49)), some (.inl (b1)), some (.inl (1)), some (.inl (q_w (b3 + (1))))] [] M
  else
    if b2 = 0 ∨ b2 = 1 then some (some (.inl (b2)), GF, M) else none := by
  rw [pr_st]; rfl
set_option maxRecDepth 20000 in
theorem sg_X12_checkAll_0 {sc : List Int} {orc : q_O} {M : q_M} {F : Nat} : pr sc orc 185 (F + 1) 0 [some (.inr (.inr 49)), none] [] M =
  if 0 < (M 49 34) then
    pr sc orc 185 F 18 [some (.inr (.inr 49)), some (.inl (0))] [] (q_up M 49 40 1)
  else
    pr sc orc 185 F 18 [some (.inr (.inr 49)), some (.inl (0))] [] (q_up M 49 40 0) := by
  rw [pr_st]; rfl
set_option maxRecDepth 20000 in
theorem sg_X12_checkAll_18 {sc : List Int} {orc : q_O} {M : q_M} {F : Nat} {b1 : Int} : pr sc orc 185 (F + 1) 18 [some (.inr (.inr 49)), some (.inl (b1))] [] M =
  if b1 < (M 49 23) then
    if (M 49 40) = 0 then
      if 0 ≤ b1 ∧ b1 < ((5 : Nat) : Int) then
      if (M 62 (b1 : Int).toNat) = 0 then
        pr sc orc 185 F 18 [some (.inr (.inr 49)), some (.inl (q_w (b1 + (1))))] [] (q_up M 49 40 0)
      else
        pr sc orc 185 F 18 [some (.inr (.inr 49)), some (.inl (q_w (b1 + (1))))] [] (q_up M 49 40 1)
      else none
    else
      pr sc orc 185 F 18 [some (.inr (.inr 49)), some (.inl (q_w (b1 + (1))))] [] (q_up M 49 40 1)
  else
    pr sc orc 185 F 59 [some (.inr (.inr 49)), some (.inl (0))] [] M := by
  rw [pr_st]; rfl
set_option maxRecDepth 20000 in
theorem sg_X12_checkAll_59 {sc : List Int} {orc : q_O} {M : q_M} {F : Nat} {b1 : Int} : pr sc orc 185 (F + 1) 59 [some (.inr (.inr 49)), some (.inl (b1))] [] M =
  if b1 < (M 49 23) then
    if 0 ≤ b1 ∧ b1 < ((5 : Nat) : Int) then
    if (M 62 (b1 : Int).toNat) = 207 then
      pr sc orc 185 F 59 [some (.inr (.inr 49)), some (.inl (q_w (b1 + (1))))] [] M
    else
      if 0 ≤ b1 ∧ b1 < ((5 : Nat) : Int) then
      q_c0 (orc 182 [.inr (.inr 49), .inl (M 63 (b1 : Int).toNat), .inl (M 49 26)] GF M) GF (fun M1 =>
      if (M1 49 40) = 0 then
        pr sc orc 185 F 59 [some (.inr (.inr 49)), some (.inl (q_w (b1 + (1))))] [] M1
      else
        if 0 ≤ b1 ∧ b1 < ((5 : Nat) : Int) then
        if (M1 62 (b1 : Int).toNat) = 0 then
          if 0 ≤ b1 ∧ b1 < ((5 : Nat) : Int) then
          q_cI (orc 184 [.inr (.inr 49), .inl (M1 63 (b1 : Int).toNat)] GF M1) GF (fun x3 M2 =>
          if x3 = 0 then
            if 0 ≤ b1 ∧ b1 < ((5 : Nat) : Int) then
            q_c0 (orc 179 [.inr (.inr 49), .inl (M2 63 (b1 : Int).toNat)] GF M2) GF (fun M4 =>
            pr sc orc 185 F 59 [some (.inr (.inr 49)), some (.inl (q_w (b1 + (1))))] [] M4)
            else none
          else
            pr sc orc 185 F 59 [some (.inr (.inr 49)), some (.inl (q_w (b1 + (1))))] [] M2)
          else none
        else
          pr sc orc 185 F 59 [some (.inr (.inr 49)), some (.inl (q_w (b1 + (1))))] [] M1
        else none)
      else none
    else none
  else
    pr sc orc 185 F 143 [some (.inr (.inr 49)), some (.inl (0))] [] M := by
  rw [pr_st]; rfl
set_option maxRecDepth 20000 in
theorem sg_X12_checkAll_143 {sc : List Int} {orc : q_O} {M : q_M} {F : Nat} {b1 : Int} : pr sc orc 185 (F + 1) 143 [some (.inr (.inr 49)), some (.inl (b1))] [] M =
  if b1 < (M 49 26) then
    if 0 ≤ b1 ∧ b1 < ((4 : Nat) : Int) then
    q_cI (orc 150 [.inr (.inr 49), .inl (M 64 (b1 : Int).toNat)] GF M) GF (fun x3 M2 =>
    if x3 = 0 then
      if 0 ≤ b1 ∧ b1 < ((4 : Nat) : Int) then
      q_c0 (orc 179 [.inr (.inr 49), .inl (M2 65 (b1 : Int).toNat)] GF M2) GF (fun M9 =>
      if 0 ≤ b1 ∧ b1 < ((4 : Nat) : Int) then
      q_cI (orc 180 [.inr (.inr 49), .inl (q_w (M9 65 (b1 : Int).toNat + 1))] GF M9) GF (fun x11 M10 =>
      if x11 < b1 then
        if 0 ≤ b1 ∧ b1 < ((4 : Nat) : Int) then
        q_c0 (orc 179 [.inr (.inr 49), .inl (q_w (M10 65 (b1 : Int).toNat + 1))] GF M10) GF (fun M13 =>
        if 0 < b1 then
          if 0 ≤ b1 ∧ b1 < ((4 : Nat) : Int) then
          if 0 ≤ b1 ∧ b1 < ((4 : Nat) : Int) then
          q_c0 (orc 183 [.inr (.inr 49), .inl (M13 67 (b1 : Int).toNat), .inl (M13 68 (b1 : Int).toNat), .inl (b1)] GF M13) GF (fun M14 =>
          pr sc orc 185 F 143 [some (.inr (.inr 49)), some (.inl (q_w (b1 + (1))))] [] M14)
          else none
          else none
        else
          pr sc orc 185 F 143 [some (.inr (.inr 49)), some (.inl (q_w (b1 + (1))))] [] M13)
        else none
      else
        if 0 < b1 then
          if 0 ≤ b1 ∧ b1 < ((4 : Nat) : Int) then
          if 0 ≤ b1 ∧ b1 < ((4 : Nat) : Int) then
          q_c0 (orc 183 [.inr (.inr 49), .inl (M10 67 (b1 : Int).toNat), .inl (M10 68 (b1 : Int).toNat), .inl (b1)] GF M10) GF (fun M12 =>
          pr sc orc 185 F 143 [some (.inr (.inr 49)), some (.inl (q_w (b1 + (1))))] [] M12)
          else none
          else none
        else
          pr sc orc 185 F 143 [some (.inr (.inr 49)), some (.inl (q_w (b1 + (1))))] [] M10)
      else none)
      else none
    else
      if 0 ≤ b1 ∧ b1 < ((4 : Nat) : Int) then
      q_cI (orc 180 [.inr (.inr 49), .inl (q_w (M2 65 (b1 : Int).toNat + 1))] GF M2) GF (fun x5 M4 =>
      if x5 < b1 then
        if 0 ≤ b1 ∧ b1 < ((4 : Nat) : Int) then
        q_c0 (orc 179 [.inr (.inr 49), .inl (q_w (M4 65 (b1 : Int).toNat + 1))] GF M4) GF (fun M7 =>
        if 0 < b1 then
          if 0 ≤ b1 ∧ b1 < ((4 : Nat) : Int) then
          if 0 ≤ b1 ∧ b1 < ((4 : Nat) : Int) then
          q_c0 (orc 183 [.inr (.inr 49), .inl (M7 67 (b1 : Int).toNat), .inl (M7 68 (b1 : Int).toNat), .inl (b1)] GF M7) GF (fun M8 =>
          pr sc orc 185 F 143 [some (.inr (.inr 49)), some (.inl (q_w (b1 + (1))))] [] M8)
          else none
          else none
        else
          pr sc orc 185 F 143 [some (.inr (.inr 49)), some (.inl (q_w (b1 + (1))))] [] M7)
        else none
      else
        if 0 < b1 then
          if 0 ≤ b1 ∧ b1 < ((4 : Nat) : Int) then
          if 0 ≤ b1 ∧ b1 < ((4 : Nat) : Int) then
          q_c0 (orc 183 [.inr (.inr 49), .inl (M4 67 (b1 : Int).toNat), .inl (M4 68 (b1 : Int).toNat), .inl (b1)] GF M4) GF (fun M6 =>
          pr sc orc 185 F 143 [some (.inr (.inr 49)), some (.inl (q_w (b1 + (1))))] [] M6)
          else none
          else none
        else
          pr sc orc 185 F 143 [some (.inr (.inr 49)), some (.inl (q_w (b1 + (1))))] [] M4)
      else none)
    else none
  else
    q_c0 (orc 183 [.inr (.inr 49), .inl (M 49 32), .inl (M 49 33), .inl (M 49 26)] GF M) GF (fun M1 =>
    pr sc orc 185 F 247 [some (.inr (.inr 49)), some (.inl (0))] [] M1) := by
  rw [pr_st]; rfl
set_option maxRecDepth 20000 in
theorem sg_X12_checkAll_247 {sc : List Int} {orc : q_O} {M : q_M} {F : Nat} {b1 : Int} : pr sc orc 185 (F + 1) 247 [some (.inr (.inr 49)), some (.inl (b1))] [] M =
  if b1 < (M 49 34) then
    if 0 ≤ b1 ∧ b1 < ((4 : Nat) : Int) then
    q_c0 (orc 182 [.inr (.inr 49), .inl (M 69 (b1 : Int).toNat), .inl (M 49 26)] GF M) GF (fun M1 =>
    pr sc orc 185 F 247 [some (.inr (.inr 49)), some (.inl (q_w (b1 + (1))))] [] M1)
    else none
  else
    some (none, GF, M) := by
  rw [pr_st]; rfl
set_option maxRecDepth 20000 in
theorem sg_X12_addPart_0 {sc : List Int} {orc : q_O} {M : q_M} {F : Nat} {a1 a2 : Int} : pr sc orc 186 (F + 1) 0 [some (.inr (.inr 49)), some (.inl (a1)), some (.inl (a2)), none, none] [] M =
  if 0 ≤ M 49 36 ∧ M 49 36 < ((40 : Nat) : Int) then
  if 0 ≤ M 49 36 ∧ M 49 36 < ((40 : Nat) : Int) then
  if 0 ≤ M 49 36 ∧ M 49 36 < ((40 : Nat) : Int) then
  pr sc orc 186 F 32 [some (.inr (.inr 49)), none, some (.inl (a2)), some (.inl (a1)), none] [] (q_up (q_up (q_up M 70 ((M 49 36 : Int).toNat) a1) 71 ((M 49 36 : Int).toNat) a2) 72 ((M 49 36 : Int).toNat) 0)
  else none
  else none
  else none := by
  rw [pr_st]; rfl
set_option maxRecDepth 20000 in
theorem sg_X12_addPart_32 {sc : List Int} {orc : q_O} {M : q_M} {F : Nat} {b2 b3 : Int} : pr sc orc 186 (F + 1) 32 [some (.inr (.inr 49)), none, some (.inl (b2)), some (.inl (b3)), none] [] M =
  if b3 < b2 then
    if 0 ≤ b3 ∧ b3 < ((132 : Nat) : Int) then
    q_cI (orc 168 [.inl (M 58 (b3 : Int).toNat), .inl (220), .inl (4)] GF M) GF (fun x2 M1 =>
    if x2 = 0 then
      pr sc orc 186 F 32 [some (.inr (.inr 49)), none, some (.inl (b2)), some (.inl (q_w (b3 + (1)))), none] [] M1
    else
      q_cI (orc 180 [.inr (.inr 49), .inl (b3)] GF M1) GF (fun x4 M3 =>
      if 0 ≤ M3 49 36 ∧ M3 49 36 < ((40 : Nat) : Int) then
      if (M3 72 (M3 49 36 : Int).toNat) < x4 then
        if 0 ≤ M3 49 36 ∧ M3 49 36 < ((40 : Nat) : Int) then
        pr sc orc 186 F 32 [some (.inr (.inr 49)), none, some (.inl (b2)), some (.inl (q_w (b3 + (1)))), none] [] (q_up M3 72 ((M3 49 36 : Int).toNat) x4)
        else none
      else
        if 0 ≤ M3 49 36 ∧ M3 49 36 < ((40 : Nat) : Int) then
        if 0 ≤ M3 49 36 ∧ M3 49 36 < ((40 : Nat) : Int) then
        pr sc orc 186 F 32 [some (.inr (.inr 49)), none, some (.inl (b2)), some (.inl (q_w (b3 + (1)))), none] [] (q_up M3 72 ((M3 49 36 : Int).toNat) (M3 72 (M3 49 36 : Int).toNat))
        else none
        else none
      else none))
    else none
  else
    some (none, GF, (q_up M 49 36 (q_w (M 49 36 + 1)))) := by
  rw [pr_st]; rfl
set_option maxRecDepth 20000 in
theorem sg_X12_findParts_0 {sc : List Int} {orc : q_O} {M : q_M} {F : Nat} : pr sc orc 187 (F + 1) 0 [some (.inr (.inr 49)), none, none, none, none] [] M =
  if (M 49 33) = (M 49 32) then
    some (none, GF, (q_up M 49 36 0))
  else
    pr sc orc 187 F 26 [some (.inr (.inr 49)), some (.inl (1)), some (.inl (0)), some (.inl (M 49 32)), none] [] (q_up M 49 36 0) := by
  rw [pr_st]; rfl
set_option maxRecDepth 20000 in
theorem sg_X12_findParts_26 {sc : List Int} {orc : q_O} {M : q_M} {F : Nat} {b1 b2 b3 : Int} : pr sc orc 187 (F + 1) 26 [some (.inr (.inr 49)), some (.inl (b1)), some (.inl (b2)), some (.inl (b3)), none] [] M =
  if b3 < (M 49 33) then
    if 0 ≤ b3 ∧ b3 < ((132 : Nat) : Int) then
    if (M 58 (b3 : Int).toNat) = 40 then
      if b1 = 0 then
        pr sc orc 187 F 26 [some (.inr (.inr 49)), some (.inl (0)), some (.inl (q_w (b2 + 1))), some (.inl (q_w (b3 + (1)))), none] [] M
      else
        if 0 < (q_w (b2 + 1)) then
          pr sc orc 187 F 26 [some (.inr (.inr 49)), some (.inl (1)), some (.inl (q_w (b2 + 1))), some (.inl (q_w (b3 + (1)))), none] [] M
        else
          if 0 ≤ b3 ∧ b3 < ((132 : Nat) : Int) then
          if (M 58 (b3 : Int).toNat) = 211 then
            pr sc orc 187 F 26 [some (.inr (.inr 49)), some (.inl (0)), some (.inl (q_w (b2 + 1))), some (.inl (q_w (b3 + (1)))), none] [] M
          else
            pr sc orc 187 F 26 [some (.inr (.inr 49)), some (.inl (1)), some (.inl (q_w (b2 + 1))), some (.inl (q_w (b3 + (1)))), none] [] M
          else none
    else
      if 0 ≤ b3 ∧ b3 < ((132 : Nat) : Int) then
      if (M 58 (b3 : Int).toNat) = 41 then
        if b1 = 0 then
          pr sc orc 187 F 26 [some (.inr (.inr 49)), some (.inl (0)), some (.inl (q_w (b2 - 1))), some (.inl (q_w (b3 + (1)))), none] [] M
        else
          if 0 < (q_w (b2 - 1)) then
            pr sc orc 187 F 26 [some (.inr (.inr 49)), some (.inl (1)), some (.inl (q_w (b2 - 1))), some (.inl (q_w (b3 + (1)))), none] [] M
          else
            if 0 ≤ b3 ∧ b3 < ((132 : Nat) : Int) then
            if (M 58 (b3 : Int).toNat) = 211 then
              pr sc orc 187 F 26 [some (.inr (.inr 49)), some (.inl (0)), some (.inl (q_w (b2 - 1))), some (.inl (q_w (b3 + (1)))), none] [] M
            else
              pr sc orc 187 F 26 [some (.inr (.inr 49)), some (.inl (1)), some (.inl (q_w (b2 - 1))), some (.inl (q_w (b3 + (1)))), none] [] M
            else none
      else
        if b1 = 0 then
          pr sc orc 187 F 26 [some (.inr (.inr 49)), some (.inl (0)), some (.inl (b2)), some (.inl (q_w (b3 + (1)))), none] [] M
        else
          if 0 < b2 then
            pr sc orc 187 F 26 [some (.inr (.inr 49)), some (.inl (1)), some (.inl (b2)), some (.inl (q_w (b3 + (1)))), none] [] M
          else
            if 0 ≤ b3 ∧ b3 < ((132 : Nat) : Int) then
            if (M 58 (b3 : Int).toNat) = 211 then
              pr sc orc 187 F 26 [some (.inr (.inr 49)), some (.inl (0)), some (.inl (b2)), some (.inl (q_w (b3 + (1)))), none] [] M
            else
              pr sc orc 187 F 26 [some (.inr (.inr 49)), some (.inl (1)), some (.inl (b2)), some (.inl (q_w (b3 + (1)))), none] [] M
            else none
      else none
    else none
  else
    pr sc orc 187 F 113 [some (.inr (.inr 49)), some (.inl (b1)), some (.inl (b2)), some (.inl (M 49 32)), some (.inl (M 49 32))] [] M := by
  rw [pr_st]; rfl
set_option maxRecDepth 20000 in
theorem sg_X12_findParts_113 {sc : List Int} {orc : q_O} {M : q_M} {F : Nat} {b1 b2 b3 b4 : Int} : pr sc orc 187 (F + 1) 113 [some (.inr (.inr 49)), some (.inl (b1)), some (.inl (b2)), some (.inl (b3)), some (.inl (b4))] [] M =
  if b4 < (M 49 33) then
    if b1 = 0 then
      q_c0 (orc 186 [.inr (.inr 49), .inl (b3), .inl (M 49 33)] GF M) GF (fun M2 =>
      some (none, GF, M2))
    else
      if 0 ≤ b4 ∧ b4 < ((132 : Nat) : Int) then
      if (M 58 (b4 : Int).toNat) = 40 then
        if (q_w (b2 + 1)) = 0 then
          if 0 ≤ b4 ∧ b4 < ((132 : Nat) : Int) then
          if (M 58 (b4 : Int).toNat) = 212 then
            q_c0 (orc 186 [.inr (.inr 49), .inl (b3), .inl (b4)] GF M) GF (fun M5 =>
            pr sc orc 187 F 113 [some (.inr (.inr 49)), some (.inl (b1)), some (.inl (q_w (b2 + 1))), some (.inl (q_w (b4 + 1))), some (.inl (q_w (b4 + (1))))] [] M5)
          else
            pr sc orc 187 F 113 [some (.inr (.inr 49)), some (.inl (b1)), some (.inl (q_w (b2 + 1))), some (.inl (b3)), some (.inl (q_w (b4 + (1))))] [] M
          else none
        else
          pr sc orc 187 F 113 [some (.inr (.inr 49)), some (.inl (b1)), some (.inl (q_w (b2 + 1))), some (.inl (b3)), some (.inl (q_w (b4 + (1))))] [] M
      else
        if 0 ≤ b4 ∧ b4 < ((132 : Nat) : Int) then
        if (M 58 (b4 : Int).toNat) = 41 then
          if (q_w (b2 - 1)) = 0 then
            if 0 ≤ b4 ∧ b4 < ((132 : Nat) : Int) then
            if (M 58 (b4 : Int).toNat) = 212 then
              q_c0 (orc 186 [.inr (.inr 49), .inl (b3), .inl (b4)] GF M) GF (fun M4 =>
              pr sc orc 187 F 113 [some (.inr (.inr 49)), some (.inl (b1)), some (.inl (q_w (b2 - 1))), some (.inl (q_w (b4 + 1))), some (.inl (q_w (b4 + (1))))] [] M4)
            else
              pr sc orc 187 F 113 [some (.inr (.inr 49)), some (.inl (b1)), some (.inl (q_w (b2 - 1))), some (.inl (b3)), some (.inl (q_w (b4 + (1))))] [] M
            else none
          else
            pr sc orc 187 F 113 [some (.inr (.inr 49)), some (.inl (b1)), some (.inl (q_w (b2 - 1))), some (.inl (b3)), some (.inl (q_w (b4 + (1))))] [] M
        else
          if b2 = 0 then
            if 0 ≤ b4 ∧ b4 < ((132 : Nat) : Int) then
            if (M 58 (b4 : Int).toNat) = 212 then
              q_c0 (orc 186 [.inr (.inr 49), .inl (b3), .inl (b4)] GF M) GF (fun M3 =>
              pr sc orc 187 F 113 [some (.inr (.inr 49)), some (.inl (b1)), some (.inl (b2)), some (.inl (q_w (b4 + 1))), some (.inl (q_w (b4 + (1))))] [] M3)
            else
              pr sc orc 187 F 113 [some (.inr (.inr 49)), some (.inl (b1)), some (.inl (b2)), some (.inl (b3)), some (.inl (q_w (b4 + (1))))] [] M
            else none
          else
            pr sc orc 187 F 113 [some (.inr (.inr 49)), some (.inl (b1)), some (.inl (b2)), some (.inl (b3)), some (.inl (q_w (b4 + (1))))] [] M
        else none
      else none
  else
    q_c0 (orc 186 [.inr (.inr 49), .inl (b3), .inl (M 49 33)] GF M) GF (fun M1 =>
    some (none, GF, M1)) := by
  rw [pr_st]; rfl
set_option maxRecDepth 20000 in
theorem sg_X12_compile_0 {sc : List Int} {orc : q_O} {M : q_M} {F : Nat} : pr sc orc 188 (F + 1) 0 [some (.inr (.inr 49))] [] M =
  q_c0 (orc 178 [.inr (.inr 49)] GF (q_up (q_up (q_up (q_up (q_up (q_up (q_up M 49 1 0) 49 22 0) 49 49 0) 49 12 0) 49 14 0) 49 15 0) 49 16 0)) GF (fun M1 =>
  if (M1 49 12) = 0 then
    q_c0 (orc 185 [.inr (.inr 49)] GF M1) GF (fun M8 =>
    if (M8 49 12) = 0 then
      if (M8 49 12) = 0 then
        q_c0 (orc 187 [.inr (.inr 49)] GF (q_up (q_up M8 49 9 0) 49 11 (-1))) GF (fun M9 =>
        some (some (.inl (M9 49 26)), GF, (q_up M9 49 22 1)))
      else
        q_cI (orc 149 [.inr (.inr 49), .inl (1)] GF (q_up (q_up M8 49 9 0) 49 11 (-1))) GF (fun x11 M10 =>
        some (some (.inl (x11)), GF, M10))
    else
      if (M8 49 12) = 0 then
        q_c0 (orc 187 [.inr (.inr 49)] GF (q_up (q_up M8 49 9 0) 49 11 (M8 49 13))) GF (fun M12 =>
        some (some (.inl (M12 49 26)), GF, (q_up M12 49 22 1)))
      else
        q_cI (orc 149 [.inr (.inr 49), .inl (1)] GF (q_up (q_up M8 49 9 0) 49 11 (M8 49 13))) GF (fun x14 M13 =>
        some (some (.inl (x14)), GF, M13)))
  else
    if (M1 49 12) = 0 then
      if (M1 49 12) = 0 then
        q_c0 (orc 187 [.inr (.inr 49)] GF (q_up (q_up M1 49 9 0) 49 11 (-1))) GF (fun M2 =>
        some (some (.inl (M2 49 26)), GF, (q_up M2 49 22 1)))
      else
        q_cI (orc 149 [.inr (.inr 49), .inl (1)] GF (q_up (q_up M1 49 9 0) 49 11 (-1))) GF (fun x4 M3 =>
        some (some (.inl (x4)), GF, M3))
    else
      if (M1 49 12) = 0 then
        q_c0 (orc 187 [.inr (.inr 49)] GF (q_up (q_up M1 49 9 0) 49 11 (M1 49 13))) GF (fun M5 =>
        some (some (.inl (M5 49 26)), GF, (q_up M5 49 22 1)))
      else
        q_cI (orc 149 [.inr (.inr 49), .inl (1)] GF (q_up (q_up M1 49 9 0) 49 11 (M1 49 13))) GF (fun x7 M6 =>
        some (some (.inl (x7)), GF, M6))) := by
  rw [pr_st]; rfl
set_option maxRecDepth 20000 in
theorem sg_X12_place_0 {sc : List Int} {orc : q_O} {M : q_M} {F : Nat} : pr sc orc 189 (F + 1) 0 [some (.inr (.inr 49))] [] M =
  some (some (.inl (M 49 11)), GF, (q_up M 49 1 0)) := by
  rw [pr_st]; rfl
set_option maxRecDepth 20000 in
theorem sg_X12_takeOperand_0 {sc : List Int} {orc : q_O} {M : q_M} {F : Nat} {a1 : Int} : pr sc orc 190 (F + 1) 0 [some (.inr (.inr 49)), some (.inl (a1)), none] [] M =
  if 0 ≤ a1 ∧ a1 < ((132 : Nat) : Int) then
  if (M 58 (a1 : Int).toNat) = 215 then
    if 1 = 0 then
      if 0 ≤ a1 ∧ a1 < ((132 : Nat) : Int) then
      if (M 58 (a1 : Int).toNat) = 1 then
        if 0 ≤ a1 ∧ a1 < ((132 : Nat) : Int) then
        some (some (.inl (1)), GF, (q_up (q_up (q_up M 49 44 1) 49 45 0) 49 45 (M 60 (a1 : Int).toNat)))
        else none
      else
        q_cI (orc 180 [.inr (.inr 49), .inl (a1)] GF (q_up (q_up M 49 44 1) 49 45 0)) GF (fun x7 M6 =>
        q_cI (orc 181 [.inr (.inr 49), .inl (a1)] GF M6) GF (fun x9 M8 =>
        q_c0 (orc 191 [.inr (.inr 49), .inl (x7), .inl (x9)] GF M8) GF (fun M10 =>
        some (some (.inl (3)), GF, M10))))
      else none
    else
      some (some (.inl (1)), GF, (q_up (q_up M 49 44 1) 49 45 0))
  else
    if 0 = 0 then
      if 0 ≤ a1 ∧ a1 < ((132 : Nat) : Int) then
      if (M 58 (a1 : Int).toNat) = 1 then
        if 0 ≤ a1 ∧ a1 < ((132 : Nat) : Int) then
        some (some (.inl (1)), GF, (q_up (q_up (q_up M 49 44 0) 49 45 0) 49 45 (M 60 (a1 : Int).toNat)))
        else none
      else
        q_cI (orc 180 [.inr (.inr 49), .inl (a1)] GF (q_up (q_up M 49 44 0) 49 45 0)) GF (fun x2 M1 =>
        q_cI (orc 181 [.inr (.inr 49), .inl (a1)] GF M1) GF (fun x4 M3 =>
        q_c0 (orc 191 [.inr (.inr 49), .inl (x2), .inl (x4)] GF M3) GF (fun M5 =>
        some (some (.inl (3)), GF, M5))))
      else none
    else
      some (some (.inl (1)), GF, (q_up (q_up M 49 44 0) 49 45 0))
  else none := by
  rw [pr_st]; rfl
set_option maxRecDepth 20000 in
theorem sg_X12_fetch_0 {sc : List Int} {orc : q_O} {M : q_M} {F : Nat} {a1 a2 : Int} : pr sc orc 191 (F + 1) 0 [some (.inr (.inr 49)), some (.inl (a1)), some (.inl (a2)), none] [] M =
  if 0 ≤ a1 ∧ a1 < ((3 : Nat) : Int) then
  if (M 76 (a1 : Int).toNat) < 0 then
    if 1 = 0 then
      if 0 ≤ a1 ∧ a1 < ((4 : Nat) : Int) then
      if 0 ≤ a1 ∧ a1 < ((3 : Nat) : Int) then
      pr sc orc 191 F 52 [some (.inr (.inr 49)), none, none, some (.inl (q_w (q_w (q_w (40 * (M 64 (a1 : Int).toNat)) + (q_w (4 * (M 76 (a1 : Int).toNat)))) + a2)))] [] (q_up (q_up M 49 44 1) 49 45 0)
      else none
      else none
    else
      some (none, GF, (q_up (q_up M 49 44 1) 49 45 0))
  else
    if 0 = 0 then
      if 0 ≤ a1 ∧ a1 < ((4 : Nat) : Int) then
      if 0 ≤ a1 ∧ a1 < ((3 : Nat) : Int) then
      pr sc orc 191 F 52 [some (.inr (.inr 49)), none, none, some (.inl (q_w (q_w (q_w (40 * (M 64 (a1 : Int).toNat)) + (q_w (4 * (M 76 (a1 : Int).toNat)))) + a2)))] [] (q_up (q_up M 49 44 0) 49 45 0)
      else none
      else none
    else
      some (none, GF, (q_up (q_up M 49 44 0) 49 45 0))
  else none := by
  rw [pr_st]; rfl
set_option maxRecDepth 20000 in
theorem sg_X12_fetch_52 {sc : List Int} {orc : q_O} {M : q_M} {F : Nat} {b3 : Int} : pr sc orc 191 (F + 1) 52 [some (.inr (.inr 49)), none, none, some (.inl (b3))] [] M =
  if 0 ≤ b3 ∧ b3 < ((120 : Nat) : Int) then
  if (M 54 (b3 : Int).toNat) = 0 ∨ (M 54 (b3 : Int).toNat) = 1 then
  if 0 ≤ b3 ∧ b3 < ((120 : Nat) : Int) then
  if (M 54 (b3 : Int).toNat) = 0 then
    if 0 ≤ b3 ∧ b3 < ((120 : Nat) : Int) then
    some (none, GF, (q_up (q_up M 49 44 (M 54 (b3 : Int).toNat)) 49 45 (M 53 (b3 : Int).toNat)))
    else none
  else
    some (none, GF, (q_up (q_up M 49 44 (M 54 (b3 : Int).toNat)) 49 45 0))
  else none
  else none
  else none := by
  rw [pr_st]; rfl
