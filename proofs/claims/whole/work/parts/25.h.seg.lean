set_option maxRecDepth 20000 in
theorem sg_X12_not_0 {sc : List Int} {orc : q_O} {M : q_M} {F : Nat} {a1 : Int} : pr sc orc 192 (F + 1) 0 [some (.inl (a1))] [] M =
  if a1 = 2 then
    some (some (.inl (2)), GF, M)
  else
    some (some (.inl (q_w (1 - a1))), GF, M) := by
  rw [pr_st]; rfl
set_option maxRecDepth 20000 in
theorem sg_X12_both_0 {sc : List Int} {orc : q_O} {M : q_M} {F : Nat} {a1 a2 : Int} : pr sc orc 193 (F + 1) 0 [some (.inl (a1)), some (.inl (a2))] [] M =
  if a1 = 0 then
    some (some (.inl (0)), GF, M)
  else
    if a2 = 0 then
      some (some (.inl (0)), GF, M)
    else
      if a1 = 2 then
        some (some (.inl (2)), GF, M)
      else
        if a2 = 2 then
          some (some (.inl (2)), GF, M)
        else
          some (some (.inl (1)), GF, M) := by
  rw [pr_st]; rfl
set_option maxRecDepth 20000 in
theorem sg_X12_either_0 {sc : List Int} {orc : q_O} {M : q_M} {F : Nat} {a1 a2 : Int} : pr sc orc 194 (F + 1) 0 [some (.inl (a1)), some (.inl (a2))] [] M =
  if a1 = 1 then
    some (some (.inl (1)), GF, M)
  else
    if a2 = 1 then
      some (some (.inl (1)), GF, M)
    else
      if a1 = 2 then
        some (some (.inl (2)), GF, M)
      else
        if a2 = 2 then
          some (some (.inl (2)), GF, M)
        else
          some (some (.inl (0)), GF, M) := by
  rw [pr_st]; rfl
set_option maxRecDepth 20000 in
theorem sg_X12_compare_0 {sc : List Int} {orc : q_O} {M : q_M} {F : Nat} {a1 : Int} : pr sc orc 195 (F + 1) 0 [some (.inr (.inr 49)), some (.inl (a1)), none, none, none, none, none] [] M =
  q_cI (orc 190 [.inr (.inr 49), .inl (a1)] GF M) GF (fun x2 M1 =>
  if 0 ≤ q_w (a1 + x2) ∧ q_w (a1 + x2) < ((132 : Nat) : Int) then
  if (M1 58 (q_w (a1 + x2) : Int).toNat) = 214 then
    if (M1 49 44) = 0 then
      some (some (.inl (q_w (q_w (a1 + x2) + 2))), GF, (q_up M1 49 54 0))
    else
      some (some (.inl (q_w (q_w (a1 + x2) + 2))), GF, (q_up M1 49 54 1))
  else
    if 0 ≤ q_w (a1 + x2) ∧ q_w (a1 + x2) < ((132 : Nat) : Int) then
    q_cI (orc 190 [.inr (.inr 49), .inl (q_w (q_w (a1 + x2) + (1)))] GF M1) GF (fun x4 M3 =>
    if (M1 58 (q_w (a1 + x2) : Int).toNat) = 61 then
      if (M1 49 45) = (M3 49 45) then
        pr sc orc 195 F 131 [some (.inr (.inr 49)), none, some (.inl (q_w (q_w (q_w (a1 + x2) + (1)) + x4))), some (.inl (M1 49 44)), none, none, some (.inl (1))] [] M3
      else
        pr sc orc 195 F 131 [some (.inr (.inr 49)), none, some (.inl (q_w (q_w (q_w (a1 + x2) + (1)) + x4))), some (.inl (M1 49 44)), none, none, some (.inl (0))] [] M3
    else
      if (M1 58 (q_w (a1 + x2) : Int).toNat) = 60 then
        if (M1 49 45) < (M3 49 45) then
          pr sc orc 195 F 131 [some (.inr (.inr 49)), none, some (.inl (q_w (q_w (q_w (a1 + x2) + (1)) + x4))), some (.inl (M1 49 44)), none, none, some (.inl (1))] [] M3
        else
          pr sc orc 195 F 131 [some (.inr (.inr 49)), none, some (.inl (q_w (q_w (q_w (a1 + x2) + (1)) + x4))), some (.inl (M1 49 44)), none, none, some (.inl (0))] [] M3
      else
        if (M3 49 45) < (M1 49 45) then
          pr sc orc 195 F 131 [some (.inr (.inr 49)), none, some (.inl (q_w (q_w (q_w (a1 + x2) + (1)) + x4))), some (.inl (M1 49 44)), none, none, some (.inl (1))] [] M3
        else
          pr sc orc 195 F 131 [some (.inr (.inr 49)), none, some (.inl (q_w (q_w (q_w (a1 + x2) + (1)) + x4))), some (.inl (M1 49 44)), none, none, some (.inl (0))] [] M3)
    else none
  else none) := by
  rw [pr_st]; rfl
set_option maxRecDepth 20000 in
theorem sg_X12_compare_131 {sc : List Int} {orc : q_O} {M : q_M} {F : Nat} {b2 b3 b6 : Int} : pr sc orc 195 (F + 1) 131 [some (.inr (.inr 49)), none, some (.inl (b2)), some (.inl (b3)), none, none, some (.inl (b6))] [] M =
  if b3 = 0 then
    if (M 49 44) = 0 then
      if b6 = 0 then
        some (some (.inl (b2)), GF, (q_up M 49 54 0))
      else
        some (some (.inl (b2)), GF, (q_up M 49 54 1))
    else
      some (some (.inl (b2)), GF, (q_up M 49 54 2))
  else
    some (some (.inl (b2)), GF, (q_up M 49 54 2)) := by
  rw [pr_st]; rfl
set_option maxRecDepth 20000 in
theorem sg_X12_truthOf_0 {sc : List Int} {orc : q_O} {M : q_M} {F : Nat} {a1 a2 : Int} : pr sc orc 196 (F + 1) 0 [some (.inr (.inr 49)), some (.inl (a1)), some (.inl (a2)), none, none, none, none] [] M =
  if 0 ≤ 0 ∧ 0 < ((8 : Nat) : Int) then
  if 0 ≤ 0 ∧ 0 < ((8 : Nat) : Int) then
  pr sc orc 196 F 22 [some (.inr (.inr 49)), none, some (.inl (a2)), some (.inl (0)), some (.inl (0)), some (.inl (a1)), none] [] (q_up (q_up M 73 ((0 : Int).toNat) 0) 74 ((0 : Int).toNat) 1)
  else none
  else none := by
  rw [pr_st]; rfl
set_option maxRecDepth 20000 in
theorem sg_X12_truthOf_22 {sc : List Int} {orc : q_O} {M : q_M} {F : Nat} {b2 b3 b4 b5 : Int} : pr sc orc 196 (F + 1) 22 [some (.inr (.inr 49)), none, some (.inl (b2)), some (.inl (b3)), some (.inl (b4)), some (.inl (b5)), none] [] M =
  if b5 < b2 then
    if 0 ≤ b5 ∧ b5 < ((132 : Nat) : Int) then
    if (M 58 (b5 : Int).toNat) = 213 then
      pr sc orc 196 F 22 [some (.inr (.inr 49)), none, some (.inl (b2)), some (.inl (b3)), some (.inl (q_w (b4 + (1)))), some (.inl (q_w (b5 + (1)))), none] [] M
    else
      if (M 58 (b5 : Int).toNat) = 40 then
        if 0 ≤ b3 ∧ b3 < ((8 : Nat) : Int) then
        if 0 ≤ q_w (b3 + (1)) ∧ q_w (b3 + (1)) < ((8 : Nat) : Int) then
        if 0 ≤ q_w (b3 + (1)) ∧ q_w (b3 + (1)) < ((8 : Nat) : Int) then
        pr sc orc 196 F 22 [some (.inr (.inr 49)), none, some (.inl (b2)), some (.inl (q_w (b3 + (1)))), some (.inl (0)), some (.inl (q_w (b5 + (1)))), none] [] (q_up (q_up (q_up M 75 ((b3 : Int).toNat) b4) 73 ((q_w (b3 + (1)) : Int).toNat) 0) 74 ((q_w (b3 + (1)) : Int).toNat) 1)
        else none
        else none
        else none
      else
        if (M 58 (b5 : Int).toNat) = 211 then
          if 0 ≤ b3 ∧ b3 < ((8 : Nat) : Int) then
          if 0 ≤ b3 ∧ b3 < ((8 : Nat) : Int) then
          q_cI (orc 194 [.inl (M 73 (b3 : Int).toNat), .inl (M 74 (b3 : Int).toNat)] GF M) GF (fun x8 M7 =>
          if 0 ≤ b3 ∧ b3 < ((8 : Nat) : Int) then
          if 0 ≤ b3 ∧ b3 < ((8 : Nat) : Int) then
          pr sc orc 196 F 22 [some (.inr (.inr 49)), none, some (.inl (b2)), some (.inl (b3)), some (.inl (b4)), some (.inl (q_w (b5 + (1)))), none] [] (q_up (q_up M7 73 ((b3 : Int).toNat) x8) 74 ((b3 : Int).toNat) 1)
          else none
          else none)
          else none
          else none
        else
          if (M 58 (b5 : Int).toNat) = 212 then
            pr sc orc 196 F 22 [some (.inr (.inr 49)), none, some (.inl (b2)), some (.inl (b3)), some (.inl (b4)), some (.inl (q_w (b5 + (1)))), none] [] M
          else
            if (M 58 (b5 : Int).toNat) = 41 then
              if 0 ≤ b3 ∧ b3 < ((8 : Nat) : Int) then
              if 0 ≤ b3 ∧ b3 < ((8 : Nat) : Int) then
              q_cI (orc 194 [.inl (M 73 (b3 : Int).toNat), .inl (M 74 (b3 : Int).toNat)] GF M) GF (fun x6 M5 =>
              if 0 ≤ q_w (b3 + (-1)) ∧ q_w (b3 + (-1)) < ((8 : Nat) : Int) then
              pr sc orc 196 F 202 [some (.inr (.inr 49)), none, some (.inl (b2)), some (.inl (q_w (b3 + (-1)))), some (.inl (M5 75 (q_w (b3 + (-1)) : Int).toNat)), some (.inl (q_w (b5 + (1)))), none] [] (q_up M5 49 54 x6)
              else none)
              else none
              else none
            else
              q_cI (orc 195 [.inr (.inr 49), .inl (b5)] GF M) GF (fun x4 M3 =>
              pr sc orc 196 F 202 [some (.inr (.inr 49)), none, some (.inl (b2)), some (.inl (b3)), some (.inl (b4)), some (.inl (x4)), none] [] M3)
    else none
  else
    if 0 ≤ 0 ∧ 0 < ((8 : Nat) : Int) then
    if 0 ≤ 0 ∧ 0 < ((8 : Nat) : Int) then
    q_cI (orc 194 [.inl (M 73 (0 : Int).toNat), .inl (M 74 (0 : Int).toNat)] GF M) GF (fun x2 M1 =>
    some (some (.inl (x2)), GF, M1))
    else none
    else none := by
  rw [pr_st]; rfl
set_option maxRecDepth 20000 in
theorem sg_X12_truthOf_202 {sc : List Int} {orc : q_O} {M : q_M} {F : Nat} {b2 b3 b4 b5 : Int} : pr sc orc 196 (F + 1) 202 [some (.inr (.inr 49)), none, some (.inl (b2)), some (.inl (b3)), some (.inl (b4)), some (.inl (b5)), none] [] M =
  if (2 : Int) = 2 ∧ 0 ≤ b4 then
  if (b4 % 2) = 1 then
    q_cI (orc 192 [.inl (M 49 54)] GF M) GF (fun x4 M3 =>
    if 0 ≤ b3 ∧ b3 < ((8 : Nat) : Int) then
    q_cI (orc 193 [.inl (M3 74 (b3 : Int).toNat), .inl (x4)] GF (q_up M3 49 54 x4)) GF (fun x6 M5 =>
    if 0 ≤ b3 ∧ b3 < ((8 : Nat) : Int) then
    pr sc orc 196 F 22 [some (.inr (.inr 49)), none, some (.inl (b2)), some (.inl (b3)), some (.inl (0)), some (.inl (b5)), none] [] (q_up M5 74 ((b3 : Int).toNat) x6)
    else none)
    else none)
  else
    if 0 ≤ b3 ∧ b3 < ((8 : Nat) : Int) then
    q_cI (orc 193 [.inl (M 74 (b3 : Int).toNat), .inl (M 49 54)] GF M) GF (fun x2 M1 =>
    if 0 ≤ b3 ∧ b3 < ((8 : Nat) : Int) then
    pr sc orc 196 F 22 [some (.inr (.inr 49)), none, some (.inl (b2)), some (.inl (b3)), some (.inl (0)), some (.inl (b5)), none] [] (q_up M1 74 ((b3 : Int).toNat) x2)
    else none)
    else none
  else none := by
  rw [pr_st]; rfl
set_option maxRecDepth 20000 in
theorem sg_X12_passes_0 {sc : List Int} {orc : q_O} {M : q_M} {F : Nat} {a1 : Int} : pr sc orc 197 (F + 1) 0 [some (.inr (.inr 49)), some (.inl (a1)), none, none] [] M =
  pr sc orc 197 F 4 [some (.inr (.inr 49)), some (.inl (a1)), some (.inl (1)), some (.inl (0))] [] M := by
  rw [pr_st]; rfl
set_option maxRecDepth 20000 in
theorem sg_X12_passes_4 {sc : List Int} {orc : q_O} {M : q_M} {F : Nat} {b1 b2 b3 : Int} : pr sc orc 197 (F + 1) 4 [some (.inr (.inr 49)), some (.inl (b1)), some (.inl (b2)), some (.inl (b3))] [] M =
  if b3 < (M 49 36) then
    if 0 ≤ b3 ∧ b3 < ((40 : Nat) : Int) then
    if (M 72 (b3 : Int).toNat) = b1 then
      if b2 = 0 then
        pr sc orc 197 F 4 [some (.inr (.inr 49)), some (.inl (b1)), some (.inl (0)), some (.inl (q_w (b3 + (1))))] [] M
      else
        if 0 ≤ b3 ∧ b3 < ((40 : Nat) : Int) then
        if 0 ≤ b3 ∧ b3 < ((40 : Nat) : Int) then
        q_cI (orc 196 [.inr (.inr 49), .inl (M 70 (b3 : Int).toNat), .inl (M 71 (b3 : Int).toNat)] GF M) GF (fun x2 M1 =>
        if x2 = 1 then
          pr sc orc 197 F 4 [some (.inr (.inr 49)), some (.inl (b1)), some (.inl (1)), some (.inl (q_w (b3 + (1))))] [] M1
        else
          pr sc orc 197 F 4 [some (.inr (.inr 49)), some (.inl (b1)), some (.inl (0)), some (.inl (q_w (b3 + (1))))] [] M1)
        else none
        else none
    else
      pr sc orc 197 F 4 [some (.inr (.inr 49)), some (.inl (b1)), some (.inl (b2)), some (.inl (q_w (b3 + (1))))] [] M
    else none
  else
    if b2 = 0 ∨ b2 = 1 then some (some (.inl (b2)), GF, M) else none := by
  rw [pr_st]; rfl
set_option maxRecDepth 20000 in
theorem sg_X12_sameKey_0 {sc : List Int} {orc : q_O} {M : q_M} {F : Nat} {a1 : Int} : pr sc orc 198 (F + 1) 0 [some (.inr (.inr 49)), some (.inl (a1)), none] [] M =
  pr sc orc 198 F 2 [some (.inr (.inr 49)), some (.inl (a1)), some (.inl (0))] [] M := by
  rw [pr_st]; rfl
set_option maxRecDepth 20000 in
theorem sg_X12_sameKey_2 {sc : List Int} {orc : q_O} {M : q_M} {F : Nat} {b1 b2 : Int} : pr sc orc 198 (F + 1) 2 [some (.inr (.inr 49)), some (.inl (b1)), some (.inl (b2))] [] M =
  if b2 < (M 49 34) then
    if 0 ≤ b2 ∧ b2 < ((4 : Nat) : Int) then
    q_cI (orc 180 [.inr (.inr 49), .inl (M 69 (b2 : Int).toNat)] GF M) GF (fun x2 M1 =>
    if 0 ≤ b2 ∧ b2 < ((4 : Nat) : Int) then
    q_cI (orc 181 [.inr (.inr 49), .inl (M1 69 (b2 : Int).toNat)] GF M1) GF (fun x4 M3 =>
    q_c0 (orc 191 [.inr (.inr 49), .inl (x2), .inl (x4)] GF M3) GF (fun M5 =>
    if 0 ≤ q_w (q_w (3 * b1) + b2) ∧ q_w (q_w (3 * b1) + b2) < ((90 : Nat) : Int) then
    if (M5 79 (q_w (q_w (3 * b1) + b2) : Int).toNat) = (M5 49 44) then
      if 0 ≤ q_w (q_w (3 * b1) + b2) ∧ q_w (q_w (3 * b1) + b2) < ((90 : Nat) : Int) then
      if (M5 80 (q_w (q_w (3 * b1) + b2) : Int).toNat) = (M5 49 45) then
        pr sc orc 198 F 2 [some (.inr (.inr 49)), some (.inl (b1)), some (.inl (q_w (b2 + (1))))] [] M5
      else
        some (some (.inl (0)), GF, M5)
      else none
    else
      some (some (.inl (0)), GF, M5)
    else none))
    else none)
    else none
  else
    some (some (.inl (1)), GF, M) := by
  rw [pr_st]; rfl
set_option maxRecDepth 20000 in
theorem sg_X12_newRow_0 {sc : List Int} {orc : q_O} {M : q_M} {F : Nat} : pr sc orc 199 (F + 1) 0 [some (.inr (.inr 49)), none] [] M =
  if (M 49 49) = 30 then
    some (some (.inl (0)), GF, (q_up M 49 48 1))
  else
    pr sc orc 199 F 23 [some (.inr (.inr 49)), some (.inl (q_w (4 * (M 49 49))))] [] M := by
  rw [pr_st]; rfl
set_option maxRecDepth 20000 in
theorem sg_X12_newRow_23 {sc : List Int} {orc : q_O} {M : q_M} {F : Nat} {b1 : Int} : pr sc orc 199 (F + 1) 23 [some (.inr (.inr 49)), some (.inl (b1))] [] M =
  if b1 < (q_w (q_w (4 * (M 49 49)) + 4)) then
    if 0 ≤ b1 ∧ b1 < ((120 : Nat) : Int) then
    if 0 ≤ b1 ∧ b1 < ((120 : Nat) : Int) then
    pr sc orc 199 F 23 [some (.inr (.inr 49)), some (.inl (q_w (b1 + (1))))] [] (q_up (q_up M 77 ((b1 : Int).toNat) 1) 78 ((b1 : Int).toNat) 0)
    else none
    else none
  else
    pr sc orc 199 F 57 [some (.inr (.inr 49)), some (.inl (0))] [] M := by
  rw [pr_st]; rfl
set_option maxRecDepth 20000 in
theorem sg_X12_newRow_57 {sc : List Int} {orc : q_O} {M : q_M} {F : Nat} {b1 : Int} : pr sc orc 199 (F + 1) 57 [some (.inr (.inr 49)), some (.inl (b1))] [] M =
  if b1 < (M 49 23) then
    if 0 ≤ b1 ∧ b1 < ((5 : Nat) : Int) then
    if (M 62 (b1 : Int).toNat) = 207 then
      if 0 ≤ q_w (q_w (4 * (M 49 49)) + b1) ∧ q_w (q_w (4 * (M 49 49)) + b1) < ((120 : Nat) : Int) then
      pr sc orc 199 F 57 [some (.inr (.inr 49)), some (.inl (q_w (b1 + (1))))] [] (q_up M 77 ((q_w (q_w (4 * (M 49 49)) + b1) : Int).toNat) 0)
      else none
    else
      pr sc orc 199 F 57 [some (.inr (.inr 49)), some (.inl (q_w (b1 + (1))))] [] M
    else none
  else
    some (some (.inl (1)), GF, (q_up M 49 49 (q_w (M 49 49 + 1)))) := by
  rw [pr_st]; rfl
set_option maxRecDepth 20000 in
theorem sg_X12_groupRow_0 {sc : List Int} {orc : q_O} {M : q_M} {F : Nat} : pr sc orc 200 (F + 1) 0 [some (.inr (.inr 49)), none] [] M =
  pr sc orc 200 F 2 [some (.inr (.inr 49)), some (.inl (0))] [] M := by
  rw [pr_st]; rfl
set_option maxRecDepth 20000 in
theorem sg_X12_groupRow_2 {sc : List Int} {orc : q_O} {M : q_M} {F : Nat} {b1 : Int} : pr sc orc 200 (F + 1) 2 [some (.inr (.inr 49)), some (.inl (b1))] [] M =
  if b1 < (M 49 49) then
    q_cI (orc 198 [.inr (.inr 49), .inl (b1)] GF M) GF (fun x4 M3 =>
    if x4 = 0 then
      pr sc orc 200 F 2 [some (.inr (.inr 49)), some (.inl (q_w (b1 + (1))))] [] M3
    else
      some (some (.inl (b1)), GF, M3))
  else
    q_cI (orc 199 [.inr (.inr 49)] GF M) GF (fun x2 M1 =>
    if x2 = 0 then
      some (some (.inl ((-1))), GF, M1)
    else
      pr sc orc 200 F 37 [some (.inr (.inr 49)), some (.inl (0))] [] M1) := by
  rw [pr_st]; rfl
set_option maxRecDepth 20000 in
theorem sg_X12_groupRow_37 {sc : List Int} {orc : q_O} {M : q_M} {F : Nat} {b1 : Int} : pr sc orc 200 (F + 1) 37 [some (.inr (.inr 49)), some (.inl (b1))] [] M =
  if b1 < (M 49 34) then
    if 0 ≤ b1 ∧ b1 < ((4 : Nat) : Int) then
    q_cI (orc 180 [.inr (.inr 49), .inl (M 69 (b1 : Int).toNat)] GF M) GF (fun x2 M1 =>
    if 0 ≤ b1 ∧ b1 < ((4 : Nat) : Int) then
    q_cI (orc 181 [.inr (.inr 49), .inl (M1 69 (b1 : Int).toNat)] GF M1) GF (fun x4 M3 =>
    q_c0 (orc 191 [.inr (.inr 49), .inl (x2), .inl (x4)] GF M3) GF (fun M5 =>
    if 0 ≤ q_w (q_w (q_w (3 * (M5 49 49)) - 3) + b1) ∧ q_w (q_w (q_w (3 * (M5 49 49)) - 3) + b1) < ((90 : Nat) : Int) then
    if (1 : Nat) = 0 ∨ ((1 : Nat) = 1 ∧ ((M5 49 44) = 0 ∨ (M5 49 44) = 1)) ∨ ((1 : Nat) = 2 ∧ 0 ≤ M5 49 44 ∧ M5 49 44 < 65536) then
    if 0 ≤ q_w (q_w (q_w (3 * (M5 49 49)) - 3) + b1) ∧ q_w (q_w (q_w (3 * (M5 49 49)) - 3) + b1) < ((90 : Nat) : Int) then
    pr sc orc 200 F 37 [some (.inr (.inr 49)), some (.inl (q_w (b1 + (1))))] [] (q_up (q_up M5 79 ((q_w (q_w (q_w (3 * (M5 49 49)) - 3) + b1) : Int).toNat) (M5 49 44)) 80 ((q_w (q_w (q_w (3 * (M5 49 49)) - 3) + b1) : Int).toNat) (M5 49 45))
    else none
    else none
    else none))
    else none)
    else none
  else
    some (some (.inl (q_w (M 49 49 - 1))), GF, M) := by
  rw [pr_st]; rfl
set_option maxRecDepth 20000 in
theorem sg_X12_gather_0 {sc : List Int} {orc : q_O} {M : q_M} {F : Nat} {a1 a2 : Int} : pr sc orc 201 (F + 1) 0 [some (.inr (.inr 49)), some (.inl (a1)), some (.inl (a2)), none, none, none] [] M =
  if a2 = 207 then
    if 0 ≤ a1 ∧ a1 < ((120 : Nat) : Int) then
    if 0 ≤ a1 ∧ a1 < ((120 : Nat) : Int) then
    some (none, GF, (q_up M 78 ((a1 : Int).toNat) (q_w6 (M 78 (a1 : Int).toNat + 1))))
    else none
    else none
  else
    if (M 49 44) = 0 then
      if 0 ≤ a1 ∧ a1 < ((120 : Nat) : Int) then
      if 0 ≤ a1 ∧ a1 < ((120 : Nat) : Int) then
      if a2 = 208 then
        if 0 ≤ a1 ∧ a1 < ((120 : Nat) : Int) then
        if 0 ≤ a1 ∧ a1 < ((120 : Nat) : Int) then
        some (none, GF, (q_up (q_up M 77 ((a1 : Int).toNat) 0) 78 ((a1 : Int).toNat) (q_w6 (M 78 (a1 : Int).toNat + (M 49 45)))))
        else none
        else none
      else
        if (M 77 (a1 : Int).toNat) = 0 then
          if a2 = 0 then
            if 0 ≤ a1 ∧ a1 < ((120 : Nat) : Int) then
            some (none, GF, (q_up (q_up M 77 ((a1 : Int).toNat) 0) 78 ((a1 : Int).toNat) (M 49 45)))
            else none
          else
            if a2 = 209 then
              if 0 ≤ a1 ∧ a1 < ((120 : Nat) : Int) then
              if (if M 49 45 < M 78 (a1 : Int).toNat then -1 else if M 78 (a1 : Int).toNat < M 49 45 then 1 else 0) < 0 then
                if 0 ≤ a1 ∧ a1 < ((120 : Nat) : Int) then
                some (none, GF, (q_up (q_up M 77 ((a1 : Int).toNat) 0) 78 ((a1 : Int).toNat) (M 49 45)))
                else none
              else
                if a2 = 210 then
                  if 0 ≤ a1 ∧ a1 < ((120 : Nat) : Int) then
                  if 0 < (if M 49 45 < M 78 (a1 : Int).toNat then -1 else if M 78 (a1 : Int).toNat < M 49 45 then 1 else 0) then
                    if 0 ≤ a1 ∧ a1 < ((120 : Nat) : Int) then
                    some (none, GF, (q_up (q_up M 77 ((a1 : Int).toNat) 0) 78 ((a1 : Int).toNat) (M 49 45)))
                    else none
                  else
                    some (none, GF, (q_up M 77 ((a1 : Int).toNat) 0))
                  else none
                else
                  some (none, GF, (q_up M 77 ((a1 : Int).toNat) 0))
              else none
            else
              if a2 = 210 then
                if 0 ≤ a1 ∧ a1 < ((120 : Nat) : Int) then
                if 0 < (if M 49 45 < M 78 (a1 : Int).toNat then -1 else if M 78 (a1 : Int).toNat < M 49 45 then 1 else 0) then
                  if 0 ≤ a1 ∧ a1 < ((120 : Nat) : Int) then
                  some (none, GF, (q_up (q_up M 77 ((a1 : Int).toNat) 0) 78 ((a1 : Int).toNat) (M 49 45)))
                  else none
                else
                  some (none, GF, (q_up M 77 ((a1 : Int).toNat) 0))
                else none
              else
                some (none, GF, (q_up M 77 ((a1 : Int).toNat) 0))
        else
          if 0 ≤ a1 ∧ a1 < ((120 : Nat) : Int) then
          some (none, GF, (q_up (q_up M 77 ((a1 : Int).toNat) 0) 78 ((a1 : Int).toNat) (M 49 45)))
          else none
      else none
      else none
    else
      some (none, GF, M) := by
  rw [pr_st]; rfl
set_option maxRecDepth 20000 in
theorem sg_X12_found_0 {sc : List Int} {orc : q_O} {M : q_M} {F : Nat} : pr sc orc 202 (F + 1) 0 [some (.inr (.inr 49)), none, none] [] M =
  if (M 49 40) = 0 then
    q_cI (orc 199 [.inr (.inr 49)] GF M) GF (fun x2 M1 =>
    if x2 = 0 then
      some (none, GF, M1)
    else
      if (M 49 49) < 0 then
        some (none, GF, M1)
      else
        pr sc orc 202 F 35 [some (.inr (.inr 49)), some (.inl (M 49 49)), some (.inl (0))] [] M1)
  else
    q_cI (orc 200 [.inr (.inr 49)] GF M) GF (fun x4 M3 =>
    if x4 < 0 then
      some (none, GF, M3)
    else
      pr sc orc 202 F 35 [some (.inr (.inr 49)), some (.inl (x4)), some (.inl (0))] [] M3) := by
  rw [pr_st]; rfl
set_option maxRecDepth 20000 in
theorem sg_X12_found_35 {sc : List Int} {orc : q_O} {M : q_M} {F : Nat} {b1 b2 : Int} : pr sc orc 202 (F + 1) 35 [some (.inr (.inr 49)), some (.inl (b1)), some (.inl (b2))] [] M =
  if b2 < (M 49 23) then
    if 0 ≤ b2 ∧ b2 < ((5 : Nat) : Int) then
    if (M 62 (b2 : Int).toNat) = 207 then
      if 0 ≤ b2 ∧ b2 < ((5 : Nat) : Int) then
      q_c0 (orc 201 [.inr (.inr 49), .inl (q_w (q_w (4 * b1) + b2)), .inl (M 62 (b2 : Int).toNat)] GF M) GF (fun M1 =>
      pr sc orc 202 F 35 [some (.inr (.inr 49)), some (.inl (b1)), some (.inl (q_w (b2 + (1))))] [] M1)
      else none
    else
      if 0 ≤ b2 ∧ b2 < ((5 : Nat) : Int) then
      q_cI (orc 180 [.inr (.inr 49), .inl (M 63 (b2 : Int).toNat)] GF M) GF (fun x3 M2 =>
      if 0 ≤ b2 ∧ b2 < ((5 : Nat) : Int) then
      q_cI (orc 181 [.inr (.inr 49), .inl (M2 63 (b2 : Int).toNat)] GF M2) GF (fun x5 M4 =>
      q_c0 (orc 191 [.inr (.inr 49), .inl (x3), .inl (x5)] GF M4) GF (fun M6 =>
      if 0 ≤ b2 ∧ b2 < ((5 : Nat) : Int) then
      q_c0 (orc 201 [.inr (.inr 49), .inl (q_w (q_w (4 * b1) + b2)), .inl (M6 62 (b2 : Int).toNat)] GF M6) GF (fun M7 =>
      pr sc orc 202 F 35 [some (.inr (.inr 49)), some (.inl (b1)), some (.inl (q_w (b2 + (1))))] [] M7)
      else none))
      else none)
      else none
    else none
  else
    some (none, GF, M) := by
  rw [pr_st]; rfl
set_option maxRecDepth 20000 in
theorem sg_X12_fits_0 {sc : List Int} {orc : q_O} {M : q_M} {F : Nat} {a1 : Int} : pr sc orc 203 (F + 1) 0 [some (.inr (.inr 49)), some (.inl (a1))] [] M =
  if 0 ≤ a1 ∧ a1 < ((4 : Nat) : Int) then
  if 0 ≤ a1 ∧ a1 < ((4 : Nat) : Int) then
  q_cI (orc 196 [.inr (.inr 49), .inl (M 67 (a1 : Int).toNat), .inl (M 68 (a1 : Int).toNat)] GF M) GF (fun x2 M1 =>
  if x2 = 1 then
    some (some (.inl (1)), GF, M1)
  else
    some (some (.inl (0)), GF, M1))
  else none
  else none := by
  rw [pr_st]; rfl
set_option maxRecDepth 20000 in
theorem sg_X12_third_0 {sc : List Int} {orc : q_O} {M : q_M} {F : Nat} : pr sc orc 204 (F + 1) 0 [some (.inr (.inr 49)), none, none, none] [] M =
  pr sc orc 204 F 4 [some (.inr (.inr 49)), some (.inl (0)), some (.inl (0)), none] [] M := by
  rw [pr_st]; rfl
set_option maxRecDepth 20000 in
theorem sg_X12_third_4 {sc : List Int} {orc : q_O} {M : q_M} {F : Nat} {b1 b2 : Int} : pr sc orc 204 (F + 1) 4 [some (.inr (.inr 49)), some (.inl (b1)), some (.inl (b2)), none] [] M =
  if 0 ≤ 2 ∧ 2 < ((4 : Nat) : Int) then
  if 0 ≤ M 64 (2 : Int).toNat ∧ M 64 (2 : Int).toNat < ((3 : Nat) : Int) then
  if b2 < (M 52 (M 64 (2 : Int).toNat : Int).toNat) then
    if (M 49 48) = 0 then
      if 0 ≤ 2 ∧ 2 < ((3 : Nat) : Int) then
      q_cI (orc 203 [.inr (.inr 49), .inl (2)] GF (q_up (q_up M 76 ((2 : Int).toNat) b2) 49 47 (q_w (M 49 47 + 1)))) GF (fun x8 M7 =>
      if b1 = 0 then
        if x8 = 0 then
          pr sc orc 204 F 63 [some (.inr (.inr 49)), some (.inl (0)), some (.inl (b2)), some (.inl (x8))] [] M7
        else
          pr sc orc 204 F 63 [some (.inr (.inr 49)), some (.inl (1)), some (.inl (b2)), some (.inl (x8))] [] M7
      else
        pr sc orc 204 F 63 [some (.inr (.inr 49)), some (.inl (1)), some (.inl (b2)), some (.inl (x8))] [] M7)
      else none
    else
      if (M 49 48) = 0 then
        if 0 ≤ 2 ∧ 2 < ((4 : Nat) : Int) then
        if (M 66 (2 : Int).toNat) = 0 then
          some (none, GF, M)
        else
          if b1 = 0 then
            if 0 ≤ 2 ∧ 2 < ((3 : Nat) : Int) then
            q_cI (orc 197 [.inr (.inr 49), .inl (2)] GF (q_up M 76 ((2 : Int).toNat) (-1))) GF (fun x5 M4 =>
            if x5 = 0 then
              some (none, GF, M4)
            else
              q_c0 (orc 202 [.inr (.inr 49)] GF M4) GF (fun M6 =>
              some (none, GF, M6)))
            else none
          else
            some (none, GF, M)
        else none
      else
        some (none, GF, M)
  else
    if (M 49 48) = 0 then
      if 0 ≤ 2 ∧ 2 < ((4 : Nat) : Int) then
      if (M 66 (2 : Int).toNat) = 0 then
        some (none, GF, M)
      else
        if b1 = 0 then
          if 0 ≤ 2 ∧ 2 < ((3 : Nat) : Int) then
          q_cI (orc 197 [.inr (.inr 49), .inl (2)] GF (q_up M 76 ((2 : Int).toNat) (-1))) GF (fun x2 M1 =>
          if x2 = 0 then
            some (none, GF, M1)
          else
            q_c0 (orc 202 [.inr (.inr 49)] GF M1) GF (fun M3 =>
            some (none, GF, M3)))
          else none
        else
          some (none, GF, M)
      else none
    else
      some (none, GF, M)
  else none
  else none := by
  rw [pr_st]; rfl
set_option maxRecDepth 20000 in
theorem sg_X12_third_63 {sc : List Int} {orc : q_O} {M : q_M} {F : Nat} {b1 b2 b3 : Int} : pr sc orc 204 (F + 1) 63 [some (.inr (.inr 49)), some (.inl (b1)), some (.inl (b2)), some (.inl (b3))] [] M =
  if b3 = 0 then
    pr sc orc 204 F 4 [some (.inr (.inr 49)), some (.inl (b1)), some (.inl (q_w (b2 + (1)))), none] [] M
  else
    q_cI (orc 197 [.inr (.inr 49), .inl (2)] GF M) GF (fun x2 M1 =>
    if x2 = 0 then
      pr sc orc 204 F 4 [some (.inr (.inr 49)), some (.inl (b1)), some (.inl (q_w (b2 + (1)))), none] [] M1
    else
      q_c0 (orc 202 [.inr (.inr 49)] GF M1) GF (fun M3 =>
      pr sc orc 204 F 4 [some (.inr (.inr 49)), some (.inl (b1)), some (.inl (q_w (b2 + (1)))), none] [] M3)) := by
  rw [pr_st]; rfl
set_option maxRecDepth 20000 in
theorem sg_X12_afterSecond_0 {sc : List Int} {orc : q_O} {M : q_M} {F : Nat} : pr sc orc 205 (F + 1) 0 [some (.inr (.inr 49))] [] M =
  if (M 49 26) = 2 then
    q_c0 (orc 202 [.inr (.inr 49)] GF M) GF (fun M2 =>
    some (none, GF, M2))
  else
    q_c0 (orc 204 [.inr (.inr 49)] GF M) GF (fun M1 =>
    some (none, GF, M1)) := by
  rw [pr_st]; rfl
set_option maxRecDepth 20000 in
theorem sg_X12_second_0 {sc : List Int} {orc : q_O} {M : q_M} {F : Nat} : pr sc orc 206 (F + 1) 0 [some (.inr (.inr 49)), none, none, none] [] M =
  pr sc orc 206 F 4 [some (.inr (.inr 49)), some (.inl (0)), some (.inl (0)), none] [] M := by
  rw [pr_st]; rfl
set_option maxRecDepth 20000 in
theorem sg_X12_second_4 {sc : List Int} {orc : q_O} {M : q_M} {F : Nat} {b1 b2 : Int} : pr sc orc 206 (F + 1) 4 [some (.inr (.inr 49)), some (.inl (b1)), some (.inl (b2)), none] [] M =
  if 0 ≤ 1 ∧ 1 < ((4 : Nat) : Int) then
  if 0 ≤ M 64 (1 : Int).toNat ∧ M 64 (1 : Int).toNat < ((3 : Nat) : Int) then
  if b2 < (M 52 (M 64 (1 : Int).toNat : Int).toNat) then
    if (M 49 48) = 0 then
      if 0 ≤ 1 ∧ 1 < ((3 : Nat) : Int) then
      q_cI (orc 203 [.inr (.inr 49), .inl (1)] GF (q_up (q_up M 76 ((1 : Int).toNat) b2) 49 47 (q_w (M 49 47 + 1)))) GF (fun x8 M7 =>
      if b1 = 0 then
        if x8 = 0 then
          pr sc orc 206 F 63 [some (.inr (.inr 49)), some (.inl (0)), some (.inl (b2)), some (.inl (x8))] [] M7
        else
          pr sc orc 206 F 63 [some (.inr (.inr 49)), some (.inl (1)), some (.inl (b2)), some (.inl (x8))] [] M7
      else
        pr sc orc 206 F 63 [some (.inr (.inr 49)), some (.inl (1)), some (.inl (b2)), some (.inl (x8))] [] M7)
      else none
    else
      if (M 49 48) = 0 then
        if 0 ≤ 1 ∧ 1 < ((4 : Nat) : Int) then
        if (M 66 (1 : Int).toNat) = 0 then
          some (none, GF, M)
        else
          if b1 = 0 then
            if 0 ≤ 1 ∧ 1 < ((3 : Nat) : Int) then
            q_cI (orc 197 [.inr (.inr 49), .inl (1)] GF (q_up M 76 ((1 : Int).toNat) (-1))) GF (fun x5 M4 =>
            if x5 = 0 then
              some (none, GF, M4)
            else
              q_c0 (orc 205 [.inr (.inr 49)] GF M4) GF (fun M6 =>
              some (none, GF, M6)))
            else none
          else
            some (none, GF, M)
        else none
      else
        some (none, GF, M)
  else
    if (M 49 48) = 0 then
      if 0 ≤ 1 ∧ 1 < ((4 : Nat) : Int) then
      if (M 66 (1 : Int).toNat) = 0 then
        some (none, GF, M)
      else
        if b1 = 0 then
          if 0 ≤ 1 ∧ 1 < ((3 : Nat) : Int) then
          q_cI (orc 197 [.inr (.inr 49), .inl (1)] GF (q_up M 76 ((1 : Int).toNat) (-1))) GF (fun x2 M1 =>
          if x2 = 0 then
            some (none, GF, M1)
          else
            q_c0 (orc 205 [.inr (.inr 49)] GF M1) GF (fun M3 =>
            some (none, GF, M3)))
          else none
        else
          some (none, GF, M)
      else none
    else
      some (none, GF, M)
  else none
  else none := by
  rw [pr_st]; rfl
set_option maxRecDepth 20000 in
theorem sg_X12_second_63 {sc : List Int} {orc : q_O} {M : q_M} {F : Nat} {b1 b2 b3 : Int} : pr sc orc 206 (F + 1) 63 [some (.inr (.inr 49)), some (.inl (b1)), some (.inl (b2)), some (.inl (b3))] [] M =
  if b3 = 0 then
    pr sc orc 206 F 4 [some (.inr (.inr 49)), some (.inl (b1)), some (.inl (q_w (b2 + (1)))), none] [] M
  else
    q_cI (orc 197 [.inr (.inr 49), .inl (1)] GF M) GF (fun x2 M1 =>
    if x2 = 0 then
      pr sc orc 206 F 4 [some (.inr (.inr 49)), some (.inl (b1)), some (.inl (q_w (b2 + (1)))), none] [] M1
    else
      q_c0 (orc 205 [.inr (.inr 49)] GF M1) GF (fun M3 =>
      pr sc orc 206 F 4 [some (.inr (.inr 49)), some (.inl (b1)), some (.inl (q_w (b2 + (1)))), none] [] M3)) := by
  rw [pr_st]; rfl
