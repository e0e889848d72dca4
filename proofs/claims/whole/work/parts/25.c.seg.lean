set_option maxRecDepth 20000 in
theorem sg_X4_readOperand_0 {sc : List Int} {orc : q_O} {M : q_M} {F : Nat} : pr sc orc 56 (F + 1) 0 [some (.inr (.inr 41)), none, none] [] M =
  q_cI (orc 121 [.inr (.inr 11)] GF M) GF (fun x2 M1 =>
  if x2 = 258 then
    q_cI (orc 123 [.inr (.inr 11)] GF M1) GF (fun x4 M3 =>
    q_c0 (orc 124 [.inr (.inr 11)] GF M3) GF (fun M5 =>
    if x2 = 274 then
      q_cI (orc 30 [.inr (.inr 16), .inl (x4), .inl (1)] GF M5) GF (fun x9 M8 =>
      some (some (.inl (x9)), GF, M8))
    else
      q_cI (orc 30 [.inr (.inr 16), .inl (x4), .inl (0)] GF M5) GF (fun x7 M6 =>
      some (some (.inl (x7)), GF, M6))))
  else
    if x2 = 274 then
      q_cI (orc 123 [.inr (.inr 11)] GF M1) GF (fun x11 M10 =>
      q_c0 (orc 124 [.inr (.inr 11)] GF M10) GF (fun M12 =>
      if x2 = 274 then
        q_cI (orc 30 [.inr (.inr 16), .inl (x11), .inl (1)] GF M12) GF (fun x16 M15 =>
        some (some (.inl (x16)), GF, M15))
      else
        q_cI (orc 30 [.inr (.inr 16), .inl (x11), .inl (0)] GF M12) GF (fun x14 M13 =>
        some (some (.inl (x14)), GF, M13))))
    else
      q_cI (orc 57 [.inr (.inr 41)] GF M1) GF (fun x18 M17 =>
      some (some (.inl (x18)), GF, M17))) := by
  rw [pr_st]; rfl
set_option maxRecDepth 20000 in
theorem sg_X4_readColumn_0 {sc : List Int} {orc : q_O} {M : q_M} {F : Nat} : pr sc orc 57 (F + 1) 0 [some (.inr (.inr 41)), none, none, none] [] M =
  q_cI (orc 122 [.inr (.inr 11)] GF M) GF (fun x2 M1 =>
  q_cI (orc 121 [.inr (.inr 11)] GF M1) GF (fun x4 M3 =>
  q_cI (orc 58 [.inl (x4)] GF M3) GF (fun x6 M5 =>
  if x6 = 0 then
    some (some (.inl ((-1))), GF, M5)
  else
    q_c0 (orc 124 [.inr (.inr 11)] GF M5) GF (fun M7 =>
    q_cI (orc 121 [.inr (.inr 11)] GF M7) GF (fun x9 M8 =>
    if x9 = 46 then
      q_c0 (orc 124 [.inr (.inr 11)] GF M8) GF (fun M10 =>
      q_cI (orc 121 [.inr (.inr 11)] GF M10) GF (fun x12 M11 =>
      if (q_w (x12 - 97)) < 0 then
        some (some (.inl ((-1))), GF, M11)
      else
        if (q_w (x12 - 97)) < 4 then
          q_c0 (orc 124 [.inr (.inr 11)] GF M11) GF (fun M13 =>
          q_cI (orc 29 [.inr (.inr 16), .inl (x2), .inl (x4), .inl (q_w (x12 - 97)), .inl (M13 41 4)] GF M13) GF (fun x15 M14 =>
          some (some (.inl (x15)), GF, M14)))
        else
          some (some (.inl ((-1))), GF, M11)))
    else
      some (some (.inl ((-1))), GF, M8)))))) := by
  rw [pr_st]; rfl
set_option maxRecDepth 20000 in
theorem sg_X4_isAlias_0 {sc : List Int} {orc : q_O} {M : q_M} {F : Nat} {a1 : Int} : pr sc orc 58 (F + 1) 0 [some (.inl (a1))] [] M =
  if a1 < 119 then
    some (some (.inl (0)), GF, M)
  else
    if 122 < a1 then
      some (some (.inl (0)), GF, M)
    else
      some (some (.inl (1)), GF, M) := by
  rw [pr_st]; rfl
set_option maxRecDepth 20000 in
theorem sg_X5_clear_0 {sc : List Int} {orc : q_O} {M : q_M} {F : Nat} : pr sc orc 60 (F + 1) 0 [some (.inr (.inr 15))] [] M =
  q_c0 (orc 27 [.inr (.inr 16)] GF M) GF (fun M1 =>
  q_c0 (orc 83 [.inr (.inr 24)] GF M1) GF (fun M2 =>
  some (none, GF, (q_up (q_up (q_up M2 15 7 0) 15 10 0) 15 12 0)))) := by
  rw [pr_st]; rfl
set_option maxRecDepth 20000 in
theorem sg_X5_settle_0 {sc : List Int} {orc : q_O} {M : q_M} {F : Nat} : pr sc orc 61 (F + 1) 0 [some (.inr (.inr 15))] [] M =
  q_c0 (orc 88 [.inr (.inr 24)] GF M) GF (fun M1 =>
  some (none, GF, M1)) := by
  rw [pr_st]; rfl
set_option maxRecDepth 20000 in
theorem sg_X5_operands_0 {sc : List Int} {orc : q_O} {M : q_M} {F : Nat} : pr sc orc 62 (F + 1) 0 [some (.inr (.inr 15))] [] M =
  some (some (.inr (.inr 16)), GF, M) := by
  rw [pr_st]; rfl
set_option maxRecDepth 20000 in
theorem sg_X5_steps_0 {sc : List Int} {orc : q_O} {M : q_M} {F : Nat} : pr sc orc 63 (F + 1) 0 [some (.inr (.inr 15))] [] M =
  some (some (.inr (.inr 24)), GF, M) := by
  rw [pr_st]; rfl
set_option maxRecDepth 20000 in
theorem sg_X5_addItem_0 {sc : List Int} {orc : q_O} {M : q_M} {F : Nat} {a1 a2 a3 a4 a5 : Int} : pr sc orc 64 (F + 1) 0 [some (.inr (.inr 15)), some (.inl (a1)), some (.inl (a2)), some (.inl (a3)), some (.inl (a4)), some (.inl (a5))] [] M =
  if (M 15 7) < 0 then
    some (none, GF, M)
  else
    if (M 15 7) < 3 then
      if 0 ≤ M 15 7 ∧ M 15 7 < ((3 : Nat) : Int) then
      if 0 ≤ M 15 7 ∧ M 15 7 < ((3 : Nat) : Int) then
      if 0 ≤ M 15 7 ∧ M 15 7 < ((3 : Nat) : Int) then
      if 0 ≤ M 15 7 ∧ M 15 7 < ((3 : Nat) : Int) then
      if 0 ≤ M 15 7 ∧ M 15 7 < ((3 : Nat) : Int) then
      if (1 : Nat) = 0 ∨ ((1 : Nat) = 1 ∧ (a5 = 0 ∨ a5 = 1)) ∨ ((1 : Nat) = 2 ∧ 0 ≤ a5 ∧ a5 < 65536) then
      some (none, GF, (q_up (q_up (q_up (q_up (q_up (q_up M 33 ((M 15 7 : Int).toNat) a1) 34 ((M 15 7 : Int).toNat) a2) 35 ((M 15 7 : Int).toNat) a3) 36 ((M 15 7 : Int).toNat) a4) 37 ((M 15 7 : Int).toNat) a5) 15 7 (q_w (M 15 7 + 1))))
      else none
      else none
      else none
      else none
      else none
      else none
    else
      some (none, GF, M) := by
  rw [pr_st]; rfl
set_option maxRecDepth 20000 in
theorem sg_X5_addOut_0 {sc : List Int} {orc : q_O} {M : q_M} {F : Nat} {a1 a2 : Int} : pr sc orc 65 (F + 1) 0 [some (.inr (.inr 15)), some (.inl (a1)), some (.inl (a2))] [] M =
  if (M 15 10) < 0 then
    some (none, GF, M)
  else
    if (M 15 10) < 4 then
      if 0 ≤ M 15 10 ∧ M 15 10 < ((4 : Nat) : Int) then
      if 0 ≤ M 15 10 ∧ M 15 10 < ((4 : Nat) : Int) then
      some (none, GF, (q_up (q_up (q_up M 38 ((M 15 10 : Int).toNat) a1) 39 ((M 15 10 : Int).toNat) a2) 15 10 (q_w (M 15 10 + 1))))
      else none
      else none
    else
      some (none, GF, M) := by
  rw [pr_st]; rfl
set_option maxRecDepth 20000 in
theorem sg_X5_addGrouped_0 {sc : List Int} {orc : q_O} {M : q_M} {F : Nat} {a1 : Int} : pr sc orc 66 (F + 1) 0 [some (.inr (.inr 15)), some (.inl (a1))] [] M =
  if (M 15 12) < 0 then
    some (none, GF, M)
  else
    if (M 15 12) < 3 then
      if 0 ≤ M 15 12 ∧ M 15 12 < ((3 : Nat) : Int) then
      some (none, GF, (q_up (q_up M 40 ((M 15 12 : Int).toNat) a1) 15 12 (q_w (M 15 12 + 1))))
      else none
    else
      some (none, GF, M) := by
  rw [pr_st]; rfl
set_option maxRecDepth 20000 in
theorem sg_X5_itemCount_0 {sc : List Int} {orc : q_O} {M : q_M} {F : Nat} : pr sc orc 67 (F + 1) 0 [some (.inr (.inr 15))] [] M =
  some (some (.inl (M 15 7)), GF, M) := by
  rw [pr_st]; rfl
set_option maxRecDepth 20000 in
theorem sg_X5_tableOf_0 {sc : List Int} {orc : q_O} {M : q_M} {F : Nat} {a1 : Int} : pr sc orc 68 (F + 1) 0 [some (.inr (.inr 15)), some (.inl (a1))] [] M =
  q_cI (orc 146 [.inr (.inr 33), .inl (a1)] GF M) GF (fun x2 M1 =>
  some (some (.inl (x2)), GF, M1)) := by
  rw [pr_st]; rfl
set_option maxRecDepth 20000 in
theorem sg_X5_tablePlaceOf_0 {sc : List Int} {orc : q_O} {M : q_M} {F : Nat} {a1 : Int} : pr sc orc 69 (F + 1) 0 [some (.inr (.inr 15)), some (.inl (a1))] [] M =
  q_cI (orc 146 [.inr (.inr 34), .inl (a1)] GF M) GF (fun x2 M1 =>
  some (some (.inl (x2)), GF, M1)) := by
  rw [pr_st]; rfl
set_option maxRecDepth 20000 in
theorem sg_X5_aliasOf_0 {sc : List Int} {orc : q_O} {M : q_M} {F : Nat} {a1 : Int} : pr sc orc 70 (F + 1) 0 [some (.inr (.inr 15)), some (.inl (a1))] [] M =
  q_cI (orc 146 [.inr (.inr 35), .inl (a1)] GF M) GF (fun x2 M1 =>
  some (some (.inl (x2)), GF, M1)) := by
  rw [pr_st]; rfl
set_option maxRecDepth 20000 in
theorem sg_X5_aliasPlaceOf_0 {sc : List Int} {orc : q_O} {M : q_M} {F : Nat} {a1 : Int} : pr sc orc 71 (F + 1) 0 [some (.inr (.inr 15)), some (.inl (a1))] [] M =
  q_cI (orc 146 [.inr (.inr 36), .inl (a1)] GF M) GF (fun x2 M1 =>
  some (some (.inl (x2)), GF, M1)) := by
  rw [pr_st]; rfl
set_option maxRecDepth 20000 in
theorem sg_X5_isLeft_0 {sc : List Int} {orc : q_O} {M : q_M} {F : Nat} {a1 : Int} : pr sc orc 72 (F + 1) 0 [some (.inr (.inr 15)), some (.inl (a1))] [] M =
  if a1 < 0 then
    some (some (.inl (0)), GF, M)
  else
    if a1 < 3 then
      if 0 ≤ a1 ∧ a1 < ((3 : Nat) : Int) then
      if (M 37 (a1 : Int).toNat) = 0 then
        some (some (.inl (0)), GF, M)
      else
        some (some (.inl (1)), GF, M)
      else none
    else
      some (some (.inl (0)), GF, M) := by
  rw [pr_st]; rfl
set_option maxRecDepth 20000 in
theorem sg_X5_itemWith_0 {sc : List Int} {orc : q_O} {M : q_M} {F : Nat} {a1 : Int} : pr sc orc 73 (F + 1) 0 [some (.inr (.inr 15)), some (.inl (a1)), none] [] M =
  pr sc orc 73 F 2 [some (.inr (.inr 15)), some (.inl (a1)), some (.inl (0))] [] M := by
  rw [pr_st]; rfl
set_option maxRecDepth 20000 in
theorem sg_X5_itemWith_2 {sc : List Int} {orc : q_O} {M : q_M} {F : Nat} {b1 b2 : Int} : pr sc orc 73 (F + 1) 2 [some (.inr (.inr 15)), some (.inl (b1)), some (.inl (b2))] [] M =
  if b2 < (M 15 7) then
    if b2 < 3 then
      if 0 ≤ b2 ∧ b2 < ((3 : Nat) : Int) then
      if (M 35 (b2 : Int).toNat) = b1 then
        some (some (.inl (b2)), GF, M)
      else
        pr sc orc 73 F 2 [some (.inr (.inr 15)), some (.inl (b1)), some (.inl (q_w (b2 + (1))))] [] M
      else none
    else
      some (some (.inl ((-1))), GF, M)
  else
    some (some (.inl ((-1))), GF, M) := by
  rw [pr_st]; rfl
set_option maxRecDepth 20000 in
theorem sg_X5_uses_0 {sc : List Int} {orc : q_O} {M : q_M} {F : Nat} {a1 : Int} : pr sc orc 74 (F + 1) 0 [some (.inr (.inr 15)), some (.inl (a1)), none] [] M =
  pr sc orc 74 F 2 [some (.inr (.inr 15)), some (.inl (a1)), some (.inl (0))] [] M := by
  rw [pr_st]; rfl
set_option maxRecDepth 20000 in
theorem sg_X5_uses_2 {sc : List Int} {orc : q_O} {M : q_M} {F : Nat} {b1 b2 : Int} : pr sc orc 74 (F + 1) 2 [some (.inr (.inr 15)), some (.inl (b1)), some (.inl (b2))] [] M =
  if b2 < (M 15 7) then
    if b2 < 3 then
      if 0 ≤ b2 ∧ b2 < ((3 : Nat) : Int) then
      if (M 33 (b2 : Int).toNat) = b1 then
        some (some (.inl (1)), GF, M)
      else
        pr sc orc 74 F 2 [some (.inr (.inr 15)), some (.inl (b1)), some (.inl (q_w (b2 + (1))))] [] M
      else none
    else
      some (some (.inl (0)), GF, M)
  else
    some (some (.inl (0)), GF, M) := by
  rw [pr_st]; rfl
set_option maxRecDepth 20000 in
theorem sg_X5_outCount_0 {sc : List Int} {orc : q_O} {M : q_M} {F : Nat} : pr sc orc 75 (F + 1) 0 [some (.inr (.inr 15))] [] M =
  some (some (.inl (M 15 10)), GF, M) := by
  rw [pr_st]; rfl
set_option maxRecDepth 20000 in
theorem sg_X5_outKind_0 {sc : List Int} {orc : q_O} {M : q_M} {F : Nat} {a1 : Int} : pr sc orc 76 (F + 1) 0 [some (.inr (.inr 15)), some (.inl (a1))] [] M =
  q_cI (orc 146 [.inr (.inr 38), .inl (a1)] GF M) GF (fun x2 M1 =>
  some (some (.inl (x2)), GF, M1)) := by
  rw [pr_st]; rfl
set_option maxRecDepth 20000 in
theorem sg_X5_outColumn_0 {sc : List Int} {orc : q_O} {M : q_M} {F : Nat} {a1 : Int} : pr sc orc 77 (F + 1) 0 [some (.inr (.inr 15)), some (.inl (a1))] [] M =
  q_cI (orc 146 [.inr (.inr 39), .inl (a1)] GF M) GF (fun x2 M1 =>
  some (some (.inl (x2)), GF, M1)) := by
  rw [pr_st]; rfl
set_option maxRecDepth 20000 in
theorem sg_X5_groupedCount_0 {sc : List Int} {orc : q_O} {M : q_M} {F : Nat} : pr sc orc 78 (F + 1) 0 [some (.inr (.inr 15))] [] M =
  some (some (.inl (M 15 12)), GF, M) := by
  rw [pr_st]; rfl
set_option maxRecDepth 20000 in
theorem sg_X5_groupColumn_0 {sc : List Int} {orc : q_O} {M : q_M} {F : Nat} {a1 : Int} : pr sc orc 79 (F + 1) 0 [some (.inr (.inr 15)), some (.inl (a1))] [] M =
  q_cI (orc 146 [.inr (.inr 40), .inl (a1)] GF M) GF (fun x2 M1 =>
  some (some (.inl (x2)), GF, M1)) := by
  rw [pr_st]; rfl
set_option maxRecDepth 20000 in
theorem sg_X5_groupsBy_0 {sc : List Int} {orc : q_O} {M : q_M} {F : Nat} {a1 : Int} : pr sc orc 80 (F + 1) 0 [some (.inr (.inr 15)), some (.inl (a1)), none] [] M =
  pr sc orc 80 F 2 [some (.inr (.inr 15)), some (.inl (a1)), some (.inl (0))] [] M := by
  rw [pr_st]; rfl
set_option maxRecDepth 20000 in
theorem sg_X5_groupsBy_2 {sc : List Int} {orc : q_O} {M : q_M} {F : Nat} {b1 b2 : Int} : pr sc orc 80 (F + 1) 2 [some (.inr (.inr 15)), some (.inl (b1)), some (.inl (b2))] [] M =
  if b2 < (M 15 12) then
    if b2 < 3 then
      if 0 ≤ b2 ∧ b2 < ((3 : Nat) : Int) then
      q_cI (orc 38 [.inr (.inr 16), .inl (M 40 (b2 : Int).toNat), .inl (b1)] GF M) GF (fun x2 M1 =>
      if x2 = 0 then
        pr sc orc 80 F 2 [some (.inr (.inr 15)), some (.inl (b1)), some (.inl (q_w (b2 + (1))))] [] M1
      else
        some (some (.inl (1)), GF, M1))
      else none
    else
      some (some (.inl (0)), GF, M)
  else
    some (some (.inl (0)), GF, M) := by
  rw [pr_st]; rfl
set_option maxRecDepth 20000 in
theorem sg_X5_gathers_0 {sc : List Int} {orc : q_O} {M : q_M} {F : Nat} : pr sc orc 81 (F + 1) 0 [some (.inr (.inr 15)), none] [] M =
  pr sc orc 81 F 2 [some (.inr (.inr 15)), some (.inl (0))] [] M := by
  rw [pr_st]; rfl
set_option maxRecDepth 20000 in
theorem sg_X5_gathers_2 {sc : List Int} {orc : q_O} {M : q_M} {F : Nat} {b1 : Int} : pr sc orc 81 (F + 1) 2 [some (.inr (.inr 15)), some (.inl (b1))] [] M =
  if b1 < (M 15 10) then
    if b1 < 4 then
      if 0 ≤ b1 ∧ b1 < ((4 : Nat) : Int) then
      if (M 38 (b1 : Int).toNat) = 275 then
        pr sc orc 81 F 2 [some (.inr (.inr 15)), some (.inl (q_w (b1 + (1))))] [] M
      else
        some (some (.inl (1)), GF, M)
      else none
    else
      if 0 < (M 15 12) then
        some (some (.inl (1)), GF, M)
      else
        some (some (.inl (0)), GF, M)
  else
    if 0 < (M 15 12) then
      some (some (.inl (1)), GF, M)
    else
      some (some (.inl (0)), GF, M) := by
  rw [pr_st]; rfl
set_option maxRecDepth 20000 in
theorem sg_X6_clear_0 {sc : List Int} {orc : q_O} {M : q_M} {F : Nat} : pr sc orc 83 (F + 1) 0 [some (.inr (.inr 24))] [] M =
  some (none, GF, (q_up (q_up M 24 4 0) 24 9 0)) := by
  rw [pr_st]; rfl
set_option maxRecDepth 20000 in
theorem sg_X6_count_0 {sc : List Int} {orc : q_O} {M : q_M} {F : Nat} : pr sc orc 84 (F + 1) 0 [some (.inr (.inr 24))] [] M =
  some (some (.inl (M 24 4)), GF, M) := by
  rw [pr_st]; rfl
set_option maxRecDepth 20000 in
theorem sg_X6_partCount_0 {sc : List Int} {orc : q_O} {M : q_M} {F : Nat} : pr sc orc 85 (F + 1) 0 [some (.inr (.inr 24))] [] M =
  some (some (.inl (M 24 9)), GF, M) := by
  rw [pr_st]; rfl
set_option maxRecDepth 20000 in
theorem sg_X6_add_0 {sc : List Int} {orc : q_O} {M : q_M} {F : Nat} {a1 a2 a3 : Int} : pr sc orc 86 (F + 1) 0 [some (.inr (.inr 24)), some (.inl (a1)), some (.inl (a2)), some (.inl (a3))] [] M =
  if (M 24 4) < 0 then
    some (none, GF, M)
  else
    if (M 24 4) < 130 then
      if 0 ≤ M 24 4 ∧ M 24 4 < ((130 : Nat) : Int) then
      if 0 ≤ M 24 4 ∧ M 24 4 < ((130 : Nat) : Int) then
      if 0 ≤ M 24 4 ∧ M 24 4 < ((130 : Nat) : Int) then
      some (none, GF, (q_up (q_up (q_up (q_up M 25 ((M 24 4 : Int).toNat) a1) 26 ((M 24 4 : Int).toNat) a2) 27 ((M 24 4 : Int).toNat) a3) 24 4 (q_w (M 24 4 + 1))))
      else none
      else none
      else none
    else
      some (none, GF, M) := by
  rw [pr_st]; rfl
set_option maxRecDepth 20000 in
theorem sg_X6_addPart_0 {sc : List Int} {orc : q_O} {M : q_M} {F : Nat} {a1 a2 a3 a4 : Int} : pr sc orc 87 (F + 1) 0 [some (.inr (.inr 24)), some (.inl (a1)), some (.inl (a2)), some (.inl (a3)), some (.inl (a4))] [] M =
  if a1 < 0 then
    some (none, GF, M)
  else
    if a1 < 130 then
      if 0 ≤ a1 ∧ a1 < ((130 : Nat) : Int) then
      if 0 ≤ a1 ∧ a1 < ((130 : Nat) : Int) then
      if 0 ≤ a1 ∧ a1 < ((130 : Nat) : Int) then
      if 0 ≤ a1 ∧ a1 < ((130 : Nat) : Int) then
      if (1 : Nat) = 0 ∨ ((1 : Nat) = 1 ∧ (a4 = 0 ∨ a4 = 1)) ∨ ((1 : Nat) = 2 ∧ 0 ≤ a4 ∧ a4 < 65536) then
      some (none, GF, (q_up (q_up (q_up (q_up (q_up M 28 ((a1 : Int).toNat) a2) 29 ((a1 : Int).toNat) (M 24 4)) 30 ((a1 : Int).toNat) a3) 31 ((a1 : Int).toNat) a4) 24 9 (q_w (a1 + 1))))
      else none
      else none
      else none
      else none
      else none
    else
      some (none, GF, M) := by
  rw [pr_st]; rfl
set_option maxRecDepth 20000 in
theorem sg_X6_settle_0 {sc : List Int} {orc : q_O} {M : q_M} {F : Nat} : pr sc orc 88 (F + 1) 0 [some (.inr (.inr 24)), none] [] M =
  pr sc orc 88 F 2 [some (.inr (.inr 24)), some (.inl (0))] [] M := by
  rw [pr_st]; rfl
set_option maxRecDepth 20000 in
theorem sg_X6_settle_2 {sc : List Int} {orc : q_O} {M : q_M} {F : Nat} {b1 : Int} : pr sc orc 88 (F + 1) 2 [some (.inr (.inr 24)), some (.inl (b1))] [] M =
  if b1 < (M 24 9) then
    if b1 < 130 then
      if 0 ≤ b1 ∧ b1 < ((130 : Nat) : Int) then
      if (M 31 (b1 : Int).toNat) = 0 then
        pr sc orc 88 F 2 [some (.inr (.inr 24)), some (.inl (q_w (b1 + (1))))] [] M
      else
        if 0 ≤ b1 ∧ b1 < ((130 : Nat) : Int) then
        if 0 ≤ b1 ∧ b1 < ((130 : Nat) : Int) then
        q_cI (orc 89 [.inr (.inr 24), .inl (M 28 (b1 : Int).toNat), .inl (M 29 (b1 : Int).toNat)] GF M) GF (fun x2 M1 =>
        if 0 ≤ b1 ∧ b1 < ((130 : Nat) : Int) then
        pr sc orc 88 F 2 [some (.inr (.inr 24)), some (.inl (q_w (b1 + (1))))] [] (q_up M1 30 ((b1 : Int).toNat) x2)
        else none)
        else none
        else none
      else none
    else
      some (none, GF, M)
  else
    some (none, GF, M) := by
  rw [pr_st]; rfl
set_option maxRecDepth 20000 in
theorem sg_X6_lastItemIn_0 {sc : List Int} {orc : q_O} {M : q_M} {F : Nat} {a1 a2 : Int} : pr sc orc 89 (F + 1) 0 [some (.inr (.inr 24)), some (.inl (a1)), some (.inl (a2)), none, none] [] M =
  q_cI (orc 225 [.inl (a1), .inl (0)] GF M) GF (fun x2 M1 =>
  pr sc orc 89 F 9 [some (.inr (.inr 24)), none, some (.inl (a2)), some (.inl (0)), some (.inl (x2))] [] M1) := by
  rw [pr_st]; rfl
set_option maxRecDepth 20000 in
theorem sg_X6_lastItemIn_9 {sc : List Int} {orc : q_O} {M : q_M} {F : Nat} {b2 b3 b4 : Int} : pr sc orc 89 (F + 1) 9 [some (.inr (.inr 24)), none, some (.inl (b2)), some (.inl (b3)), some (.inl (b4))] [] M =
  if b4 < b2 then
    if b4 < 130 then
      if 0 ≤ b4 ∧ b4 < ((130 : Nat) : Int) then
      q_cI (orc 36 [.inr (.inr 16), .inl (M 26 (b4 : Int).toNat)] GF M) GF (fun x2 M1 =>
      q_cI (orc 225 [.inl (b3), .inl (x2)] GF M1) GF (fun x4 M3 =>
      if 0 ≤ b4 ∧ b4 < ((130 : Nat) : Int) then
      q_cI (orc 36 [.inr (.inr 16), .inl (M3 27 (b4 : Int).toNat)] GF M3) GF (fun x6 M5 =>
      q_cI (orc 225 [.inl (x4), .inl (x6)] GF M5) GF (fun x8 M7 =>
      pr sc orc 89 F 9 [some (.inr (.inr 24)), none, some (.inl (b2)), some (.inl (x8)), some (.inl (q_w (b4 + (1))))] [] M7))
      else none))
      else none
    else
      some (some (.inl (b3)), GF, M)
  else
    some (some (.inl (b3)), GF, M) := by
  rw [pr_st]; rfl
set_option maxRecDepth 20000 in
theorem sg_X6_allTrue_0 {sc : List Int} {orc : q_O} {M : q_M} {F : Nat} {a1 a2 : Int} : pr sc orc 90 (F + 1) 0 [some (.inr (.inr 24)), some (.inl (a1)), some (.inl (a2)), none] [] M =
  pr sc orc 90 F 2 [some (.inr (.inr 24)), some (.inl (a1)), some (.inl (a2)), some (.inl (0))] [] M := by
  rw [pr_st]; rfl
set_option maxRecDepth 20000 in
theorem sg_X6_allTrue_2 {sc : List Int} {orc : q_O} {M : q_M} {F : Nat} {b1 b2 b3 : Int} : pr sc orc 90 (F + 1) 2 [some (.inr (.inr 24)), some (.inl (b1)), some (.inl (b2)), some (.inl (b3))] [] M =
  if b3 < (M 24 9) then
    if b3 < 130 then
      if 0 ≤ b3 ∧ b3 < ((130 : Nat) : Int) then
      if (M 30 (b3 : Int).toNat) = b1 then
        if 0 ≤ b3 ∧ b3 < ((130 : Nat) : Int) then
        if (M 31 (b3 : Int).toNat) = b2 then
          if 0 ≤ b3 ∧ b3 < ((130 : Nat) : Int) then
          if 0 ≤ b3 ∧ b3 < ((130 : Nat) : Int) then
          q_cI (orc 91 [.inr (.inr 24), .inl (M 28 (b3 : Int).toNat), .inl (M 29 (b3 : Int).toNat)] GF M) GF (fun x2 M1 =>
          if x2 = 2 then
            pr sc orc 90 F 2 [some (.inr (.inr 24)), some (.inl (b1)), some (.inl (b2)), some (.inl (q_w (b3 + (1))))] [] M1
          else
            some (some (.inl (0)), GF, M1))
          else none
          else none
        else
          pr sc orc 90 F 2 [some (.inr (.inr 24)), some (.inl (b1)), some (.inl (b2)), some (.inl (q_w (b3 + (1))))] [] M
        else none
      else
        pr sc orc 90 F 2 [some (.inr (.inr 24)), some (.inl (b1)), some (.inl (b2)), some (.inl (q_w (b3 + (1))))] [] M
      else none
    else
      some (some (.inl (1)), GF, M)
  else
    some (some (.inl (1)), GF, M) := by
  rw [pr_st]; rfl
set_option maxRecDepth 20000 in
theorem sg_X6_truthOf_0 {sc : List Int} {orc : q_O} {M : q_M} {F : Nat} {a1 a2 : Int} : pr sc orc 91 (F + 1) 0 [some (.inr (.inr 24)), some (.inl (a1)), some (.inl (a2)), none, none, none] [] M =
  q_cI (orc 225 [.inl (a1), .inl (0)] GF M) GF (fun x2 M1 =>
  pr sc orc 91 F 9 [some (.inr (.inr 24)), none, some (.inl (a2)), some (.inl (0)), some (.inl (x2)), none] [] M1) := by
  rw [pr_st]; rfl
set_option maxRecDepth 20000 in
theorem sg_X6_truthOf_9 {sc : List Int} {orc : q_O} {M : q_M} {F : Nat} {b2 b3 b4 : Int} : pr sc orc 91 (F + 1) 9 [some (.inr (.inr 24)), none, some (.inl (b2)), some (.inl (b3)), some (.inl (b4)), none] [] M =
  if b4 < b2 then
    if b4 < 130 then
      if 0 ≤ b4 ∧ b4 < ((130 : Nat) : Int) then
      if (M 25 (b4 : Int).toNat) = 272 then
        q_c0 (orc 92 [.inr (.inr 24), .inl (b3)] GF M) GF (fun M7 =>
        pr sc orc 91 F 9 [some (.inr (.inr 24)), none, some (.inl (b2)), some (.inl (b3)), some (.inl (q_w (b4 + (1)))), none] [] M7)
      else
        if (M 25 (b4 : Int).toNat) = 271 then
          q_cI (orc 93 [.inr (.inr 24), .inl (b3), .inl (M 25 (b4 : Int).toNat)] GF M) GF (fun x2 M1 =>
          pr sc orc 91 F 9 [some (.inr (.inr 24)), none, some (.inl (b2)), some (.inl (x2)), some (.inl (q_w (b4 + (1)))), none] [] M1)
        else
          if (M 25 (b4 : Int).toNat) = 270 then
            q_cI (orc 93 [.inr (.inr 24), .inl (b3), .inl (M 25 (b4 : Int).toNat)] GF M) GF (fun x6 M5 =>
            pr sc orc 91 F 9 [some (.inr (.inr 24)), none, some (.inl (b2)), some (.inl (x6)), some (.inl (q_w (b4 + (1)))), none] [] M5)
          else
            if b3 < 130 then
              if 0 ≤ b4 ∧ b4 < ((130 : Nat) : Int) then
              if 0 ≤ b4 ∧ b4 < ((130 : Nat) : Int) then
              q_cI (orc 94 [.inr (.inr 24), .inl (M 25 (b4 : Int).toNat), .inl (M 26 (b4 : Int).toNat), .inl (M 27 (b4 : Int).toNat)] GF M) GF (fun x4 M3 =>
              if 0 ≤ b3 ∧ b3 < ((130 : Nat) : Int) then
              pr sc orc 91 F 9 [some (.inr (.inr 24)), none, some (.inl (b2)), some (.inl (q_w (b3 + (1)))), some (.inl (q_w (b4 + (1)))), none] [] (q_up M3 32 ((b3 : Int).toNat) x4)
              else none)
              else none
              else none
            else
              pr sc orc 91 F 9 [some (.inr (.inr 24)), none, some (.inl (b2)), some (.inl (b3)), some (.inl (q_w (b4 + (1)))), none] [] M
      else none
    else
      if 0 < b3 then
        if 0 ≤ 0 ∧ 0 < ((130 : Nat) : Int) then
        some (some (.inl (M 32 (0 : Int).toNat)), GF, M)
        else none
      else
        some (some (.inl (1)), GF, M)
  else
    if 0 < b3 then
      if 0 ≤ 0 ∧ 0 < ((130 : Nat) : Int) then
      some (some (.inl (M 32 (0 : Int).toNat)), GF, M)
      else none
    else
      some (some (.inl (1)), GF, M) := by
  rw [pr_st]; rfl
set_option maxRecDepth 20000 in
theorem sg_X6_turnTop_0 {sc : List Int} {orc : q_O} {M : q_M} {F : Nat} {a1 : Int} : pr sc orc 92 (F + 1) 0 [some (.inr (.inr 24)), some (.inl (a1))] [] M =
  if 0 < a1 then
    if 130 < a1 then
      some (none, GF, M)
    else
      if 0 ≤ q_w (a1 - 1) ∧ q_w (a1 - 1) < ((130 : Nat) : Int) then
      if 0 ≤ q_w (a1 - 1) ∧ q_w (a1 - 1) < ((130 : Nat) : Int) then
      some (none, GF, (q_up M 32 ((q_w (a1 - 1) : Int).toNat) (q_w (2 - (M 32 (q_w (a1 - 1) : Int).toNat)))))
      else none
      else none
  else
    some (none, GF, M) := by
  rw [pr_st]; rfl
set_option maxRecDepth 20000 in
theorem sg_X6_joinTop_0 {sc : List Int} {orc : q_O} {M : q_M} {F : Nat} {a1 a2 : Int} : pr sc orc 93 (F + 1) 0 [some (.inr (.inr 24)), some (.inl (a1)), some (.inl (a2)), none, none] [] M =
  if a1 < 2 then
    some (some (.inl (a1)), GF, M)
  else
    if 130 < a1 then
      some (some (.inl (a1)), GF, M)
    else
      if 0 ≤ q_w (a1 - 2) ∧ q_w (a1 - 2) < ((130 : Nat) : Int) then
      if 0 ≤ q_w (a1 - 1) ∧ q_w (a1 - 1) < ((130 : Nat) : Int) then
      if a2 = 271 then
        q_cI (orc 227 [.inl (M 32 (q_w (a1 - 2) : Int).toNat), .inl (M 32 (q_w (a1 - 1) : Int).toNat)] GF M) GF (fun x4 M3 =>
        if 0 ≤ q_w (a1 - 2) ∧ q_w (a1 - 2) < ((130 : Nat) : Int) then
        some (some (.inl (q_w (a1 - 1))), GF, (q_up M3 32 ((q_w (a1 - 2) : Int).toNat) x4))
        else none)
      else
        q_cI (orc 225 [.inl (M 32 (q_w (a1 - 2) : Int).toNat), .inl (M 32 (q_w (a1 - 1) : Int).toNat)] GF M) GF (fun x2 M1 =>
        if 0 ≤ q_w (a1 - 2) ∧ q_w (a1 - 2) < ((130 : Nat) : Int) then
        some (some (.inl (q_w (a1 - 1))), GF, (q_up M1 32 ((q_w (a1 - 2) : Int).toNat) x2))
        else none)
      else none
      else none := by
  rw [pr_st]; rfl
set_option maxRecDepth 20000 in
theorem sg_X6_testOf_0 {sc : List Int} {orc : q_O} {M : q_M} {F : Nat} {a1 a2 a3 : Int} : pr sc orc 94 (F + 1) 0 [some (.inr (.inr 24)), some (.inl (a1)), some (.inl (a2)), some (.inl (a3)), none, none] [] M =
  if a1 = 273 then
    q_cI (orc 40 [.inr (.inr 16), .inl (a2)] GF M) GF (fun x12 M11 =>
    if x12 = 0 then
      some (some (.inl (0)), GF, M11)
    else
      some (some (.inl (2)), GF, M11))
  else
    q_cI (orc 40 [.inr (.inr 16), .inl (a2)] GF M) GF (fun x2 M1 =>
    if x2 = 0 then
      q_cI (orc 40 [.inr (.inr 16), .inl (a3)] GF M1) GF (fun x4 M3 =>
      if x4 = 0 then
        q_cI (orc 39 [.inr (.inr 16), .inl (a2)] GF M3) GF (fun x6 M5 =>
        q_cI (orc 39 [.inr (.inr 16), .inl (a3)] GF M5) GF (fun x8 M7 =>
        q_cI (orc 229 [.inl (x6), .inl (x8)] GF M7) GF (fun x10 M9 =>
        if a1 = 60 then
          if x10 < 0 then
            if 1 = 0 then
              some (some (.inl (0)), GF, M9)
            else
              some (some (.inl (2)), GF, M9)
          else
            if 0 = 0 then
              some (some (.inl (0)), GF, M9)
            else
              some (some (.inl (2)), GF, M9)
        else
          if a1 = 62 then
            if 0 < x10 then
              if 1 = 0 then
                some (some (.inl (0)), GF, M9)
              else
                some (some (.inl (2)), GF, M9)
            else
              if 0 = 0 then
                some (some (.inl (0)), GF, M9)
              else
                some (some (.inl (2)), GF, M9)
          else
            if x10 = 0 then
              if 1 = 0 then
                some (some (.inl (0)), GF, M9)
              else
                some (some (.inl (2)), GF, M9)
            else
              if 0 = 0 then
                some (some (.inl (0)), GF, M9)
              else
                some (some (.inl (2)), GF, M9))))
      else
        some (some (.inl (1)), GF, M3))
    else
      some (some (.inl (1)), GF, M1)) := by
  rw [pr_st]; rfl
