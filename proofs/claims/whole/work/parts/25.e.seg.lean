set_option maxRecDepth 20000 in
theorem sg_X9_take_0 {sc : List Int} {orc : q_O} {M : q_M} {F : Nat} {a1 : Int} : pr sc orc 125 (F + 1) 0 [some (.inr (.inr 11)), some (.inl (a1))] [] M =
  q_cI (orc 121 [.inr (.inr 11)] GF M) GF (fun x2 M1 =>
  if x2 = a1 then
    q_c0 (orc 124 [.inr (.inr 11)] GF M1) GF (fun M3 =>
    some (some (.inl (1)), GF, M3))
  else
    some (some (.inl (0)), GF, M1)) := by
  rw [pr_st]; rfl
set_option maxRecDepth 20000 in
theorem sg_X10_size_0 {sc : List Int} {orc : q_O} {M : q_M} {F : Nat} : pr sc orc 127 (F + 1) 0 [some (.inr (.inr 6))] [] M =
  some (some (.inl (M 6 2)), GF, M) := by
  rw [pr_st]; rfl
set_option maxRecDepth 20000 in
theorem sg_X10_clear_0 {sc : List Int} {orc : q_O} {M : q_M} {F : Nat} : pr sc orc 128 (F + 1) 0 [some (.inr (.inr 6))] [] M =
  some (none, GF, (q_up M 6 2 0)) := by
  rw [pr_st]; rfl
set_option maxRecDepth 20000 in
theorem sg_X10_put_0 {sc : List Int} {orc : q_O} {M : q_M} {F : Nat} {a1 a2 : Int} : pr sc orc 129 (F + 1) 0 [some (.inr (.inr 6)), some (.inl (a1)), some (.inl (a2))] [] M =
  if (M 6 2) < 0 then
    some (some (.inl (0)), GF, M)
  else
    if (M 6 2) < 4 then
      if 0 ≤ M 6 2 ∧ M 6 2 < ((4 : Nat) : Int) then
      if 0 ≤ M 6 2 ∧ M 6 2 < ((4 : Nat) : Int) then
      if (1 : Nat) = 0 ∨ ((1 : Nat) = 1 ∧ (a2 = 0 ∨ a2 = 1)) ∨ ((1 : Nat) = 2 ∧ 0 ≤ a2 ∧ a2 < 65536) then
      some (some (.inl (1)), GF, (q_up (q_up (q_up M 7 ((M 6 2 : Int).toNat) a1) 8 ((M 6 2 : Int).toNat) a2) 6 2 (q_w (M 6 2 + 1))))
      else none
      else none
      else none
    else
      some (some (.inl (0)), GF, M) := by
  rw [pr_st]; rfl
set_option maxRecDepth 20000 in
theorem sg_X10_numberAt_0 {sc : List Int} {orc : q_O} {M : q_M} {F : Nat} {a1 : Int} : pr sc orc 130 (F + 1) 0 [some (.inr (.inr 6)), some (.inl (a1))] [] M =
  if a1 < 0 then
    some (some (.inl (0)), GF, M)
  else
    if a1 < 4 then
      if 0 ≤ a1 ∧ a1 < ((4 : Nat) : Int) then
      some (some (.inl (M 7 (a1 : Int).toNat)), GF, M)
      else none
    else
      some (some (.inl (0)), GF, M) := by
  rw [pr_st]; rfl
set_option maxRecDepth 20000 in
theorem sg_X10_unknownAt_0 {sc : List Int} {orc : q_O} {M : q_M} {F : Nat} {a1 : Int} : pr sc orc 131 (F + 1) 0 [some (.inr (.inr 6)), some (.inl (a1))] [] M =
  if a1 < 0 then
    some (some (.inl (0)), GF, M)
  else
    if a1 < 4 then
      if 0 ≤ a1 ∧ a1 < ((4 : Nat) : Int) then
      if (M 8 (a1 : Int).toNat) = 0 then
        some (some (.inl (0)), GF, M)
      else
        some (some (.inl (1)), GF, M)
      else none
    else
      some (some (.inl (0)), GF, M) := by
  rw [pr_st]; rfl
set_option maxRecDepth 20000 in
theorem sg_X11_declare_0 {sc : List Int} {orc : q_O} {M : q_M} {F : Nat} {a1 a2 : Int} : pr sc orc 133 (F + 1) 0 [some (.inr (.inr 0)), some (.inl (a1)), some (.inl (a2))] [] M =
  q_cI (orc 98 [.inr (.inr 1), .inl (a1), .inl (a2)] GF M) GF (fun x2 M1 =>
  if x2 = 0 then
    some (some (.inl (0)), GF, M1)
  else
    q_cI (orc 74 [.inr (.inr 15), .inl (a1)] GF M1) GF (fun x4 M3 =>
    if x4 = 0 then
      some (some (.inl (1)), GF, M3)
    else
      some (some (.inl (1)), GF, (q_up M3 0 9 0)))) := by
  rw [pr_st]; rfl
set_option maxRecDepth 20000 in
theorem sg_X11_value_0 {sc : List Int} {orc : q_O} {M : q_M} {F : Nat} {a1 : Int} : pr sc orc 134 (F + 1) 0 [some (.inr (.inr 0)), some (.inl (a1))] [] M =
  q_cI (orc 129 [.inr (.inr 6), .inl (a1), .inl (0)] GF M) GF (fun x2 M1 =>
  if x2 = 0 ∨ x2 = 1 then some (some (.inl (x2)), GF, M1) else none) := by
  rw [pr_st]; rfl
set_option maxRecDepth 20000 in
theorem sg_X11_nothing_0 {sc : List Int} {orc : q_O} {M : q_M} {F : Nat} : pr sc orc 135 (F + 1) 0 [some (.inr (.inr 0))] [] M =
  q_cI (orc 129 [.inr (.inr 6), .inl (0), .inl (1)] GF M) GF (fun x2 M1 =>
  if x2 = 0 ∨ x2 = 1 then some (some (.inl (x2)), GF, M1) else none) := by
  rw [pr_st]; rfl
set_option maxRecDepth 20000 in
theorem sg_X11_row_0 {sc : List Int} {orc : q_O} {M : q_M} {F : Nat} {a1 : Int} : pr sc orc 136 (F + 1) 0 [some (.inr (.inr 0)), some (.inl (a1)), none, none, none] [] M =
  q_cI (orc 96 [.inr (.inr 1), .inl (a1)] GF M) GF (fun x2 M1 =>
  if 0 < x2 then
    q_cI (orc 127 [.inr (.inr 6)] GF M1) GF (fun x6 M5 =>
    if x2 = x6 then
      q_cI (orc 97 [.inr (.inr 1), .inl (a1)] GF M5) GF (fun x10 M9 =>
      if x10 < 10 then
        pr sc orc 136 F 50 [some (.inr (.inr 0)), some (.inl (a1)), none, some (.inl (1)), some (.inl (0))] [] M9
      else
        pr sc orc 136 F 50 [some (.inr (.inr 0)), some (.inl (a1)), none, some (.inl (1)), some (.inl (1))] [] M9)
    else
      q_cI (orc 97 [.inr (.inr 1), .inl (a1)] GF M5) GF (fun x8 M7 =>
      if x8 < 10 then
        pr sc orc 136 F 50 [some (.inr (.inr 0)), some (.inl (a1)), none, some (.inl (0)), some (.inl (0))] [] M7
      else
        pr sc orc 136 F 50 [some (.inr (.inr 0)), some (.inl (a1)), none, some (.inl (0)), some (.inl (1))] [] M7))
  else
    q_cI (orc 97 [.inr (.inr 1), .inl (a1)] GF M1) GF (fun x4 M3 =>
    if x4 < 10 then
      pr sc orc 136 F 50 [some (.inr (.inr 0)), some (.inl (a1)), none, some (.inl (0)), some (.inl (0))] [] M3
    else
      pr sc orc 136 F 50 [some (.inr (.inr 0)), some (.inl (a1)), none, some (.inl (0)), some (.inl (1))] [] M3)) := by
  rw [pr_st]; rfl
set_option maxRecDepth 20000 in
theorem sg_X11_row_50 {sc : List Int} {orc : q_O} {M : q_M} {F : Nat} {b1 b3 b4 : Int} : pr sc orc 136 (F + 1) 50 [some (.inr (.inr 0)), some (.inl (b1)), none, some (.inl (b3)), some (.inl (b4))] [] M =
  if b3 = 0 then
    q_c0 (orc 128 [.inr (.inr 6)] GF M) GF (fun M1 =>
    if b3 = 0 then
      pr sc orc 136 F 82 [none, none, none, none, none] [] M1
    else
      if b4 = 0 then
        q_cI (orc 97 [.inr (.inr 1), .inl (b1)] GF M1) GF (fun x3 M2 =>
        some (some (.inl (x3)), GF, M2))
      else
        pr sc orc 136 F 97 [none, none, none, none, none] [] M1)
  else
    if b4 = 0 then
      q_c0 (orc 99 [.inr (.inr 1), .inl (b1), .inr (.inr 6)] GF M) GF (fun M7 =>
      q_c0 (orc 128 [.inr (.inr 6)] GF M7) GF (fun M8 =>
      if b3 = 0 then
        pr sc orc 136 F 82 [none, none, none, none, none] [] M8
      else
        if b4 = 0 then
          q_cI (orc 97 [.inr (.inr 1), .inl (b1)] GF M8) GF (fun x10 M9 =>
          some (some (.inl (x10)), GF, M9))
        else
          pr sc orc 136 F 97 [none, none, none, none, none] [] M8))
    else
      q_c0 (orc 128 [.inr (.inr 6)] GF M) GF (fun M4 =>
      if b3 = 0 then
        pr sc orc 136 F 82 [none, none, none, none, none] [] M4
      else
        if b4 = 0 then
          q_cI (orc 97 [.inr (.inr 1), .inl (b1)] GF M4) GF (fun x6 M5 =>
          some (some (.inl (x6)), GF, M5))
        else
          pr sc orc 136 F 97 [none, none, none, none, none] [] M4) := by
  rw [pr_st]; rfl
set_option maxRecDepth 20000 in
theorem sg_X11_drop_0 {sc : List Int} {orc : q_O} {M : q_M} {F : Nat} {a1 : Int} : pr sc orc 137 (F + 1) 0 [some (.inr (.inr 0)), some (.inl (a1))] [] M =
  q_cI (orc 100 [.inr (.inr 1), .inl (a1)] GF M) GF (fun x2 M1 =>
  some (some (.inl (x2)), GF, M1)) := by
  rw [pr_st]; rfl
set_option maxRecDepth 20000 in
theorem sg_X11_ask_0 {sc : List Int} {orc : q_O} {M : q_M} {F : Nat} {a1 : Int} : pr sc orc 138 (F + 1) 0 [some (.inr (.inr 0)), some (.inl (a1))] [] M =
  q_cI (orc 105 [.inr (.inr 9), .inl (a1)] GF M) GF (fun x2 M1 =>
  if x2 = 0 ∨ x2 = 1 then some (some (.inl (x2)), GF, M1) else none) := by
  rw [pr_st]; rfl
set_option maxRecDepth 20000 in
theorem sg_X11_compile_0 {sc : List Int} {orc : q_O} {M : q_M} {F : Nat} : pr sc orc 139 (F + 1) 0 [some (.inr (.inr 0))] [] M =
  q_c0 (orc 107 [.inr (.inr 9), .inr (.inr 11)] GF M) GF (fun M1 =>
  q_c0 (orc 106 [.inr (.inr 9)] GF M1) GF (fun M2 =>
  q_c0 (orc 1 [.inr (.inr 43), .inl (0)] GF M2) GF (fun M3 =>
  q_cI (orc 43 [.inr (.inr 41)] GF M3) GF (fun x5 M4 =>
  if x5 = 0 then
    q_cI (orc 122 [.inr (.inr 11)] GF M4) GF (fun x7 M6 =>
    if x7 = (-1) then
      if 1 = 0 then
        pr sc orc 139 F 81 [none] [] (q_up (q_up M6 0 10 x7) 0 9 1)
      else
        q_c0 (orc 61 [.inr (.inr 15)] GF (q_up (q_up M6 0 10 x7) 0 9 1)) GF (fun M11 =>
        q_cI (orc 67 [.inr (.inr 15)] GF M11) GF (fun x13 M12 =>
        some (some (.inl (x13)), GF, M12)))
    else
      if 0 = 0 then
        pr sc orc 139 F 81 [none] [] (q_up (q_up M6 0 10 x7) 0 9 0)
      else
        q_c0 (orc 61 [.inr (.inr 15)] GF (q_up (q_up M6 0 10 x7) 0 9 0)) GF (fun M8 =>
        q_cI (orc 67 [.inr (.inr 15)] GF M8) GF (fun x10 M9 =>
        some (some (.inl (x10)), GF, M9))))
  else
    q_cI (orc 9 [.inr (.inr 42)] GF M4) GF (fun x15 M14 =>
    if x15 = (-1) then
      if 1 = 0 then
        pr sc orc 139 F 81 [none] [] (q_up (q_up M14 0 10 x15) 0 9 1)
      else
        q_c0 (orc 61 [.inr (.inr 15)] GF (q_up (q_up M14 0 10 x15) 0 9 1)) GF (fun M19 =>
        q_cI (orc 67 [.inr (.inr 15)] GF M19) GF (fun x21 M20 =>
        some (some (.inl (x21)), GF, M20)))
    else
      if 0 = 0 then
        pr sc orc 139 F 81 [none] [] (q_up (q_up M14 0 10 x15) 0 9 0)
      else
        q_c0 (orc 61 [.inr (.inr 15)] GF (q_up (q_up M14 0 10 x15) 0 9 0)) GF (fun M16 =>
        q_cI (orc 67 [.inr (.inr 15)] GF M16) GF (fun x18 M17 =>
        some (some (.inl (x18)), GF, M17)))))))) := by
  rw [pr_st]; rfl
set_option maxRecDepth 20000 in
theorem sg_X11_place_0 {sc : List Int} {orc : q_O} {M : q_M} {F : Nat} : pr sc orc 140 (F + 1) 0 [some (.inr (.inr 0))] [] M =
  some (some (.inl (M 0 10)), GF, M) := by
  rw [pr_st]; rfl
set_option maxRecDepth 20000 in
theorem sg_X11_run_0 {sc : List Int} {orc : q_O} {M : q_M} {F : Nat} : pr sc orc 141 (F + 1) 0 [some (.inr (.inr 0))] [] M =
  if (M 0 9) = 0 then
    pr sc orc 141 F 7 [none] [] M
  else
    q_cI (orc 16 [.inr (.inr 46)] GF M) GF (fun x2 M1 =>
    if x2 = 0 then
      q_c0 (orc 1 [.inr (.inr 43), .inl (0)] GF M1) GF (fun M5 =>
      pr sc orc 141 F 35 [none] [] M5)
    else
      q_cI (orc 2 [.inr (.inr 43)] GF M1) GF (fun x4 M3 =>
      some (some (.inl (x4)), GF, M3))) := by
  rw [pr_st]; rfl
set_option maxRecDepth 20000 in
theorem sg_X11_looked_0 {sc : List Int} {orc : q_O} {M : q_M} {F : Nat} : pr sc orc 142 (F + 1) 0 [some (.inr (.inr 0))] [] M =
  q_cI (orc 15 [.inr (.inr 46)] GF M) GF (fun x2 M1 =>
  some (some (.inl (x2)), GF, M1)) := by
  rw [pr_st]; rfl
set_option maxRecDepth 20000 in
theorem sg_X11_rows_0 {sc : List Int} {orc : q_O} {M : q_M} {F : Nat} : pr sc orc 143 (F + 1) 0 [some (.inr (.inr 0))] [] M =
  q_cI (orc 2 [.inr (.inr 43)] GF M) GF (fun x2 M1 =>
  some (some (.inl (x2)), GF, M1)) := by
  rw [pr_st]; rfl
set_option maxRecDepth 20000 in
theorem sg_X11_isNull_0 {sc : List Int} {orc : q_O} {M : q_M} {F : Nat} {a1 a2 : Int} : pr sc orc 144 (F + 1) 0 [some (.inr (.inr 0)), some (.inl (a1)), some (.inl (a2))] [] M =
  q_cI (orc 4 [.inr (.inr 43), .inl (a1), .inl (a2)] GF M) GF (fun x2 M1 =>
  if x2 = 0 then
    some (some (.inl (0)), GF, M1)
  else
    q_cI (orc 5 [.inr (.inr 43), .inl (a1), .inl (a2)] GF M1) GF (fun x4 M3 =>
    if x4 = 0 then
      some (some (.inl (0)), GF, M3)
    else
      some (some (.inl (1)), GF, M3))) := by
  rw [pr_st]; rfl
set_option maxRecDepth 20000 in
theorem sg_X11_result_0 {sc : List Int} {orc : q_O} {M : q_M} {F : Nat} {a1 a2 : Int} : pr sc orc 145 (F + 1) 0 [some (.inr (.inr 0)), some (.inl (a1)), some (.inl (a2))] [] M =
  q_cI (orc 4 [.inr (.inr 43), .inl (a1), .inl (a2)] GF M) GF (fun x2 M1 =>
  if x2 = 0 then
    some (some (.inr (.inl (0))), GF, M1)
  else
    q_cL (orc 6 [.inr (.inr 43), .inl (a1), .inl (a2)] GF M1) GF (fun x4 M3 =>
    some (some (.inr (.inl (x4))), GF, M3))) := by
  rw [pr_st]; rfl
set_option maxRecDepth 20000 in
theorem sg_X12_thrown_0 {sc : List Int} {orc : q_O} {M : q_M} {F : Nat} : pr sc orc 148 (F + 1) 0 [some (.inr (.inr 49))] [] M =
  some (some (.inl (M 49 1)), GF, M) := by
  rw [pr_st]; rfl
set_option maxRecDepth 20000 in
theorem sg_X12_fail_0 {sc : List Int} {orc : q_O} {M : q_M} {F : Nat} {a1 : Int} : pr sc orc 149 (F + 1) 0 [some (.inr (.inr 49)), some (.inl (a1))] [] M =
  some (some (.inl (0)), GF, (q_up M 49 1 a1)) := by
  rw [pr_st]; rfl
set_option maxRecDepth 20000 in
theorem sg_X12_isTable_0 {sc : List Int} {orc : q_O} {M : q_M} {F : Nat} {a1 : Int} : pr sc orc 150 (F + 1) 0 [some (.inr (.inr 49)), some (.inl (a1))] [] M =
  if a1 < 0 then
    some (some (.inl (0)), GF, M)
  else
    if a1 < 3 then
      if 0 ≤ a1 ∧ a1 < ((3 : Nat) : Int) then
      if 0 < (M 51 (a1 : Int).toNat) then
        some (some (.inl (1)), GF, M)
      else
        some (some (.inl (0)), GF, M)
      else none
    else
      some (some (.inl (0)), GF, M) := by
  rw [pr_st]; rfl
set_option maxRecDepth 20000 in
theorem sg_X12_declare_0 {sc : List Int} {orc : q_O} {M : q_M} {F : Nat} {a1 a2 : Int} : pr sc orc 151 (F + 1) 0 [some (.inr (.inr 49)), some (.inl (a1)), some (.inl (a2)), none] [] M =
  if a1 < 0 then
    some (some (.inl (0)), GF, (q_up M 49 1 0))
  else
    if 2 < a1 then
      some (some (.inl (0)), GF, (q_up M 49 1 0))
    else
      if a2 < 1 then
        some (some (.inl (0)), GF, (q_up M 49 1 0))
      else
        if 4 < a2 then
          some (some (.inl (0)), GF, (q_up M 49 1 0))
        else
          if 0 ≤ a1 ∧ a1 < ((3 : Nat) : Int) then
          if 0 ≤ a1 ∧ a1 < ((3 : Nat) : Int) then
          pr sc orc 151 F 42 [some (.inr (.inr 49)), some (.inl (a1)), none, some (.inl (0))] [] (q_up (q_up (q_up M 49 1 0) 51 ((a1 : Int).toNat) a2) 52 ((a1 : Int).toNat) 0)
          else none
          else none := by
  rw [pr_st]; rfl
set_option maxRecDepth 20000 in
theorem sg_X12_declare_42 {sc : List Int} {orc : q_O} {M : q_M} {F : Nat} {b1 b3 : Int} : pr sc orc 151 (F + 1) 42 [some (.inr (.inr 49)), some (.inl (b1)), none, some (.inl (b3))] [] M =
  if b3 < (M 49 26) then
    if 0 ≤ b3 ∧ b3 < ((4 : Nat) : Int) then
    if (M 64 (b3 : Int).toNat) = b1 then
      pr sc orc 151 F 42 [some (.inr (.inr 49)), some (.inl (b1)), none, some (.inl (q_w (b3 + (1))))] [] (q_up M 49 22 0)
    else
      pr sc orc 151 F 42 [some (.inr (.inr 49)), some (.inl (b1)), none, some (.inl (q_w (b3 + (1))))] [] M
    else none
  else
    some (some (.inl (1)), GF, M) := by
  rw [pr_st]; rfl
set_option maxRecDepth 20000 in
theorem sg_X12_put_0 {sc : List Int} {orc : q_O} {M : q_M} {F : Nat} {a1 a2 : Int} : pr sc orc 152 (F + 1) 0 [some (.inr (.inr 49)), some (.inl (a1)), some (.inl (a2))] [] M =
  if (M 49 6) = 4 then
    some (some (.inl (0)), GF, M)
  else
    if 0 ≤ M 49 6 ∧ M 49 6 < ((4 : Nat) : Int) then
    if 0 ≤ M 49 6 ∧ M 49 6 < ((4 : Nat) : Int) then
    if (1 : Nat) = 0 ∨ ((1 : Nat) = 1 ∧ (a2 = 0 ∨ a2 = 1)) ∨ ((1 : Nat) = 2 ∧ 0 ≤ a2 ∧ a2 < 65536) then
    some (some (.inl (1)), GF, (q_up (q_up (q_up M 55 ((M 49 6 : Int).toNat) a1) 56 ((M 49 6 : Int).toNat) a2) 49 6 (q_w (M 49 6 + 1))))
    else none
    else none
    else none := by
  rw [pr_st]; rfl
set_option maxRecDepth 20000 in
theorem sg_X12_value_0 {sc : List Int} {orc : q_O} {M : q_M} {F : Nat} {a1 : Int} : pr sc orc 153 (F + 1) 0 [some (.inr (.inr 49)), some (.inl (a1))] [] M =
  q_cI (orc 152 [.inr (.inr 49), .inl (a1), .inl (0)] GF (q_up M 49 1 0)) GF (fun x2 M1 =>
  if x2 = 0 ∨ x2 = 1 then some (some (.inl (x2)), GF, M1) else none) := by
  rw [pr_st]; rfl
set_option maxRecDepth 20000 in
theorem sg_X12_nothing_0 {sc : List Int} {orc : q_O} {M : q_M} {F : Nat} : pr sc orc 154 (F + 1) 0 [some (.inr (.inr 49))] [] M =
  q_cI (orc 152 [.inr (.inr 49), .inl (0), .inl (1)] GF (q_up M 49 1 0)) GF (fun x2 M1 =>
  if x2 = 0 ∨ x2 = 1 then some (some (.inl (x2)), GF, M1) else none) := by
  rw [pr_st]; rfl
set_option maxRecDepth 20000 in
theorem sg_X12_row_0 {sc : List Int} {orc : q_O} {M : q_M} {F : Nat} {a1 : Int} : pr sc orc 155 (F + 1) 0 [some (.inr (.inr 49)), some (.inl (a1)), none, none] [] M =
  q_cI (orc 150 [.inr (.inr 49), .inl (a1)] GF (q_up (q_up M 49 1 0) 49 6 0)) GF (fun x2 M1 =>
  if x2 = 0 then
    q_cI (orc 149 [.inr (.inr 49), .inl (1)] GF M1) GF (fun x8 M7 =>
    some (some (.inl (x8)), GF, M7))
  else
    if 0 ≤ a1 ∧ a1 < ((3 : Nat) : Int) then
    if (M1 51 (a1 : Int).toNat) = (M 49 6) then
      if 0 ≤ a1 ∧ a1 < ((3 : Nat) : Int) then
      if (M1 52 (a1 : Int).toNat) = 10 then
        q_cI (orc 149 [.inr (.inr 49), .inl (2)] GF M1) GF (fun x4 M3 =>
        some (some (.inl (x4)), GF, M3))
      else
        pr sc orc 155 F 64 [some (.inr (.inr 49)), some (.inl (a1)), some (.inl (M 49 6)), some (.inl (0))] [] M1
      else none
    else
      q_cI (orc 149 [.inr (.inr 49), .inl (1)] GF M1) GF (fun x6 M5 =>
      some (some (.inl (x6)), GF, M5))
    else none) := by
  rw [pr_st]; rfl
set_option maxRecDepth 20000 in
theorem sg_X12_row_64 {sc : List Int} {orc : q_O} {M : q_M} {F : Nat} {b1 b2 b3 : Int} : pr sc orc 155 (F + 1) 64 [some (.inr (.inr 49)), some (.inl (b1)), some (.inl (b2)), some (.inl (b3))] [] M =
  if b3 < b2 then
    if 0 ≤ b1 ∧ b1 < ((3 : Nat) : Int) then
    if 0 ≤ b3 ∧ b3 < ((4 : Nat) : Int) then
    if 0 ≤ q_w (q_w (q_w (40 * b1) + (q_w (4 * (M 52 (b1 : Int).toNat)))) + b3) ∧ q_w (q_w (q_w (40 * b1) + (q_w (4 * (M 52 (b1 : Int).toNat)))) + b3) < ((120 : Nat) : Int) then
    if 0 ≤ b1 ∧ b1 < ((3 : Nat) : Int) then
    if 0 ≤ b3 ∧ b3 < ((4 : Nat) : Int) then
    if 0 ≤ q_w (q_w (q_w (40 * b1) + (q_w (4 * (M 52 (b1 : Int).toNat)))) + b3) ∧ q_w (q_w (q_w (40 * b1) + (q_w (4 * (M 52 (b1 : Int).toNat)))) + b3) < ((120 : Nat) : Int) then
    if (1 : Nat) = 0 ∨ ((1 : Nat) = 1 ∧ ((M 56 (b3 : Int).toNat) = 0 ∨ (M 56 (b3 : Int).toNat) = 1)) ∨ ((1 : Nat) = 2 ∧ 0 ≤ M 56 (b3 : Int).toNat ∧ M 56 (b3 : Int).toNat < 65536) then
    pr sc orc 155 F 64 [some (.inr (.inr 49)), some (.inl (b1)), some (.inl (b2)), some (.inl (q_w (b3 + (1))))] [] (q_up (q_up M 53 ((q_w (q_w (q_w (40 * b1) + (q_w (4 * (M 52 (b1 : Int).toNat)))) + b3) : Int).toNat) (M 55 (b3 : Int).toNat)) 54 ((q_w (q_w (q_w (40 * b1) + (q_w (4 * (M 52 (b1 : Int).toNat)))) + b3) : Int).toNat) (M 56 (b3 : Int).toNat))
    else none
    else none
    else none
    else none
    else none
    else none
    else none
  else
    if 0 ≤ b1 ∧ b1 < ((3 : Nat) : Int) then
    if 0 ≤ b1 ∧ b1 < ((3 : Nat) : Int) then
    if 0 ≤ b1 ∧ b1 < ((3 : Nat) : Int) then
    some (some (.inl ((q_up M 52 ((b1 : Int).toNat) (q_w (M 52 (b1 : Int).toNat + 1))) 52 (b1 : Int).toNat)), GF, (q_up M 52 ((b1 : Int).toNat) (q_w (M 52 (b1 : Int).toNat + 1))))
    else none
    else none
    else none := by
  rw [pr_st]; rfl
set_option maxRecDepth 20000 in
theorem sg_X12_drop_0 {sc : List Int} {orc : q_O} {M : q_M} {F : Nat} {a1 : Int} : pr sc orc 156 (F + 1) 0 [some (.inr (.inr 49)), some (.inl (a1)), none] [] M =
  q_cI (orc 150 [.inr (.inr 49), .inl (a1)] GF (q_up M 49 1 0)) GF (fun x2 M1 =>
  if x2 = 0 then
    some (some (.inl ((-1))), GF, M1)
  else
    if 0 ≤ a1 ∧ a1 < ((3 : Nat) : Int) then
    if (M1 52 (a1 : Int).toNat) = 0 then
      some (some (.inl ((-1))), GF, M1)
    else
      if 0 ≤ a1 ∧ a1 < ((3 : Nat) : Int) then
      if 0 ≤ a1 ∧ a1 < ((3 : Nat) : Int) then
      pr sc orc 156 F 41 [some (.inr (.inr 49)), some (.inl (a1)), some (.inl (q_w (40 * a1)))] [] (q_up M1 52 ((a1 : Int).toNat) (q_w (M1 52 (a1 : Int).toNat - 1)))
      else none
      else none
    else none) := by
  rw [pr_st]; rfl
set_option maxRecDepth 20000 in
theorem sg_X12_drop_41 {sc : List Int} {orc : q_O} {M : q_M} {F : Nat} {b1 b2 : Int} : pr sc orc 156 (F + 1) 41 [some (.inr (.inr 49)), some (.inl (b1)), some (.inl (b2))] [] M =
  if 0 ≤ b1 ∧ b1 < ((3 : Nat) : Int) then
  if b2 < (q_w (q_w (40 * b1) + (q_w (4 * (M 52 (b1 : Int).toNat))))) then
    if 0 ≤ q_w (b2 + 4) ∧ q_w (b2 + 4) < ((120 : Nat) : Int) then
    if 0 ≤ b2 ∧ b2 < ((120 : Nat) : Int) then
    if 0 ≤ q_w (b2 + 4) ∧ q_w (b2 + 4) < ((120 : Nat) : Int) then
    if 0 ≤ b2 ∧ b2 < ((120 : Nat) : Int) then
    if (1 : Nat) = 0 ∨ ((1 : Nat) = 1 ∧ ((M 54 (q_w (b2 + 4) : Int).toNat) = 0 ∨ (M 54 (q_w (b2 + 4) : Int).toNat) = 1)) ∨ ((1 : Nat) = 2 ∧ 0 ≤ M 54 (q_w (b2 + 4) : Int).toNat ∧ M 54 (q_w (b2 + 4) : Int).toNat < 65536) then
    pr sc orc 156 F 41 [some (.inr (.inr 49)), some (.inl (b1)), some (.inl (q_w (b2 + (1))))] [] (q_up (q_up M 53 ((b2 : Int).toNat) (M 53 (q_w (b2 + 4) : Int).toNat)) 54 ((b2 : Int).toNat) (M 54 (q_w (b2 + 4) : Int).toNat))
    else none
    else none
    else none
    else none
    else none
  else
    if 0 ≤ b1 ∧ b1 < ((3 : Nat) : Int) then
    some (some (.inl (M 52 (b1 : Int).toNat)), GF, M)
    else none
  else none := by
  rw [pr_st]; rfl
set_option maxRecDepth 20000 in
theorem sg_X12_ask_0 {sc : List Int} {orc : q_O} {M : q_M} {F : Nat} {a1 : Int} : pr sc orc 157 (F + 1) 0 [some (.inr (.inr 49)), some (.inl (a1))] [] M =
  if a1 < 32 then
    some (some (.inl (0)), GF, (q_up M 49 1 0))
  else
    if 126 < a1 then
      some (some (.inl (0)), GF, (q_up M 49 1 0))
    else
      if (M 49 9) = 130 then
        some (some (.inl (0)), GF, (q_up M 49 1 0))
      else
        if 0 ≤ M 49 9 ∧ M 49 9 < ((130 : Nat) : Int) then
        if (2 : Nat) = 0 ∨ ((2 : Nat) = 1 ∧ (a1 = 0 ∨ a1 = 1)) ∨ ((2 : Nat) = 2 ∧ 0 ≤ a1 ∧ a1 < 65536) then
        some (some (.inl (1)), GF, (q_up (q_up (q_up M 49 1 0) 57 ((M 49 9 : Int).toNat) a1) 49 9 (q_w (M 49 9 + 1))))
        else none
        else none := by
  rw [pr_st]; rfl
set_option maxRecDepth 20000 in
theorem sg_X12_at_0 {sc : List Int} {orc : q_O} {M : q_M} {F : Nat} {a1 : Int} : pr sc orc 158 (F + 1) 0 [some (.inr (.inr 49)), some (.inl (a1))] [] M =
  if a1 < (M 49 9) then
    if 0 ≤ a1 ∧ a1 < ((130 : Nat) : Int) then
    if 0 ≤ M 57 (a1 : Int).toNat ∧ M 57 (a1 : Int).toNat < 65536 then some (some (.inl (M 57 (a1 : Int).toNat)), GF, M) else none
    else none
  else
    if 0 ≤ 0 ∧ 0 < 65536 then some (some (.inl (0)), GF, M) else none := by
  rw [pr_st]; rfl
set_option maxRecDepth 20000 in
theorem sg_X12_isSmall_0 {sc : List Int} {orc : q_O} {M : q_M} {F : Nat} {a1 : Int} : pr sc orc 159 (F + 1) 0 [some (.inl (a1))] [] M =
  if a1 < 97 then
    some (some (.inl (0)), GF, M)
  else
    if 122 < a1 then
      some (some (.inl (0)), GF, M)
    else
      some (some (.inl (1)), GF, M) := by
  rw [pr_st]; rfl
set_option maxRecDepth 20000 in
theorem sg_X12_isDigit_0 {sc : List Int} {orc : q_O} {M : q_M} {F : Nat} {a1 : Int} : pr sc orc 160 (F + 1) 0 [some (.inl (a1))] [] M =
  if a1 < 48 then
    some (some (.inl (0)), GF, M)
  else
    if 57 < a1 then
      some (some (.inl (0)), GF, M)
    else
      some (some (.inl (1)), GF, M) := by
  rw [pr_st]; rfl
set_option maxRecDepth 20000 in
theorem sg_X12_stop_0 {sc : List Int} {orc : q_O} {M : q_M} {F : Nat} {a1 : Int} : pr sc orc 161 (F + 1) 0 [some (.inr (.inr 49)), some (.inl (a1))] [] M =
  if (M 49 12) = 0 then
    some (none, GF, (q_up (q_up M 49 13 a1) 49 12 1))
  else
    some (none, GF, (q_up M 49 12 1)) := by
  rw [pr_st]; rfl
set_option maxRecDepth 20000 in
theorem sg_X12_readWord_0 {sc : List Int} {orc : q_O} {M : q_M} {F : Nat} : pr sc orc 162 (F + 1) 0 [some (.inr (.inr 49)), none, none, none] [] M =
  pr sc orc 162 F 4 [some (.inr (.inr 49)), some (.inl (0)), some (.inl (0)), none] [] M := by
  rw [pr_st]; rfl
set_option maxRecDepth 20000 in
theorem sg_X12_readWord_4 {sc : List Int} {orc : q_O} {M : q_M} {F : Nat} {b1 b2 : Int} : pr sc orc 162 (F + 1) 4 [some (.inr (.inr 49)), some (.inl (b1)), some (.inl (b2)), none] [] M =
  q_cI (orc 158 [.inr (.inr 49), .inl (M 49 14)] GF M) GF (fun x2 M1 =>
  q_cI (orc 159 [.inl (x2)] GF M1) GF (fun x4 M3 =>
  if x4 = 0 then
    if b1 = 1 then
      if b2 < 23 then
        if b1 = 1 then
          if 4 < b2 then
            pr sc orc 162 F 101 [some (.inr (.inr 49)), some (.inl (b1)), some (.inl (b2)), some (.inl (0))] [] M3
          else
            some (some (.inl (q_w (q_w (230 + b2) - 1))), GF, M3)
        else
          pr sc orc 162 F 101 [some (.inr (.inr 49)), some (.inl (b1)), some (.inl (b2)), some (.inl (0))] [] M3
      else
        some (some (.inl (q_w (q_w (220 + b2) - 23))), GF, M3)
    else
      if b1 = 1 then
        if 4 < b2 then
          pr sc orc 162 F 101 [some (.inr (.inr 49)), some (.inl (b1)), some (.inl (b2)), some (.inl (0))] [] M3
        else
          some (some (.inl (q_w (q_w (230 + b2) - 1))), GF, M3)
      else
        pr sc orc 162 F 101 [some (.inr (.inr 49)), some (.inl (b1)), some (.inl (b2)), some (.inl (0))] [] M3
  else
    if b1 < 6 then
      q_cI (orc 158 [.inr (.inr 49), .inl (M3 49 14)] GF M3) GF (fun x6 M5 =>
      pr sc orc 162 F 4 [some (.inr (.inr 49)), some (.inl (q_w (b1 + (1)))), some (.inl (q_w (q_w (q_w (b2 * 32) + x6) - 96))), none] [] (q_up M5 49 14 (q_w (M5 49 14 + 1))))
    else
      pr sc orc 162 F 4 [some (.inr (.inr 49)), some (.inl (q_w (b1 + (1)))), some (.inl (0)), none] [] (q_up M3 49 14 (q_w (M3 49 14 + 1))))) := by
  rw [pr_st]; rfl
set_option maxRecDepth 20000 in
theorem sg_X12_readWord_101 {sc : List Int} {orc : q_O} {M : q_M} {F : Nat} {b1 b2 b3 : Int} : pr sc orc 162 (F + 1) 101 [some (.inr (.inr 49)), some (.inl (b1)), some (.inl (b2)), some (.inl (b3))] [] M =
  if b3 < 16 then
    if b1 < 7 then
      if 0 ≤ b3 ∧ b3 < ((16 : Nat) : Int) then
      if (M 50 (b3 : Int).toNat) = b2 then
        some (some (.inl (q_w (200 + b3))), GF, M)
      else
        pr sc orc 162 F 101 [some (.inr (.inr 49)), some (.inl (b1)), some (.inl (b2)), some (.inl (q_w (b3 + (1))))] [] M
      else none
    else
      pr sc orc 162 F 101 [some (.inr (.inr 49)), some (.inl (b1)), some (.inl (b2)), some (.inl (q_w (b3 + (1))))] [] M
  else
    some (some (.inl (240)), GF, M) := by
  rw [pr_st]; rfl
set_option maxRecDepth 20000 in
theorem sg_X12_readNumeral_0 {sc : List Int} {orc : q_O} {M : q_M} {F : Nat} {a1 : Int} : pr sc orc 163 (F + 1) 0 [some (.inr (.inr 49)), some (.inl (a1)), none, none, none] [] M =
  q_cI (orc 158 [.inr (.inr 49), .inl (M 49 14)] GF M) GF (fun x2 M1 =>
  if x2 = 45 then
    if 1 = 0 then
      pr sc orc 163 F 38 [some (.inr (.inr 49)), some (.inl (a1)), some (.inl (1)), some (.inl (0)), some (.inl (0))] [] M1
    else
      pr sc orc 163 F 38 [some (.inr (.inr 49)), some (.inl (a1)), some (.inl (1)), some (.inl (0)), some (.inl (0))] [] (q_up M1 49 14 (q_w (M1 49 14 + 1)))
  else
    if 0 = 0 then
      pr sc orc 163 F 38 [some (.inr (.inr 49)), some (.inl (a1)), some (.inl (0)), some (.inl (0)), some (.inl (0))] [] M1
    else
      pr sc orc 163 F 38 [some (.inr (.inr 49)), some (.inl (a1)), some (.inl (0)), some (.inl (0)), some (.inl (0))] [] (q_up M1 49 14 (q_w (M1 49 14 + 1)))) := by
  rw [pr_st]; rfl
set_option maxRecDepth 20000 in
theorem sg_X12_readNumeral_38 {sc : List Int} {orc : q_O} {M : q_M} {F : Nat} {b1 b2 b3 b4 : Int} : pr sc orc 163 (F + 1) 38 [some (.inr (.inr 49)), some (.inl (b1)), some (.inl (b2)), some (.inl (b3)), some (.inl (b4))] [] M =
  q_cI (orc 158 [.inr (.inr 49), .inl (M 49 14)] GF M) GF (fun x2 M1 =>
  q_cI (orc 160 [.inl (x2)] GF M1) GF (fun x4 M3 =>
  if x4 = 0 then
    if b4 = 0 then
      q_c0 (orc 161 [.inr (.inr 49), .inl (b1)] GF M3) GF (fun M5 =>
      if b2 = 0 then
        if 0 ≤ M5 49 15 ∧ M5 49 15 < ((132 : Nat) : Int) then
        some (some (.inl (1)), GF, (q_up M5 60 ((M5 49 15 : Int).toNat) b3))
        else none
      else
        if 0 ≤ M5 49 15 ∧ M5 49 15 < ((132 : Nat) : Int) then
        some (some (.inl (1)), GF, (q_up M5 60 ((M5 49 15 : Int).toNat) (q_w (-b3))))
        else none)
    else
      if 6 < b4 then
        q_c0 (orc 161 [.inr (.inr 49), .inl (b1)] GF M3) GF (fun M6 =>
        if b2 = 0 then
          if 0 ≤ M6 49 15 ∧ M6 49 15 < ((132 : Nat) : Int) then
          some (some (.inl (1)), GF, (q_up M6 60 ((M6 49 15 : Int).toNat) b3))
          else none
        else
          if 0 ≤ M6 49 15 ∧ M6 49 15 < ((132 : Nat) : Int) then
          some (some (.inl (1)), GF, (q_up M6 60 ((M6 49 15 : Int).toNat) (q_w (-b3))))
          else none)
      else
        if b2 = 0 then
          if 0 ≤ M3 49 15 ∧ M3 49 15 < ((132 : Nat) : Int) then
          some (some (.inl (1)), GF, (q_up M3 60 ((M3 49 15 : Int).toNat) b3))
          else none
        else
          if 0 ≤ M3 49 15 ∧ M3 49 15 < ((132 : Nat) : Int) then
          some (some (.inl (1)), GF, (q_up M3 60 ((M3 49 15 : Int).toNat) (q_w (-b3))))
          else none
  else
    if b4 < 6 then
      q_cI (orc 158 [.inr (.inr 49), .inl (M3 49 14)] GF M3) GF (fun x8 M7 =>
      pr sc orc 163 F 38 [some (.inr (.inr 49)), some (.inl (b1)), some (.inl (b2)), some (.inl (q_w (q_w (q_w (10 * b3) + x8) - 48))), some (.inl (q_w (b4 + (1))))] [] (q_up M7 49 14 (q_w (M7 49 14 + 1))))
    else
      pr sc orc 163 F 38 [some (.inr (.inr 49)), some (.inl (b1)), some (.inl (b2)), some (.inl (b3)), some (.inl (q_w (b4 + (1))))] [] (q_up M3 49 14 (q_w (M3 49 14 + 1))))) := by
  rw [pr_st]; rfl
