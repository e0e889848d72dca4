set_option maxRecDepth 20000 in
theorem sg_X8_spells_0_s2 {sc : List Int} {orc : q_O} {M : q_M} {F : Nat} {a1 a2 : Int} : pr sc orc 113 (F + 1) 0 [some (.inr (.inr 9)), some (.inl (a1)), some (.inl (a2)), some (.inr (.inr 1002)), none] [] M =
  q_cI (orc 214 [.inr (.inr 1002)] GF M) GF (fun x2 M1 =>
  if (q_w (a2 - a1)) = x2 then
    pr sc orc 113 F 15 [some (.inr (.inr 9)), some (.inl (a1)), none, some (.inr (.inr 1002)), some (.inl (0))] [] M1
  else
    some (some (.inl (0)), GF, M1)) := by
  rw [pr_st]; rfl
set_option maxRecDepth 20000 in
theorem sg_X8_spells_15_s2 {sc : List Int} {orc : q_O} {M : q_M} {F : Nat} {b1 b4 : Int} : pr sc orc 113 (F + 1) 15 [some (.inr (.inr 9)), some (.inl (b1)), none, some (.inr (.inr 1002)), some (.inl (b4))] [] M =
  q_cI (orc 214 [.inr (.inr 1002)] GF M) GF (fun x2 M1 =>
  if b4 < x2 then
    q_cI (orc 108 [.inr (.inr 9), .inl (q_w (b1 + b4))] GF M1) GF (fun x4 M3 =>
    q_cI (orc 216 [.inr (.inr 1002), .inl (b4)] GF M3) GF (fun x6 M5 =>
    if x4 = x6 then
      pr sc orc 113 F 15 [some (.inr (.inr 9)), some (.inl (b1)), none, some (.inr (.inr 1002)), some (.inl (q_w (b4 + (1))))] [] M5
    else
      some (some (.inl (0)), GF, M5)))
  else
    some (some (.inl (1)), GF, M1)) := by
  rw [pr_st]; rfl
set_option maxRecDepth 20000 in
theorem sg_J0_length_8abf5_0_s2 {sc : List Int} {orc : q_O} {M : q_M} {F : Nat} : pr sc orc 214 (F + 1) 0 [some (.inr (.inr 1002))] [] M =
  q_cI (orc 215 [.inr (.inr 1002)] GF M) GF (fun x2 M1 =>
  if x2 = 0 then
  some (some (.inl (((6 : Nat) : Int))), GF, M1)
  else none) := by
  rw [pr_st]; rfl
set_option maxRecDepth 20000 in
theorem sg_J0_coder_7d493_0_s2 {sc : List Int} {orc : q_O} {M : q_M} {F : Nat} : pr sc orc 215 (F + 1) 0 [some (.inr (.inr 1002))] [] M =
  if 1 = 0 then
    some (some (.inl (1)), GF, M)
  else
    some (some (.inl (0)), GF, M) := by
  rw [pr_st]; rfl
set_option maxRecDepth 20000 in
theorem sg_J0_charAt_5068e_0_s2 {sc : List Int} {orc : q_O} {M : q_M} {F : Nat} {a1 : Int} : pr sc orc 216 (F + 1) 0 [some (.inr (.inr 1002)), some (.inl (a1))] [] M =
  q_cI (orc 217 [.inr (.inr 1002)] GF M) GF (fun x2 M1 =>
  if x2 = 0 then
    none
  else
    q_cI (orc 220 [.inr (.inr 2002), .inl (a1)] GF M1) GF (fun x4 M3 =>
    if 0 ≤ x4 ∧ x4 < 65536 then some (some (.inl (x4)), GF, M3) else none)) := by
  rw [pr_st]; rfl
set_option maxRecDepth 20000 in
theorem sg_J0_isLatin1_aae02_0_s2 {sc : List Int} {orc : q_O} {M : q_M} {F : Nat} : pr sc orc 217 (F + 1) 0 [some (.inr (.inr 1002))] [] M =
  if 1 = 0 then
    some (some (.inl (0)), GF, M)
  else
    if 0 = 0 then
      some (some (.inl (1)), GF, M)
    else
      some (some (.inl (0)), GF, M) := by
  rw [pr_st]; rfl
set_option maxRecDepth 20000 in
theorem sg_J1_charAt_3b067_0_s2 {sc : List Int} {orc : q_O} {M : q_M} {F : Nat} {a2 : Int} : pr sc orc 220 (F + 1) 0 [some (.inr (.inr 2002)), some (.inl (a2))] [] M =
  q_c0 (orc 224 [.inl (a2), .inl (((6 : Nat) : Int))] GF M) GF (fun M1 =>
  if 0 ≤ a2 ∧ a2 < ((6 : Nat) : Int) then
  if 0 ≤ ((([115, 101, 108, 101, 99, 116] : List Int).getD (a2 : Int).toNat 0) % 256) % 65536 ∧ ((([115, 101, 108, 101, 99, 116] : List Int).getD (a2 : Int).toNat 0) % 256) % 65536 < 65536 then some (some (.inl (((([115, 101, 108, 101, 99, 116] : List Int).getD (a2 : Int).toNat 0) % 256) % 65536)), GF, M1) else none
  else none) := by
  rw [pr_st]; rfl
set_option maxRecDepth 20000 in
theorem sg_X8_spells_0_s3 {sc : List Int} {orc : q_O} {M : q_M} {F : Nat} {a1 a2 : Int} : pr sc orc 113 (F + 1) 0 [some (.inr (.inr 9)), some (.inl (a1)), some (.inl (a2)), some (.inr (.inr 1003)), none] [] M =
  q_cI (orc 214 [.inr (.inr 1003)] GF M) GF (fun x2 M1 =>
  if (q_w (a2 - a1)) = x2 then
    pr sc orc 113 F 15 [some (.inr (.inr 9)), some (.inl (a1)), none, some (.inr (.inr 1003)), some (.inl (0))] [] M1
  else
    some (some (.inl (0)), GF, M1)) := by
  rw [pr_st]; rfl
set_option maxRecDepth 20000 in
theorem sg_X8_spells_15_s3 {sc : List Int} {orc : q_O} {M : q_M} {F : Nat} {b1 b4 : Int} : pr sc orc 113 (F + 1) 15 [some (.inr (.inr 9)), some (.inl (b1)), none, some (.inr (.inr 1003)), some (.inl (b4))] [] M =
  q_cI (orc 214 [.inr (.inr 1003)] GF M) GF (fun x2 M1 =>
  if b4 < x2 then
    q_cI (orc 108 [.inr (.inr 9), .inl (q_w (b1 + b4))] GF M1) GF (fun x4 M3 =>
    q_cI (orc 216 [.inr (.inr 1003), .inl (b4)] GF M3) GF (fun x6 M5 =>
    if x4 = x6 then
      pr sc orc 113 F 15 [some (.inr (.inr 9)), some (.inl (b1)), none, some (.inr (.inr 1003)), some (.inl (q_w (b4 + (1))))] [] M5
    else
      some (some (.inl (0)), GF, M5)))
  else
    some (some (.inl (1)), GF, M1)) := by
  rw [pr_st]; rfl
set_option maxRecDepth 20000 in
theorem sg_J0_length_8abf5_0_s3 {sc : List Int} {orc : q_O} {M : q_M} {F : Nat} : pr sc orc 214 (F + 1) 0 [some (.inr (.inr 1003))] [] M =
  q_cI (orc 215 [.inr (.inr 1003)] GF M) GF (fun x2 M1 =>
  if x2 = 0 then
  some (some (.inl (((4 : Nat) : Int))), GF, M1)
  else none) := by
  rw [pr_st]; rfl
set_option maxRecDepth 20000 in
theorem sg_J0_coder_7d493_0_s3 {sc : List Int} {orc : q_O} {M : q_M} {F : Nat} : pr sc orc 215 (F + 1) 0 [some (.inr (.inr 1003))] [] M =
  if 1 = 0 then
    some (some (.inl (1)), GF, M)
  else
    some (some (.inl (0)), GF, M) := by
  rw [pr_st]; rfl
set_option maxRecDepth 20000 in
theorem sg_J0_charAt_5068e_0_s3 {sc : List Int} {orc : q_O} {M : q_M} {F : Nat} {a1 : Int} : pr sc orc 216 (F + 1) 0 [some (.inr (.inr 1003)), some (.inl (a1))] [] M =
  q_cI (orc 217 [.inr (.inr 1003)] GF M) GF (fun x2 M1 =>
  if x2 = 0 then
    none
  else
    q_cI (orc 220 [.inr (.inr 2003), .inl (a1)] GF M1) GF (fun x4 M3 =>
    if 0 ≤ x4 ∧ x4 < 65536 then some (some (.inl (x4)), GF, M3) else none)) := by
  rw [pr_st]; rfl
set_option maxRecDepth 20000 in
theorem sg_J0_isLatin1_aae02_0_s3 {sc : List Int} {orc : q_O} {M : q_M} {F : Nat} : pr sc orc 217 (F + 1) 0 [some (.inr (.inr 1003))] [] M =
  if 1 = 0 then
    some (some (.inl (0)), GF, M)
  else
    if 0 = 0 then
      some (some (.inl (1)), GF, M)
    else
      some (some (.inl (0)), GF, M) := by
  rw [pr_st]; rfl
set_option maxRecDepth 20000 in
theorem sg_J1_charAt_3b067_0_s3 {sc : List Int} {orc : q_O} {M : q_M} {F : Nat} {a2 : Int} : pr sc orc 220 (F + 1) 0 [some (.inr (.inr 2003)), some (.inl (a2))] [] M =
  q_c0 (orc 224 [.inl (a2), .inl (((4 : Nat) : Int))] GF M) GF (fun M1 =>
  if 0 ≤ a2 ∧ a2 < ((4 : Nat) : Int) then
  if 0 ≤ ((([102, 114, 111, 109] : List Int).getD (a2 : Int).toNat 0) % 256) % 65536 ∧ ((([102, 114, 111, 109] : List Int).getD (a2 : Int).toNat 0) % 256) % 65536 < 65536 then some (some (.inl (((([102, 114, 111, 109] : List Int).getD (a2 : Int).toNat 0) % 256) % 65536)), GF, M1) else none
  else none) := by
  rw [pr_st]; rfl
set_option maxRecDepth 20000 in
theorem sg_X8_spells_0_s4 {sc : List Int} {orc : q_O} {M : q_M} {F : Nat} {a1 a2 : Int} : pr sc orc 113 (F + 1) 0 [some (.inr (.inr 9)), some (.inl (a1)), some (.inl (a2)), some (.inr (.inr 1004)), none] [] M =
  q_cI (orc 214 [.inr (.inr 1004)] GF M) GF (fun x2 M1 =>
  if (q_w (a2 - a1)) = x2 then
    pr sc orc 113 F 15 [some (.inr (.inr 9)), some (.inl (a1)), none, some (.inr (.inr 1004)), some (.inl (0))] [] M1
  else
    some (some (.inl (0)), GF, M1)) := by
  rw [pr_st]; rfl
set_option maxRecDepth 20000 in
theorem sg_X8_spells_15_s4 {sc : List Int} {orc : q_O} {M : q_M} {F : Nat} {b1 b4 : Int} : pr sc orc 113 (F + 1) 15 [some (.inr (.inr 9)), some (.inl (b1)), none, some (.inr (.inr 1004)), some (.inl (b4))] [] M =
  q_cI (orc 214 [.inr (.inr 1004)] GF M) GF (fun x2 M1 =>
  if b4 < x2 then
    q_cI (orc 108 [.inr (.inr 9), .inl (q_w (b1 + b4))] GF M1) GF (fun x4 M3 =>
    q_cI (orc 216 [.inr (.inr 1004), .inl (b4)] GF M3) GF (fun x6 M5 =>
    if x4 = x6 then
      pr sc orc 113 F 15 [some (.inr (.inr 9)), some (.inl (b1)), none, some (.inr (.inr 1004)), some (.inl (q_w (b4 + (1))))] [] M5
    else
      some (some (.inl (0)), GF, M5)))
  else
    some (some (.inl (1)), GF, M1)) := by
  rw [pr_st]; rfl
set_option maxRecDepth 20000 in
theorem sg_J0_length_8abf5_0_s4 {sc : List Int} {orc : q_O} {M : q_M} {F : Nat} : pr sc orc 214 (F + 1) 0 [some (.inr (.inr 1004))] [] M =
  q_cI (orc 215 [.inr (.inr 1004)] GF M) GF (fun x2 M1 =>
  if x2 = 0 then
  some (some (.inl (((4 : Nat) : Int))), GF, M1)
  else none) := by
  rw [pr_st]; rfl
set_option maxRecDepth 20000 in
theorem sg_J0_coder_7d493_0_s4 {sc : List Int} {orc : q_O} {M : q_M} {F : Nat} : pr sc orc 215 (F + 1) 0 [some (.inr (.inr 1004))] [] M =
  if 1 = 0 then
    some (some (.inl (1)), GF, M)
  else
    some (some (.inl (0)), GF, M) := by
  rw [pr_st]; rfl
set_option maxRecDepth 20000 in
theorem sg_J0_charAt_5068e_0_s4 {sc : List Int} {orc : q_O} {M : q_M} {F : Nat} {a1 : Int} : pr sc orc 216 (F + 1) 0 [some (.inr (.inr 1004)), some (.inl (a1))] [] M =
  q_cI (orc 217 [.inr (.inr 1004)] GF M) GF (fun x2 M1 =>
  if x2 = 0 then
    none
  else
    q_cI (orc 220 [.inr (.inr 2004), .inl (a1)] GF M1) GF (fun x4 M3 =>
    if 0 ≤ x4 ∧ x4 < 65536 then some (some (.inl (x4)), GF, M3) else none)) := by
  rw [pr_st]; rfl
set_option maxRecDepth 20000 in
theorem sg_J0_isLatin1_aae02_0_s4 {sc : List Int} {orc : q_O} {M : q_M} {F : Nat} : pr sc orc 217 (F + 1) 0 [some (.inr (.inr 1004))] [] M =
  if 1 = 0 then
    some (some (.inl (0)), GF, M)
  else
    if 0 = 0 then
      some (some (.inl (1)), GF, M)
    else
      some (some (.inl (0)), GF, M) := by
  rw [pr_st]; rfl
set_option maxRecDepth 20000 in
theorem sg_J1_charAt_3b067_0_s4 {sc : List Int} {orc : q_O} {M : q_M} {F : Nat} {a2 : Int} : pr sc orc 220 (F + 1) 0 [some (.inr (.inr 2004)), some (.inl (a2))] [] M =
  q_c0 (orc 224 [.inl (a2), .inl (((4 : Nat) : Int))] GF M) GF (fun M1 =>
  if 0 ≤ a2 ∧ a2 < ((4 : Nat) : Int) then
  if 0 ≤ ((([106, 111, 105, 110] : List Int).getD (a2 : Int).toNat 0) % 256) % 65536 ∧ ((([106, 111, 105, 110] : List Int).getD (a2 : Int).toNat 0) % 256) % 65536 < 65536 then some (some (.inl (((([106, 111, 105, 110] : List Int).getD (a2 : Int).toNat 0) % 256) % 65536)), GF, M1) else none
  else none) := by
  rw [pr_st]; rfl
set_option maxRecDepth 20000 in
theorem sg_X8_spells_0_s5 {sc : List Int} {orc : q_O} {M : q_M} {F : Nat} {a1 a2 : Int} : pr sc orc 113 (F + 1) 0 [some (.inr (.inr 9)), some (.inl (a1)), some (.inl (a2)), some (.inr (.inr 1005)), none] [] M =
  q_cI (orc 214 [.inr (.inr 1005)] GF M) GF (fun x2 M1 =>
  if (q_w (a2 - a1)) = x2 then
    pr sc orc 113 F 15 [some (.inr (.inr 9)), some (.inl (a1)), none, some (.inr (.inr 1005)), some (.inl (0))] [] M1
  else
    some (some (.inl (0)), GF, M1)) := by
  rw [pr_st]; rfl
set_option maxRecDepth 20000 in
theorem sg_X8_spells_15_s5 {sc : List Int} {orc : q_O} {M : q_M} {F : Nat} {b1 b4 : Int} : pr sc orc 113 (F + 1) 15 [some (.inr (.inr 9)), some (.inl (b1)), none, some (.inr (.inr 1005)), some (.inl (b4))] [] M =
  q_cI (orc 214 [.inr (.inr 1005)] GF M) GF (fun x2 M1 =>
  if b4 < x2 then
    q_cI (orc 108 [.inr (.inr 9), .inl (q_w (b1 + b4))] GF M1) GF (fun x4 M3 =>
    q_cI (orc 216 [.inr (.inr 1005), .inl (b4)] GF M3) GF (fun x6 M5 =>
    if x4 = x6 then
      pr sc orc 113 F 15 [some (.inr (.inr 9)), some (.inl (b1)), none, some (.inr (.inr 1005)), some (.inl (q_w (b4 + (1))))] [] M5
    else
      some (some (.inl (0)), GF, M5)))
  else
    some (some (.inl (1)), GF, M1)) := by
  rw [pr_st]; rfl
set_option maxRecDepth 20000 in
theorem sg_J0_length_8abf5_0_s5 {sc : List Int} {orc : q_O} {M : q_M} {F : Nat} : pr sc orc 214 (F + 1) 0 [some (.inr (.inr 1005))] [] M =
  q_cI (orc 215 [.inr (.inr 1005)] GF M) GF (fun x2 M1 =>
  if x2 = 0 then
  some (some (.inl (((4 : Nat) : Int))), GF, M1)
  else none) := by
  rw [pr_st]; rfl
set_option maxRecDepth 20000 in
theorem sg_J0_coder_7d493_0_s5 {sc : List Int} {orc : q_O} {M : q_M} {F : Nat} : pr sc orc 215 (F + 1) 0 [some (.inr (.inr 1005))] [] M =
  if 1 = 0 then
    some (some (.inl (1)), GF, M)
  else
    some (some (.inl (0)), GF, M) := by
  rw [pr_st]; rfl
set_option maxRecDepth 20000 in
theorem sg_J0_charAt_5068e_0_s5 {sc : List Int} {orc : q_O} {M : q_M} {F : Nat} {a1 : Int} : pr sc orc 216 (F + 1) 0 [some (.inr (.inr 1005)), some (.inl (a1))] [] M =
  q_cI (orc 217 [.inr (.inr 1005)] GF M) GF (fun x2 M1 =>
  if x2 = 0 then
    none
  else
    q_cI (orc 220 [.inr (.inr 2005), .inl (a1)] GF M1) GF (fun x4 M3 =>
    if 0 ≤ x4 ∧ x4 < 65536 then some (some (.inl (x4)), GF, M3) else none)) := by
  rw [pr_st]; rfl
set_option maxRecDepth 20000 in
theorem sg_J0_isLatin1_aae02_0_s5 {sc : List Int} {orc : q_O} {M : q_M} {F : Nat} : pr sc orc 217 (F + 1) 0 [some (.inr (.inr 1005))] [] M =
  if 1 = 0 then
    some (some (.inl (0)), GF, M)
  else
    if 0 = 0 then
      some (some (.inl (1)), GF, M)
    else
      some (some (.inl (0)), GF, M) := by
  rw [pr_st]; rfl
set_option maxRecDepth 20000 in
theorem sg_J1_charAt_3b067_0_s5 {sc : List Int} {orc : q_O} {M : q_M} {F : Nat} {a2 : Int} : pr sc orc 220 (F + 1) 0 [some (.inr (.inr 2005)), some (.inl (a2))] [] M =
  q_c0 (orc 224 [.inl (a2), .inl (((4 : Nat) : Int))] GF M) GF (fun M1 =>
  if 0 ≤ a2 ∧ a2 < ((4 : Nat) : Int) then
  if 0 ≤ ((([108, 101, 102, 116] : List Int).getD (a2 : Int).toNat 0) % 256) % 65536 ∧ ((([108, 101, 102, 116] : List Int).getD (a2 : Int).toNat 0) % 256) % 65536 < 65536 then some (some (.inl (((([108, 101, 102, 116] : List Int).getD (a2 : Int).toNat 0) % 256) % 65536)), GF, M1) else none
  else none) := by
  rw [pr_st]; rfl
set_option maxRecDepth 20000 in
theorem sg_X8_spells_0_s6 {sc : List Int} {orc : q_O} {M : q_M} {F : Nat} {a1 a2 : Int} : pr sc orc 113 (F + 1) 0 [some (.inr (.inr 9)), some (.inl (a1)), some (.inl (a2)), some (.inr (.inr 1006)), none] [] M =
  q_cI (orc 214 [.inr (.inr 1006)] GF M) GF (fun x2 M1 =>
  if (q_w (a2 - a1)) = x2 then
    pr sc orc 113 F 15 [some (.inr (.inr 9)), some (.inl (a1)), none, some (.inr (.inr 1006)), some (.inl (0))] [] M1
  else
    some (some (.inl (0)), GF, M1)) := by
  rw [pr_st]; rfl
set_option maxRecDepth 20000 in
theorem sg_X8_spells_15_s6 {sc : List Int} {orc : q_O} {M : q_M} {F : Nat} {b1 b4 : Int} : pr sc orc 113 (F + 1) 15 [some (.inr (.inr 9)), some (.inl (b1)), none, some (.inr (.inr 1006)), some (.inl (b4))] [] M =
  q_cI (orc 214 [.inr (.inr 1006)] GF M) GF (fun x2 M1 =>
  if b4 < x2 then
    q_cI (orc 108 [.inr (.inr 9), .inl (q_w (b1 + b4))] GF M1) GF (fun x4 M3 =>
    q_cI (orc 216 [.inr (.inr 1006), .inl (b4)] GF M3) GF (fun x6 M5 =>
    if x4 = x6 then
      pr sc orc 113 F 15 [some (.inr (.inr 9)), some (.inl (b1)), none, some (.inr (.inr 1006)), some (.inl (q_w (b4 + (1))))] [] M5
    else
      some (some (.inl (0)), GF, M5)))
  else
    some (some (.inl (1)), GF, M1)) := by
  rw [pr_st]; rfl
set_option maxRecDepth 20000 in
theorem sg_J0_length_8abf5_0_s6 {sc : List Int} {orc : q_O} {M : q_M} {F : Nat} : pr sc orc 214 (F + 1) 0 [some (.inr (.inr 1006))] [] M =
  q_cI (orc 215 [.inr (.inr 1006)] GF M) GF (fun x2 M1 =>
  if x2 = 0 then
  some (some (.inl (((2 : Nat) : Int))), GF, M1)
  else none) := by
  rw [pr_st]; rfl
set_option maxRecDepth 20000 in
theorem sg_J0_coder_7d493_0_s6 {sc : List Int} {orc : q_O} {M : q_M} {F : Nat} : pr sc orc 215 (F + 1) 0 [some (.inr (.inr 1006))] [] M =
  if 1 = 0 then
    some (some (.inl (1)), GF, M)
  else
    some (some (.inl (0)), GF, M) := by
  rw [pr_st]; rfl
set_option maxRecDepth 20000 in
theorem sg_J0_charAt_5068e_0_s6 {sc : List Int} {orc : q_O} {M : q_M} {F : Nat} {a1 : Int} : pr sc orc 216 (F + 1) 0 [some (.inr (.inr 1006)), some (.inl (a1))] [] M =
  q_cI (orc 217 [.inr (.inr 1006)] GF M) GF (fun x2 M1 =>
  if x2 = 0 then
    none
  else
    q_cI (orc 220 [.inr (.inr 2006), .inl (a1)] GF M1) GF (fun x4 M3 =>
    if 0 ≤ x4 ∧ x4 < 65536 then some (some (.inl (x4)), GF, M3) else none)) := by
  rw [pr_st]; rfl
set_option maxRecDepth 20000 in
theorem sg_J0_isLatin1_aae02_0_s6 {sc : List Int} {orc : q_O} {M : q_M} {F : Nat} : pr sc orc 217 (F + 1) 0 [some (.inr (.inr 1006))] [] M =
  if 1 = 0 then
    some (some (.inl (0)), GF, M)
  else
    if 0 = 0 then
      some (some (.inl (1)), GF, M)
    else
      some (some (.inl (0)), GF, M) := by
  rw [pr_st]; rfl
set_option maxRecDepth 20000 in
theorem sg_J1_charAt_3b067_0_s6 {sc : List Int} {orc : q_O} {M : q_M} {F : Nat} {a2 : Int} : pr sc orc 220 (F + 1) 0 [some (.inr (.inr 2006)), some (.inl (a2))] [] M =
  q_c0 (orc 224 [.inl (a2), .inl (((2 : Nat) : Int))] GF M) GF (fun M1 =>
  if 0 ≤ a2 ∧ a2 < ((2 : Nat) : Int) then
  if 0 ≤ ((([111, 110] : List Int).getD (a2 : Int).toNat 0) % 256) % 65536 ∧ ((([111, 110] : List Int).getD (a2 : Int).toNat 0) % 256) % 65536 < 65536 then some (some (.inl (((([111, 110] : List Int).getD (a2 : Int).toNat 0) % 256) % 65536)), GF, M1) else none
  else none) := by
  rw [pr_st]; rfl
set_option maxRecDepth 20000 in
theorem sg_X8_spells_0_s7 {sc : List Int} {orc : q_O} {M : q_M} {F : Nat} {a1 a2 : Int} : pr sc orc 113 (F + 1) 0 [some (.inr (.inr 9)), some (.inl (a1)), some (.inl (a2)), some (.inr (.inr 1007)), none] [] M =
  q_cI (orc 214 [.inr (.inr 1007)] GF M) GF (fun x2 M1 =>
  if (q_w (a2 - a1)) = x2 then
    pr sc orc 113 F 15 [some (.inr (.inr 9)), some (.inl (a1)), none, some (.inr (.inr 1007)), some (.inl (0))] [] M1
  else
    some (some (.inl (0)), GF, M1)) := by
  rw [pr_st]; rfl
set_option maxRecDepth 20000 in
theorem sg_X8_spells_15_s7 {sc : List Int} {orc : q_O} {M : q_M} {F : Nat} {b1 b4 : Int} : pr sc orc 113 (F + 1) 15 [some (.inr (.inr 9)), some (.inl (b1)), none, some (.inr (.inr 1007)), some (.inl (b4))] [] M =
  q_cI (orc 214 [.inr (.inr 1007)] GF M) GF (fun x2 M1 =>
  if b4 < x2 then
    q_cI (orc 108 [.inr (.inr 9), .inl (q_w (b1 + b4))] GF M1) GF (fun x4 M3 =>
    q_cI (orc 216 [.inr (.inr 1007), .inl (b4)] GF M3) GF (fun x6 M5 =>
    if x4 = x6 then
      pr sc orc 113 F 15 [some (.inr (.inr 9)), some (.inl (b1)), none, some (.inr (.inr 1007)), some (.inl (q_w (b4 + (1))))] [] M5
    else
      some (some (.inl (0)), GF, M5)))
  else
    some (some (.inl (1)), GF, M1)) := by
  rw [pr_st]; rfl
set_option maxRecDepth 20000 in
theorem sg_J0_length_8abf5_0_s7 {sc : List Int} {orc : q_O} {M : q_M} {F : Nat} : pr sc orc 214 (F + 1) 0 [some (.inr (.inr 1007))] [] M =
  q_cI (orc 215 [.inr (.inr 1007)] GF M) GF (fun x2 M1 =>
  if x2 = 0 then
  some (some (.inl (((5 : Nat) : Int))), GF, M1)
  else none) := by
  rw [pr_st]; rfl
set_option maxRecDepth 20000 in
theorem sg_J0_coder_7d493_0_s7 {sc : List Int} {orc : q_O} {M : q_M} {F : Nat} : pr sc orc 215 (F + 1) 0 [some (.inr (.inr 1007))] [] M =
  if 1 = 0 then
    some (some (.inl (1)), GF, M)
  else
    some (some (.inl (0)), GF, M) := by
  rw [pr_st]; rfl
set_option maxRecDepth 20000 in
theorem sg_J0_charAt_5068e_0_s7 {sc : List Int} {orc : q_O} {M : q_M} {F : Nat} {a1 : Int} : pr sc orc 216 (F + 1) 0 [some (.inr (.inr 1007)), some (.inl (a1))] [] M =
  q_cI (orc 217 [.inr (.inr 1007)] GF M) GF (fun x2 M1 =>
  if x2 = 0 then
    none
  else
    q_cI (orc 220 [.inr (.inr 2007), .inl (a1)] GF M1) GF (fun x4 M3 =>
    if 0 ≤ x4 ∧ x4 < 65536 then some (some (.inl (x4)), GF, M3) else none)) := by
  rw [pr_st]; rfl
set_option maxRecDepth 20000 in
theorem sg_J0_isLatin1_aae02_0_s7 {sc : List Int} {orc : q_O} {M : q_M} {F : Nat} : pr sc orc 217 (F + 1) 0 [some (.inr (.inr 1007))] [] M =
  if 1 = 0 then
    some (some (.inl (0)), GF, M)
  else
    if 0 = 0 then
      some (some (.inl (1)), GF, M)
    else
      some (some (.inl (0)), GF, M) := by
  rw [pr_st]; rfl
set_option maxRecDepth 20000 in
theorem sg_J1_charAt_3b067_0_s7 {sc : List Int} {orc : q_O} {M : q_M} {F : Nat} {a2 : Int} : pr sc orc 220 (F + 1) 0 [some (.inr (.inr 2007)), some (.inl (a2))] [] M =
  q_c0 (orc 224 [.inl (a2), .inl (((5 : Nat) : Int))] GF M) GF (fun M1 =>
  if 0 ≤ a2 ∧ a2 < ((5 : Nat) : Int) then
  if 0 ≤ ((([119, 104, 101, 114, 101] : List Int).getD (a2 : Int).toNat 0) % 256) % 65536 ∧ ((([119, 104, 101, 114, 101] : List Int).getD (a2 : Int).toNat 0) % 256) % 65536 < 65536 then some (some (.inl (((([119, 104, 101, 114, 101] : List Int).getD (a2 : Int).toNat 0) % 256) % 65536)), GF, M1) else none
  else none) := by
  rw [pr_st]; rfl
set_option maxRecDepth 20000 in
theorem sg_X8_spells_0_s8 {sc : List Int} {orc : q_O} {M : q_M} {F : Nat} {a1 a2 : Int} : pr sc orc 113 (F + 1) 0 [some (.inr (.inr 9)), some (.inl (a1)), some (.inl (a2)), some (.inr (.inr 1008)), none] [] M =
  q_cI (orc 214 [.inr (.inr 1008)] GF M) GF (fun x2 M1 =>
  if (q_w (a2 - a1)) = x2 then
    pr sc orc 113 F 15 [some (.inr (.inr 9)), some (.inl (a1)), none, some (.inr (.inr 1008)), some (.inl (0))] [] M1
  else
    some (some (.inl (0)), GF, M1)) := by
  rw [pr_st]; rfl
set_option maxRecDepth 20000 in
theorem sg_X8_spells_15_s8 {sc : List Int} {orc : q_O} {M : q_M} {F : Nat} {b1 b4 : Int} : pr sc orc 113 (F + 1) 15 [some (.inr (.inr 9)), some (.inl (b1)), none, some (.inr (.inr 1008)), some (.inl (b4))] [] M =
  q_cI (orc 214 [.inr (.inr 1008)] GF M) GF (fun x2 M1 =>
  if b4 < x2 then
    q_cI (orc 108 [.inr (.inr 9), .inl (q_w (b1 + b4))] GF M1) GF (fun x4 M3 =>
    q_cI (orc 216 [.inr (.inr 1008), .inl (b4)] GF M3) GF (fun x6 M5 =>
    if x4 = x6 then
      pr sc orc 113 F 15 [some (.inr (.inr 9)), some (.inl (b1)), none, some (.inr (.inr 1008)), some (.inl (q_w (b4 + (1))))] [] M5
    else
      some (some (.inl (0)), GF, M5)))
  else
    some (some (.inl (1)), GF, M1)) := by
  rw [pr_st]; rfl
set_option maxRecDepth 20000 in
theorem sg_J0_length_8abf5_0_s8 {sc : List Int} {orc : q_O} {M : q_M} {F : Nat} : pr sc orc 214 (F + 1) 0 [some (.inr (.inr 1008))] [] M =
  q_cI (orc 215 [.inr (.inr 1008)] GF M) GF (fun x2 M1 =>
  if x2 = 0 then
  some (some (.inl (((5 : Nat) : Int))), GF, M1)
  else none) := by
  rw [pr_st]; rfl
set_option maxRecDepth 20000 in
theorem sg_J0_coder_7d493_0_s8 {sc : List Int} {orc : q_O} {M : q_M} {F : Nat} : pr sc orc 215 (F + 1) 0 [some (.inr (.inr 1008))] [] M =
  if 1 = 0 then
    some (some (.inl (1)), GF, M)
  else
    some (some (.inl (0)), GF, M) := by
  rw [pr_st]; rfl
set_option maxRecDepth 20000 in
theorem sg_J0_charAt_5068e_0_s8 {sc : List Int} {orc : q_O} {M : q_M} {F : Nat} {a1 : Int} : pr sc orc 216 (F + 1) 0 [some (.inr (.inr 1008)), some (.inl (a1))] [] M =
  q_cI (orc 217 [.inr (.inr 1008)] GF M) GF (fun x2 M1 =>
  if x2 = 0 then
    none
  else
    q_cI (orc 220 [.inr (.inr 2008), .inl (a1)] GF M1) GF (fun x4 M3 =>
    if 0 ≤ x4 ∧ x4 < 65536 then some (some (.inl (x4)), GF, M3) else none)) := by
  rw [pr_st]; rfl
set_option maxRecDepth 20000 in
theorem sg_J0_isLatin1_aae02_0_s8 {sc : List Int} {orc : q_O} {M : q_M} {F : Nat} : pr sc orc 217 (F + 1) 0 [some (.inr (.inr 1008))] [] M =
  if 1 = 0 then
    some (some (.inl (0)), GF, M)
  else
    if 0 = 0 then
      some (some (.inl (1)), GF, M)
    else
      some (some (.inl (0)), GF, M) := by
  rw [pr_st]; rfl
set_option maxRecDepth 20000 in
theorem sg_J1_charAt_3b067_0_s8 {sc : List Int} {orc : q_O} {M : q_M} {F : Nat} {a2 : Int} : pr sc orc 220 (F + 1) 0 [some (.inr (.inr 2008)), some (.inl (a2))] [] M =
  q_c0 (orc 224 [.inl (a2), .inl (((5 : Nat) : Int))] GF M) GF (fun M1 =>
  if 0 ≤ a2 ∧ a2 < ((5 : Nat) : Int) then
  if 0 ≤ ((([103, 114, 111, 117, 112] : List Int).getD (a2 : Int).toNat 0) % 256) % 65536 ∧ ((([103, 114, 111, 117, 112] : List Int).getD (a2 : Int).toNat 0) % 256) % 65536 < 65536 then some (some (.inl (((([103, 114, 111, 117, 112] : List Int).getD (a2 : Int).toNat 0) % 256) % 65536)), GF, M1) else none
  else none) := by
  rw [pr_st]; rfl
set_option maxRecDepth 20000 in
theorem sg_X8_spells_0_s9 {sc : List Int} {orc : q_O} {M : q_M} {F : Nat} {a1 a2 : Int} : pr sc orc 113 (F + 1) 0 [some (.inr (.inr 9)), some (.inl (a1)), some (.inl (a2)), some (.inr (.inr 1009)), none] [] M =
  q_cI (orc 214 [.inr (.inr 1009)] GF M) GF (fun x2 M1 =>
  if (q_w (a2 - a1)) = x2 then
    pr sc orc 113 F 15 [some (.inr (.inr 9)), some (.inl (a1)), none, some (.inr (.inr 1009)), some (.inl (0))] [] M1
  else
    some (some (.inl (0)), GF, M1)) := by
  rw [pr_st]; rfl
set_option maxRecDepth 20000 in
theorem sg_X8_spells_15_s9 {sc : List Int} {orc : q_O} {M : q_M} {F : Nat} {b1 b4 : Int} : pr sc orc 113 (F + 1) 15 [some (.inr (.inr 9)), some (.inl (b1)), none, some (.inr (.inr 1009)), some (.inl (b4))] [] M =
  q_cI (orc 214 [.inr (.inr 1009)] GF M) GF (fun x2 M1 =>
  if b4 < x2 then
    q_cI (orc 108 [.inr (.inr 9), .inl (q_w (b1 + b4))] GF M1) GF (fun x4 M3 =>
    q_cI (orc 216 [.inr (.inr 1009), .inl (b4)] GF M3) GF (fun x6 M5 =>
    if x4 = x6 then
      pr sc orc 113 F 15 [some (.inr (.inr 9)), some (.inl (b1)), none, some (.inr (.inr 1009)), some (.inl (q_w (b4 + (1))))] [] M5
    else
      some (some (.inl (0)), GF, M5)))
  else
    some (some (.inl (1)), GF, M1)) := by
  rw [pr_st]; rfl
set_option maxRecDepth 20000 in
theorem sg_J0_length_8abf5_0_s9 {sc : List Int} {orc : q_O} {M : q_M} {F : Nat} : pr sc orc 214 (F + 1) 0 [some (.inr (.inr 1009))] [] M =
  q_cI (orc 215 [.inr (.inr 1009)] GF M) GF (fun x2 M1 =>
  if x2 = 0 then
  some (some (.inl (((5 : Nat) : Int))), GF, M1)
  else none) := by
  rw [pr_st]; rfl
set_option maxRecDepth 20000 in
theorem sg_J0_coder_7d493_0_s9 {sc : List Int} {orc : q_O} {M : q_M} {F : Nat} : pr sc orc 215 (F + 1) 0 [some (.inr (.inr 1009))] [] M =
  if 1 = 0 then
    some (some (.inl (1)), GF, M)
  else
    some (some (.inl (0)), GF, M) := by
  rw [pr_st]; rfl
set_option maxRecDepth 20000 in
theorem sg_J0_charAt_5068e_0_s9 {sc : List Int} {orc : q_O} {M : q_M} {F : Nat} {a1 : Int} : pr sc orc 216 (F + 1) 0 [some (.inr (.inr 1009)), some (.inl (a1))] [] M =
  q_cI (orc 217 [.inr (.inr 1009)] GF M) GF (fun x2 M1 =>
  if x2 = 0 then
    none
  else
    q_cI (orc 220 [.inr (.inr 2009), .inl (a1)] GF M1) GF (fun x4 M3 =>
    if 0 ≤ x4 ∧ x4 < 65536 then some (some (.inl (x4)), GF, M3) else none)) := by
  rw [pr_st]; rfl
set_option maxRecDepth 20000 in
theorem sg_J0_isLatin1_aae02_0_s9 {sc : List Int} {orc : q_O} {M : q_M} {F : Nat} : pr sc orc 217 (F + 1) 0 [some (.inr (.inr 1009))] [] M =
  if 1 = 0 then
    some (some (.inl (0)), GF, M)
  else
    if 0 = 0 then
      some (some (.inl (1)), GF, M)
    else
      some (some (.inl (0)), GF, M) := by
  rw [pr_st]; rfl
set_option maxRecDepth 20000 in
theorem sg_J1_charAt_3b067_0_s9 {sc : List Int} {orc : q_O} {M : q_M} {F : Nat} {a2 : Int} : pr sc orc 220 (F + 1) 0 [some (.inr (.inr 2009)), some (.inl (a2))] [] M =
  q_c0 (orc 224 [.inl (a2), .inl (((5 : Nat) : Int))] GF M) GF (fun M1 =>
  if 0 ≤ a2 ∧ a2 < ((5 : Nat) : Int) then
  if 0 ≤ ((([99, 111, 117, 110, 116] : List Int).getD (a2 : Int).toNat 0) % 256) % 65536 ∧ ((([99, 111, 117, 110, 116] : List Int).getD (a2 : Int).toNat 0) % 256) % 65536 < 65536 then some (some (.inl (((([99, 111, 117, 110, 116] : List Int).getD (a2 : Int).toNat 0) % 256) % 65536)), GF, M1) else none
  else none) := by
  rw [pr_st]; rfl
