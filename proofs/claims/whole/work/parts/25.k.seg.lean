set_option maxRecDepth 20000 in
theorem sg_X8_spells_0_s10 {sc : List Int} {orc : q_O} {M : q_M} {F : Nat} {a1 a2 : Int} : pr sc orc 113 (F + 1) 0 [some (.inr (.inr 9)), some (.inl (a1)), some (.inl (a2)), some (.inr (.inr 1010)), none] [] M =
  q_cI (orc 214 [.inr (.inr 1010)] GF M) GF (fun x2 M1 =>
  if (q_w (a2 - a1)) = x2 then
    pr sc orc 113 F 15 [some (.inr (.inr 9)), some (.inl (a1)), none, some (.inr (.inr 1010)), some (.inl (0))] [] M1
  else
    some (some (.inl (0)), GF, M1)) := by
  rw [pr_st]; rfl
set_option maxRecDepth 20000 in
theorem sg_X8_spells_15_s10 {sc : List Int} {orc : q_O} {M : q_M} {F : Nat} {b1 b4 : Int} : pr sc orc 113 (F + 1) 15 [some (.inr (.inr 9)), some (.inl (b1)), none, some (.inr (.inr 1010)), some (.inl (b4))] [] M =
  q_cI (orc 214 [.inr (.inr 1010)] GF M) GF (fun x2 M1 =>
  if b4 < x2 then
    q_cI (orc 108 [.inr (.inr 9), .inl (q_w (b1 + b4))] GF M1) GF (fun x4 M3 =>
    q_cI (orc 216 [.inr (.inr 1010), .inl (b4)] GF M3) GF (fun x6 M5 =>
    if x4 = x6 then
      pr sc orc 113 F 15 [some (.inr (.inr 9)), some (.inl (b1)), none, some (.inr (.inr 1010)), some (.inl (q_w (b4 + (1))))] [] M5
    else
      some (some (.inl (0)), GF, M5)))
  else
    some (some (.inl (1)), GF, M1)) := by
  rw [pr_st]; rfl
set_option maxRecDepth 20000 in
theorem sg_J0_length_8abf5_0_s10 {sc : List Int} {orc : q_O} {M : q_M} {F : Nat} : pr sc orc 214 (F + 1) 0 [some (.inr (.inr 1010))] [] M =
  q_cI (orc 215 [.inr (.inr 1010)] GF M) GF (fun x2 M1 =>
  if x2 = 0 then
  some (some (.inl (((3 : Nat) : Int))), GF, M1)
  else none) := by
  rw [pr_st]; rfl
set_option maxRecDepth 20000 in
theorem sg_J0_coder_7d493_0_s10 {sc : List Int} {orc : q_O} {M : q_M} {F : Nat} : pr sc orc 215 (F + 1) 0 [some (.inr (.inr 1010))] [] M =
  if 1 = 0 then
    some (some (.inl (1)), GF, M)
  else
    some (some (.inl (0)), GF, M) := by
  rw [pr_st]; rfl
set_option maxRecDepth 20000 in
theorem sg_J0_charAt_5068e_0_s10 {sc : List Int} {orc : q_O} {M : q_M} {F : Nat} {a1 : Int} : pr sc orc 216 (F + 1) 0 [some (.inr (.inr 1010)), some (.inl (a1))] [] M =
  q_cI (orc 217 [.inr (.inr 1010)] GF M) GF (fun x2 M1 =>
  if x2 = 0 then
    none
  else
    q_cI (orc 220 [.inr (.inr 2010), .inl (a1)] GF M1) GF (fun x4 M3 =>
    if 0 ≤ x4 ∧ x4 < 65536 then some (some (.inl (x4)), GF, M3) else none)) := by
  rw [pr_st]; rfl
set_option maxRecDepth 20000 in
theorem sg_J0_isLatin1_aae02_0_s10 {sc : List Int} {orc : q_O} {M : q_M} {F : Nat} : pr sc orc 217 (F + 1) 0 [some (.inr (.inr 1010))] [] M =
  if 1 = 0 then
    some (some (.inl (0)), GF, M)
  else
    if 0 = 0 then
      some (some (.inl (1)), GF, M)
    else
      some (some (.inl (0)), GF, M) := by
  rw [pr_st]; rfl
set_option maxRecDepth 20000 in
theorem sg_J1_charAt_3b067_0_s10 {sc : List Int} {orc : q_O} {M : q_M} {F : Nat} {a2 : Int} : pr sc orc 220 (F + 1) 0 [some (.inr (.inr 2010)), some (.inl (a2))] [] M =
  q_c0 (orc 224 [.inl (a2), .inl (((3 : Nat) : Int))] GF M) GF (fun M1 =>
  if 0 ≤ a2 ∧ a2 < ((3 : Nat) : Int) then
  if 0 ≤ ((([115, 117, 109] : List Int).getD (a2 : Int).toNat 0) % 256) % 65536 ∧ ((([115, 117, 109] : List Int).getD (a2 : Int).toNat 0) % 256) % 65536 < 65536 then some (some (.inl (((([115, 117, 109] : List Int).getD (a2 : Int).toNat 0) % 256) % 65536)), GF, M1) else none
  else none) := by
  rw [pr_st]; rfl
set_option maxRecDepth 20000 in
theorem sg_X8_spells_0_s11 {sc : List Int} {orc : q_O} {M : q_M} {F : Nat} {a1 a2 : Int} : pr sc orc 113 (F + 1) 0 [some (.inr (.inr 9)), some (.inl (a1)), some (.inl (a2)), some (.inr (.inr 1011)), none] [] M =
  q_cI (orc 214 [.inr (.inr 1011)] GF M) GF (fun x2 M1 =>
  if (q_w (a2 - a1)) = x2 then
    pr sc orc 113 F 15 [some (.inr (.inr 9)), some (.inl (a1)), none, some (.inr (.inr 1011)), some (.inl (0))] [] M1
  else
    some (some (.inl (0)), GF, M1)) := by
  rw [pr_st]; rfl
set_option maxRecDepth 20000 in
theorem sg_X8_spells_15_s11 {sc : List Int} {orc : q_O} {M : q_M} {F : Nat} {b1 b4 : Int} : pr sc orc 113 (F + 1) 15 [some (.inr (.inr 9)), some (.inl (b1)), none, some (.inr (.inr 1011)), some (.inl (b4))] [] M =
  q_cI (orc 214 [.inr (.inr 1011)] GF M) GF (fun x2 M1 =>
  if b4 < x2 then
    q_cI (orc 108 [.inr (.inr 9), .inl (q_w (b1 + b4))] GF M1) GF (fun x4 M3 =>
    q_cI (orc 216 [.inr (.inr 1011), .inl (b4)] GF M3) GF (fun x6 M5 =>
    if x4 = x6 then
      pr sc orc 113 F 15 [some (.inr (.inr 9)), some (.inl (b1)), none, some (.inr (.inr 1011)), some (.inl (q_w (b4 + (1))))] [] M5
    else
      some (some (.inl (0)), GF, M5)))
  else
    some (some (.inl (1)), GF, M1)) := by
  rw [pr_st]; rfl
set_option maxRecDepth 20000 in
theorem sg_J0_length_8abf5_0_s11 {sc : List Int} {orc : q_O} {M : q_M} {F : Nat} : pr sc orc 214 (F + 1) 0 [some (.inr (.inr 1011))] [] M =
  q_cI (orc 215 [.inr (.inr 1011)] GF M) GF (fun x2 M1 =>
  if x2 = 0 then
  some (some (.inl (((3 : Nat) : Int))), GF, M1)
  else none) := by
  rw [pr_st]; rfl
set_option maxRecDepth 20000 in
theorem sg_J0_coder_7d493_0_s11 {sc : List Int} {orc : q_O} {M : q_M} {F : Nat} : pr sc orc 215 (F + 1) 0 [some (.inr (.inr 1011))] [] M =
  if 1 = 0 then
    some (some (.inl (1)), GF, M)
  else
    some (some (.inl (0)), GF, M) := by
  rw [pr_st]; rfl
set_option maxRecDepth 20000 in
theorem sg_J0_charAt_5068e_0_s11 {sc : List Int} {orc : q_O} {M : q_M} {F : Nat} {a1 : Int} : pr sc orc 216 (F + 1) 0 [some (.inr (.inr 1011)), some (.inl (a1))] [] M =
  q_cI (orc 217 [.inr (.inr 1011)] GF M) GF (fun x2 M1 =>
  if x2 = 0 then
    none
  else
    q_cI (orc 220 [.inr (.inr 2011), .inl (a1)] GF M1) GF (fun x4 M3 =>
    if 0 ≤ x4 ∧ x4 < 65536 then some (some (.inl (x4)), GF, M3) else none)) := by
  rw [pr_st]; rfl
set_option maxRecDepth 20000 in
theorem sg_J0_isLatin1_aae02_0_s11 {sc : List Int} {orc : q_O} {M : q_M} {F : Nat} : pr sc orc 217 (F + 1) 0 [some (.inr (.inr 1011))] [] M =
  if 1 = 0 then
    some (some (.inl (0)), GF, M)
  else
    if 0 = 0 then
      some (some (.inl (1)), GF, M)
    else
      some (some (.inl (0)), GF, M) := by
  rw [pr_st]; rfl
set_option maxRecDepth 20000 in
theorem sg_J1_charAt_3b067_0_s11 {sc : List Int} {orc : q_O} {M : q_M} {F : Nat} {a2 : Int} : pr sc orc 220 (F + 1) 0 [some (.inr (.inr 2011)), some (.inl (a2))] [] M =
  q_c0 (orc 224 [.inl (a2), .inl (((3 : Nat) : Int))] GF M) GF (fun M1 =>
  if 0 ≤ a2 ∧ a2 < ((3 : Nat) : Int) then
  if 0 ≤ ((([109, 105, 110] : List Int).getD (a2 : Int).toNat 0) % 256) % 65536 ∧ ((([109, 105, 110] : List Int).getD (a2 : Int).toNat 0) % 256) % 65536 < 65536 then some (some (.inl (((([109, 105, 110] : List Int).getD (a2 : Int).toNat 0) % 256) % 65536)), GF, M1) else none
  else none) := by
  rw [pr_st]; rfl
set_option maxRecDepth 20000 in
theorem sg_X8_spells_0_s12 {sc : List Int} {orc : q_O} {M : q_M} {F : Nat} {a1 a2 : Int} : pr sc orc 113 (F + 1) 0 [some (.inr (.inr 9)), some (.inl (a1)), some (.inl (a2)), some (.inr (.inr 1012)), none] [] M =
  q_cI (orc 214 [.inr (.inr 1012)] GF M) GF (fun x2 M1 =>
  if (q_w (a2 - a1)) = x2 then
    pr sc orc 113 F 15 [some (.inr (.inr 9)), some (.inl (a1)), none, some (.inr (.inr 1012)), some (.inl (0))] [] M1
  else
    some (some (.inl (0)), GF, M1)) := by
  rw [pr_st]; rfl
set_option maxRecDepth 20000 in
theorem sg_X8_spells_15_s12 {sc : List Int} {orc : q_O} {M : q_M} {F : Nat} {b1 b4 : Int} : pr sc orc 113 (F + 1) 15 [some (.inr (.inr 9)), some (.inl (b1)), none, some (.inr (.inr 1012)), some (.inl (b4))] [] M =
  q_cI (orc 214 [.inr (.inr 1012)] GF M) GF (fun x2 M1 =>
  if b4 < x2 then
    q_cI (orc 108 [.inr (.inr 9), .inl (q_w (b1 + b4))] GF M1) GF (fun x4 M3 =>
    q_cI (orc 216 [.inr (.inr 1012), .inl (b4)] GF M3) GF (fun x6 M5 =>
    if x4 = x6 then
      pr sc orc 113 F 15 [some (.inr (.inr 9)), some (.inl (b1)), none, some (.inr (.inr 1012)), some (.inl (q_w (b4 + (1))))] [] M5
    else
      some (some (.inl (0)), GF, M5)))
  else
    some (some (.inl (1)), GF, M1)) := by
  rw [pr_st]; rfl
set_option maxRecDepth 20000 in
theorem sg_J0_length_8abf5_0_s12 {sc : List Int} {orc : q_O} {M : q_M} {F : Nat} : pr sc orc 214 (F + 1) 0 [some (.inr (.inr 1012))] [] M =
  q_cI (orc 215 [.inr (.inr 1012)] GF M) GF (fun x2 M1 =>
  if x2 = 0 then
  some (some (.inl (((3 : Nat) : Int))), GF, M1)
  else none) := by
  rw [pr_st]; rfl
set_option maxRecDepth 20000 in
theorem sg_J0_coder_7d493_0_s12 {sc : List Int} {orc : q_O} {M : q_M} {F : Nat} : pr sc orc 215 (F + 1) 0 [some (.inr (.inr 1012))] [] M =
  if 1 = 0 then
    some (some (.inl (1)), GF, M)
  else
    some (some (.inl (0)), GF, M) := by
  rw [pr_st]; rfl
set_option maxRecDepth 20000 in
theorem sg_J0_charAt_5068e_0_s12 {sc : List Int} {orc : q_O} {M : q_M} {F : Nat} {a1 : Int} : pr sc orc 216 (F + 1) 0 [some (.inr (.inr 1012)), some (.inl (a1))] [] M =
  q_cI (orc 217 [.inr (.inr 1012)] GF M) GF (fun x2 M1 =>
  if x2 = 0 then
    none
  else
    q_cI (orc 220 [.inr (.inr 2012), .inl (a1)] GF M1) GF (fun x4 M3 =>
    if 0 ≤ x4 ∧ x4 < 65536 then some (some (.inl (x4)), GF, M3) else none)) := by
  rw [pr_st]; rfl
set_option maxRecDepth 20000 in
theorem sg_J0_isLatin1_aae02_0_s12 {sc : List Int} {orc : q_O} {M : q_M} {F : Nat} : pr sc orc 217 (F + 1) 0 [some (.inr (.inr 1012))] [] M =
  if 1 = 0 then
    some (some (.inl (0)), GF, M)
  else
    if 0 = 0 then
      some (some (.inl (1)), GF, M)
    else
      some (some (.inl (0)), GF, M) := by
  rw [pr_st]; rfl
set_option maxRecDepth 20000 in
theorem sg_J1_charAt_3b067_0_s12 {sc : List Int} {orc : q_O} {M : q_M} {F : Nat} {a2 : Int} : pr sc orc 220 (F + 1) 0 [some (.inr (.inr 2012)), some (.inl (a2))] [] M =
  q_c0 (orc 224 [.inl (a2), .inl (((3 : Nat) : Int))] GF M) GF (fun M1 =>
  if 0 ≤ a2 ∧ a2 < ((3 : Nat) : Int) then
  if 0 ≤ ((([109, 97, 120] : List Int).getD (a2 : Int).toNat 0) % 256) % 65536 ∧ ((([109, 97, 120] : List Int).getD (a2 : Int).toNat 0) % 256) % 65536 < 65536 then some (some (.inl (((([109, 97, 120] : List Int).getD (a2 : Int).toNat 0) % 256) % 65536)), GF, M1) else none
  else none) := by
  rw [pr_st]; rfl
set_option maxRecDepth 20000 in
theorem sg_X8_spells_0_s13 {sc : List Int} {orc : q_O} {M : q_M} {F : Nat} {a1 a2 : Int} : pr sc orc 113 (F + 1) 0 [some (.inr (.inr 9)), some (.inl (a1)), some (.inl (a2)), some (.inr (.inr 1013)), none] [] M =
  q_cI (orc 214 [.inr (.inr 1013)] GF M) GF (fun x2 M1 =>
  if (q_w (a2 - a1)) = x2 then
    pr sc orc 113 F 15 [some (.inr (.inr 9)), some (.inl (a1)), none, some (.inr (.inr 1013)), some (.inl (0))] [] M1
  else
    some (some (.inl (0)), GF, M1)) := by
  rw [pr_st]; rfl
set_option maxRecDepth 20000 in
theorem sg_X8_spells_15_s13 {sc : List Int} {orc : q_O} {M : q_M} {F : Nat} {b1 b4 : Int} : pr sc orc 113 (F + 1) 15 [some (.inr (.inr 9)), some (.inl (b1)), none, some (.inr (.inr 1013)), some (.inl (b4))] [] M =
  q_cI (orc 214 [.inr (.inr 1013)] GF M) GF (fun x2 M1 =>
  if b4 < x2 then
    q_cI (orc 108 [.inr (.inr 9), .inl (q_w (b1 + b4))] GF M1) GF (fun x4 M3 =>
    q_cI (orc 216 [.inr (.inr 1013), .inl (b4)] GF M3) GF (fun x6 M5 =>
    if x4 = x6 then
      pr sc orc 113 F 15 [some (.inr (.inr 9)), some (.inl (b1)), none, some (.inr (.inr 1013)), some (.inl (q_w (b4 + (1))))] [] M5
    else
      some (some (.inl (0)), GF, M5)))
  else
    some (some (.inl (1)), GF, M1)) := by
  rw [pr_st]; rfl
set_option maxRecDepth 20000 in
theorem sg_J0_length_8abf5_0_s13 {sc : List Int} {orc : q_O} {M : q_M} {F : Nat} : pr sc orc 214 (F + 1) 0 [some (.inr (.inr 1013))] [] M =
  q_cI (orc 215 [.inr (.inr 1013)] GF M) GF (fun x2 M1 =>
  if x2 = 0 then
  some (some (.inl (((2 : Nat) : Int))), GF, M1)
  else none) := by
  rw [pr_st]; rfl
set_option maxRecDepth 20000 in
theorem sg_J0_coder_7d493_0_s13 {sc : List Int} {orc : q_O} {M : q_M} {F : Nat} : pr sc orc 215 (F + 1) 0 [some (.inr (.inr 1013))] [] M =
  if 1 = 0 then
    some (some (.inl (1)), GF, M)
  else
    some (some (.inl (0)), GF, M) := by
  rw [pr_st]; rfl
set_option maxRecDepth 20000 in
theorem sg_J0_charAt_5068e_0_s13 {sc : List Int} {orc : q_O} {M : q_M} {F : Nat} {a1 : Int} : pr sc orc 216 (F + 1) 0 [some (.inr (.inr 1013)), some (.inl (a1))] [] M =
  q_cI (orc 217 [.inr (.inr 1013)] GF M) GF (fun x2 M1 =>
  if x2 = 0 then
    none
  else
    q_cI (orc 220 [.inr (.inr 2013), .inl (a1)] GF M1) GF (fun x4 M3 =>
    if 0 ≤ x4 ∧ x4 < 65536 then some (some (.inl (x4)), GF, M3) else none)) := by
  rw [pr_st]; rfl
set_option maxRecDepth 20000 in
theorem sg_J0_isLatin1_aae02_0_s13 {sc : List Int} {orc : q_O} {M : q_M} {F : Nat} : pr sc orc 217 (F + 1) 0 [some (.inr (.inr 1013))] [] M =
  if 1 = 0 then
    some (some (.inl (0)), GF, M)
  else
    if 0 = 0 then
      some (some (.inl (1)), GF, M)
    else
      some (some (.inl (0)), GF, M) := by
  rw [pr_st]; rfl
set_option maxRecDepth 20000 in
theorem sg_J1_charAt_3b067_0_s13 {sc : List Int} {orc : q_O} {M : q_M} {F : Nat} {a2 : Int} : pr sc orc 220 (F + 1) 0 [some (.inr (.inr 2013)), some (.inl (a2))] [] M =
  q_c0 (orc 224 [.inl (a2), .inl (((2 : Nat) : Int))] GF M) GF (fun M1 =>
  if 0 ≤ a2 ∧ a2 < ((2 : Nat) : Int) then
  if 0 ≤ ((([111, 114] : List Int).getD (a2 : Int).toNat 0) % 256) % 65536 ∧ ((([111, 114] : List Int).getD (a2 : Int).toNat 0) % 256) % 65536 < 65536 then some (some (.inl (((([111, 114] : List Int).getD (a2 : Int).toNat 0) % 256) % 65536)), GF, M1) else none
  else none) := by
  rw [pr_st]; rfl
set_option maxRecDepth 20000 in
theorem sg_X8_spells_0_s14 {sc : List Int} {orc : q_O} {M : q_M} {F : Nat} {a1 a2 : Int} : pr sc orc 113 (F + 1) 0 [some (.inr (.inr 9)), some (.inl (a1)), some (.inl (a2)), some (.inr (.inr 1014)), none] [] M =
  q_cI (orc 214 [.inr (.inr 1014)] GF M) GF (fun x2 M1 =>
  if (q_w (a2 - a1)) = x2 then
    pr sc orc 113 F 15 [some (.inr (.inr 9)), some (.inl (a1)), none, some (.inr (.inr 1014)), some (.inl (0))] [] M1
  else
    some (some (.inl (0)), GF, M1)) := by
  rw [pr_st]; rfl
set_option maxRecDepth 20000 in
theorem sg_X8_spells_15_s14 {sc : List Int} {orc : q_O} {M : q_M} {F : Nat} {b1 b4 : Int} : pr sc orc 113 (F + 1) 15 [some (.inr (.inr 9)), some (.inl (b1)), none, some (.inr (.inr 1014)), some (.inl (b4))] [] M =
  q_cI (orc 214 [.inr (.inr 1014)] GF M) GF (fun x2 M1 =>
  if b4 < x2 then
    q_cI (orc 108 [.inr (.inr 9), .inl (q_w (b1 + b4))] GF M1) GF (fun x4 M3 =>
    q_cI (orc 216 [.inr (.inr 1014), .inl (b4)] GF M3) GF (fun x6 M5 =>
    if x4 = x6 then
      pr sc orc 113 F 15 [some (.inr (.inr 9)), some (.inl (b1)), none, some (.inr (.inr 1014)), some (.inl (q_w (b4 + (1))))] [] M5
    else
      some (some (.inl (0)), GF, M5)))
  else
    some (some (.inl (1)), GF, M1)) := by
  rw [pr_st]; rfl
set_option maxRecDepth 20000 in
theorem sg_J0_length_8abf5_0_s14 {sc : List Int} {orc : q_O} {M : q_M} {F : Nat} : pr sc orc 214 (F + 1) 0 [some (.inr (.inr 1014))] [] M =
  q_cI (orc 215 [.inr (.inr 1014)] GF M) GF (fun x2 M1 =>
  if x2 = 0 then
  some (some (.inl (((3 : Nat) : Int))), GF, M1)
  else none) := by
  rw [pr_st]; rfl
set_option maxRecDepth 20000 in
theorem sg_J0_coder_7d493_0_s14 {sc : List Int} {orc : q_O} {M : q_M} {F : Nat} : pr sc orc 215 (F + 1) 0 [some (.inr (.inr 1014))] [] M =
  if 1 = 0 then
    some (some (.inl (1)), GF, M)
  else
    some (some (.inl (0)), GF, M) := by
  rw [pr_st]; rfl
set_option maxRecDepth 20000 in
theorem sg_J0_charAt_5068e_0_s14 {sc : List Int} {orc : q_O} {M : q_M} {F : Nat} {a1 : Int} : pr sc orc 216 (F + 1) 0 [some (.inr (.inr 1014)), some (.inl (a1))] [] M =
  q_cI (orc 217 [.inr (.inr 1014)] GF M) GF (fun x2 M1 =>
  if x2 = 0 then
    none
  else
    q_cI (orc 220 [.inr (.inr 2014), .inl (a1)] GF M1) GF (fun x4 M3 =>
    if 0 ≤ x4 ∧ x4 < 65536 then some (some (.inl (x4)), GF, M3) else none)) := by
  rw [pr_st]; rfl
set_option maxRecDepth 20000 in
theorem sg_J0_isLatin1_aae02_0_s14 {sc : List Int} {orc : q_O} {M : q_M} {F : Nat} : pr sc orc 217 (F + 1) 0 [some (.inr (.inr 1014))] [] M =
  if 1 = 0 then
    some (some (.inl (0)), GF, M)
  else
    if 0 = 0 then
      some (some (.inl (1)), GF, M)
    else
      some (some (.inl (0)), GF, M) := by
  rw [pr_st]; rfl
set_option maxRecDepth 20000 in
theorem sg_J1_charAt_3b067_0_s14 {sc : List Int} {orc : q_O} {M : q_M} {F : Nat} {a2 : Int} : pr sc orc 220 (F + 1) 0 [some (.inr (.inr 2014)), some (.inl (a2))] [] M =
  q_c0 (orc 224 [.inl (a2), .inl (((3 : Nat) : Int))] GF M) GF (fun M1 =>
  if 0 ≤ a2 ∧ a2 < ((3 : Nat) : Int) then
  if 0 ≤ ((([97, 110, 100] : List Int).getD (a2 : Int).toNat 0) % 256) % 65536 ∧ ((([97, 110, 100] : List Int).getD (a2 : Int).toNat 0) % 256) % 65536 < 65536 then some (some (.inl (((([97, 110, 100] : List Int).getD (a2 : Int).toNat 0) % 256) % 65536)), GF, M1) else none
  else none) := by
  rw [pr_st]; rfl
set_option maxRecDepth 20000 in
theorem sg_X8_spells_0_s15 {sc : List Int} {orc : q_O} {M : q_M} {F : Nat} {a1 a2 : Int} : pr sc orc 113 (F + 1) 0 [some (.inr (.inr 9)), some (.inl (a1)), some (.inl (a2)), some (.inr (.inr 1015)), none] [] M =
  q_cI (orc 214 [.inr (.inr 1015)] GF M) GF (fun x2 M1 =>
  if (q_w (a2 - a1)) = x2 then
    pr sc orc 113 F 15 [some (.inr (.inr 9)), some (.inl (a1)), none, some (.inr (.inr 1015)), some (.inl (0))] [] M1
  else
    some (some (.inl (0)), GF, M1)) := by
  rw [pr_st]; rfl
set_option maxRecDepth 20000 in
theorem sg_X8_spells_15_s15 {sc : List Int} {orc : q_O} {M : q_M} {F : Nat} {b1 b4 : Int} : pr sc orc 113 (F + 1) 15 [some (.inr (.inr 9)), some (.inl (b1)), none, some (.inr (.inr 1015)), some (.inl (b4))] [] M =
  q_cI (orc 214 [.inr (.inr 1015)] GF M) GF (fun x2 M1 =>
  if b4 < x2 then
    q_cI (orc 108 [.inr (.inr 9), .inl (q_w (b1 + b4))] GF M1) GF (fun x4 M3 =>
    q_cI (orc 216 [.inr (.inr 1015), .inl (b4)] GF M3) GF (fun x6 M5 =>
    if x4 = x6 then
      pr sc orc 113 F 15 [some (.inr (.inr 9)), some (.inl (b1)), none, some (.inr (.inr 1015)), some (.inl (q_w (b4 + (1))))] [] M5
    else
      some (some (.inl (0)), GF, M5)))
  else
    some (some (.inl (1)), GF, M1)) := by
  rw [pr_st]; rfl
set_option maxRecDepth 20000 in
theorem sg_J0_length_8abf5_0_s15 {sc : List Int} {orc : q_O} {M : q_M} {F : Nat} : pr sc orc 214 (F + 1) 0 [some (.inr (.inr 1015))] [] M =
  q_cI (orc 215 [.inr (.inr 1015)] GF M) GF (fun x2 M1 =>
  if x2 = 0 then
  some (some (.inl (((3 : Nat) : Int))), GF, M1)
  else none) := by
  rw [pr_st]; rfl
set_option maxRecDepth 20000 in
theorem sg_J0_coder_7d493_0_s15 {sc : List Int} {orc : q_O} {M : q_M} {F : Nat} : pr sc orc 215 (F + 1) 0 [some (.inr (.inr 1015))] [] M =
  if 1 = 0 then
    some (some (.inl (1)), GF, M)
  else
    some (some (.inl (0)), GF, M) := by
  rw [pr_st]; rfl
set_option maxRecDepth 20000 in
theorem sg_J0_charAt_5068e_0_s15 {sc : List Int} {orc : q_O} {M : q_M} {F : Nat} {a1 : Int} : pr sc orc 216 (F + 1) 0 [some (.inr (.inr 1015)), some (.inl (a1))] [] M =
  q_cI (orc 217 [.inr (.inr 1015)] GF M) GF (fun x2 M1 =>
  if x2 = 0 then
    none
  else
    q_cI (orc 220 [.inr (.inr 2015), .inl (a1)] GF M1) GF (fun x4 M3 =>
    if 0 ≤ x4 ∧ x4 < 65536 then some (some (.inl (x4)), GF, M3) else none)) := by
  rw [pr_st]; rfl
set_option maxRecDepth 20000 in
theorem sg_J0_isLatin1_aae02_0_s15 {sc : List Int} {orc : q_O} {M : q_M} {F : Nat} : pr sc orc 217 (F + 1) 0 [some (.inr (.inr 1015))] [] M =
  if 1 = 0 then
    some (some (.inl (0)), GF, M)
  else
    if 0 = 0 then
      some (some (.inl (1)), GF, M)
    else
      some (some (.inl (0)), GF, M) := by
  rw [pr_st]; rfl
set_option maxRecDepth 20000 in
theorem sg_J1_charAt_3b067_0_s15 {sc : List Int} {orc : q_O} {M : q_M} {F : Nat} {a2 : Int} : pr sc orc 220 (F + 1) 0 [some (.inr (.inr 2015)), some (.inl (a2))] [] M =
  q_c0 (orc 224 [.inl (a2), .inl (((3 : Nat) : Int))] GF M) GF (fun M1 =>
  if 0 ≤ a2 ∧ a2 < ((3 : Nat) : Int) then
  if 0 ≤ ((([110, 111, 116] : List Int).getD (a2 : Int).toNat 0) % 256) % 65536 ∧ ((([110, 111, 116] : List Int).getD (a2 : Int).toNat 0) % 256) % 65536 < 65536 then some (some (.inl (((([110, 111, 116] : List Int).getD (a2 : Int).toNat 0) % 256) % 65536)), GF, M1) else none
  else none) := by
  rw [pr_st]; rfl
set_option maxRecDepth 20000 in
theorem sg_X8_spells_0_s16 {sc : List Int} {orc : q_O} {M : q_M} {F : Nat} {a1 a2 : Int} : pr sc orc 113 (F + 1) 0 [some (.inr (.inr 9)), some (.inl (a1)), some (.inl (a2)), some (.inr (.inr 1016)), none] [] M =
  q_cI (orc 214 [.inr (.inr 1016)] GF M) GF (fun x2 M1 =>
  if (q_w (a2 - a1)) = x2 then
    pr sc orc 113 F 15 [some (.inr (.inr 9)), some (.inl (a1)), none, some (.inr (.inr 1016)), some (.inl (0))] [] M1
  else
    some (some (.inl (0)), GF, M1)) := by
  rw [pr_st]; rfl
set_option maxRecDepth 20000 in
theorem sg_X8_spells_15_s16 {sc : List Int} {orc : q_O} {M : q_M} {F : Nat} {b1 b4 : Int} : pr sc orc 113 (F + 1) 15 [some (.inr (.inr 9)), some (.inl (b1)), none, some (.inr (.inr 1016)), some (.inl (b4))] [] M =
  q_cI (orc 214 [.inr (.inr 1016)] GF M) GF (fun x2 M1 =>
  if b4 < x2 then
    q_cI (orc 108 [.inr (.inr 9), .inl (q_w (b1 + b4))] GF M1) GF (fun x4 M3 =>
    q_cI (orc 216 [.inr (.inr 1016), .inl (b4)] GF M3) GF (fun x6 M5 =>
    if x4 = x6 then
      pr sc orc 113 F 15 [some (.inr (.inr 9)), some (.inl (b1)), none, some (.inr (.inr 1016)), some (.inl (q_w (b4 + (1))))] [] M5
    else
      some (some (.inl (0)), GF, M5)))
  else
    some (some (.inl (1)), GF, M1)) := by
  rw [pr_st]; rfl
set_option maxRecDepth 20000 in
theorem sg_J0_length_8abf5_0_s16 {sc : List Int} {orc : q_O} {M : q_M} {F : Nat} : pr sc orc 214 (F + 1) 0 [some (.inr (.inr 1016))] [] M =
  q_cI (orc 215 [.inr (.inr 1016)] GF M) GF (fun x2 M1 =>
  if x2 = 0 then
  some (some (.inl (((2 : Nat) : Int))), GF, M1)
  else none) := by
  rw [pr_st]; rfl
set_option maxRecDepth 20000 in
theorem sg_J0_coder_7d493_0_s16 {sc : List Int} {orc : q_O} {M : q_M} {F : Nat} : pr sc orc 215 (F + 1) 0 [some (.inr (.inr 1016))] [] M =
  if 1 = 0 then
    some (some (.inl (1)), GF, M)
  else
    some (some (.inl (0)), GF, M) := by
  rw [pr_st]; rfl
set_option maxRecDepth 20000 in
theorem sg_J0_charAt_5068e_0_s16 {sc : List Int} {orc : q_O} {M : q_M} {F : Nat} {a1 : Int} : pr sc orc 216 (F + 1) 0 [some (.inr (.inr 1016)), some (.inl (a1))] [] M =
  q_cI (orc 217 [.inr (.inr 1016)] GF M) GF (fun x2 M1 =>
  if x2 = 0 then
    none
  else
    q_cI (orc 220 [.inr (.inr 2016), .inl (a1)] GF M1) GF (fun x4 M3 =>
    if 0 ≤ x4 ∧ x4 < 65536 then some (some (.inl (x4)), GF, M3) else none)) := by
  rw [pr_st]; rfl
set_option maxRecDepth 20000 in
theorem sg_J0_isLatin1_aae02_0_s16 {sc : List Int} {orc : q_O} {M : q_M} {F : Nat} : pr sc orc 217 (F + 1) 0 [some (.inr (.inr 1016))] [] M =
  if 1 = 0 then
    some (some (.inl (0)), GF, M)
  else
    if 0 = 0 then
      some (some (.inl (1)), GF, M)
    else
      some (some (.inl (0)), GF, M) := by
  rw [pr_st]; rfl
set_option maxRecDepth 20000 in
theorem sg_J1_charAt_3b067_0_s16 {sc : List Int} {orc : q_O} {M : q_M} {F : Nat} {a2 : Int} : pr sc orc 220 (F + 1) 0 [some (.inr (.inr 2016)), some (.inl (a2))] [] M =
  q_c0 (orc 224 [.inl (a2), .inl (((2 : Nat) : Int))] GF M) GF (fun M1 =>
  if 0 ≤ a2 ∧ a2 < ((2 : Nat) : Int) then
  if 0 ≤ ((([105, 115] : List Int).getD (a2 : Int).toNat 0) % 256) % 65536 ∧ ((([105, 115] : List Int).getD (a2 : Int).toNat 0) % 256) % 65536 < 65536 then some (some (.inl (((([105, 115] : List Int).getD (a2 : Int).toNat 0) % 256) % 65536)), GF, M1) else none
  else none) := by
  rw [pr_st]; rfl
set_option maxRecDepth 20000 in
theorem sg_X8_spells_0_s17 {sc : List Int} {orc : q_O} {M : q_M} {F : Nat} {a1 a2 : Int} : pr sc orc 113 (F + 1) 0 [some (.inr (.inr 9)), some (.inl (a1)), some (.inl (a2)), some (.inr (.inr 1017)), none] [] M =
  q_cI (orc 214 [.inr (.inr 1017)] GF M) GF (fun x2 M1 =>
  if (q_w (a2 - a1)) = x2 then
    pr sc orc 113 F 15 [some (.inr (.inr 9)), some (.inl (a1)), none, some (.inr (.inr 1017)), some (.inl (0))] [] M1
  else
    some (some (.inl (0)), GF, M1)) := by
  rw [pr_st]; rfl
set_option maxRecDepth 20000 in
theorem sg_X8_spells_15_s17 {sc : List Int} {orc : q_O} {M : q_M} {F : Nat} {b1 b4 : Int} : pr sc orc 113 (F + 1) 15 [some (.inr (.inr 9)), some (.inl (b1)), none, some (.inr (.inr 1017)), some (.inl (b4))] [] M =
  q_cI (orc 214 [.inr (.inr 1017)] GF M) GF (fun x2 M1 =>
  if b4 < x2 then
    q_cI (orc 108 [.inr (.inr 9), .inl (q_w (b1 + b4))] GF M1) GF (fun x4 M3 =>
    q_cI (orc 216 [.inr (.inr 1017), .inl (b4)] GF M3) GF (fun x6 M5 =>
    if x4 = x6 then
      pr sc orc 113 F 15 [some (.inr (.inr 9)), some (.inl (b1)), none, some (.inr (.inr 1017)), some (.inl (q_w (b4 + (1))))] [] M5
    else
      some (some (.inl (0)), GF, M5)))
  else
    some (some (.inl (1)), GF, M1)) := by
  rw [pr_st]; rfl
set_option maxRecDepth 20000 in
theorem sg_J0_length_8abf5_0_s17 {sc : List Int} {orc : q_O} {M : q_M} {F : Nat} : pr sc orc 214 (F + 1) 0 [some (.inr (.inr 1017))] [] M =
  q_cI (orc 215 [.inr (.inr 1017)] GF M) GF (fun x2 M1 =>
  if x2 = 0 then
  some (some (.inl (((4 : Nat) : Int))), GF, M1)
  else none) := by
  rw [pr_st]; rfl
set_option maxRecDepth 20000 in
theorem sg_J0_coder_7d493_0_s17 {sc : List Int} {orc : q_O} {M : q_M} {F : Nat} : pr sc orc 215 (F + 1) 0 [some (.inr (.inr 1017))] [] M =
  if 1 = 0 then
    some (some (.inl (1)), GF, M)
  else
    some (some (.inl (0)), GF, M) := by
  rw [pr_st]; rfl
set_option maxRecDepth 20000 in
theorem sg_J0_charAt_5068e_0_s17 {sc : List Int} {orc : q_O} {M : q_M} {F : Nat} {a1 : Int} : pr sc orc 216 (F + 1) 0 [some (.inr (.inr 1017)), some (.inl (a1))] [] M =
  q_cI (orc 217 [.inr (.inr 1017)] GF M) GF (fun x2 M1 =>
  if x2 = 0 then
    none
  else
    q_cI (orc 220 [.inr (.inr 2017), .inl (a1)] GF M1) GF (fun x4 M3 =>
    if 0 ≤ x4 ∧ x4 < 65536 then some (some (.inl (x4)), GF, M3) else none)) := by
  rw [pr_st]; rfl
set_option maxRecDepth 20000 in
theorem sg_J0_isLatin1_aae02_0_s17 {sc : List Int} {orc : q_O} {M : q_M} {F : Nat} : pr sc orc 217 (F + 1) 0 [some (.inr (.inr 1017))] [] M =
  if 1 = 0 then
    some (some (.inl (0)), GF, M)
  else
    if 0 = 0 then
      some (some (.inl (1)), GF, M)
    else
      some (some (.inl (0)), GF, M) := by
  rw [pr_st]; rfl
set_option maxRecDepth 20000 in
theorem sg_J1_charAt_3b067_0_s17 {sc : List Int} {orc : q_O} {M : q_M} {F : Nat} {a2 : Int} : pr sc orc 220 (F + 1) 0 [some (.inr (.inr 2017)), some (.inl (a2))] [] M =
  q_c0 (orc 224 [.inl (a2), .inl (((4 : Nat) : Int))] GF M) GF (fun M1 =>
  if 0 ≤ a2 ∧ a2 < ((4 : Nat) : Int) then
  if 0 ≤ ((([110, 117, 108, 108] : List Int).getD (a2 : Int).toNat 0) % 256) % 65536 ∧ ((([110, 117, 108, 108] : List Int).getD (a2 : Int).toNat 0) % 256) % 65536 < 65536 then some (some (.inl (((([110, 117, 108, 108] : List Int).getD (a2 : Int).toNat 0) % 256) % 65536)), GF, M1) else none
  else none) := by
  rw [pr_st]; rfl
