set_option maxRecDepth 20000 in
theorem sg_J0_coder_7d493_0_s18 {sc : List Int} {orc : q_O} {M : q_M} {F : Nat} : pr sc orc 215 (F + 1) 0 [some (.inr (.inr 1018))] [] M =
  if 1 = 0 then
    some (some (.inl (1)), GF, M)
  else
    some (some (.inl (0)), GF, M) := by
  rw [pr_st]; rfl
set_option maxRecDepth 20000 in
theorem sg_J0_isLatin1_aae02_0_s18 {sc : List Int} {orc : q_O} {M : q_M} {F : Nat} : pr sc orc 217 (F + 1) 0 [some (.inr (.inr 1018))] [] M =
  if 1 = 0 then
    some (some (.inl (0)), GF, M)
  else
    if 0 = 0 then
      some (some (.inl (1)), GF, M)
    else
      some (some (.inl (0)), GF, M) := by
  rw [pr_st]; rfl
set_option maxRecDepth 20000 in
theorem sg_J0_indexOf_0f7a4_0_s18 {sc : List Int} {orc : q_O} {M : q_M} {F : Nat} {a1 : Int} : pr sc orc 218 (F + 1) 0 [some (.inr (.inr 1018)), some (.inl (a1))] [] M =
  q_cI (orc 219 [.inr (.inr 1018), .inl (a1), .inl (0)] GF M) GF (fun x2 M1 =>
  some (some (.inl (x2)), GF, M1)) := by
  rw [pr_st]; rfl
set_option maxRecDepth 20000 in
theorem sg_J0_indexOf_7cf53_0_s18 {sc : List Int} {orc : q_O} {M : q_M} {F : Nat} {a1 a2 : Int} : pr sc orc 219 (F + 1) 0 [some (.inr (.inr 1018)), some (.inl (a1)), some (.inl (a2))] [] M =
  q_cI (orc 217 [.inr (.inr 1018)] GF M) GF (fun x2 M1 =>
  if x2 = 0 then
    q_cI (orc 214 [.inr (.inr 1018)] GF M1) GF (fun x4 M3 =>
    none)
  else
    q_cI (orc 214 [.inr (.inr 1018)] GF M1) GF (fun x6 M5 =>
    q_cI (orc 222 [.inr (.inr 2018), .inl (a1), .inl (a2), .inl (x6)] GF M5) GF (fun x8 M7 =>
    some (some (.inl (x8)), GF, M7)))) := by
  rw [pr_st]; rfl
set_option maxRecDepth 20000 in
theorem sg_J1_indexOf_4cfef_0_s18 {sc : List Int} {orc : q_O} {M : q_M} {F : Nat} {a2 a3 a4 : Int} : pr sc orc 222 (F + 1) 0 [some (.inr (.inr 2018)), some (.inl (a2)), some (.inl (a3)), some (.inl (a4))] [] M =
  q_cI (orc 221 [.inl (a2)] GF M) GF (fun x2 M1 =>
  if x2 = 0 then
    some (some (.inl ((-1))), GF, M1)
  else
    q_cI (orc 225 [.inl (a3), .inl (0)] GF M1) GF (fun x4 M3 =>
    q_cI (orc 227 [.inl (a4), .inl (((7 : Nat) : Int))] GF M3) GF (fun x6 M5 =>
    if x4 < x6 then
      q_cI (orc 223 [.inr (.inr 2018), .inl (a2), .inl (x4), .inl (x6)] GF M5) GF (fun x8 M7 =>
      some (some (.inl (x8)), GF, M7))
    else
      some (some (.inl ((-1))), GF, M5)))) := by
  rw [pr_st]; rfl
set_option maxRecDepth 20000 in
theorem sg_J1_indexOfChar_4cfef_0_s18 {sc : List Int} {orc : q_O} {M : q_M} {F : Nat} {a2 a3 a4 : Int} : pr sc orc 223 (F + 1) 0 [some (.inr (.inr 2018)), some (.inl (a2)), some (.inl (a3)), some (.inl (a4)), none, none] [] M =
  if -128 ≤ a2 ∧ a2 < 128 then
  pr sc orc 223 F 7 [some (.inr (.inr 2018)), none, none, some (.inl (a4)), some (.inl (a2)), some (.inl (a3))] [] M
  else none := by
  rw [pr_st]; rfl
set_option maxRecDepth 20000 in
theorem sg_J1_indexOfChar_4cfef_7_s18 {sc : List Int} {orc : q_O} {M : q_M} {F : Nat} {b3 b4 b5 : Int} : pr sc orc 223 (F + 1) 7 [some (.inr (.inr 2018)), none, none, some (.inl (b3)), some (.inl (b4)), some (.inl (b5))] [] M =
  if b5 < b3 then
    if 0 ≤ b5 ∧ b5 < ((7 : Nat) : Int) then
    if (([40, 41, 44, 46, 61, 60, 62] : List Int).getD (b5 : Int).toNat 0) = b4 then
      some (some (.inl (b5)), GF, M)
    else
      pr sc orc 223 F 7 [some (.inr (.inr 2018)), none, none, some (.inl (b3)), some (.inl (b4)), some (.inl (q_w (b5 + (1))))] [] M
    else none
  else
    some (some (.inl ((-1))), GF, M) := by
  rw [pr_st]; rfl
set_option maxRecDepth 20000 in
theorem sg_J1_canEncode_9a6ad_0 {sc : List Int} {orc : q_O} {M : q_M} {F : Nat} {a1 : Int} : pr sc orc 221 (F + 1) 0 [some (.inl (a1))] [] M =
  if a1 < 0 then
    some (some (.inl (0)), GF, M)
  else
    if 255 < a1 then
      some (some (.inl (0)), GF, M)
    else
      some (some (.inl (1)), GF, M) := by
  rw [pr_st]; rfl
set_option maxRecDepth 20000 in
theorem sg_J9_max_7cf53_0 {sc : List Int} {orc : q_O} {M : q_M} {F : Nat} {a1 a2 : Int} : pr sc orc 225 (F + 1) 0 [some (.inl (a1)), some (.inl (a2))] [] M =
  if a1 < a2 then
    some (some (.inl (a2)), GF, M)
  else
    some (some (.inl (a1)), GF, M) := by
  rw [pr_st]; rfl
set_option maxRecDepth 20000 in
theorem sg_J9_max_f86c9_0 {sc : List Int} {orc : q_O} {M : q_M} {F : Nat} {a1 a2 : Int} : pr sc orc 226 (F + 1) 0 [some (.inr (.inl (a1))), none, some (.inr (.inl (a2))), none] [] M =
  if (if a1 < a2 then -1 else if a2 < a1 then 1 else 0) < 0 then
    some (some (.inr (.inl (a2))), GF, M)
  else
    some (some (.inr (.inl (a1))), GF, M) := by
  rw [pr_st]; rfl
set_option maxRecDepth 20000 in
theorem sg_J9_min_7cf53_0 {sc : List Int} {orc : q_O} {M : q_M} {F : Nat} {a1 a2 : Int} : pr sc orc 227 (F + 1) 0 [some (.inl (a1)), some (.inl (a2))] [] M =
  if a2 < a1 then
    some (some (.inl (a2)), GF, M)
  else
    some (some (.inl (a1)), GF, M) := by
  rw [pr_st]; rfl
set_option maxRecDepth 20000 in
theorem sg_J9_min_f86c9_0 {sc : List Int} {orc : q_O} {M : q_M} {F : Nat} {a1 a2 : Int} : pr sc orc 228 (F + 1) 0 [some (.inr (.inl (a1))), none, some (.inr (.inl (a2))), none] [] M =
  if 0 < (if a1 < a2 then -1 else if a2 < a1 then 1 else 0) then
    some (some (.inr (.inl (a2))), GF, M)
  else
    some (some (.inr (.inl (a1))), GF, M) := by
  rw [pr_st]; rfl
set_option maxRecDepth 20000 in
theorem sg_J6_compare_7cf53_0 {sc : List Int} {orc : q_O} {M : q_M} {F : Nat} {a1 a2 : Int} : pr sc orc 229 (F + 1) 0 [some (.inl (a1)), some (.inl (a2))] [] M =
  if a1 < a2 then
    some (some (.inl ((-1))), GF, M)
  else
    if a1 = a2 then
      some (some (.inl (0)), GF, M)
    else
      some (some (.inl (1)), GF, M) := by
  rw [pr_st]; rfl
set_option maxRecDepth 20000 in
theorem sg_X11_get_0_g17 {sc : List Int} {orc : q_O} {M : q_M} {F : Nat} {a2 : Int} : pr sc orc 146 (F + 1) 0 [some (.inr (.inr 17)), some (.inl (a2))] [] M =
  if a2 < 0 then
    some (some (.inl ((-1))), GF, M)
  else
    if a2 < ((130 : Nat) : Int) then
      if 0 ≤ a2 ∧ a2 < ((130 : Nat) : Int) then
      some (some (.inl (M 17 (a2 : Int).toNat)), GF, M)
      else none
    else
      some (some (.inl ((-1))), GF, M) := by
  rw [pr_st]; rfl
set_option maxRecDepth 20000 in
theorem sg_X11_get_0_g18 {sc : List Int} {orc : q_O} {M : q_M} {F : Nat} {a2 : Int} : pr sc orc 146 (F + 1) 0 [some (.inr (.inr 18)), some (.inl (a2))] [] M =
  if a2 < 0 then
    some (some (.inl ((-1))), GF, M)
  else
    if a2 < ((130 : Nat) : Int) then
      if 0 ≤ a2 ∧ a2 < ((130 : Nat) : Int) then
      some (some (.inl (M 18 (a2 : Int).toNat)), GF, M)
      else none
    else
      some (some (.inl ((-1))), GF, M) := by
  rw [pr_st]; rfl
set_option maxRecDepth 20000 in
theorem sg_X11_get_0_g19 {sc : List Int} {orc : q_O} {M : q_M} {F : Nat} {a2 : Int} : pr sc orc 146 (F + 1) 0 [some (.inr (.inr 19)), some (.inl (a2))] [] M =
  if a2 < 0 then
    some (some (.inl ((-1))), GF, M)
  else
    if a2 < ((130 : Nat) : Int) then
      if 0 ≤ a2 ∧ a2 < ((130 : Nat) : Int) then
      some (some (.inl (M 19 (a2 : Int).toNat)), GF, M)
      else none
    else
      some (some (.inl ((-1))), GF, M) := by
  rw [pr_st]; rfl
set_option maxRecDepth 20000 in
theorem sg_X11_get_0_g20 {sc : List Int} {orc : q_O} {M : q_M} {F : Nat} {a2 : Int} : pr sc orc 146 (F + 1) 0 [some (.inr (.inr 20)), some (.inl (a2))] [] M =
  if a2 < 0 then
    some (some (.inl ((-1))), GF, M)
  else
    if a2 < ((130 : Nat) : Int) then
      if 0 ≤ a2 ∧ a2 < ((130 : Nat) : Int) then
      some (some (.inl (M 20 (a2 : Int).toNat)), GF, M)
      else none
    else
      some (some (.inl ((-1))), GF, M) := by
  rw [pr_st]; rfl
set_option maxRecDepth 20000 in
theorem sg_X11_get_0_g21 {sc : List Int} {orc : q_O} {M : q_M} {F : Nat} {a2 : Int} : pr sc orc 146 (F + 1) 0 [some (.inr (.inr 21)), some (.inl (a2))] [] M =
  if a2 < 0 then
    some (some (.inl ((-1))), GF, M)
  else
    if a2 < ((130 : Nat) : Int) then
      if 0 ≤ a2 ∧ a2 < ((130 : Nat) : Int) then
      some (some (.inl (M 21 (a2 : Int).toNat)), GF, M)
      else none
    else
      some (some (.inl ((-1))), GF, M) := by
  rw [pr_st]; rfl
set_option maxRecDepth 20000 in
theorem sg_X11_get_0_g33 {sc : List Int} {orc : q_O} {M : q_M} {F : Nat} {a2 : Int} : pr sc orc 146 (F + 1) 0 [some (.inr (.inr 33)), some (.inl (a2))] [] M =
  if a2 < 0 then
    some (some (.inl ((-1))), GF, M)
  else
    if a2 < ((3 : Nat) : Int) then
      if 0 ≤ a2 ∧ a2 < ((3 : Nat) : Int) then
      some (some (.inl (M 33 (a2 : Int).toNat)), GF, M)
      else none
    else
      some (some (.inl ((-1))), GF, M) := by
  rw [pr_st]; rfl
set_option maxRecDepth 20000 in
theorem sg_X11_get_0_g34 {sc : List Int} {orc : q_O} {M : q_M} {F : Nat} {a2 : Int} : pr sc orc 146 (F + 1) 0 [some (.inr (.inr 34)), some (.inl (a2))] [] M =
  if a2 < 0 then
    some (some (.inl ((-1))), GF, M)
  else
    if a2 < ((3 : Nat) : Int) then
      if 0 ≤ a2 ∧ a2 < ((3 : Nat) : Int) then
      some (some (.inl (M 34 (a2 : Int).toNat)), GF, M)
      else none
    else
      some (some (.inl ((-1))), GF, M) := by
  rw [pr_st]; rfl
set_option maxRecDepth 20000 in
theorem sg_X11_get_0_g35 {sc : List Int} {orc : q_O} {M : q_M} {F : Nat} {a2 : Int} : pr sc orc 146 (F + 1) 0 [some (.inr (.inr 35)), some (.inl (a2))] [] M =
  if a2 < 0 then
    some (some (.inl ((-1))), GF, M)
  else
    if a2 < ((3 : Nat) : Int) then
      if 0 ≤ a2 ∧ a2 < ((3 : Nat) : Int) then
      some (some (.inl (M 35 (a2 : Int).toNat)), GF, M)
      else none
    else
      some (some (.inl ((-1))), GF, M) := by
  rw [pr_st]; rfl
set_option maxRecDepth 20000 in
theorem sg_X11_get_0_g36 {sc : List Int} {orc : q_O} {M : q_M} {F : Nat} {a2 : Int} : pr sc orc 146 (F + 1) 0 [some (.inr (.inr 36)), some (.inl (a2))] [] M =
  if a2 < 0 then
    some (some (.inl ((-1))), GF, M)
  else
    if a2 < ((3 : Nat) : Int) then
      if 0 ≤ a2 ∧ a2 < ((3 : Nat) : Int) then
      some (some (.inl (M 36 (a2 : Int).toNat)), GF, M)
      else none
    else
      some (some (.inl ((-1))), GF, M) := by
  rw [pr_st]; rfl
set_option maxRecDepth 20000 in
theorem sg_X11_get_0_g38 {sc : List Int} {orc : q_O} {M : q_M} {F : Nat} {a2 : Int} : pr sc orc 146 (F + 1) 0 [some (.inr (.inr 38)), some (.inl (a2))] [] M =
  if a2 < 0 then
    some (some (.inl ((-1))), GF, M)
  else
    if a2 < ((4 : Nat) : Int) then
      if 0 ≤ a2 ∧ a2 < ((4 : Nat) : Int) then
      some (some (.inl (M 38 (a2 : Int).toNat)), GF, M)
      else none
    else
      some (some (.inl ((-1))), GF, M) := by
  rw [pr_st]; rfl
set_option maxRecDepth 20000 in
theorem sg_X11_get_0_g39 {sc : List Int} {orc : q_O} {M : q_M} {F : Nat} {a2 : Int} : pr sc orc 146 (F + 1) 0 [some (.inr (.inr 39)), some (.inl (a2))] [] M =
  if a2 < 0 then
    some (some (.inl ((-1))), GF, M)
  else
    if a2 < ((4 : Nat) : Int) then
      if 0 ≤ a2 ∧ a2 < ((4 : Nat) : Int) then
      some (some (.inl (M 39 (a2 : Int).toNat)), GF, M)
      else none
    else
      some (some (.inl ((-1))), GF, M) := by
  rw [pr_st]; rfl
set_option maxRecDepth 20000 in
theorem sg_X11_get_0_g40 {sc : List Int} {orc : q_O} {M : q_M} {F : Nat} {a2 : Int} : pr sc orc 146 (F + 1) 0 [some (.inr (.inr 40)), some (.inl (a2))] [] M =
  if a2 < 0 then
    some (some (.inl ((-1))), GF, M)
  else
    if a2 < ((3 : Nat) : Int) then
      if 0 ≤ a2 ∧ a2 < ((3 : Nat) : Int) then
      some (some (.inl (M 40 (a2 : Int).toNat)), GF, M)
      else none
    else
      some (some (.inl ((-1))), GF, M) := by
  rw [pr_st]; rfl
