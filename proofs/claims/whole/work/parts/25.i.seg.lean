set_option maxRecDepth 20000 in
theorem sg_X12_first_0 {sc : List Int} {orc : q_O} {M : q_M} {F : Nat} : pr sc orc 207 (F + 1) 0 [some (.inr (.inr 49)), none] [] M =
  pr sc orc 207 F 2 [some (.inr (.inr 49)), some (.inl (0))] [] M := by
  rw [pr_st]; rfl
set_option maxRecDepth 20000 in
theorem sg_X12_first_2 {sc : List Int} {orc : q_O} {M : q_M} {F : Nat} {b1 : Int} : pr sc orc 207 (F + 1) 2 [some (.inr (.inr 49)), some (.inl (b1))] [] M =
  if 0 ≤ 0 ∧ 0 < ((4 : Nat) : Int) then
  if 0 ≤ M 64 (0 : Int).toNat ∧ M 64 (0 : Int).toNat < ((3 : Nat) : Int) then
  if b1 < (M 52 (M 64 (0 : Int).toNat : Int).toNat) then
    if (M 49 48) = 0 then
      if 0 ≤ 0 ∧ 0 < ((3 : Nat) : Int) then
      q_cI (orc 197 [.inr (.inr 49), .inl (0)] GF (q_up (q_up M 76 ((0 : Int).toNat) b1) 49 47 (q_w (M 49 47 + 1)))) GF (fun x2 M1 =>
      if x2 = 0 then
        pr sc orc 207 F 2 [some (.inr (.inr 49)), some (.inl (q_w (b1 + (1))))] [] M1
      else
        if (M1 49 26) = 1 then
          q_c0 (orc 202 [.inr (.inr 49)] GF M1) GF (fun M4 =>
          pr sc orc 207 F 2 [some (.inr (.inr 49)), some (.inl (q_w (b1 + (1))))] [] M4)
        else
          q_c0 (orc 206 [.inr (.inr 49)] GF M1) GF (fun M3 =>
          pr sc orc 207 F 2 [some (.inr (.inr 49)), some (.inl (q_w (b1 + (1))))] [] M3))
      else none
    else
      some (none, GF, M)
  else
    some (none, GF, M)
  else none
  else none := by
  rw [pr_st]; rfl
set_option maxRecDepth 20000 in
theorem sg_X12_run_0 {sc : List Int} {orc : q_O} {M : q_M} {F : Nat} : pr sc orc 208 (F + 1) 0 [some (.inr (.inr 49))] [] M =
  if (M 49 22) = 0 then
    q_cI (orc 149 [.inr (.inr 49), .inl (1)] GF (q_up M 49 1 0)) GF (fun x13 M12 =>
    some (some (.inl (x13)), GF, M12))
  else
    if (M 49 40) = 0 then
      q_c0 (orc 207 [.inr (.inr 49)] GF (q_up (q_up (q_up (q_up M 49 1 0) 49 47 0) 49 49 0) 49 48 0)) GF (fun M1 =>
      if (M1 49 48) = 0 then
        some (some (.inl (M1 49 49)), GF, M1)
      else
        q_cI (orc 149 [.inr (.inr 49), .inl (2)] GF (q_up M1 49 49 0)) GF (fun x3 M2 =>
        some (some (.inl (x3)), GF, M2)))
    else
      if (M 49 34) = 0 then
        q_cI (orc 199 [.inr (.inr 49)] GF (q_up (q_up (q_up (q_up M 49 1 0) 49 47 0) 49 49 0) 49 48 0)) GF (fun x8 M7 =>
        q_c0 (orc 207 [.inr (.inr 49)] GF M7) GF (fun M9 =>
        if (M9 49 48) = 0 then
          some (some (.inl (M9 49 49)), GF, M9)
        else
          q_cI (orc 149 [.inr (.inr 49), .inl (2)] GF (q_up M9 49 49 0)) GF (fun x11 M10 =>
          some (some (.inl (x11)), GF, M10))))
      else
        q_c0 (orc 207 [.inr (.inr 49)] GF (q_up (q_up (q_up (q_up M 49 1 0) 49 47 0) 49 49 0) 49 48 0)) GF (fun M4 =>
        if (M4 49 48) = 0 then
          some (some (.inl (M4 49 49)), GF, M4)
        else
          q_cI (orc 149 [.inr (.inr 49), .inl (2)] GF (q_up M4 49 49 0)) GF (fun x6 M5 =>
          some (some (.inl (x6)), GF, M5))) := by
  rw [pr_st]; rfl
set_option maxRecDepth 20000 in
theorem sg_X12_looked_0 {sc : List Int} {orc : q_O} {M : q_M} {F : Nat} : pr sc orc 209 (F + 1) 0 [some (.inr (.inr 49))] [] M =
  some (some (.inl (M 49 47)), GF, (q_up M 49 1 0)) := by
  rw [pr_st]; rfl
set_option maxRecDepth 20000 in
theorem sg_X12_rows_0 {sc : List Int} {orc : q_O} {M : q_M} {F : Nat} : pr sc orc 210 (F + 1) 0 [some (.inr (.inr 49))] [] M =
  some (some (.inl (M 49 49)), GF, (q_up M 49 1 0)) := by
  rw [pr_st]; rfl
set_option maxRecDepth 20000 in
theorem sg_X12_isThere_0 {sc : List Int} {orc : q_O} {M : q_M} {F : Nat} {a1 a2 : Int} : pr sc orc 211 (F + 1) 0 [some (.inr (.inr 49)), some (.inl (a1)), some (.inl (a2))] [] M =
  if a1 < 0 then
    some (some (.inl (0)), GF, M)
  else
    if a1 < (M 49 49) then
      if a2 < 0 then
        some (some (.inl (0)), GF, M)
      else
        if a2 < (M 49 23) then
          some (some (.inl (1)), GF, M)
        else
          some (some (.inl (0)), GF, M)
    else
      some (some (.inl (0)), GF, M) := by
  rw [pr_st]; rfl
set_option maxRecDepth 20000 in
theorem sg_X12_isNull_0 {sc : List Int} {orc : q_O} {M : q_M} {F : Nat} {a1 a2 : Int} : pr sc orc 212 (F + 1) 0 [some (.inr (.inr 49)), some (.inl (a1)), some (.inl (a2))] [] M =
  q_cI (orc 211 [.inr (.inr 49), .inl (a1), .inl (a2)] GF (q_up M 49 1 0)) GF (fun x2 M1 =>
  if x2 = 0 then
    some (some (.inl (0)), GF, M1)
  else
    if 0 ≤ q_w (q_w (4 * a1) + a2) ∧ q_w (q_w (4 * a1) + a2) < ((120 : Nat) : Int) then
    if (M1 77 (q_w (q_w (4 * a1) + a2) : Int).toNat) = 0 then
      some (some (.inl (0)), GF, M1)
    else
      some (some (.inl (1)), GF, M1)
    else none) := by
  rw [pr_st]; rfl
set_option maxRecDepth 20000 in
theorem sg_X12_result_0 {sc : List Int} {orc : q_O} {M : q_M} {F : Nat} {a1 a2 : Int} : pr sc orc 213 (F + 1) 0 [some (.inr (.inr 49)), some (.inl (a1)), some (.inl (a2))] [] M =
  q_cI (orc 211 [.inr (.inr 49), .inl (a1), .inl (a2)] GF (q_up M 49 1 0)) GF (fun x2 M1 =>
  if x2 = 0 then
    some (some (.inr (.inl (0))), GF, M1)
  else
    if 0 ≤ q_w (q_w (4 * a1) + a2) ∧ q_w (q_w (4 * a1) + a2) < ((120 : Nat) : Int) then
    if (M1 77 (q_w (q_w (4 * a1) + a2) : Int).toNat) = 0 then
      if 0 ≤ q_w (q_w (4 * a1) + a2) ∧ q_w (q_w (4 * a1) + a2) < ((120 : Nat) : Int) then
      some (some (.inr (.inl (M1 78 (q_w (q_w (4 * a1) + a2) : Int).toNat))), GF, M1)
      else none
    else
      some (some (.inr (.inl (0))), GF, M1)
    else none) := by
  rw [pr_st]; rfl
