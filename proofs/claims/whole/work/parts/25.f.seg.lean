set_option maxRecDepth 20000 in
theorem sg_X12_look_0 {sc : List Int} {orc : q_O} {M : q_M} {F : Nat} : pr sc orc 164 (F + 1) 0 [some (.inr (.inr 49)), none, none] [] M =
  if (M 49 16) < (M 49 15) then
    if (M 49 16) < (M 49 15) then
      if 0 ≤ M 49 16 ∧ M 49 16 < ((132 : Nat) : Int) then
      some (some (.inl (M 58 (M 49 16 : Int).toNat)), GF, M)
      else none
    else
      some (some (.inl (0)), GF, M)
  else
    if (M 49 12) = 0 then
      pr sc orc 164 F 43 [some (.inr (.inr 49)), none, none] [] M
    else
      if (M 49 16) < (M 49 15) then
        if 0 ≤ M 49 16 ∧ M 49 16 < ((132 : Nat) : Int) then
        some (some (.inl (M 58 (M 49 16 : Int).toNat)), GF, M)
        else none
      else
        some (some (.inl (0)), GF, M) := by
  rw [pr_st]; rfl
set_option maxRecDepth 20000 in
theorem sg_X12_look_43 {sc : List Int} {orc : q_O} {M : q_M} {F : Nat} : pr sc orc 164 (F + 1) 43 [some (.inr (.inr 49)), none, none] [] M =
  q_cI (orc 158 [.inr (.inr 49), .inl (M 49 14)] GF M) GF (fun x2 M1 =>
  if x2 = 32 then
    pr sc orc 164 F 43 [some (.inr (.inr 49)), none, none] [] (q_up M1 49 14 (q_w (M1 49 14 + 1)))
  else
    if 0 ≤ M1 49 15 ∧ M1 49 15 < ((132 : Nat) : Int) then
    q_cI (orc 158 [.inr (.inr 49), .inl (M1 49 14)] GF (q_up M1 59 ((M1 49 15 : Int).toNat) (M1 49 14))) GF (fun x4 M3 =>
    if x4 = 40 then
      pr sc orc 164 F 139 [some (.inr (.inr 49)), some (.inl (x4)), some (.inl (1))] [] M3
    else
      if x4 = 41 then
        pr sc orc 164 F 139 [some (.inr (.inr 49)), some (.inl (x4)), some (.inl (1))] [] M3
      else
        if x4 = 44 then
          pr sc orc 164 F 139 [some (.inr (.inr 49)), some (.inl (x4)), some (.inl (1))] [] M3
        else
          if x4 = 46 then
            pr sc orc 164 F 139 [some (.inr (.inr 49)), some (.inl (x4)), some (.inl (1))] [] M3
          else
            if x4 = 61 then
              pr sc orc 164 F 139 [some (.inr (.inr 49)), some (.inl (x4)), some (.inl (1))] [] M3
            else
              if x4 = 60 then
                pr sc orc 164 F 139 [some (.inr (.inr 49)), some (.inl (x4)), some (.inl (1))] [] M3
              else
                if x4 = 62 then
                  pr sc orc 164 F 139 [some (.inr (.inr 49)), some (.inl (x4)), some (.inl (1))] [] M3
                else
                  pr sc orc 164 F 139 [some (.inr (.inr 49)), some (.inl (x4)), some (.inl (0))] [] M3)
    else none) := by
  rw [pr_st]; rfl
set_option maxRecDepth 20000 in
theorem sg_X12_look_139 {sc : List Int} {orc : q_O} {M : q_M} {F : Nat} {b1 b2 : Int} : pr sc orc 164 (F + 1) 139 [some (.inr (.inr 49)), some (.inl (b1)), some (.inl (b2))] [] M =
  if b1 = 0 then
    if 0 ≤ M 49 15 ∧ M 49 15 < ((132 : Nat) : Int) then
    pr sc orc 164 F 259 [some (.inr (.inr 49)), none, none] [] (q_up M 58 ((M 49 15 : Int).toNat) 0)
    else none
  else
    q_cI (orc 159 [.inl (b1)] GF M) GF (fun x2 M1 =>
    if x2 = 0 then
      if b1 = 45 then
        q_cI (orc 163 [.inr (.inr 49), .inl (M1 49 14)] GF M1) GF (fun x4 M3 =>
        if 0 ≤ M1 49 15 ∧ M1 49 15 < ((132 : Nat) : Int) then
        pr sc orc 164 F 259 [some (.inr (.inr 49)), none, none] [] (q_up M3 58 ((M1 49 15 : Int).toNat) x4)
        else none)
      else
        q_cI (orc 160 [.inl (b1)] GF M1) GF (fun x6 M5 =>
        if x6 = 0 then
          if b2 = 0 then
            if b1 < 65 then
              q_c0 (orc 161 [.inr (.inr 49), .inl (M5 49 14)] GF M5) GF (fun M7 =>
              pr sc orc 164 F 259 [some (.inr (.inr 49)), none, none] [] M7)
            else
              if 90 < b1 then
                q_c0 (orc 161 [.inr (.inr 49), .inl (M5 49 14)] GF M5) GF (fun M8 =>
                pr sc orc 164 F 259 [some (.inr (.inr 49)), none, none] [] M8)
              else
                if 0 ≤ M5 49 15 ∧ M5 49 15 < ((132 : Nat) : Int) then
                pr sc orc 164 F 259 [some (.inr (.inr 49)), none, none] [] (q_up (q_up M5 58 ((M5 49 15 : Int).toNat) b1) 49 14 (q_w (M5 49 14 + 1)))
                else none
          else
            if 0 ≤ M5 49 15 ∧ M5 49 15 < ((132 : Nat) : Int) then
            pr sc orc 164 F 259 [some (.inr (.inr 49)), none, none] [] (q_up (q_up M5 58 ((M5 49 15 : Int).toNat) b1) 49 14 (q_w (M5 49 14 + 1)))
            else none
        else
          q_cI (orc 163 [.inr (.inr 49), .inl (M5 49 14)] GF M5) GF (fun x10 M9 =>
          if 0 ≤ M5 49 15 ∧ M5 49 15 < ((132 : Nat) : Int) then
          pr sc orc 164 F 259 [some (.inr (.inr 49)), none, none] [] (q_up M9 58 ((M5 49 15 : Int).toNat) x10)
          else none))
    else
      q_cI (orc 162 [.inr (.inr 49)] GF M1) GF (fun x12 M11 =>
      if 0 ≤ M1 49 15 ∧ M1 49 15 < ((132 : Nat) : Int) then
      pr sc orc 164 F 259 [some (.inr (.inr 49)), none, none] [] (q_up M11 58 ((M1 49 15 : Int).toNat) x12)
      else none)) := by
  rw [pr_st]; rfl
set_option maxRecDepth 20000 in
theorem sg_X12_look_259 {sc : List Int} {orc : q_O} {M : q_M} {F : Nat} : pr sc orc 164 (F + 1) 259 [some (.inr (.inr 49)), none, none] [] M =
  if (M 49 12) = 0 then
    if 0 ≤ M 49 16 ∧ M 49 16 < ((132 : Nat) : Int) then
    some (some (.inl (M 58 (M 49 16 : Int).toNat)), GF, (q_up M 49 15 (q_w (M 49 15 + 1))))
    else none
  else
    some (some (.inl (0)), GF, M) := by
  rw [pr_st]; rfl
set_option maxRecDepth 20000 in
theorem sg_X12_wrong_0 {sc : List Int} {orc : q_O} {M : q_M} {F : Nat} : pr sc orc 165 (F + 1) 0 [some (.inr (.inr 49))] [] M =
  q_cI (orc 164 [.inr (.inr 49)] GF M) GF (fun x2 M1 =>
  if (M1 49 12) = 0 then
    if 0 ≤ M1 49 16 ∧ M1 49 16 < ((132 : Nat) : Int) then
    q_c0 (orc 161 [.inr (.inr 49), .inl (M1 59 (M1 49 16 : Int).toNat)] GF M1) GF (fun M3 =>
    some (none, GF, M3))
    else none
  else
    some (none, GF, M1)) := by
  rw [pr_st]; rfl
set_option maxRecDepth 20000 in
theorem sg_X12_take_0 {sc : List Int} {orc : q_O} {M : q_M} {F : Nat} {a1 : Int} : pr sc orc 166 (F + 1) 0 [some (.inr (.inr 49)), some (.inl (a1))] [] M =
  q_cI (orc 164 [.inr (.inr 49)] GF M) GF (fun x2 M1 =>
  if x2 = a1 then
    if (M1 49 12) = 0 then
      some (some (.inl (1)), GF, (q_up M1 49 16 (q_w (M1 49 16 + 1))))
    else
      some (some (.inl (0)), GF, M1)
  else
    some (some (.inl (0)), GF, M1)) := by
  rw [pr_st]; rfl
set_option maxRecDepth 20000 in
theorem sg_X12_want_0 {sc : List Int} {orc : q_O} {M : q_M} {F : Nat} {a1 : Int} : pr sc orc 167 (F + 1) 0 [some (.inr (.inr 49)), some (.inl (a1))] [] M =
  q_cI (orc 166 [.inr (.inr 49), .inl (a1)] GF M) GF (fun x2 M1 =>
  if x2 = 0 then
    q_c0 (orc 165 [.inr (.inr 49)] GF M1) GF (fun M3 =>
    some (none, GF, M3))
  else
    some (none, GF, M1)) := by
  rw [pr_st]; rfl
set_option maxRecDepth 20000 in
theorem sg_X12_isIn_0 {sc : List Int} {orc : q_O} {M : q_M} {F : Nat} {a1 a2 a3 : Int} : pr sc orc 168 (F + 1) 0 [some (.inl (a1)), some (.inl (a2)), some (.inl (a3))] [] M =
  if a1 < a2 then
    some (some (.inl (0)), GF, M)
  else
    if a1 < (q_w (a2 + a3)) then
      some (some (.inl (1)), GF, M)
    else
      some (some (.inl (0)), GF, M) := by
  rw [pr_st]; rfl
set_option maxRecDepth 20000 in
theorem sg_X12_readColumn_0 {sc : List Int} {orc : q_O} {M : q_M} {F : Nat} : pr sc orc 169 (F + 1) 0 [some (.inr (.inr 49))] [] M =
  q_cI (orc 164 [.inr (.inr 49)] GF M) GF (fun x2 M1 =>
  q_cI (orc 168 [.inl (x2), .inl (220), .inl (4)] GF M1) GF (fun x4 M3 =>
  if x4 = 0 then
    q_c0 (orc 165 [.inr (.inr 49)] GF M3) GF (fun M5 =>
    if (M5 49 12) = 0 then
      q_c0 (orc 167 [.inr (.inr 49), .inl (46)] GF M5) GF (fun M11 =>
      if (M11 49 12) = 0 then
        q_cI (orc 164 [.inr (.inr 49)] GF M11) GF (fun x13 M12 =>
        q_cI (orc 168 [.inl (x13), .inl (230), .inl (4)] GF M12) GF (fun x15 M14 =>
        if x15 = 0 then
          q_c0 (orc 165 [.inr (.inr 49)] GF M14) GF (fun M16 =>
          some (none, GF, M16))
        else
          some (none, GF, (q_up M14 49 16 (q_w (M14 49 16 + 1))))))
      else
        some (none, GF, M11))
    else
      if (M5 49 12) = 0 then
        q_cI (orc 164 [.inr (.inr 49)] GF M5) GF (fun x7 M6 =>
        q_cI (orc 168 [.inl (x7), .inl (230), .inl (4)] GF M6) GF (fun x9 M8 =>
        if x9 = 0 then
          q_c0 (orc 165 [.inr (.inr 49)] GF M8) GF (fun M10 =>
          some (none, GF, M10))
        else
          some (none, GF, (q_up M8 49 16 (q_w (M8 49 16 + 1))))))
      else
        some (none, GF, M5))
  else
    if (M3 49 12) = 0 then
      q_c0 (orc 167 [.inr (.inr 49), .inl (46)] GF (q_up M3 49 16 (q_w (M3 49 16 + 1)))) GF (fun M22 =>
      if (M22 49 12) = 0 then
        q_cI (orc 164 [.inr (.inr 49)] GF M22) GF (fun x24 M23 =>
        q_cI (orc 168 [.inl (x24), .inl (230), .inl (4)] GF M23) GF (fun x26 M25 =>
        if x26 = 0 then
          q_c0 (orc 165 [.inr (.inr 49)] GF M25) GF (fun M27 =>
          some (none, GF, M27))
        else
          some (none, GF, (q_up M25 49 16 (q_w (M25 49 16 + 1))))))
      else
        some (none, GF, M22))
    else
      if (M3 49 12) = 0 then
        q_cI (orc 164 [.inr (.inr 49)] GF (q_up M3 49 16 (q_w (M3 49 16 + 1)))) GF (fun x18 M17 =>
        q_cI (orc 168 [.inl (x18), .inl (230), .inl (4)] GF M17) GF (fun x20 M19 =>
        if x20 = 0 then
          q_c0 (orc 165 [.inr (.inr 49)] GF M19) GF (fun M21 =>
          some (none, GF, M21))
        else
          some (none, GF, (q_up M19 49 16 (q_w (M19 49 16 + 1))))))
      else
        some (none, GF, (q_up M3 49 16 (q_w (M3 49 16 + 1)))))) := by
  rw [pr_st]; rfl
set_option maxRecDepth 20000 in
theorem sg_X12_readOut_0 {sc : List Int} {orc : q_O} {M : q_M} {F : Nat} : pr sc orc 170 (F + 1) 0 [some (.inr (.inr 49)), none] [] M =
  q_cI (orc 164 [.inr (.inr 49)] GF M) GF (fun x2 M1 =>
  if 0 ≤ M1 49 23 ∧ M1 49 23 < ((5 : Nat) : Int) then
  if 0 ≤ M1 49 23 ∧ M1 49 23 < ((5 : Nat) : Int) then
  q_cI (orc 168 [.inl (x2), .inl (207), .inl (4)] GF (q_up (q_up M1 63 ((M1 49 23 : Int).toNat) (M1 49 16)) 62 ((M1 49 23 : Int).toNat) 0)) GF (fun x4 M3 =>
  if x4 = 0 then
    q_c0 (orc 169 [.inr (.inr 49)] GF M3) GF (fun M5 =>
    some (none, GF, (q_up M5 49 23 (q_w (M5 49 23 + 1)))))
  else
    if 0 ≤ M3 49 23 ∧ M3 49 23 < ((5 : Nat) : Int) then
    if x2 = 207 then
      some (none, GF, (q_up (q_up (q_up M3 62 ((M3 49 23 : Int).toNat) x2) 49 16 (q_w (M3 49 16 + 1))) 49 23 (q_w (M3 49 23 + 1))))
    else
      q_c0 (orc 167 [.inr (.inr 49), .inl (40)] GF (q_up (q_up M3 62 ((M3 49 23 : Int).toNat) x2) 49 16 (q_w (M3 49 16 + 1)))) GF (fun M6 =>
      if 0 ≤ M6 49 23 ∧ M6 49 23 < ((5 : Nat) : Int) then
      if (M6 49 12) = 0 then
        q_c0 (orc 169 [.inr (.inr 49)] GF (q_up M6 63 ((M6 49 23 : Int).toNat) (M6 49 16))) GF (fun M8 =>
        if (M8 49 12) = 0 then
          q_c0 (orc 167 [.inr (.inr 49), .inl (41)] GF M8) GF (fun M9 =>
          some (none, GF, (q_up M9 49 23 (q_w (M9 49 23 + 1)))))
        else
          some (none, GF, (q_up M8 49 23 (q_w (M8 49 23 + 1)))))
      else
        if (M6 49 12) = 0 then
          q_c0 (orc 167 [.inr (.inr 49), .inl (41)] GF (q_up M6 63 ((M6 49 23 : Int).toNat) (M6 49 16))) GF (fun M7 =>
          some (none, GF, (q_up M7 49 23 (q_w (M7 49 23 + 1)))))
        else
          some (none, GF, (q_up (q_up M6 63 ((M6 49 23 : Int).toNat) (M6 49 16)) 49 23 (q_w (M6 49 23 + 1))))
      else none)
    else none)
  else none
  else none) := by
  rw [pr_st]; rfl
set_option maxRecDepth 20000 in
theorem sg_X12_readOuts_0 {sc : List Int} {orc : q_O} {M : q_M} {F : Nat} : pr sc orc 171 (F + 1) 0 [some (.inr (.inr 49))] [] M =
  q_c0 (orc 167 [.inr (.inr 49), .inl (200)] GF (q_up M 49 23 0)) GF (fun M1 =>
  if (M1 49 12) = 0 then
    q_c0 (orc 170 [.inr (.inr 49)] GF M1) GF (fun M2 =>
    pr sc orc 171 F 23 [some (.inr (.inr 49))] [] M2)
  else
    pr sc orc 171 F 23 [some (.inr (.inr 49))] [] M1) := by
  rw [pr_st]; rfl
set_option maxRecDepth 20000 in
theorem sg_X12_readOuts_23 {sc : List Int} {orc : q_O} {M : q_M} {F : Nat} : pr sc orc 171 (F + 1) 23 [some (.inr (.inr 49))] [] M =
  if (M 49 12) = 0 then
    if (M 49 23) < 4 then
      q_cI (orc 166 [.inr (.inr 49), .inl (44)] GF M) GF (fun x2 M1 =>
      if x2 = 0 then
        some (none, GF, M1)
      else
        q_c0 (orc 170 [.inr (.inr 49)] GF M1) GF (fun M3 =>
        pr sc orc 171 F 23 [some (.inr (.inr 49))] [] M3))
    else
      some (none, GF, M)
  else
    some (none, GF, M) := by
  rw [pr_st]; rfl
set_option maxRecDepth 20000 in
theorem sg_X12_readOperand_0 {sc : List Int} {orc : q_O} {M : q_M} {F : Nat} : pr sc orc 172 (F + 1) 0 [some (.inr (.inr 49)), none] [] M =
  q_cI (orc 164 [.inr (.inr 49)] GF M) GF (fun x2 M1 =>
  if x2 = 1 then
    some (none, GF, (q_up M1 49 16 (q_w (M1 49 16 + 1))))
  else
    if x2 = 215 then
      some (none, GF, (q_up M1 49 16 (q_w (M1 49 16 + 1))))
    else
      q_c0 (orc 169 [.inr (.inr 49)] GF M1) GF (fun M3 =>
      some (none, GF, M3))) := by
  rw [pr_st]; rfl
set_option maxRecDepth 20000 in
theorem sg_X12_readComparison_0 {sc : List Int} {orc : q_O} {M : q_M} {F : Nat} : pr sc orc 173 (F + 1) 0 [some (.inr (.inr 49)), none] [] M =
  q_c0 (orc 172 [.inr (.inr 49)] GF M) GF (fun M1 =>
  if (M1 49 12) = 0 then
    q_cI (orc 164 [.inr (.inr 49)] GF M1) GF (fun x3 M2 =>
    if x3 = 214 then
      q_c0 (orc 167 [.inr (.inr 49), .inl (215)] GF (q_up M2 49 16 (q_w (M2 49 16 + 1)))) GF (fun M8 =>
      some (none, GF, M8))
    else
      if x3 = 61 then
        q_c0 (orc 172 [.inr (.inr 49)] GF (q_up M2 49 16 (q_w (M2 49 16 + 1)))) GF (fun M4 =>
        some (none, GF, M4))
      else
        if x3 = 60 then
          q_c0 (orc 172 [.inr (.inr 49)] GF (q_up M2 49 16 (q_w (M2 49 16 + 1)))) GF (fun M5 =>
          some (none, GF, M5))
        else
          if x3 = 62 then
            q_c0 (orc 172 [.inr (.inr 49)] GF (q_up M2 49 16 (q_w (M2 49 16 + 1)))) GF (fun M7 =>
            some (none, GF, M7))
          else
            q_c0 (orc 165 [.inr (.inr 49)] GF M2) GF (fun M6 =>
            some (none, GF, M6)))
  else
    some (none, GF, M1)) := by
  rw [pr_st]; rfl
set_option maxRecDepth 20000 in
theorem sg_X12_closeNots_0 {sc : List Int} {orc : q_O} {M : q_M} {F : Nat} : pr sc orc 174 (F + 1) 0 [some (.inr (.inr 49))] [] M =
  if 0 < (M 49 20) then
    if 0 ≤ q_w (M 49 20 - 1) ∧ q_w (M 49 20 - 1) < ((8 : Nat) : Int) then
    if (M 61 (q_w (M 49 20 - 1) : Int).toNat) = 213 then
      pr sc orc 174 F 0 [some (.inr (.inr 49))] [] (q_up M 49 20 (q_w (M 49 20 - 1)))
    else
      some (none, GF, M)
    else none
  else
    some (none, GF, M) := by
  rw [pr_st]; rfl
set_option maxRecDepth 20000 in
theorem sg_X12_readCondition_0 {sc : List Int} {orc : q_O} {M : q_M} {F : Nat} : pr sc orc 175 (F + 1) 0 [some (.inr (.inr 49)), none, none] [] M =
  pr sc orc 175 F 7 [some (.inr (.inr 49)), some (.inl (1)), none] [] (q_up M 49 20 0) := by
  rw [pr_st]; rfl
set_option maxRecDepth 20000 in
theorem sg_X12_readCondition_7 {sc : List Int} {orc : q_O} {M : q_M} {F : Nat} {b1 : Int} : pr sc orc 175 (F + 1) 7 [some (.inr (.inr 49)), some (.inl (b1)), none] [] M =
  if (M 49 12) = 0 then
    if b1 = 0 then
      some (none, GF, M)
    else
      q_cI (orc 164 [.inr (.inr 49)] GF M) GF (fun x2 M1 =>
      if x2 = 213 then
        if (M1 49 20) = 4 then
          q_c0 (orc 165 [.inr (.inr 49)] GF M1) GF (fun M3 =>
          if 0 ≤ M3 49 20 ∧ M3 49 20 < ((8 : Nat) : Int) then
          pr sc orc 175 F 7 [some (.inr (.inr 49)), some (.inl (b1)), none] [] (q_up (q_up (q_up M3 61 ((M3 49 20 : Int).toNat) x2) 49 20 (q_w (M3 49 20 + 1))) 49 16 (q_w (M3 49 16 + 1)))
          else none)
        else
          if 0 ≤ M1 49 20 ∧ M1 49 20 < ((8 : Nat) : Int) then
          pr sc orc 175 F 7 [some (.inr (.inr 49)), some (.inl (b1)), none] [] (q_up (q_up (q_up M1 61 ((M1 49 20 : Int).toNat) x2) 49 20 (q_w (M1 49 20 + 1))) 49 16 (q_w (M1 49 16 + 1)))
          else none
      else
        if x2 = 40 then
          if (M1 49 20) = 4 then
            q_c0 (orc 165 [.inr (.inr 49)] GF M1) GF (fun M6 =>
            if 0 ≤ M6 49 20 ∧ M6 49 20 < ((8 : Nat) : Int) then
            pr sc orc 175 F 7 [some (.inr (.inr 49)), some (.inl (b1)), none] [] (q_up (q_up (q_up M6 61 ((M6 49 20 : Int).toNat) x2) 49 20 (q_w (M6 49 20 + 1))) 49 16 (q_w (M6 49 16 + 1)))
            else none)
          else
            if 0 ≤ M1 49 20 ∧ M1 49 20 < ((8 : Nat) : Int) then
            pr sc orc 175 F 7 [some (.inr (.inr 49)), some (.inl (b1)), none] [] (q_up (q_up (q_up M1 61 ((M1 49 20 : Int).toNat) x2) 49 20 (q_w (M1 49 20 + 1))) 49 16 (q_w (M1 49 16 + 1)))
            else none
        else
          q_c0 (orc 173 [.inr (.inr 49)] GF M1) GF (fun M4 =>
          q_c0 (orc 174 [.inr (.inr 49)] GF M4) GF (fun M5 =>
          pr sc orc 175 F 89 [some (.inr (.inr 49)), none, none] [] M5)))
  else
    some (none, GF, M) := by
  rw [pr_st]; rfl
set_option maxRecDepth 20000 in
theorem sg_X12_readCondition_89 {sc : List Int} {orc : q_O} {M : q_M} {F : Nat} : pr sc orc 175 (F + 1) 89 [some (.inr (.inr 49)), none, none] [] M =
  if (M 49 12) = 0 then
    if 0 < (M 49 20) then
      q_cI (orc 166 [.inr (.inr 49), .inl (41)] GF M) GF (fun x10 M9 =>
      if x10 = 0 then
        if (M9 49 12) = 0 then
          q_cI (orc 166 [.inr (.inr 49), .inl (212)] GF M9) GF (fun x12 M11 =>
          if x12 = 0 then
            q_cI (orc 166 [.inr (.inr 49), .inl (211)] GF M11) GF (fun x14 M13 =>
            if x14 = 0 then
              pr sc orc 175 F 162 [some (.inr (.inr 49)), some (.inl (0)), none] [] M13
            else
              pr sc orc 175 F 162 [some (.inr (.inr 49)), some (.inl (1)), none] [] M13)
          else
            pr sc orc 175 F 162 [some (.inr (.inr 49)), some (.inl (1)), none] [] M11)
        else
          pr sc orc 175 F 162 [some (.inr (.inr 49)), some (.inl (0)), none] [] M9
      else
        q_c0 (orc 174 [.inr (.inr 49)] GF (q_up M9 49 20 (q_w (M9 49 20 - 1)))) GF (fun M15 =>
        pr sc orc 175 F 89 [some (.inr (.inr 49)), none, none] [] M15))
    else
      if (M 49 12) = 0 then
        q_cI (orc 166 [.inr (.inr 49), .inl (212)] GF M) GF (fun x6 M5 =>
        if x6 = 0 then
          q_cI (orc 166 [.inr (.inr 49), .inl (211)] GF M5) GF (fun x8 M7 =>
          if x8 = 0 then
            pr sc orc 175 F 162 [some (.inr (.inr 49)), some (.inl (0)), none] [] M7
          else
            pr sc orc 175 F 162 [some (.inr (.inr 49)), some (.inl (1)), none] [] M7)
        else
          pr sc orc 175 F 162 [some (.inr (.inr 49)), some (.inl (1)), none] [] M5)
      else
        pr sc orc 175 F 162 [some (.inr (.inr 49)), some (.inl (0)), none] [] M
  else
    if (M 49 12) = 0 then
      q_cI (orc 166 [.inr (.inr 49), .inl (212)] GF M) GF (fun x2 M1 =>
      if x2 = 0 then
        q_cI (orc 166 [.inr (.inr 49), .inl (211)] GF M1) GF (fun x4 M3 =>
        if x4 = 0 then
          pr sc orc 175 F 162 [some (.inr (.inr 49)), some (.inl (0)), none] [] M3
        else
          pr sc orc 175 F 162 [some (.inr (.inr 49)), some (.inl (1)), none] [] M3)
      else
        pr sc orc 175 F 162 [some (.inr (.inr 49)), some (.inl (1)), none] [] M1)
    else
      pr sc orc 175 F 162 [some (.inr (.inr 49)), some (.inl (0)), none] [] M := by
  rw [pr_st]; rfl
set_option maxRecDepth 20000 in
theorem sg_X12_readCondition_162 {sc : List Int} {orc : q_O} {M : q_M} {F : Nat} {b1 : Int} : pr sc orc 175 (F + 1) 162 [some (.inr (.inr 49)), some (.inl (b1)), none] [] M =
  if (M 49 12) = 0 then
    if b1 = 0 then
      if 0 < (M 49 20) then
        q_c0 (orc 165 [.inr (.inr 49)] GF M) GF (fun M1 =>
        pr sc orc 175 F 7 [some (.inr (.inr 49)), some (.inl (b1)), none] [] M1)
      else
        pr sc orc 175 F 7 [some (.inr (.inr 49)), some (.inl (b1)), none] [] M
    else
      pr sc orc 175 F 7 [some (.inr (.inr 49)), some (.inl (b1)), none] [] M
  else
    pr sc orc 175 F 7 [some (.inr (.inr 49)), some (.inl (b1)), none] [] M := by
  rw [pr_st]; rfl
set_option maxRecDepth 20000 in
theorem sg_X12_readItem_0 {sc : List Int} {orc : q_O} {M : q_M} {F : Nat} {a1 : Int} : pr sc orc 176 (F + 1) 0 [some (.inr (.inr 49)), some (.inl (a1)), none] [] M =
  q_cI (orc 164 [.inr (.inr 49)] GF M) GF (fun x2 M1 =>
  if 0 ≤ M1 49 26 ∧ M1 49 26 < ((4 : Nat) : Int) then
  if 0 ≤ M1 49 26 ∧ M1 49 26 < ((4 : Nat) : Int) then
  if 0 ≤ M1 49 26 ∧ M1 49 26 < ((4 : Nat) : Int) then
  if (1 : Nat) = 0 ∨ ((1 : Nat) = 1 ∧ (a1 = 0 ∨ a1 = 1)) ∨ ((1 : Nat) = 2 ∧ 0 ≤ a1 ∧ a1 < 65536) then
  if x2 = 84 then
    pr sc orc 176 F 76 [some (.inr (.inr 49)), none, none] [] (q_up (q_up (q_up (q_up M1 65 ((M1 49 26 : Int).toNat) (M1 49 16)) 64 ((M1 49 26 : Int).toNat) (q_w (x2 - 84))) 66 ((M1 49 26 : Int).toNat) a1) 49 16 (q_w (M1 49 16 + 1)))
  else
    if x2 = 85 then
      pr sc orc 176 F 76 [some (.inr (.inr 49)), none, none] [] (q_up (q_up (q_up (q_up M1 65 ((M1 49 26 : Int).toNat) (M1 49 16)) 64 ((M1 49 26 : Int).toNat) (q_w (x2 - 84))) 66 ((M1 49 26 : Int).toNat) a1) 49 16 (q_w (M1 49 16 + 1)))
    else
      if x2 = 86 then
        pr sc orc 176 F 76 [some (.inr (.inr 49)), none, none] [] (q_up (q_up (q_up (q_up M1 65 ((M1 49 26 : Int).toNat) (M1 49 16)) 64 ((M1 49 26 : Int).toNat) (q_w (x2 - 84))) 66 ((M1 49 26 : Int).toNat) a1) 49 16 (q_w (M1 49 16 + 1)))
      else
        q_c0 (orc 165 [.inr (.inr 49)] GF (q_up (q_up (q_up M1 65 ((M1 49 26 : Int).toNat) (M1 49 16)) 64 ((M1 49 26 : Int).toNat) (q_w (x2 - 84))) 66 ((M1 49 26 : Int).toNat) a1)) GF (fun M3 =>
        pr sc orc 176 F 76 [some (.inr (.inr 49)), none, none] [] M3)
  else none
  else none
  else none
  else none) := by
  rw [pr_st]; rfl
set_option maxRecDepth 20000 in
theorem sg_X12_readItem_76 {sc : List Int} {orc : q_O} {M : q_M} {F : Nat} : pr sc orc 176 (F + 1) 76 [some (.inr (.inr 49)), none, none] [] M =
  if (M 49 12) = 0 then
    q_cI (orc 164 [.inr (.inr 49)] GF M) GF (fun x3 M2 =>
    q_cI (orc 168 [.inl (x3), .inl (220), .inl (4)] GF M2) GF (fun x5 M4 =>
    if x5 = 0 then
      q_c0 (orc 165 [.inr (.inr 49)] GF M4) GF (fun M6 =>
      pr sc orc 176 F 114 [some (.inr (.inr 49)), none, none] [] M6)
    else
      pr sc orc 176 F 114 [some (.inr (.inr 49)), none, none] [] (q_up M4 49 16 (q_w (M4 49 16 + 1)))))
  else
    q_c0 (orc 165 [.inr (.inr 49)] GF M) GF (fun M1 =>
    pr sc orc 176 F 114 [some (.inr (.inr 49)), none, none] [] M1) := by
  rw [pr_st]; rfl
set_option maxRecDepth 20000 in
theorem sg_X12_readItem_114 {sc : List Int} {orc : q_O} {M : q_M} {F : Nat} : pr sc orc 176 (F + 1) 114 [some (.inr (.inr 49)), none, none] [] M =
  if 0 < (M 49 26) then
    if (M 49 12) = 0 then
      q_c0 (orc 167 [.inr (.inr 49), .inl (204)] GF M) GF (fun M2 =>
      if 0 ≤ M2 49 26 ∧ M2 49 26 < ((4 : Nat) : Int) then
      if (M2 49 12) = 0 then
        q_c0 (orc 175 [.inr (.inr 49)] GF (q_up M2 67 ((M2 49 26 : Int).toNat) (M2 49 16))) GF (fun M3 =>
        if 0 ≤ M3 49 26 ∧ M3 49 26 < ((4 : Nat) : Int) then
        some (none, GF, (q_up (q_up M3 68 ((M3 49 26 : Int).toNat) (M3 49 16)) 49 26 (q_w (M3 49 26 + 1))))
        else none)
      else
        if 0 ≤ M2 49 26 ∧ M2 49 26 < ((4 : Nat) : Int) then
        some (none, GF, (q_up (q_up (q_up M2 67 ((M2 49 26 : Int).toNat) (M2 49 16)) 68 ((M2 49 26 : Int).toNat) (M2 49 16)) 49 26 (q_w (M2 49 26 + 1))))
        else none
      else none)
    else
      if 0 ≤ M 49 26 ∧ M 49 26 < ((4 : Nat) : Int) then
      if (M 49 12) = 0 then
        q_c0 (orc 175 [.inr (.inr 49)] GF (q_up M 67 ((M 49 26 : Int).toNat) (M 49 16))) GF (fun M1 =>
        if 0 ≤ M1 49 26 ∧ M1 49 26 < ((4 : Nat) : Int) then
        some (none, GF, (q_up (q_up M1 68 ((M1 49 26 : Int).toNat) (M1 49 16)) 49 26 (q_w (M1 49 26 + 1))))
        else none)
      else
        if 0 ≤ M 49 26 ∧ M 49 26 < ((4 : Nat) : Int) then
        some (none, GF, (q_up (q_up (q_up M 67 ((M 49 26 : Int).toNat) (M 49 16)) 68 ((M 49 26 : Int).toNat) (M 49 16)) 49 26 (q_w (M 49 26 + 1))))
        else none
      else none
  else
    some (none, GF, (q_up M 49 26 (q_w (M 49 26 + 1)))) := by
  rw [pr_st]; rfl
set_option maxRecDepth 20000 in
theorem sg_X12_readGroup_0 {sc : List Int} {orc : q_O} {M : q_M} {F : Nat} : pr sc orc 177 (F + 1) 0 [some (.inr (.inr 49)), none] [] M =
  if (M 49 12) = 0 then
    q_cI (orc 166 [.inr (.inr 49), .inl (206)] GF (q_up M 49 34 0)) GF (fun x2 M1 =>
    if x2 = 0 then
      some (none, GF, M1)
    else
      pr sc orc 177 F 25 [some (.inr (.inr 49)), some (.inl (1))] [] M1)
  else
    some (none, GF, (q_up M 49 34 0)) := by
  rw [pr_st]; rfl
set_option maxRecDepth 20000 in
theorem sg_X12_readGroup_25 {sc : List Int} {orc : q_O} {M : q_M} {F : Nat} {b1 : Int} : pr sc orc 177 (F + 1) 25 [some (.inr (.inr 49)), some (.inl (b1))] [] M =
  if b1 = 0 then
    some (none, GF, M)
  else
    if (M 49 12) = 0 then
      if 0 ≤ M 49 34 ∧ M 49 34 < ((4 : Nat) : Int) then
      q_c0 (orc 169 [.inr (.inr 49)] GF (q_up M 69 ((M 49 34 : Int).toNat) (M 49 16))) GF (fun M1 =>
      if (M1 49 12) = 0 then
        if (q_w (M1 49 34 + 1)) < 3 then
          q_cI (orc 166 [.inr (.inr 49), .inl (44)] GF (q_up M1 49 34 (q_w (M1 49 34 + 1)))) GF (fun x3 M2 =>
          if x3 = 0 then
            pr sc orc 177 F 25 [some (.inr (.inr 49)), some (.inl (0))] [] M2
          else
            pr sc orc 177 F 25 [some (.inr (.inr 49)), some (.inl (1))] [] M2)
        else
          pr sc orc 177 F 25 [some (.inr (.inr 49)), some (.inl (0))] [] (q_up M1 49 34 (q_w (M1 49 34 + 1)))
      else
        pr sc orc 177 F 25 [some (.inr (.inr 49)), some (.inl (0))] [] (q_up M1 49 34 (q_w (M1 49 34 + 1))))
      else none
    else
      some (none, GF, M) := by
  rw [pr_st]; rfl
set_option maxRecDepth 20000 in
theorem sg_X12_readQuery_0 {sc : List Int} {orc : q_O} {M : q_M} {F : Nat} : pr sc orc 178 (F + 1) 0 [some (.inr (.inr 49)), none, none] [] M =
  q_c0 (orc 171 [.inr (.inr 49)] GF M) GF (fun M1 =>
  if (M1 49 12) = 0 then
    q_c0 (orc 167 [.inr (.inr 49), .inl (201)] GF (q_up M1 49 26 0)) GF (fun M3 =>
    if (M3 49 12) = 0 then
      q_c0 (orc 176 [.inr (.inr 49), .inl (0)] GF M3) GF (fun M4 =>
      pr sc orc 178 F 37 [some (.inr (.inr 49)), some (.inl (1)), none] [] M4)
    else
      pr sc orc 178 F 37 [some (.inr (.inr 49)), some (.inl (1)), none] [] M3)
  else
    if (M1 49 12) = 0 then
      q_c0 (orc 176 [.inr (.inr 49), .inl (0)] GF (q_up M1 49 26 0)) GF (fun M2 =>
      pr sc orc 178 F 37 [some (.inr (.inr 49)), some (.inl (1)), none] [] M2)
    else
      pr sc orc 178 F 37 [some (.inr (.inr 49)), some (.inl (1)), none] [] (q_up M1 49 26 0)) := by
  rw [pr_st]; rfl
set_option maxRecDepth 20000 in
theorem sg_X12_readQuery_37 {sc : List Int} {orc : q_O} {M : q_M} {F : Nat} {b1 : Int} : pr sc orc 178 (F + 1) 37 [some (.inr (.inr 49)), some (.inl (b1)), none] [] M =
  if b1 = 0 then
    pr sc orc 178 F 110 [some (.inr (.inr 49)), none, none] [] M
  else
    if (M 49 12) = 0 then
      if (M 49 26) < 3 then
        q_cI (orc 164 [.inr (.inr 49)] GF M) GF (fun x2 M1 =>
        if x2 = 203 then
          q_cI (orc 166 [.inr (.inr 49), .inl (203)] GF M1) GF (fun x11 M10 =>
          if x11 = 0 then
            q_cI (orc 166 [.inr (.inr 49), .inl (202)] GF M10) GF (fun x14 M13 =>
            if x14 = 0 then
              if 0 = 0 then
                pr sc orc 178 F 37 [some (.inr (.inr 49)), some (.inl (0)), none] [] M13
              else
                q_c0 (orc 176 [.inr (.inr 49), .inl (1)] GF M13) GF (fun M15 =>
                pr sc orc 178 F 37 [some (.inr (.inr 49)), some (.inl (0)), none] [] M15)
            else
              if 1 = 0 then
                pr sc orc 178 F 37 [some (.inr (.inr 49)), some (.inl (1)), none] [] M13
              else
                q_c0 (orc 176 [.inr (.inr 49), .inl (1)] GF M13) GF (fun M16 =>
                pr sc orc 178 F 37 [some (.inr (.inr 49)), some (.inl (1)), none] [] M16))
          else
            if 1 = 0 then
              pr sc orc 178 F 37 [some (.inr (.inr 49)), some (.inl (1)), none] [] M10
            else
              q_c0 (orc 176 [.inr (.inr 49), .inl (1)] GF M10) GF (fun M12 =>
              pr sc orc 178 F 37 [some (.inr (.inr 49)), some (.inl (1)), none] [] M12))
        else
          q_cI (orc 166 [.inr (.inr 49), .inl (203)] GF M1) GF (fun x4 M3 =>
          if x4 = 0 then
            q_cI (orc 166 [.inr (.inr 49), .inl (202)] GF M3) GF (fun x7 M6 =>
            if x7 = 0 then
              if 0 = 0 then
                pr sc orc 178 F 37 [some (.inr (.inr 49)), some (.inl (0)), none] [] M6
              else
                q_c0 (orc 176 [.inr (.inr 49), .inl (0)] GF M6) GF (fun M8 =>
                pr sc orc 178 F 37 [some (.inr (.inr 49)), some (.inl (0)), none] [] M8)
            else
              if 1 = 0 then
                pr sc orc 178 F 37 [some (.inr (.inr 49)), some (.inl (1)), none] [] M6
              else
                q_c0 (orc 176 [.inr (.inr 49), .inl (0)] GF M6) GF (fun M9 =>
                pr sc orc 178 F 37 [some (.inr (.inr 49)), some (.inl (1)), none] [] M9))
          else
            if 1 = 0 then
              pr sc orc 178 F 37 [some (.inr (.inr 49)), some (.inl (1)), none] [] M3
            else
              q_c0 (orc 176 [.inr (.inr 49), .inl (0)] GF M3) GF (fun M5 =>
              pr sc orc 178 F 37 [some (.inr (.inr 49)), some (.inl (1)), none] [] M5)))
      else
        pr sc orc 178 F 110 [some (.inr (.inr 49)), none, none] [] M
    else
      pr sc orc 178 F 110 [some (.inr (.inr 49)), none, none] [] M := by
  rw [pr_st]; rfl
set_option maxRecDepth 20000 in
theorem sg_X12_readQuery_110 {sc : List Int} {orc : q_O} {M : q_M} {F : Nat} : pr sc orc 178 (F + 1) 110 [some (.inr (.inr 49)), none, none] [] M =
  if (M 49 12) = 0 then
    q_cI (orc 166 [.inr (.inr 49), .inl (205)] GF (q_up (q_up M 49 32 0) 49 33 0)) GF (fun x4 M3 =>
    if x4 = 0 then
      q_c0 (orc 177 [.inr (.inr 49)] GF M3) GF (fun M5 =>
      if (M5 49 12) = 0 then
        q_c0 (orc 167 [.inr (.inr 49), .inl (0)] GF M5) GF (fun M6 =>
        some (none, GF, M6))
      else
        some (none, GF, M5))
    else
      q_c0 (orc 175 [.inr (.inr 49)] GF (q_up M3 49 32 (M3 49 16))) GF (fun M7 =>
      q_c0 (orc 177 [.inr (.inr 49)] GF (q_up M7 49 33 (M7 49 16))) GF (fun M8 =>
      if (M8 49 12) = 0 then
        q_c0 (orc 167 [.inr (.inr 49), .inl (0)] GF M8) GF (fun M9 =>
        some (none, GF, M9))
      else
        some (none, GF, M8))))
  else
    q_c0 (orc 177 [.inr (.inr 49)] GF (q_up (q_up M 49 32 0) 49 33 0)) GF (fun M1 =>
    if (M1 49 12) = 0 then
      q_c0 (orc 167 [.inr (.inr 49), .inl (0)] GF M1) GF (fun M2 =>
      some (none, GF, M2))
    else
      some (none, GF, M1)) := by
  rw [pr_st]; rfl
