theorem sg_X5_itemWith_0 {sc : List Int} {orc : q_O} {M : q_M} {F : Nat} {a1 : Int} : pr sc orc 73 (F + 1) 0 [some (.inr (.inr 15)), some (.inl (a1)), none] [] M =
  pr sc orc 73 F 2 [some (.inr (.inr 15)), some (.inl (a1)), some (.inl (0))] [] M := by
  rw [pr_st]; rfl
theorem sg_X5_itemWith_2 {sc : List Int} {orc : q_O} {M : q_M} {F : Nat} {b1 b2 : Int} : pr sc orc 73 (F + 1) 2 [some (.inr (.inr 15)), some (.inl (b1)), some (.inl (b2))] [] M =
  if b2 < (M 15 7) then
    if b2 < 3 then
      if 0 ≤ b2 ∧ b2 < ((3 : Nat) : Int) then
      if (M 35 (b2).toNat) = b1 then
        some (some (.inl (b2)), GF, M)
      else
        pr sc orc 73 F 2 [some (.inr (.inr 15)), some (.inl (b1)), some (.inl (q_w (b2 + (1))))] [] M
      else none
    else
      some (some (.inl ((-1))), GF, M)
  else
    some (some (.inl ((-1))), GF, M) := by
  rw [pr_st]; rfl
theorem sg_X9_add_0 {sc : List Int} {orc : q_O} {M : q_M} {F : Nat} {a1 a2 a3 : Int} : pr sc orc 120 (F + 1) 0 [some (.inr (.inr 11)), some (.inl (a1)), some (.inl (a2)), some (.inl (a3))] [] M =
  if (M 11 3) < 0 then
    some (none, GF, M)
  else
    if (M 11 3) < ((131 : Nat) : Int) then
      if 0 ≤ M 11 3 ∧ M 11 3 < ((131 : Nat) : Int) then
      if 0 ≤ M 11 3 ∧ M 11 3 < ((131 : Nat) : Int) then
      if 0 ≤ M 11 3 ∧ M 11 3 < ((131 : Nat) : Int) then
      some (none, GF, (q_up (q_up (q_up (q_up M 12 ((M 11 3).toNat) a1) 13 ((M 11 3).toNat) a2) 14 ((M 11 3).toNat) a3) 11 3 (q_w (M 11 3 + 1))))
      else none
      else none
      else none
    else
      some (none, GF, M) := by
  rw [pr_st]; rfl
theorem sg_X9_nextKind_0 {sc : List Int} {orc : q_O} {M : q_M} {F : Nat} : pr sc orc 121 (F + 1) 0 [some (.inr (.inr 11))] [] M =
  if (M 11 4) < 0 then
    some (some (.inl (256)), GF, M)
  else
    if (M 11 4) < (M 11 3) then
      if (M 11 4) < ((131 : Nat) : Int) then
        if 0 ≤ M 11 4 ∧ M 11 4 < ((131 : Nat) : Int) then
        some (some (.inl (M 12 (M 11 4).toNat)), GF, M)
        else none
      else
        some (some (.inl (256)), GF, M)
    else
      some (some (.inl (256)), GF, M) := by
  rw [pr_st]; rfl
theorem sg_X9_take_0 {sc : List Int} {orc : q_O} {M : q_M} {F : Nat} {a1 : Int} : pr sc orc 125 (F + 1) 0 [some (.inr (.inr 11)), some (.inl (a1))] [] M =
  q_cI (orc 121 [.inr (.inr 11)] GF M) GF (fun x2 M1 =>
  if x2 = a1 then
    q_c0 (orc 124 [.inr (.inr 11)] GF M1) GF (fun M3 =>
    some (some (.inl (1)), GF, M3))
  else
    some (some (.inl (0)), GF, M1)) := by
  rw [pr_st]; rfl
theorem sg_X12_look_0 {sc : List Int} {orc : q_O} {M : q_M} {F : Nat} : pr sc orc 164 (F + 1) 0 [some (.inr (.inr 49)), none, none] [] M =
  if (M 49 16) < (M 49 15) then
    if (M 49 16) < (M 49 15) then
      if 0 ≤ M 49 16 ∧ M 49 16 < ((132 : Nat) : Int) then
      some (some (.inl (M 58 (M 49 16).toNat)), GF, M)
      else none
    else
      some (some (.inl (0)), GF, M)
  else
    if (M 49 12) = 0 then
      pr sc orc 164 F 43 [some (.inr (.inr 49)), none, none] [] M
    else
      if (M 49 16) < (M 49 15) then
        if 0 ≤ M 49 16 ∧ M 49 16 < ((132 : Nat) : Int) then
        some (some (.inl (M 58 (M 49 16).toNat)), GF, M)
        else none
      else
        some (some (.inl (0)), GF, M) := by
  rw [pr_st]; rfl
theorem sg_X12_look_43 {sc : List Int} {orc : q_O} {M : q_M} {F : Nat} : pr sc orc 164 (F + 1) 43 [some (.inr (.inr 49)), none, none] [] M =
  q_cI (orc 158 [.inr (.inr 49), .inl (M 49 14)] GF M) GF (fun x2 M1 =>
  if x2 = 32 then
    pr sc orc 164 F 43 [some (.inr (.inr 49)), none, none] [] (q_up M1 49 14 (q_w (M1 49 14 + 1)))
  else
    if 0 ≤ M1 49 15 ∧ M1 49 15 < ((132 : Nat) : Int) then
    q_cI (orc 158 [.inr (.inr 49), .inl (M1 49 14)] GF (q_up M1 59 ((M1 49 15).toNat) (M1 49 14))) GF (fun x4 M3 =>
    if x4 = 40 then
      pr sc orc 164 F 139 [some (.inr (.inr 49)), some (.inl (x4)), some (.inl (1))] [] M3
    else
      if x4 = 41 then
        pr sc orc 164 F 139 [some (.inr (.inr 49)), some (.inl (x4)), some (.inl (1))] [] M3
      else
        if x4 = 44 then
          pr sc orc 164 F 139 [some (.inr (.inr 49)), some (.inl (x4)), some (.inl (1))] [] M3
        else
          if x4 = 46 then
            pr sc orc 164 F 139 [some (.inr (.inr 49)), some (.inl (x4)), some (.inl (1))] [] M3
          else
            if x4 = 61 then
              pr sc orc 164 F 139 [some (.inr (.inr 49)), some (.inl (x4)), some (.inl (1))] [] M3
            else
              if x4 = 60 then
                pr sc orc 164 F 139 [some (.inr (.inr 49)), some (.inl (x4)), some (.inl (1))] [] M3
              else
                if x4 = 62 then
                  pr sc orc 164 F 139 [some (.inr (.inr 49)), some (.inl (x4)), some (.inl (1))] [] M3
                else
                  pr sc orc 164 F 139 [some (.inr (.inr 49)), some (.inl (x4)), some (.inl (0))] [] M3)
    else none) := by
  rw [pr_st]; rfl
theorem sg_X12_look_139 {sc : List Int} {orc : q_O} {M : q_M} {F : Nat} {b1 b2 : Int} : pr sc orc 164 (F + 1) 139 [some (.inr (.inr 49)), some (.inl (b1)), some (.inl (b2))] [] M =
  if b1 = 0 then
    if 0 ≤ M 49 15 ∧ M 49 15 < ((132 : Nat) : Int) then
    pr sc orc 164 F 259 [some (.inr (.inr 49)), none, none] [] (q_up M 58 ((M 49 15).toNat) 0)
    else none
  else
    q_cI (orc 159 [.inl (b1)] GF M) GF (fun x2 M1 =>
    if x2 = 0 then
      if b1 = 45 then
        q_cI (orc 163 [.inr (.inr 49), .inl (M1 49 14)] GF M1) GF (fun x4 M3 =>
        if 0 ≤ M1 49 15 ∧ M1 49 15 < ((132 : Nat) : Int) then
        pr sc orc 164 F 259 [some (.inr (.inr 49)), none, none] [] (q_up M3 58 ((M1 49 15).toNat) x4)
        else none)
      else
        q_cI (orc 160 [.inl (b1)] GF M1) GF (fun x6 M5 =>
        if x6 = 0 then
          if b2 = 0 then
            if b1 < 65 then
              q_c0 (orc 161 [.inr (.inr 49), .inl (M5 49 14)] GF M5) GF (fun M7 =>
              pr sc orc 164 F 259 [some (.inr (.inr 49)), none, none] [] M7)
            else
              if 90 < b1 then
                q_c0 (orc 161 [.inr (.inr 49), .inl (M5 49 14)] GF M5) GF (fun M8 =>
                pr sc orc 164 F 259 [some (.inr (.inr 49)), none, none] [] M8)
              else
                if 0 ≤ M5 49 15 ∧ M5 49 15 < ((132 : Nat) : Int) then
                pr sc orc 164 F 259 [some (.inr (.inr 49)), none, none] [] (q_up (q_up M5 58 ((M5 49 15).toNat) b1) 49 14 (q_w (M5 49 14 + 1)))
                else none
          else
            if 0 ≤ M5 49 15 ∧ M5 49 15 < ((132 : Nat) : Int) then
            pr sc orc 164 F 259 [some (.inr (.inr 49)), none, none] [] (q_up (q_up M5 58 ((M5 49 15).toNat) b1) 49 14 (q_w (M5 49 14 + 1)))
            else none
        else
          q_cI (orc 163 [.inr (.inr 49), .inl (M5 49 14)] GF M5) GF (fun x10 M9 =>
          if 0 ≤ M5 49 15 ∧ M5 49 15 < ((132 : Nat) : Int) then
          pr sc orc 164 F 259 [some (.inr (.inr 49)), none, none] [] (q_up M9 58 ((M5 49 15).toNat) x10)
          else none))
    else
      q_cI (orc 162 [.inr (.inr 49)] GF M1) GF (fun x12 M11 =>
      if 0 ≤ M1 49 15 ∧ M1 49 15 < ((132 : Nat) : Int) then
      pr sc orc 164 F 259 [some (.inr (.inr 49)), none, none] [] (q_up M11 58 ((M1 49 15).toNat) x12)
      else none)) := by
  rw [pr_st]; rfl
theorem sg_X12_look_259 {sc : List Int} {orc : q_O} {M : q_M} {F : Nat} : pr sc orc 164 (F + 1) 259 [some (.inr (.inr 49)), none, none] [] M =
  if (M 49 12) = 0 then
    if 0 ≤ M 49 16 ∧ M 49 16 < ((132 : Nat) : Int) then
    some (some (.inl (M 58 (M 49 16).toNat)), GF, (q_up M 49 15 (q_w (M 49 15 + 1))))
    else none
  else
    some (some (.inl (0)), GF, M) := by
  rw [pr_st]; rfl
