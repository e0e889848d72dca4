set_option maxRecDepth 20000 in
theorem lg_head {α : Type} {sc : List Int} {orc : q_O} {M : q_M} {ca sa : Nat} {k : Nat → q_T → Option α} {i : Int} : q_dk orc (pg_P sc) false 600128 7301098 13 pI_L_law [29] k 1000 false (q_seek (23 : Int) pI_L_law) [some (.inr (.inr 3000)), some (.inr (.inr 0)), some (.inr (.inr 49)), some (.inr (.inr 81)), some (.inl (i)), none, none] [] GF M ca sa =
  k 29 ([some (.inr (.inr 3000)), some (.inr (.inr 0)), some (.inr (.inr 49)), some (.inr (.inr 81)), some (.inl (i)), none, none], [.inl (q_w ((sc.length : Int) - 3)), .inl (i)], GF, M, ca, sa) := by
  rfl
set_option maxRecDepth 20000 in
theorem lg_load {α : Type} {sc : List Int} {orc : q_O} {M : q_M} {ca sa : Nat} {k : Nat → q_T → Option α} {i : Int} : q_dk orc (pg_P sc) false 600128 7301098 13 pI_L_law [38] k 1000 false (q_seek (32 : Int) pI_L_law) [some (.inr (.inr 3000)), some (.inr (.inr 0)), some (.inr (.inr 49)), some (.inr (.inr 81)), some (.inl (i)), none, none] [] GF M ca sa =
  if 0 ≤ i ∧ i < (sc.length : Int) then
  k 38 ([some (.inr (.inr 3000)), some (.inr (.inr 0)), some (.inr (.inr 49)), some (.inr (.inr 81)), some (.inl (i)), none, none], [.inl (15), .inl (sc.getD (i : Int).toNat 0)], GF, M, ca, sa)
  else none := by
  rfl
set_option maxRecDepth 20000 in
theorem lg_c0 {α : Type} {sc : List Int} {orc : q_O} {M : q_M} {ca sa : Nat} {k : Nat → q_T → Option α} {i : Int} : q_dk orc (pg_P sc) false 600128 7301098 13 pI_L_law [489] k 1000 false (q_seek (104 : Int) pI_L_law) [some (.inr (.inr 3000)), some (.inr (.inr 0)), some (.inr (.inr 49)), some (.inr (.inr 81)), some (.inl (i)), none, none] [] GF M ca sa =
  if 0 ≤ q_w (i + 1) ∧ q_w (i + 1) < (sc.length : Int) then
  if 0 ≤ q_w (i + 2) ∧ q_w (i + 2) < (sc.length : Int) then
  if ca + 0 ≤ 600128 ∧ sa + 0 ≤ 7301098 then q_cI (orc 133 [.inr (.inr 0), .inl (sc.getD (q_w (i + 1) : Int).toNat 0), .inl (sc.getD (q_w (i + 2) : Int).toNat 0)] GF M) GF (fun x2 M1 =>
  if 0 ≤ q_w (i + 1) ∧ q_w (i + 1) < (sc.length : Int) then
  if 0 ≤ q_w (i + 2) ∧ q_w (i + 2) < (sc.length : Int) then
  if ca + 0 + 0 ≤ 600128 ∧ sa + 0 + 0 ≤ 7301098 then q_cI (orc 151 [.inr (.inr 49), .inl (sc.getD (q_w (i + 1) : Int).toNat 0), .inl (sc.getD (q_w (i + 2) : Int).toNat 0)] GF M1) GF (fun x4 M3 =>
  if x2 = x4 then
    k 489 ([some (.inr (.inr 3000)), some (.inr (.inr 0)), some (.inr (.inr 49)), some (.inr (.inr 81)), some (.inl (i)), none, none], [], GF, M3, ca + 0 + 0, sa + 0 + 0)
  else
    none) else none
  else none
  else none) else none
  else none
  else none := by
  rfl
set_option maxRecDepth 20000 in
theorem lg_c1 {α : Type} {sc : List Int} {orc : q_O} {M : q_M} {ca sa : Nat} {k : Nat → q_T → Option α} {i : Int} : q_dk orc (pg_P sc) false 600128 7301098 13 pI_L_law [489] k 1000 false (q_seek (141 : Int) pI_L_law) [some (.inr (.inr 3000)), some (.inr (.inr 0)), some (.inr (.inr 49)), some (.inr (.inr 81)), some (.inl (i)), none, none] [] GF M ca sa =
  if 0 ≤ q_w (i + 1) ∧ q_w (i + 1) < (sc.length : Int) then
  if ca + 0 ≤ 600128 ∧ sa + 0 ≤ 7301098 then q_cI (orc 134 [.inr (.inr 0), .inl (sc.getD (q_w (i + 1) : Int).toNat 0)] GF M) GF (fun x2 M1 =>
  if 0 ≤ q_w (i + 1) ∧ q_w (i + 1) < (sc.length : Int) then
  if ca + 0 + 0 ≤ 600128 ∧ sa + 0 + 0 ≤ 7301098 then q_cI (orc 153 [.inr (.inr 49), .inl (sc.getD (q_w (i + 1) : Int).toNat 0)] GF M1) GF (fun x4 M3 =>
  if x2 = x4 then
    k 489 ([some (.inr (.inr 3000)), some (.inr (.inr 0)), some (.inr (.inr 49)), some (.inr (.inr 81)), some (.inl (i)), none, none], [], GF, M3, ca + 0 + 0, sa + 0 + 0)
  else
    none) else none
  else none) else none
  else none := by
  rfl
set_option maxRecDepth 20000 in
theorem lg_c2 {α : Type} {sc : List Int} {orc : q_O} {M : q_M} {ca sa : Nat} {k : Nat → q_T → Option α} {i : Int} : q_dk orc (pg_P sc) false 600128 7301098 13 pI_L_law [489] k 1000 false (q_seek (166 : Int) pI_L_law) [some (.inr (.inr 3000)), some (.inr (.inr 0)), some (.inr (.inr 49)), some (.inr (.inr 81)), some (.inl (i)), none, none] [] GF M ca sa =
  if ca + 0 ≤ 600128 ∧ sa + 0 ≤ 7301098 then q_cI (orc 135 [.inr (.inr 0)] GF M) GF (fun x2 M1 =>
  if ca + 0 + 0 ≤ 600128 ∧ sa + 0 + 0 ≤ 7301098 then q_cI (orc 154 [.inr (.inr 49)] GF M1) GF (fun x4 M3 =>
  if x2 = x4 then
    k 489 ([some (.inr (.inr 3000)), some (.inr (.inr 0)), some (.inr (.inr 49)), some (.inr (.inr 81)), some (.inl (i)), none, none], [], GF, M3, ca + 0 + 0, sa + 0 + 0)
  else
    none) else none) else none := by
  rfl
set_option maxRecDepth 20000 in
theorem lg_c3 {α : Type} {sc : List Int} {orc : q_O} {M : q_M} {ca sa : Nat} {k : Nat → q_T → Option α} {i : Int} : q_dk orc (pg_P sc) false 600128 7301098 13 pI_L_law [489] k 1000 false (q_seek (179 : Int) pI_L_law) [some (.inr (.inr 3000)), some (.inr (.inr 0)), some (.inr (.inr 49)), some (.inr (.inr 81)), some (.inl (i)), none, none] [] GF M ca sa =
  if 0 ≤ q_w (i + 1) ∧ q_w (i + 1) < (sc.length : Int) then
  if ca + 1 ≤ 600128 ∧ sa + 6 ≤ 7301098 then q_cI (orc 232 [.inr (.inr 0), .inl (sc.getD (q_w (i + 1) : Int).toNat 0), .inr (.inr 81)] GF M) GF (fun x2 M1 =>
  if 0 ≤ q_w (i + 1) ∧ q_w (i + 1) < (sc.length : Int) then
  if ca + 1 + 0 ≤ 600128 ∧ sa + 6 + 0 ≤ 7301098 then q_cI (orc 155 [.inr (.inr 49), .inl (sc.getD (q_w (i + 1) : Int).toNat 0)] GF M1) GF (fun x4 M3 =>
  if ca + 1 + 0 + 0 ≤ 600128 ∧ sa + 6 + 0 + 0 ≤ 7301098 then q_cI (orc 148 [.inr (.inr 49)] GF M3) GF (fun x6 M5 =>
  if x6 = x2 then
    if x2 = 0 then
      if 0 ≤ (0 : Int) ∧ (0 : Int) < ((1 : Nat) : Int) then
      if (if M5 81 (0 : Int).toNat < x4 then -1 else if x4 < M5 81 (0 : Int).toNat then 1 else 0) = 0 then
        k 489 ([some (.inr (.inr 3000)), some (.inr (.inr 0)), some (.inr (.inr 49)), some (.inr (.inr 81)), some (.inl (i)), some (.inl (x2)), some (.inl (x4))], [], GF, M5, ca + 1 + 0 + 0, sa + 6 + 0 + 0)
      else
        none
      else none
    else
      k 489 ([some (.inr (.inr 3000)), some (.inr (.inr 0)), some (.inr (.inr 49)), some (.inr (.inr 81)), some (.inl (i)), some (.inl (x2)), some (.inl (x4))], [], GF, M5, ca + 1 + 0 + 0, sa + 6 + 0 + 0)
  else
    none) else none) else none
  else none) else none
  else none := by
  rfl
set_option maxRecDepth 20000 in
theorem lg_c4 {α : Type} {sc : List Int} {orc : q_O} {M : q_M} {ca sa : Nat} {k : Nat → q_T → Option α} {i : Int} : q_dk orc (pg_P sc) false 600128 7301098 13 pI_L_law [489] k 1000 false (q_seek (235 : Int) pI_L_law) [some (.inr (.inr 3000)), some (.inr (.inr 0)), some (.inr (.inr 49)), some (.inr (.inr 81)), some (.inl (i)), none, none] [] GF M ca sa =
  if 0 ≤ q_w (i + 1) ∧ q_w (i + 1) < (sc.length : Int) then
  if ca + 0 ≤ 600128 ∧ sa + 0 ≤ 7301098 then q_cI (orc 137 [.inr (.inr 0), .inl (sc.getD (q_w (i + 1) : Int).toNat 0)] GF M) GF (fun x2 M1 =>
  if 0 ≤ q_w (i + 1) ∧ q_w (i + 1) < (sc.length : Int) then
  if ca + 0 + 0 ≤ 600128 ∧ sa + 0 + 0 ≤ 7301098 then q_cI (orc 156 [.inr (.inr 49), .inl (sc.getD (q_w (i + 1) : Int).toNat 0)] GF M1) GF (fun x4 M3 =>
  if x2 = x4 then
    k 489 ([some (.inr (.inr 3000)), some (.inr (.inr 0)), some (.inr (.inr 49)), some (.inr (.inr 81)), some (.inl (i)), none, none], [], GF, M3, ca + 0 + 0, sa + 0 + 0)
  else
    none) else none
  else none) else none
  else none := by
  rfl
set_option maxRecDepth 20000 in
theorem lg_c5 {α : Type} {sc : List Int} {orc : q_O} {M : q_M} {ca sa : Nat} {k : Nat → q_T → Option α} {i : Int} : q_dk orc (pg_P sc) false 600128 7301098 13 pI_L_law [489] k 1000 false (q_seek (260 : Int) pI_L_law) [some (.inr (.inr 3000)), some (.inr (.inr 0)), some (.inr (.inr 49)), some (.inr (.inr 81)), some (.inl (i)), none, none] [] GF M ca sa =
  if 0 ≤ q_w (i + 1) ∧ q_w (i + 1) < (sc.length : Int) then
  if ca + 0 ≤ 600128 ∧ sa + 0 ≤ 7301098 then q_cI (orc 138 [.inr (.inr 0), .inl ((sc.getD (q_w (i + 1) : Int).toNat 0) % 65536)] GF M) GF (fun x2 M1 =>
  if 0 ≤ q_w (i + 1) ∧ q_w (i + 1) < (sc.length : Int) then
  if ca + 0 + 0 ≤ 600128 ∧ sa + 0 + 0 ≤ 7301098 then q_cI (orc 157 [.inr (.inr 49), .inl ((sc.getD (q_w (i + 1) : Int).toNat 0) % 65536)] GF M1) GF (fun x4 M3 =>
  if x2 = x4 then
    k 489 ([some (.inr (.inr 3000)), some (.inr (.inr 0)), some (.inr (.inr 49)), some (.inr (.inr 81)), some (.inl (i)), none, none], [], GF, M3, ca + 0 + 0, sa + 0 + 0)
  else
    none) else none
  else none) else none
  else none := by
  rfl
set_option maxRecDepth 20000 in
theorem lg_c6 {α : Type} {sc : List Int} {orc : q_O} {M : q_M} {ca sa : Nat} {k : Nat → q_T → Option α} {i : Int} : q_dk orc (pg_P sc) false 600128 7301098 13 pI_L_law [489] k 1000 false (q_seek (287 : Int) pI_L_law) [some (.inr (.inr 3000)), some (.inr (.inr 0)), some (.inr (.inr 49)), some (.inr (.inr 81)), some (.inl (i)), none, none] [] GF M ca sa =
  if ca + 1 ≤ 600128 ∧ sa + 6 ≤ 7301098 then q_cI (orc 233 [.inr (.inr 0), .inr (.inr 81)] GF M) GF (fun x2 M1 =>
  if ca + 1 + 0 ≤ 600128 ∧ sa + 6 + 0 ≤ 7301098 then q_cI (orc 188 [.inr (.inr 49)] GF M1) GF (fun x4 M3 =>
  if ca + 1 + 0 + 0 ≤ 600128 ∧ sa + 6 + 0 + 0 ≤ 7301098 then q_cI (orc 148 [.inr (.inr 49)] GF M3) GF (fun x6 M5 =>
  if x6 = x2 then
    if x2 = 0 then
      if 0 ≤ (0 : Int) ∧ (0 : Int) < ((1 : Nat) : Int) then
      if (if M5 81 (0 : Int).toNat < x4 then -1 else if x4 < M5 81 (0 : Int).toNat then 1 else 0) = 0 then
        k 489 ([some (.inr (.inr 3000)), some (.inr (.inr 0)), some (.inr (.inr 49)), some (.inr (.inr 81)), some (.inl (i)), some (.inl (x2)), some (.inl (x4))], [], GF, M5, ca + 1 + 0 + 0, sa + 6 + 0 + 0)
      else
        none
      else none
    else
      k 489 ([some (.inr (.inr 3000)), some (.inr (.inr 0)), some (.inr (.inr 49)), some (.inr (.inr 81)), some (.inl (i)), some (.inl (x2)), some (.inl (x4))], [], GF, M5, ca + 1 + 0 + 0, sa + 6 + 0 + 0)
  else
    none) else none) else none) else none := by
  rfl
set_option maxRecDepth 20000 in
theorem lg_c7 {α : Type} {sc : List Int} {orc : q_O} {M : q_M} {ca sa : Nat} {k : Nat → q_T → Option α} {i : Int} : q_dk orc (pg_P sc) false 600128 7301098 13 pI_L_law [489] k 1000 false (q_seek (331 : Int) pI_L_law) [some (.inr (.inr 3000)), some (.inr (.inr 0)), some (.inr (.inr 49)), some (.inr (.inr 81)), some (.inl (i)), none, none] [] GF M ca sa =
  if ca + 0 ≤ 600128 ∧ sa + 0 ≤ 7301098 then q_cI (orc 140 [.inr (.inr 0)] GF M) GF (fun x2 M1 =>
  if ca + 0 + 0 ≤ 600128 ∧ sa + 0 + 0 ≤ 7301098 then q_cI (orc 189 [.inr (.inr 49)] GF M1) GF (fun x4 M3 =>
  if x2 = x4 then
    k 489 ([some (.inr (.inr 3000)), some (.inr (.inr 0)), some (.inr (.inr 49)), some (.inr (.inr 81)), some (.inl (i)), none, none], [], GF, M3, ca + 0 + 0, sa + 0 + 0)
  else
    none) else none) else none := by
  rfl
set_option maxRecDepth 20000 in
theorem lg_c8 {α : Type} {sc : List Int} {orc : q_O} {M : q_M} {ca sa : Nat} {k : Nat → q_T → Option α} {i : Int} : q_dk orc (pg_P sc) false 600128 7301098 13 pI_L_law [489] k 1000 false (q_seek (344 : Int) pI_L_law) [some (.inr (.inr 3000)), some (.inr (.inr 0)), some (.inr (.inr 49)), some (.inr (.inr 81)), some (.inl (i)), none, none] [] GF M ca sa =
  if ca + 1 ≤ 600128 ∧ sa + 6 ≤ 7301098 then q_cI (orc 234 [.inr (.inr 0), .inr (.inr 81)] GF M) GF (fun x2 M1 =>
  if ca + 1 + 0 ≤ 600128 ∧ sa + 6 + 0 ≤ 7301098 then q_cI (orc 208 [.inr (.inr 49)] GF M1) GF (fun x4 M3 =>
  if ca + 1 + 0 + 0 ≤ 600128 ∧ sa + 6 + 0 + 0 ≤ 7301098 then q_cI (orc 148 [.inr (.inr 49)] GF M3) GF (fun x6 M5 =>
  if x6 = x2 then
    if x2 = 0 then
      if 0 ≤ (0 : Int) ∧ (0 : Int) < ((1 : Nat) : Int) then
      if (if M5 81 (0 : Int).toNat < x4 then -1 else if x4 < M5 81 (0 : Int).toNat then 1 else 0) = 0 then
        k 489 ([some (.inr (.inr 3000)), some (.inr (.inr 0)), some (.inr (.inr 49)), some (.inr (.inr 81)), some (.inl (i)), some (.inl (x2)), some (.inl (x4))], [], GF, M5, ca + 1 + 0 + 0, sa + 6 + 0 + 0)
      else
        none
      else none
    else
      k 489 ([some (.inr (.inr 3000)), some (.inr (.inr 0)), some (.inr (.inr 49)), some (.inr (.inr 81)), some (.inl (i)), some (.inl (x2)), some (.inl (x4))], [], GF, M5, ca + 1 + 0 + 0, sa + 6 + 0 + 0)
  else
    none) else none) else none) else none := by
  rfl
set_option maxRecDepth 20000 in
theorem lg_c9 {α : Type} {sc : List Int} {orc : q_O} {M : q_M} {ca sa : Nat} {k : Nat → q_T → Option α} {i : Int} : q_dk orc (pg_P sc) false 600128 7301098 13 pI_L_law [489] k 1000 false (q_seek (388 : Int) pI_L_law) [some (.inr (.inr 3000)), some (.inr (.inr 0)), some (.inr (.inr 49)), some (.inr (.inr 81)), some (.inl (i)), none, none] [] GF M ca sa =
  if ca + 0 ≤ 600128 ∧ sa + 0 ≤ 7301098 then q_cI (orc 142 [.inr (.inr 0)] GF M) GF (fun x2 M1 =>
  if ca + 0 + 0 ≤ 600128 ∧ sa + 0 + 0 ≤ 7301098 then q_cI (orc 209 [.inr (.inr 49)] GF M1) GF (fun x4 M3 =>
  if x2 = x4 then
    k 489 ([some (.inr (.inr 3000)), some (.inr (.inr 0)), some (.inr (.inr 49)), some (.inr (.inr 81)), some (.inl (i)), none, none], [], GF, M3, ca + 0 + 0, sa + 0 + 0)
  else
    none) else none) else none := by
  rfl
set_option maxRecDepth 20000 in
theorem lg_c10 {α : Type} {sc : List Int} {orc : q_O} {M : q_M} {ca sa : Nat} {k : Nat → q_T → Option α} {i : Int} : q_dk orc (pg_P sc) false 600128 7301098 13 pI_L_law [489] k 1000 false (q_seek (401 : Int) pI_L_law) [some (.inr (.inr 3000)), some (.inr (.inr 0)), some (.inr (.inr 49)), some (.inr (.inr 81)), some (.inl (i)), none, none] [] GF M ca sa =
  if ca + 0 ≤ 600128 ∧ sa + 0 ≤ 7301098 then q_cI (orc 143 [.inr (.inr 0)] GF M) GF (fun x2 M1 =>
  if ca + 0 + 0 ≤ 600128 ∧ sa + 0 + 0 ≤ 7301098 then q_cI (orc 210 [.inr (.inr 49)] GF M1) GF (fun x4 M3 =>
  if x2 = x4 then
    k 489 ([some (.inr (.inr 3000)), some (.inr (.inr 0)), some (.inr (.inr 49)), some (.inr (.inr 81)), some (.inl (i)), none, none], [], GF, M3, ca + 0 + 0, sa + 0 + 0)
  else
    none) else none) else none := by
  rfl
set_option maxRecDepth 20000 in
theorem lg_c11 {α : Type} {sc : List Int} {orc : q_O} {M : q_M} {ca sa : Nat} {k : Nat → q_T → Option α} {i : Int} : q_dk orc (pg_P sc) false 600128 7301098 13 pI_L_law [489] k 1000 false (q_seek (414 : Int) pI_L_law) [some (.inr (.inr 3000)), some (.inr (.inr 0)), some (.inr (.inr 49)), some (.inr (.inr 81)), some (.inl (i)), none, none] [] GF M ca sa =
  if 0 ≤ q_w (i + 1) ∧ q_w (i + 1) < (sc.length : Int) then
  if 0 ≤ q_w (i + 2) ∧ q_w (i + 2) < (sc.length : Int) then
  if ca + 0 ≤ 600128 ∧ sa + 0 ≤ 7301098 then q_cI (orc 144 [.inr (.inr 0), .inl (sc.getD (q_w (i + 1) : Int).toNat 0), .inl (sc.getD (q_w (i + 2) : Int).toNat 0)] GF M) GF (fun x2 M1 =>
  if 0 ≤ q_w (i + 1) ∧ q_w (i + 1) < (sc.length : Int) then
  if 0 ≤ q_w (i + 2) ∧ q_w (i + 2) < (sc.length : Int) then
  if ca + 0 + 0 ≤ 600128 ∧ sa + 0 + 0 ≤ 7301098 then q_cI (orc 212 [.inr (.inr 49), .inl (sc.getD (q_w (i + 1) : Int).toNat 0), .inl (sc.getD (q_w (i + 2) : Int).toNat 0)] GF M1) GF (fun x4 M3 =>
  if x2 = x4 then
    k 489 ([some (.inr (.inr 3000)), some (.inr (.inr 0)), some (.inr (.inr 49)), some (.inr (.inr 81)), some (.inl (i)), none, none], [], GF, M3, ca + 0 + 0, sa + 0 + 0)
  else
    none) else none
  else none
  else none) else none
  else none
  else none := by
  rfl
set_option maxRecDepth 20000 in
theorem lg_c12 {α : Type} {sc : List Int} {orc : q_O} {M : q_M} {ca sa : Nat} {k : Nat → q_T → Option α} {i : Int} : q_dk orc (pg_P sc) false 600128 7301098 13 pI_L_law [489] k 1000 false (q_seek (451 : Int) pI_L_law) [some (.inr (.inr 3000)), some (.inr (.inr 0)), some (.inr (.inr 49)), some (.inr (.inr 81)), some (.inl (i)), none, none] [] GF M ca sa =
  if 0 ≤ q_w (i + 1) ∧ q_w (i + 1) < (sc.length : Int) then
  if 0 ≤ q_w (i + 2) ∧ q_w (i + 2) < (sc.length : Int) then
  if ca + 0 ≤ 600128 ∧ sa + 0 ≤ 7301098 then q_cL (orc 145 [.inr (.inr 0), .inl (sc.getD (q_w (i + 1) : Int).toNat 0), .inl (sc.getD (q_w (i + 2) : Int).toNat 0)] GF M) GF (fun x2 M1 =>
  if 0 ≤ q_w (i + 1) ∧ q_w (i + 1) < (sc.length : Int) then
  if 0 ≤ q_w (i + 2) ∧ q_w (i + 2) < (sc.length : Int) then
  if ca + 0 + 0 ≤ 600128 ∧ sa + 0 + 0 ≤ 7301098 then q_cL (orc 213 [.inr (.inr 49), .inl (sc.getD (q_w (i + 1) : Int).toNat 0), .inl (sc.getD (q_w (i + 2) : Int).toNat 0)] GF M1) GF (fun x4 M3 =>
  if (if x2 < x4 then -1 else if x4 < x2 then 1 else 0) = 0 then
    k 489 ([some (.inr (.inr 3000)), some (.inr (.inr 0)), some (.inr (.inr 49)), some (.inr (.inr 81)), some (.inl (i)), none, none], [], GF, M3, ca + 0 + 0, sa + 0 + 0)
  else
    none) else none
  else none
  else none) else none
  else none
  else none := by
  rfl
set_option maxRecDepth 20000 in
theorem lg_inc {α : Type} {sc : List Int} {orc : q_O} {M : q_M} {ca sa : Nat} {k : Nat → q_T → Option α} {i : Int} : q_dk orc (pg_P sc) false 600128 7301098 13 pI_L_law [23] k 1000 false (q_seek (489 : Int) pI_L_law) [some (.inr (.inr 3000)), some (.inr (.inr 0)), some (.inr (.inr 49)), some (.inr (.inr 81)), some (.inl (i)), none, none] [] GF M ca sa =
  k 23 ([some (.inr (.inr 3000)), some (.inr (.inr 0)), some (.inr (.inr 49)), some (.inr (.inr 81)), some (.inl (q_w (i + (3)))), none, none], [], GF, M, ca, sa) := by
  rfl
