set_option maxRecDepth 20000 in
theorem sg_J0_length_8abf5_0_s18 {sc : List Int} {orc : q_O} {M : q_M} {F : Nat} : pr sc orc 214 (F + 1) 0 [some (.inr (.inr 1018))] [] M =
  q_cI (orc 215 [.inr (.inr 1018)] GF M) GF (fun x2 M1 =>
  if x2 = 0 then
  some (some (.inl (((7 : Nat) : Int))), GF, M1)
  else none) := by
  rw [pr_st]; rfl
