set_option maxRecDepth 100000 in
theorem pt_M0_0 : pg_MK0_0.all (pt_M 0) = true := by decide +kernel
set_option maxRecDepth 100000 in
theorem pt_M1_0 : pg_MK1_0.all (pt_M 1) = true := by decide +kernel
set_option maxRecDepth 100000 in
theorem pt_M1_1 : pg_MK1_1.all (pt_M 1) = true := by decide +kernel
set_option maxRecDepth 100000 in
theorem pt_M1_2 : pg_MK1_2.all (pt_M 1) = true := by decide +kernel
set_option maxRecDepth 100000 in
theorem pt_M2_0 : pg_MK2_0.all (pt_M 2) = true := by decide +kernel
set_option maxRecDepth 100000 in
theorem pt_M2_1 : pg_MK2_1.all (pt_M 2) = true := by decide +kernel
set_option maxRecDepth 100000 in
theorem pt_M2_2 : pg_MK2_2.all (pt_M 2) = true := by decide +kernel
set_option maxRecDepth 100000 in
theorem pt_M3_0 : pg_MK3_0.all (pt_M 3) = true := by decide +kernel
set_option maxRecDepth 100000 in
theorem pt_M4_0 : pg_MK4_0.all (pt_M 4) = true := by decide +kernel
set_option maxRecDepth 100000 in
theorem pt_M4_1 : pg_MK4_1.all (pt_M 4) = true := by decide +kernel
set_option maxRecDepth 100000 in
theorem pt_M4_2 : pg_MK4_2.all (pt_M 4) = true := by decide +kernel
set_option maxRecDepth 100000 in
theorem pt_M5_0 : pg_MK5_0.all (pt_M 5) = true := by decide +kernel
set_option maxRecDepth 100000 in
theorem pt_M6_0 : pg_MK6_0.all (pt_M 6) = true := by decide +kernel
set_option maxRecDepth 100000 in
theorem pt_M7_0 : pg_MK7_0.all (pt_M 7) = true := by decide +kernel
set_option maxRecDepth 100000 in
theorem pt_M8_0 : pg_MK8_0.all (pt_M 8) = true := by decide +kernel
set_option maxRecDepth 100000 in
theorem pt_M8_1 : pg_MK8_1.all (pt_M 8) = true := by decide +kernel
set_option maxRecDepth 100000 in
theorem pt_M9_0 : pg_MK9_0.all (pt_M 9) = true := by decide +kernel
set_option maxRecDepth 100000 in
theorem pt_M10_0 : pg_MK10_0.all (pt_M 10) = true := by decide +kernel
set_option maxRecDepth 100000 in
theorem pt_M11_0 : pg_MK11_0.all (pt_M 11) = true := by decide +kernel
set_option maxRecDepth 100000 in
theorem pt_M11_1 : pg_MK11_1.all (pt_M 11) = true := by decide +kernel
set_option maxRecDepth 100000 in
theorem pt_M11_2 : pg_MK11_2.all (pt_M 11) = true := by decide +kernel
set_option maxRecDepth 100000 in
theorem pt_M12_0 : pg_MK12_0.all (pt_M 12) = true := by decide +kernel
set_option maxRecDepth 100000 in
theorem pt_M12_1 : pg_MK12_1.all (pt_M 12) = true := by decide +kernel
set_option maxRecDepth 100000 in
theorem pt_M12_2 : pg_MK12_2.all (pt_M 12) = true := by decide +kernel
set_option maxRecDepth 100000 in
theorem pt_M12_3 : pg_MK12_3.all (pt_M 12) = true := by decide +kernel
set_option maxRecDepth 100000 in
theorem pt_M12_4 : pg_MK12_4.all (pt_M 12) = true := by decide +kernel
set_option maxRecDepth 100000 in
theorem pt_M13_0 : pg_MK13_0.all (pt_M 13) = true := by decide +kernel
set_option maxRecDepth 100000 in
theorem pt_M13_1 : pg_MK13_1.all (pt_M 13) = true := by decide +kernel
set_option maxRecDepth 100000 in
theorem pt_M13_2 : pg_MK13_2.all (pt_M 13) = true := by decide +kernel
set_option maxRecDepth 100000 in
theorem pt_M14_0 : pg_MK14_0.all (pt_M 14) = true := by decide +kernel
set_option maxRecDepth 100000 in
theorem pt_M15_0 : pg_MK15_0.all (pt_M 15) = true := by decide +kernel
set_option maxRecDepth 100000 in
theorem pt_M16_0 : pg_MK16_0.all (pt_M 16) = true := by decide +kernel
set_option maxRecDepth 100000 in
theorem pt_M17_0 : pg_MK17_0.all (pt_M 17) = true := by decide +kernel
set_option maxRecDepth 100000 in
theorem pt_M18_0 : pg_MK18_0.all (pt_M 18) = true := by decide +kernel
set_option maxRecDepth 100000 in
theorem pt_M19_0 : pg_MK19_0.all (pt_M 19) = true := by decide +kernel
set_option maxRecDepth 100000 in
theorem pt_M20_0 : pg_MK20_0.all (pt_M 20) = true := by decide +kernel
theorem pt_Mall : ∀ (co : Nat) (x : List (Nat × Nat × Nat × Nat × Nat × Nat × Nat × Nat × Nat)), pg_MK[co]? = some x → x.all (pt_M co) = true := by
  intro co x h
  have hl : co < 21 := (List.getElem?_eq_some_iff.mp h).1
  match co, hl, h with
  | 0, _, h => cases h; simp only [pg_MK0, List.all_append, pt_M0_0, Bool.and_self]
  | 1, _, h => cases h; simp only [pg_MK1, List.all_append, pt_M1_0, pt_M1_1, pt_M1_2, Bool.and_self]
  | 2, _, h => cases h; simp only [pg_MK2, List.all_append, pt_M2_0, pt_M2_1, pt_M2_2, Bool.and_self]
  | 3, _, h => cases h; simp only [pg_MK3, List.all_append, pt_M3_0, Bool.and_self]
  | 4, _, h => cases h; simp only [pg_MK4, List.all_append, pt_M4_0, pt_M4_1, pt_M4_2, Bool.and_self]
  | 5, _, h => cases h; simp only [pg_MK5, List.all_append, pt_M5_0, Bool.and_self]
  | 6, _, h => cases h; simp only [pg_MK6, List.all_append, pt_M6_0, Bool.and_self]
  | 7, _, h => cases h; simp only [pg_MK7, List.all_append, pt_M7_0, Bool.and_self]
  | 8, _, h => cases h; simp only [pg_MK8, List.all_append, pt_M8_0, pt_M8_1, Bool.and_self]
  | 9, _, h => cases h; simp only [pg_MK9, List.all_append, pt_M9_0, Bool.and_self]
  | 10, _, h => cases h; simp only [pg_MK10, List.all_append, pt_M10_0, Bool.and_self]
  | 11, _, h => cases h; simp only [pg_MK11, List.all_append, pt_M11_0, pt_M11_1, pt_M11_2, Bool.and_self]
  | 12, _, h => cases h; simp only [pg_MK12, List.all_append, pt_M12_0, pt_M12_1, pt_M12_2, pt_M12_3, pt_M12_4, Bool.and_self]
  | 13, _, h => cases h; simp only [pg_MK13, List.all_append, pt_M13_0, pt_M13_1, pt_M13_2, Bool.and_self]
  | 14, _, h => cases h; simp only [pg_MK14, List.all_append, pt_M14_0, Bool.and_self]
  | 15, _, h => cases h; simp only [pg_MK15, List.all_append, pt_M15_0, Bool.and_self]
  | 16, _, h => cases h; simp only [pg_MK16, List.all_append, pt_M16_0, Bool.and_self]
  | 17, _, h => cases h; simp only [pg_MK17, List.all_append, pt_M17_0, Bool.and_self]
  | 18, _, h => cases h; simp only [pg_MK18, List.all_append, pt_M18_0, Bool.and_self]
  | 19, _, h => cases h; simp only [pg_MK19, List.all_append, pt_M19_0, Bool.and_self]
  | 20, _, h => cases h; simp only [pg_MK20, List.all_append, pt_M20_0, Bool.and_self]
