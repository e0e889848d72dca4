def pt_tc (ty : FieldType) (c : Nat) (fin : Bool) (own C : String) : Bool := match c, ty with
  | 0, .int => !fin
  | 1, .boolean => !fin
  | 4, .object _ => fin && decide (own = C)
  | 4, .array _ => fin && decide (own = C)
  | _, _ => false
def pt_C (ci : Nat) (C : String) (T : u_T) (N : Nat) (ty : Nat → FieldType) (ps : List Nat) : Bool :=
  decide (pg_nf ci = N) && decide (N ≤ 100) && decide (pg_Rn ci = C) && (List.range N).all (fun k => pt_in (ps.getD k 0) (u_lay C T k) && pt_tc (ty k) (pg_ft ci k) (T k).2.2.2 (T k).1 C)
theorem pt_C_ok {ci : Nat} {C : String} {T : u_T} {N : Nat} {ty : Nat → FieldType} {ps : List Nat} (h : pt_C ci C T N ty ps = true) (hnm : ∀ a, a < N → ∀ b, b < N → a ≠ b → (T a).2.1 ≠ (T b).2.1) (hty : ∀ k, k < N → parseFieldDescriptor (T k).2.2.1 = some (ty k)) : q_nf pg_P ci = N ∧ N ≤ 100 ∧ pg_Rn ci = C ∧ (∀ w ∈ u_ws C T N, w ∈ q_WT) ∧ (∀ a, a < N → ∀ b, b < N → a ≠ b → (T a).2.1 ≠ (T b).2.1) ∧
  ∃ ty : Nat → FieldType, (∀ k, k < N → parseFieldDescriptor (T k).2.2.1 = some (ty k)) ∧ ∀ j, j < N → (q_ft pg_P ci j = 0 ∧ ty j = .int ∧ (T j).2.2.2 = false) ∨ (q_ft pg_P ci j = 1 ∧ ty j = .boolean ∧ (T j).2.2.2 = false) ∨ (q_ft pg_P ci j = 4 ∧ (T j).2.2.2 = true ∧ (T j).1 = C ∧ ((∃ n, ty j = .object n) ∨ ∃ t, ty j = .array t)) := by
  simp only [pt_C, Bool.and_eq_true, decide_eq_true_eq, List.all_eq_true, List.mem_range] at h
  obtain ⟨⟨⟨h1, h2⟩, h3⟩, h4⟩ := h
  refine ⟨h1, h2, h3, fun w hw => ?_, hnm, ty, hty, fun j hj => ?_⟩
  · obtain ⟨k, hk, rfl⟩ := List.mem_map.mp hw
    exact pt_in_ok (h4 k (List.mem_range.mp hk)).1
  · have h5 := (h4 j hj).2
    unfold pt_tc at h5
    split at h5
    · next e1 e2 => exact Or.inl ⟨e1, e2, by simpa using h5⟩
    · next e1 e2 => exact Or.inr (Or.inl ⟨e1, e2, by simpa using h5⟩)
    · next n e1 e2 => simp only [Bool.and_eq_true, decide_eq_true_eq] at h5; exact Or.inr (Or.inr ⟨e1, h5.1, h5.2, Or.inl ⟨n, e2⟩⟩)
    · next n e1 e2 => simp only [Bool.and_eq_true, decide_eq_true_eq] at h5; exact Or.inr (Or.inr ⟨e1, h5.1, h5.2, Or.inr ⟨n, e2⟩⟩)
    · cases h5
set_option maxRecDepth 100000 in
theorem pt_C0 : pt_C 0 RX0 TX0 4 tyX0 [285, 287, 289, 291] = true := by decide +kernel
set_option maxRecDepth 100000 in
theorem pt_C1 : pt_C 1 RX1 TX1 4 tyX1 [266, 268, 270, 272] = true := by decide +kernel
set_option maxRecDepth 100000 in
theorem pt_C2 : pt_C 2 RX2 TX2 9 tyX2 [312, 314, 316, 318, 320, 322, 324, 326, 328] = true := by decide +kernel
set_option maxRecDepth 100000 in
theorem pt_C3 : pt_C 3 RX3 TX3 8 tyX3 [128, 130, 132, 134, 136, 138, 140, 142] = true := by decide +kernel
set_option maxRecDepth 100000 in
theorem pt_C4 : pt_C 4 RX4 TX4 5 tyX4 [244, 246, 248, 250, 252] = true := by decide +kernel
set_option maxRecDepth 100000 in
theorem pt_C5 : pt_C 5 RX5 TX5 13 tyX5 [198, 200, 202, 204, 206, 208, 210, 212, 214, 216, 218, 220, 222] = true := by decide +kernel
set_option maxRecDepth 100000 in
theorem pt_C6 : pt_C 6 RX6 TX6 11 tyX6 [162, 164, 166, 168, 170, 172, 174, 176, 178, 180, 182] = true := by decide +kernel
set_option maxRecDepth 100000 in
theorem pt_C7 : pt_C 7 RX7 TX7 4 tyX7 [45, 47, 49, 51] = true := by decide +kernel
set_option maxRecDepth 100000 in
theorem pt_C8 : pt_C 8 RX8 TX8 2 tyX8 [80, 82] = true := by decide +kernel
set_option maxRecDepth 100000 in
theorem pt_C9 : pt_C 9 RX9 TX9 5 tyX9 [97, 99, 101, 103, 105] = true := by decide +kernel
set_option maxRecDepth 100000 in
theorem pt_C10 : pt_C 10 RX10 TX10 3 tyX10 [65, 67, 69] = true := by decide +kernel
set_option maxRecDepth 100000 in
theorem pt_C11 : pt_C 11 RX11 TX11 11 tyX11 [342, 344, 346, 348, 350, 352, 354, 356, 358, 360, 362] = true := by decide +kernel
set_option maxRecDepth 100000 in
theorem pt_C12 : pt_C 12 RX12 TX12 55 tyX12 [1231, 1233, 1235, 1237, 1239, 1241, 1243, 1245, 1247, 1249, 1251, 1253, 1255, 1257, 1259, 1261, 1263, 1265, 1267, 1269, 1271, 1273, 1275, 1277, 1279, 1281, 1283, 1285, 1287, 1289, 1291, 1293, 1295, 1297, 1299, 1301, 1303, 1305, 1307, 1309, 1311, 1313, 1315, 1317, 1319, 1321, 1323, 1325, 1327, 1329, 1331, 1333, 1335, 1337, 1339] = true := by decide +kernel
theorem pg_Cok : q_Cok pg_P pg_Rn := by
  intro ci C T N h
  have hl : ci < 13 := (List.getElem?_eq_some_iff.mp h).1
  match ci, hl, h with
  | 0, _, h => cases h; exact pt_C_ok pt_C0 nmX0 tyX0_ok
  | 1, _, h => cases h; exact pt_C_ok pt_C1 nmX1 tyX1_ok
  | 2, _, h => cases h; exact pt_C_ok pt_C2 nmX2 tyX2_ok
  | 3, _, h => cases h; exact pt_C_ok pt_C3 nmX3 tyX3_ok
  | 4, _, h => cases h; exact pt_C_ok pt_C4 nmX4 tyX4_ok
  | 5, _, h => cases h; exact pt_C_ok pt_C5 nmX5 tyX5_ok
  | 6, _, h => cases h; exact pt_C_ok pt_C6 nmX6 tyX6_ok
  | 7, _, h => cases h; exact pt_C_ok pt_C7 nmX7 tyX7_ok
  | 8, _, h => cases h; exact pt_C_ok pt_C8 nmX8 tyX8_ok
  | 9, _, h => cases h; exact pt_C_ok pt_C9 nmX9 tyX9_ok
  | 10, _, h => cases h; exact pt_C_ok pt_C10 nmX10 tyX10_ok
  | 11, _, h => cases h; exact pt_C_ok pt_C11 nmX11 tyX11_ok
  | 12, _, h => cases h; exact pt_C_ok pt_C12 nmX12 tyX12_ok
theorem pg_Tb : q_Tb pg_P pg_ym pg_NW pg_SR pg_Rn := ⟨pg_Fok, pg_Cok, pg_Nok, pg_Lok, pg_Aok, pg_Sok, pg_Mok⟩
def pt_I (e : (MethodName × ByteArray × Nat × Option FieldType) × q_R) : Prop := e.2.2.2.2.1 = [] ∨ q_Iok e.1.2.1 e.2.2.2.2.1
set_option maxRecDepth 100000 in
theorem pt_MLall : pg_ML.all (fun e => plainFor e.1.1 && decide (pg_Rn e.2.1 = e.1.1.cls) && (!e.2.2.1 || decide (e.1.1.name = "<init>"))) = true := by decide +kernel
theorem pt_I0 : ∀ e ∈ pg_ML0, pt_I e := List.forall_mem_cons.mpr ⟨Or.inr pK_X0_init, List.forall_mem_cons.mpr ⟨Or.inr pK_X0_clear, List.forall_mem_cons.mpr ⟨Or.inr pK_X0_height, List.forall_mem_cons.mpr ⟨Or.inr pK_X0_append, List.forall_mem_cons.mpr ⟨Or.inr pK_X0_has, List.forall_mem_cons.mpr ⟨Or.inr pK_X0_unknownAt, List.forall_mem_cons.mpr ⟨Or.inr pK_X0_numberAt, List.forall_mem_cons.mpr ⟨Or.inr pK_X0_set, List.forall_mem_cons.mpr ⟨Or.inr pK_X1_init, List.forall_mem_cons.mpr ⟨Or.inr pK_X1_firstIll, List.forall_mem_cons.mpr ⟨Or.inr pK_X1_noteIll, List.forall_mem_cons.mpr ⟨Or.inr pK_X1_checkItems, List.forall_mem_cons.mpr ⟨Or.inr pK_X1_checkColumns, List.forall_mem_cons.mpr ⟨Or.inr pK_X1_checkOuts, List.forall_mem_cons.mpr ⟨Or.inr pK_X2_init, List.forall_mem_cons.mpr ⟨Or.inr pK_X2_seen, List.forall_mem_cons.mpr ⟨Or.inr pK_X2_goThroughAll, List.forall_mem_cons.mpr ⟨Or.inr pK_X2_goThrough, List.forall_mem_cons.mpr ⟨Or.inr pK_X2_goOn, List.forall_mem_cons.mpr ⟨Or.inr pK_X2_gather, List.forall_mem_cons.mpr ⟨Or.inr pK_X2_lineOfGroup, List.forall_mem_cons.mpr ⟨Or.inr pK_X2_isOfGroup, List.forall_mem_cons.mpr ⟨Or.inr pK_X2_keyOf, List.forall_mem_cons.mpr ⟨Or.inr pK_X2_begin, List.forall_mem_cons.mpr ⟨Or.inr pK_X2_tally, List.forall_mem_cons.mpr ⟨Or.inr pK_X2_joined, List.forall_mem_cons.mpr ⟨Or.inr pK_X3_init, List.forall_mem_cons.mpr ⟨Or.inr pK_X3_clear, List.forall_mem_cons.mpr ⟨Or.inr pK_X3_count, fun _ h => absurd h List.not_mem_nil⟩⟩⟩⟩⟩⟩⟩⟩⟩⟩⟩⟩⟩⟩⟩⟩⟩⟩⟩⟩⟩⟩⟩⟩⟩⟩⟩⟩⟩
theorem pt_I1 : ∀ e ∈ pg_ML1, pt_I e := List.forall_mem_cons.mpr ⟨Or.inr pK_X3_addColumn, List.forall_mem_cons.mpr ⟨Or.inr pK_X3_addConstant, List.forall_mem_cons.mpr ⟨Or.inr pK_X3_isColumn, List.forall_mem_cons.mpr ⟨Or.inr pK_X3_placeOf, List.forall_mem_cons.mpr ⟨Or.inr pK_X3_aliasOf, List.forall_mem_cons.mpr ⟨Or.inr pK_X3_letterOf, List.forall_mem_cons.mpr ⟨Or.inr pK_X3_lastItemOf, List.forall_mem_cons.mpr ⟨Or.inr pK_X3_itemOf, List.forall_mem_cons.mpr ⟨Or.inr pK_X3_setItem, List.forall_mem_cons.mpr ⟨Or.inr pK_X3_sameColumn, List.forall_mem_cons.mpr ⟨Or.inr pK_X3_numberOf, List.forall_mem_cons.mpr ⟨Or.inr pK_X3_unknownOf, List.forall_mem_cons.mpr ⟨Or.inr pK_X3_load, List.forall_mem_cons.mpr ⟨Or.inr pK_X4_init, List.forall_mem_cons.mpr ⟨Or.inr pK_X4_readQuery, List.forall_mem_cons.mpr ⟨Or.inr pK_X4_readOuts, List.forall_mem_cons.mpr ⟨Or.inr pK_X4_readOut, List.forall_mem_cons.mpr ⟨Or.inr pK_X4_readItem, List.forall_mem_cons.mpr ⟨Or.inr pK_X4_readJoined, List.forall_mem_cons.mpr ⟨Or.inr pK_X4_readWhere, List.forall_mem_cons.mpr ⟨Or.inr pK_X4_readGroup, List.forall_mem_cons.mpr ⟨Or.inr pK_X4_readCondition, List.forall_mem_cons.mpr ⟨Or.inr pK_X4_readConjunction, List.forall_mem_cons.mpr ⟨Or.inr pK_X4_readPart, List.forall_mem_cons.mpr ⟨Or.inr pK_X4_notePart, List.forall_mem_cons.mpr ⟨Or.inr pK_X4_readTest, List.forall_mem_cons.mpr ⟨Or.inr pK_X4_readComparison, List.forall_mem_cons.mpr ⟨Or.inr pK_X4_readOperand, List.forall_mem_cons.mpr ⟨Or.inr pK_X4_readColumn, fun _ h => absurd h List.not_mem_nil⟩⟩⟩⟩⟩⟩⟩⟩⟩⟩⟩⟩⟩⟩⟩⟩⟩⟩⟩⟩⟩⟩⟩⟩⟩⟩⟩⟩⟩
theorem pt_I2 : ∀ e ∈ pg_ML2, pt_I e := List.forall_mem_cons.mpr ⟨Or.inr pK_X4_isAlias, List.forall_mem_cons.mpr ⟨Or.inr pK_X5_init, List.forall_mem_cons.mpr ⟨Or.inr pK_X5_clear, List.forall_mem_cons.mpr ⟨Or.inr pK_X5_settle, List.forall_mem_cons.mpr ⟨Or.inr pK_X5_operands, List.forall_mem_cons.mpr ⟨Or.inr pK_X5_steps, List.forall_mem_cons.mpr ⟨Or.inr pK_X5_addItem, List.forall_mem_cons.mpr ⟨Or.inr pK_X5_addOut, List.forall_mem_cons.mpr ⟨Or.inr pK_X5_addGrouped, List.forall_mem_cons.mpr ⟨Or.inr pK_X5_itemCount, List.forall_mem_cons.mpr ⟨Or.inr pK_X5_tableOf, List.forall_mem_cons.mpr ⟨Or.inr pK_X5_tablePlaceOf, List.forall_mem_cons.mpr ⟨Or.inr pK_X5_aliasOf, List.forall_mem_cons.mpr ⟨Or.inr pK_X5_aliasPlaceOf, List.forall_mem_cons.mpr ⟨Or.inr pK_X5_isLeft, List.forall_mem_cons.mpr ⟨Or.inr pK_X5_itemWith, List.forall_mem_cons.mpr ⟨Or.inr pK_X5_uses, List.forall_mem_cons.mpr ⟨Or.inr pK_X5_outCount, List.forall_mem_cons.mpr ⟨Or.inr pK_X5_outKind, List.forall_mem_cons.mpr ⟨Or.inr pK_X5_outColumn, List.forall_mem_cons.mpr ⟨Or.inr pK_X5_groupedCount, List.forall_mem_cons.mpr ⟨Or.inr pK_X5_groupColumn, List.forall_mem_cons.mpr ⟨Or.inr pK_X5_groupsBy, List.forall_mem_cons.mpr ⟨Or.inr pK_X5_gathers, List.forall_mem_cons.mpr ⟨Or.inr pK_X6_init, List.forall_mem_cons.mpr ⟨Or.inr pK_X6_clear, List.forall_mem_cons.mpr ⟨Or.inr pK_X6_count, List.forall_mem_cons.mpr ⟨Or.inr pK_X6_partCount, List.forall_mem_cons.mpr ⟨Or.inr pK_X6_add, fun _ h => absurd h List.not_mem_nil⟩⟩⟩⟩⟩⟩⟩⟩⟩⟩⟩⟩⟩⟩⟩⟩⟩⟩⟩⟩⟩⟩⟩⟩⟩⟩⟩⟩⟩
theorem pt_I3 : ∀ e ∈ pg_ML3, pt_I e := List.forall_mem_cons.mpr ⟨Or.inr pK_X6_addPart, List.forall_mem_cons.mpr ⟨Or.inr pK_X6_settle, List.forall_mem_cons.mpr ⟨Or.inr pK_X6_lastItemIn, List.forall_mem_cons.mpr ⟨Or.inr pK_X6_allTrue, List.forall_mem_cons.mpr ⟨Or.inr pK_X6_truthOf, List.forall_mem_cons.mpr ⟨Or.inr pK_X6_turnTop, List.forall_mem_cons.mpr ⟨Or.inr pK_X6_joinTop, List.forall_mem_cons.mpr ⟨Or.inr pK_X6_testOf, List.forall_mem_cons.mpr ⟨Or.inr pK_X7_init, List.forall_mem_cons.mpr ⟨Or.inr pK_X7_width, List.forall_mem_cons.mpr ⟨Or.inr pK_X7_height, List.forall_mem_cons.mpr ⟨Or.inr pK_X7_make, List.forall_mem_cons.mpr ⟨Or.inr pK_X7_append, List.forall_mem_cons.mpr ⟨Or.inr pK_X7_dropFirst, List.forall_mem_cons.mpr ⟨Or.inr pK_X7_numberAt, List.forall_mem_cons.mpr ⟨Or.inr pK_X7_unknownAt, List.forall_mem_cons.mpr ⟨Or.inr pK_X7_cellOf, List.forall_mem_cons.mpr ⟨Or.inr pK_X8_init, List.forall_mem_cons.mpr ⟨Or.inr pK_X8_append, List.forall_mem_cons.mpr ⟨Or.inr pK_X8_clear, List.forall_mem_cons.mpr ⟨Or.inr pK_X8_splitInto, List.forall_mem_cons.mpr ⟨Or.inr pK_X8_codeAt, List.forall_mem_cons.mpr ⟨Or.inr pK_X8_readToken, List.forall_mem_cons.mpr ⟨Or.inr pK_X8_endOfWord, List.forall_mem_cons.mpr ⟨Or.inr pK_X8_readNumeral, List.forall_mem_cons.mpr ⟨Or.inr pK_X8_wordKind, List.forall_mem_cons.mpr ⟨Or.inr pK_X8_spells, List.forall_mem_cons.mpr ⟨Or.inr pK_X8_isSmall, List.forall_mem_cons.mpr ⟨Or.inr pK_X8_isCapital, fun _ h => absurd h List.not_mem_nil⟩⟩⟩⟩⟩⟩⟩⟩⟩⟩⟩⟩⟩⟩⟩⟩⟩⟩⟩⟩⟩⟩⟩⟩⟩⟩⟩⟩⟩
theorem pt_I4 : ∀ e ∈ pg_ML4, pt_I e := List.forall_mem_cons.mpr ⟨Or.inr pK_X8_isDigit, List.forall_mem_cons.mpr ⟨Or.inr pK_X8_isSign, List.forall_mem_cons.mpr ⟨Or.inr pK_X9_init, List.forall_mem_cons.mpr ⟨Or.inr pK_X9_clear, List.forall_mem_cons.mpr ⟨Or.inr pK_X9_add, List.forall_mem_cons.mpr ⟨Or.inr pK_X9_nextKind, List.forall_mem_cons.mpr ⟨Or.inr pK_X9_nextPlace, List.forall_mem_cons.mpr ⟨Or.inr pK_X9_nextNumber, List.forall_mem_cons.mpr ⟨Or.inr pK_X9_advance, List.forall_mem_cons.mpr ⟨Or.inr pK_X9_take, List.forall_mem_cons.mpr ⟨Or.inr pK_X10_init, List.forall_mem_cons.mpr ⟨Or.inr pK_X10_size, List.forall_mem_cons.mpr ⟨Or.inr pK_X10_clear, List.forall_mem_cons.mpr ⟨Or.inr pK_X10_put, List.forall_mem_cons.mpr ⟨Or.inr pK_X10_numberAt, List.forall_mem_cons.mpr ⟨Or.inr pK_X10_unknownAt, List.forall_mem_cons.mpr ⟨Or.inr pK_X11_init, List.forall_mem_cons.mpr ⟨Or.inr pK_X11_declare, List.forall_mem_cons.mpr ⟨Or.inr pK_X11_value, List.forall_mem_cons.mpr ⟨Or.inr pK_X11_nothing, List.forall_mem_cons.mpr ⟨Or.inr pK_X11_row, List.forall_mem_cons.mpr ⟨Or.inr pK_X11_drop, List.forall_mem_cons.mpr ⟨Or.inr pK_X11_ask, List.forall_mem_cons.mpr ⟨Or.inr pK_X11_compile, List.forall_mem_cons.mpr ⟨Or.inr pK_X11_place, List.forall_mem_cons.mpr ⟨Or.inr pK_X11_run, List.forall_mem_cons.mpr ⟨Or.inr pK_X11_looked, List.forall_mem_cons.mpr ⟨Or.inr pK_X11_rows, List.forall_mem_cons.mpr ⟨Or.inr pK_X11_isNull, fun _ h => absurd h List.not_mem_nil⟩⟩⟩⟩⟩⟩⟩⟩⟩⟩⟩⟩⟩⟩⟩⟩⟩⟩⟩⟩⟩⟩⟩⟩⟩⟩⟩⟩⟩
theorem pt_I5 : ∀ e ∈ pg_ML5, pt_I e := List.forall_mem_cons.mpr ⟨Or.inr pK_X11_result, List.forall_mem_cons.mpr ⟨Or.inr pK_X11_get, List.forall_mem_cons.mpr ⟨Or.inr pK_X12_init, List.forall_mem_cons.mpr ⟨Or.inr pK_X12_thrown, List.forall_mem_cons.mpr ⟨Or.inr pK_X12_fail, List.forall_mem_cons.mpr ⟨Or.inr pK_X12_isTable, List.forall_mem_cons.mpr ⟨Or.inr pK_X12_declare, List.forall_mem_cons.mpr ⟨Or.inr pK_X12_put, List.forall_mem_cons.mpr ⟨Or.inr pK_X12_value, List.forall_mem_cons.mpr ⟨Or.inr pK_X12_nothing, List.forall_mem_cons.mpr ⟨Or.inr pK_X12_row, List.forall_mem_cons.mpr ⟨Or.inr pK_X12_drop, List.forall_mem_cons.mpr ⟨Or.inr pK_X12_ask, List.forall_mem_cons.mpr ⟨Or.inr pK_X12_at, List.forall_mem_cons.mpr ⟨Or.inr pK_X12_isSmall, List.forall_mem_cons.mpr ⟨Or.inr pK_X12_isDigit, List.forall_mem_cons.mpr ⟨Or.inr pK_X12_stop, List.forall_mem_cons.mpr ⟨Or.inr pK_X12_readWord, List.forall_mem_cons.mpr ⟨Or.inr pK_X12_readNumeral, List.forall_mem_cons.mpr ⟨Or.inr pK_X12_look, List.forall_mem_cons.mpr ⟨Or.inr pK_X12_wrong, List.forall_mem_cons.mpr ⟨Or.inr pK_X12_take, List.forall_mem_cons.mpr ⟨Or.inr pK_X12_want, List.forall_mem_cons.mpr ⟨Or.inr pK_X12_isIn, List.forall_mem_cons.mpr ⟨Or.inr pK_X12_readColumn, List.forall_mem_cons.mpr ⟨Or.inr pK_X12_readOut, List.forall_mem_cons.mpr ⟨Or.inr pK_X12_readOuts, List.forall_mem_cons.mpr ⟨Or.inr pK_X12_readOperand, List.forall_mem_cons.mpr ⟨Or.inr pK_X12_readComparison, fun _ h => absurd h List.not_mem_nil⟩⟩⟩⟩⟩⟩⟩⟩⟩⟩⟩⟩⟩⟩⟩⟩⟩⟩⟩⟩⟩⟩⟩⟩⟩⟩⟩⟩⟩
theorem pt_I6 : ∀ e ∈ pg_ML6, pt_I e := List.forall_mem_cons.mpr ⟨Or.inr pK_X12_closeNots, List.forall_mem_cons.mpr ⟨Or.inr pK_X12_readCondition, List.forall_mem_cons.mpr ⟨Or.inr pK_X12_readItem, List.forall_mem_cons.mpr ⟨Or.inr pK_X12_readGroup, List.forall_mem_cons.mpr ⟨Or.inr pK_X12_readQuery, List.forall_mem_cons.mpr ⟨Or.inr pK_X12_spot, List.forall_mem_cons.mpr ⟨Or.inr pK_X12_itemOf, List.forall_mem_cons.mpr ⟨Or.inr pK_X12_columnOf, List.forall_mem_cons.mpr ⟨Or.inr pK_X12_checkColumn, List.forall_mem_cons.mpr ⟨Or.inr pK_X12_checkRange, List.forall_mem_cons.mpr ⟨Or.inr pK_X12_isGrouped, List.forall_mem_cons.mpr ⟨Or.inr pK_X12_checkAll, List.forall_mem_cons.mpr ⟨Or.inr pK_X12_addPart, List.forall_mem_cons.mpr ⟨Or.inr pK_X12_findParts, List.forall_mem_cons.mpr ⟨Or.inr pK_X12_compile, List.forall_mem_cons.mpr ⟨Or.inr pK_X12_place, List.forall_mem_cons.mpr ⟨Or.inr pK_X12_takeOperand, List.forall_mem_cons.mpr ⟨Or.inr pK_X12_fetch, List.forall_mem_cons.mpr ⟨Or.inr pK_X12_not, List.forall_mem_cons.mpr ⟨Or.inr pK_X12_both, List.forall_mem_cons.mpr ⟨Or.inr pK_X12_either, List.forall_mem_cons.mpr ⟨Or.inr pK_X12_compare, List.forall_mem_cons.mpr ⟨Or.inr pK_X12_truthOf, List.forall_mem_cons.mpr ⟨Or.inr pK_X12_passes, List.forall_mem_cons.mpr ⟨Or.inr pK_X12_sameKey, List.forall_mem_cons.mpr ⟨Or.inr pK_X12_newRow, List.forall_mem_cons.mpr ⟨Or.inr pK_X12_groupRow, List.forall_mem_cons.mpr ⟨Or.inr pK_X12_gather, List.forall_mem_cons.mpr ⟨Or.inr pK_X12_found, fun _ h => absurd h List.not_mem_nil⟩⟩⟩⟩⟩⟩⟩⟩⟩⟩⟩⟩⟩⟩⟩⟩⟩⟩⟩⟩⟩⟩⟩⟩⟩⟩⟩⟩⟩
theorem pt_I7 : ∀ e ∈ pg_ML7, pt_I e := List.forall_mem_cons.mpr ⟨Or.inr pK_X12_fits, List.forall_mem_cons.mpr ⟨Or.inr pK_X12_third, List.forall_mem_cons.mpr ⟨Or.inr pK_X12_afterSecond, List.forall_mem_cons.mpr ⟨Or.inr pK_X12_second, List.forall_mem_cons.mpr ⟨Or.inr pK_X12_first, List.forall_mem_cons.mpr ⟨Or.inr pK_X12_run, List.forall_mem_cons.mpr ⟨Or.inr pK_X12_looked, List.forall_mem_cons.mpr ⟨Or.inr pK_X12_rows, List.forall_mem_cons.mpr ⟨Or.inr pK_X12_isThere, List.forall_mem_cons.mpr ⟨Or.inr pK_X12_isNull, List.forall_mem_cons.mpr ⟨Or.inr pK_X12_result, List.forall_mem_cons.mpr ⟨Or.inr pK_J0_length_8abf5, List.forall_mem_cons.mpr ⟨Or.inr pK_J0_coder_7d493, List.forall_mem_cons.mpr ⟨Or.inr pK_J0_charAt_5068e, List.forall_mem_cons.mpr ⟨Or.inr pK_J0_isLatin1_aae02, List.forall_mem_cons.mpr ⟨Or.inr pK_J0_indexOf_0f7a4, List.forall_mem_cons.mpr ⟨Or.inr pK_J0_indexOf_7cf53, List.forall_mem_cons.mpr ⟨Or.inr pK_J1_charAt_3b067, List.forall_mem_cons.mpr ⟨Or.inr pK_J1_canEncode_9a6ad, List.forall_mem_cons.mpr ⟨Or.inr pK_J1_indexOf_4cfef, List.forall_mem_cons.mpr ⟨Or.inr pK_J1_indexOfChar_4cfef, List.forall_mem_cons.mpr ⟨Or.inl rfl, List.forall_mem_cons.mpr ⟨Or.inr pK_J9_max_7cf53, List.forall_mem_cons.mpr ⟨Or.inr pK_J9_max_f86c9, List.forall_mem_cons.mpr ⟨Or.inr pK_J9_min_7cf53, List.forall_mem_cons.mpr ⟨Or.inr pK_J9_min_f86c9, List.forall_mem_cons.mpr ⟨Or.inr pK_J6_compare_7cf53, List.forall_mem_cons.mpr ⟨Or.inl rfl, List.forall_mem_cons.mpr ⟨Or.inl rfl, fun _ h => absurd h List.not_mem_nil⟩⟩⟩⟩⟩⟩⟩⟩⟩⟩⟩⟩⟩⟩⟩⟩⟩⟩⟩⟩⟩⟩⟩⟩⟩⟩⟩⟩⟩
theorem pt_Iall : ∀ e ∈ pg_ML, pt_I e := by
  unfold pg_ML
  exact List.forall_mem_append.mpr ⟨List.forall_mem_append.mpr ⟨List.forall_mem_append.mpr ⟨List.forall_mem_append.mpr ⟨List.forall_mem_append.mpr ⟨List.forall_mem_append.mpr ⟨List.forall_mem_append.mpr ⟨pt_I0, pt_I1⟩, pt_I2⟩, pt_I3⟩, pt_I4⟩, pt_I5⟩, pt_I6⟩, pt_I7⟩
theorem pg_MTok : q_MTok pg_ym pg_MT pg_Rn := by
  intro mid
  unfold pg_ym pg_MT
  rcases hm : pg_ML[mid]? with _ | x
  · rw [List.getD_eq_getElem?_getD, hm]
    exact Or.inl rfl
  · rw [List.getD_eq_getElem?_getD, hm]
    have hx := List.mem_of_getElem? hm
    have h1 := List.all_eq_true.mp pt_MLall x hx
    simp only [Bool.and_eq_true, decide_eq_true_eq, Bool.or_eq_true, Bool.not_eq_true'] at h1
    rcases pt_Iall x hx with h2 | h2
    · exact Or.inl h2
    · exact Or.inr ⟨h1.1.1, h2, h1.1.2, fun h => h1.2.resolve_left (by intro z; have h : x.2.2.1 = true := h; rw [h] at z; cases z)⟩
