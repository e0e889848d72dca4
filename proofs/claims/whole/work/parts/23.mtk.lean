def pt_tc (ty : FieldType) (c : Nat) (fin : Bool) (own C : String) : Bool := match c, ty with
  | 0, .int => !fin
  | 1, .boolean => !fin
  | 4, .object _ => fin && decide (own = C)
  | 4, .array _ => fin && decide (own = C)
  | _, _ => false
def pt_C (ci : Nat) (C : String) (T : u_T) (N : Nat) (ty : Nat → FieldType) (ps : List Nat) : Bool :=
  decide (pg_nf ci = N) && decide (N ≤ 100) && decide (pg_Rn ci = C) && (List.range N).all (fun k => pt_in (ps.getD k 0) (u_lay C T k) && pt_tc (ty k) (pg_ft ci k) (T k).2.2.2 (T k).1 C)
theorem pt_C_ok {sc : List Int} {ci : Nat} {C : String} {T : u_T} {N : Nat} {ty : Nat → FieldType} {ps : List Nat} (h : pt_C ci C T N ty ps = true) (hnm : ∀ a, a < N → ∀ b, b < N → a ≠ b → (T a).2.1 ≠ (T b).2.1) (hty : ∀ k, k < N → parseFieldDescriptor (T k).2.2.1 = some (ty k)) : q_nf (pg_P sc) ci = N ∧ N ≤ 100 ∧ pg_Rn ci = C ∧ (∀ w ∈ u_ws C T N, w ∈ q_WT) ∧ (∀ a, a < N → ∀ b, b < N → a ≠ b → (T a).2.1 ≠ (T b).2.1) ∧
  ∃ ty : Nat → FieldType, (∀ k, k < N → parseFieldDescriptor (T k).2.2.1 = some (ty k)) ∧ ∀ j, j < N → (q_ft (pg_P sc) ci j = 0 ∧ ty j = .int ∧ (T j).2.2.2 = false) ∨ (q_ft (pg_P sc) ci j = 1 ∧ ty j = .boolean ∧ (T j).2.2.2 = false) ∨ (q_ft (pg_P sc) ci j = 4 ∧ (T j).2.2.2 = true ∧ (T j).1 = C ∧ ((∃ n, ty j = .object n) ∨ ∃ t, ty j = .array t)) := by
  simp only [pt_C, Bool.and_eq_true, decide_eq_true_eq, List.all_eq_true, List.mem_range] at h
  obtain ⟨⟨⟨h1, h2⟩, h3⟩, h4⟩ := h
  refine ⟨h1, h2, h3, fun w hw => ?_, hnm, ty, hty, fun j hj => ?_⟩
  · obtain ⟨k, hk, rfl⟩ := List.mem_map.mp hw
    exact pt_in_ok (h4 k (List.mem_range.mp hk)).1
  · have h5 := (h4 j hj).2
    unfold pt_tc at h5
    split at h5
    · next e1 e2 => exact Or.inl ⟨e1, e2, by simpa using h5⟩
    · next e1 e2 => exact Or.inr (Or.inl ⟨e1, e2, by simpa using h5⟩)
    · next n e1 e2 => simp only [Bool.and_eq_true, decide_eq_true_eq] at h5; exact Or.inr (Or.inr ⟨e1, h5.1, h5.2, Or.inl ⟨n, e2⟩⟩)
    · next n e1 e2 => simp only [Bool.and_eq_true, decide_eq_true_eq] at h5; exact Or.inr (Or.inr ⟨e1, h5.1, h5.2, Or.inr ⟨n, e2⟩⟩)
    · cases h5
set_option maxRecDepth 100000 in
theorem pt_C0 : pt_C 0 RX0 TX0 4 tyX0 [285, 287, 289, 291] = true := by decide +kernel
set_option maxRecDepth 100000 in
theorem pt_C1 : pt_C 1 RX1 TX1 4 tyX1 [266, 268, 270, 272] = true := by decide +kernel
set_option maxRecDepth 100000 in
theorem pt_C2 : pt_C 2 RX2 TX2 9 tyX2 [312, 314, 316, 318, 320, 322, 324, 326, 328] = true := by decide +kernel
set_option maxRecDepth 100000 in
theorem pt_C3 : pt_C 3 RX3 TX3 8 tyX3 [128, 130, 132, 134, 136, 138, 140, 142] = true := by decide +kernel
set_option maxRecDepth 100000 in
theorem pt_C4 : pt_C 4 RX4 TX4 5 tyX4 [244, 246, 248, 250, 252] = true := by decide +kernel
set_option maxRecDepth 100000 in
theorem pt_C5 : pt_C 5 RX5 TX5 13 tyX5 [198, 200, 202, 204, 206, 208, 210, 212, 214, 216, 218, 220, 222] = true := by decide +kernel
set_option maxRecDepth 100000 in
theorem pt_C6 : pt_C 6 RX6 TX6 11 tyX6 [162, 164, 166, 168, 170, 172, 174, 176, 178, 180, 182] = true := by decide +kernel
set_option maxRecDepth 100000 in
theorem pt_C7 : pt_C 7 RX7 TX7 4 tyX7 [45, 47, 49, 51] = true := by decide +kernel
set_option maxRecDepth 100000 in
theorem pt_C8 : pt_C 8 RX8 TX8 2 tyX8 [80, 82] = true := by decide +kernel
set_option maxRecDepth 100000 in
theorem pt_C9 : pt_C 9 RX9 TX9 5 tyX9 [97, 99, 101, 103, 105] = true := by decide +kernel
set_option maxRecDepth 100000 in
theorem pt_C10 : pt_C 10 RX10 TX10 3 tyX10 [65, 67, 69] = true := by decide +kernel
set_option maxRecDepth 100000 in
theorem pt_C11 : pt_C 11 RX11 TX11 11 tyX11 [342, 344, 346, 348, 350, 352, 354, 356, 358, 360, 362] = true := by decide +kernel
set_option maxRecDepth 100000 in
theorem pt_C12 : pt_C 12 RX12 TX12 55 tyX12 [1231, 1233, 1235, 1237, 1239, 1241, 1243, 1245, 1247, 1249, 1251, 1253, 1255, 1257, 1259, 1261, 1263, 1265, 1267, 1269, 1271, 1273, 1275, 1277, 1279, 1281, 1283, 1285, 1287, 1289, 1291, 1293, 1295, 1297, 1299, 1301, 1303, 1305, 1307, 1309, 1311, 1313, 1315, 1317, 1319, 1321, 1323, 1325, 1327, 1329, 1331, 1333, 1335, 1337, 1339] = true := by decide +kernel
theorem pg_Cok {sc : List Int} : q_Cok (pg_P sc) pg_Rn := by
  intro ci C T N h
  have hl : ci < 13 := (List.getElem?_eq_some_iff.mp h).1
  match ci, hl, h with
  | 0, _, h => cases h; exact pt_C_ok pt_C0 nmX0 tyX0_ok
  | 1, _, h => cases h; exact pt_C_ok pt_C1 nmX1 tyX1_ok
  | 2, _, h => cases h; exact pt_C_ok pt_C2 nmX2 tyX2_ok
  | 3, _, h => cases h; exact pt_C_ok pt_C3 nmX3 tyX3_ok
  | 4, _, h => cases h; exact pt_C_ok pt_C4 nmX4 tyX4_ok
  | 5, _, h => cases h; exact pt_C_ok pt_C5 nmX5 tyX5_ok
  | 6, _, h => cases h; exact pt_C_ok pt_C6 nmX6 tyX6_ok
  | 7, _, h => cases h; exact pt_C_ok pt_C7 nmX7 tyX7_ok
  | 8, _, h => cases h; exact pt_C_ok pt_C8 nmX8 tyX8_ok
  | 9, _, h => cases h; exact pt_C_ok pt_C9 nmX9 tyX9_ok
  | 10, _, h => cases h; exact pt_C_ok pt_C10 nmX10 tyX10_ok
  | 11, _, h => cases h; exact pt_C_ok pt_C11 nmX11 tyX11_ok
  | 12, _, h => cases h; exact pt_C_ok pt_C12 nmX12 tyX12_ok
theorem pg_Tb {sc : List Int} (h1 : sc.length < 1000) (h2 : ∀ x ∈ sc, q_r x) : q_Tb (pg_P sc) pg_ym pg_NW pg_SR pg_Rn := ⟨pg_Fok, pg_Cok, pg_Nok, pg_Lok, pg_Aok, pg_Sok h1 h2, pg_Mok⟩
def pg_ML0 : List ((MethodName × ByteArray × Nat × Option FieldType) × q_R) := [((yX0_init, cX0_init, 1, none), (0, true, 1, pI_X0_init, [(30, [])])),
  ((yX0_clear, cX0_clear, 2, none), (0, false, 2, pI_X0_clear, [(10, [])])),
  ((yX0_height, cX0_height, 1, (some .int)), (0, false, 1, pI_X0_height, [(4, [])])),
  ((yX0_append, cX0_append, 1, (some .int)), (0, false, 1, pI_X0_append, [(10, []), (27, [])])),
  ((yX0_has, cX0_has, 3, (some .boolean)), (0, false, 3, pI_X0_has, [(40, [])])),
  ((yX0_unknownAt, cX0_unknownAt, 3, (some .boolean)), (0, false, 3, pI_X0_unknownAt, [(27, [])])),
  ((yX0_numberAt, cX0_numberAt, 3, (some .long)), (0, false, 3, pI_X0_numberAt, [(23, [])])),
  ((yX0_set, cX0_set, 6, none), (0, false, 6, pI_X0_set, [(41, [])])),
  ((yX1_init, cX1_init, 3, none), (1, true, 3, pI_X1_init, [(27, [])])),
  ((yX1_firstIll, cX1_firstIll, 1, (some .int)), (1, false, 1, pI_X1_firstIll, [(21, [])])),
  ((yX1_noteIll, cX1_noteIll, 2, none), (1, false, 2, pI_X1_noteIll, [(21, [])])),
  ((yX1_checkItems, cX1_checkItems, 2, none), (1, false, 2, pI_X1_checkItems, [(2, [0, 1]), (80, [])])),
  ((yX1_checkColumns, cX1_checkColumns, 3, none), (1, false, 3, pI_X1_checkColumns, [(2, [0, 1]), (110, [])])),
  ((yX1_checkOuts, cX1_checkOuts, 3, none), (1, false, 3, pI_X1_checkOuts, [(10, []), (13, [0, 1]), (76, [])])),
  ((yX2_init, cX2_init, 4, none), (2, true, 4, pI_X2_init, [(61, [])])),
  ((yX2_seen, cX2_seen, 1, (some .int)), (2, false, 1, pI_X2_seen, [(4, [])])),
  ((yX2_goThroughAll, cX2_goThroughAll, 1, (some .boolean)), (2, false, 1, pI_X2_goThroughAll, [(63, [])])),
  ((yX2_goThrough, cX2_goThrough, 6, (some .boolean)), (2, false, 6, pI_X2_goThrough, [(20, []), (45, [0, 1, 2, 3, 4, 5]), (100, []), (124, []), (144, [])])),
  ((yX2_goOn, cX2_goOn, 2, (some .boolean)), (2, false, 2, pI_X2_goOn, [(27, [])])),
  ((yX2_gather, cX2_gather, 3, (some .boolean)), (2, false, 3, pI_X2_gather, [(35, []), (43, [0, 1, 2]), (83, [])])),
  ((yX2_lineOfGroup, cX2_lineOfGroup, 2, (some .int)), (2, false, 2, pI_X2_lineOfGroup, [(2, [0, 1]), (22, []), (30, [])])),
  ((yX2_isOfGroup, cX2_isOfGroup, 5, (some .boolean)), (2, false, 5, pI_X2_isOfGroup, [(2, [0, 1, 2]), (80, []), (88, [])])),
  ((yX2_keyOf, cX2_keyOf, 2, (some .int)), (2, false, 2, pI_X2_keyOf, [(28, [])])),
  ((yX2_begin, cX2_begin, 5, none), (2, false, 5, pI_X2_begin, [(2, [0, 1, 2]), (74, [0, 1, 2]), (170, [])])),
  ((yX2_tally, cX2_tally, 10, none), (2, false, 10, pI_X2_tally, [(105, [])])),
  ((yX2_joined, cX2_joined, 5, (some .long)), (2, false, 5, pI_X2_joined, [(10, []), (31, [])])),
  ((yX3_init, cX3_init, 1, none), (3, true, 1, pI_X3_init, [(72, [])])),
  ((yX3_clear, cX3_clear, 1, none), (3, false, 1, pI_X3_clear, [(5, [])])),
  ((yX3_count, cX3_count, 1, (some .int)), (3, false, 1, pI_X3_count, [(4, [])])),
  ((yX3_addColumn, cX3_addColumn, 5, (some .int)), (3, false, 5, pI_X3_addColumn, [(18, []), (106, [])]))]
def pg_ML1 : List ((MethodName × ByteArray × Nat × Option FieldType) × q_R) := [((yX3_addConstant, cX3_addConstant, 4, (some .int)), (3, false, 4, pI_X3_addConstant, [(35, [])])),
  ((yX3_isColumn, cX3_isColumn, 2, (some .boolean)), (3, false, 2, pI_X3_isColumn, [(17, [])])),
  ((yX3_placeOf, cX3_placeOf, 2, (some .int)), (3, false, 2, pI_X3_placeOf, [(8, [])])),
  ((yX3_aliasOf, cX3_aliasOf, 2, (some .int)), (3, false, 2, pI_X3_aliasOf, [(8, [])])),
  ((yX3_letterOf, cX3_letterOf, 2, (some .int)), (3, false, 2, pI_X3_letterOf, [(8, [])])),
  ((yX3_lastItemOf, cX3_lastItemOf, 2, (some .int)), (3, false, 2, pI_X3_lastItemOf, [(8, [])])),
  ((yX3_itemOf, cX3_itemOf, 2, (some .int)), (3, false, 2, pI_X3_itemOf, [(8, [])])),
  ((yX3_setItem, cX3_setItem, 3, none), (3, false, 3, pI_X3_setItem, [(18, [])])),
  ((yX3_sameColumn, cX3_sameColumn, 3, (some .boolean)), (3, false, 3, pI_X3_sameColumn, [(31, [])])),
  ((yX3_numberOf, cX3_numberOf, 2, (some .int)), (3, false, 2, pI_X3_numberOf, [(21, [])])),
  ((yX3_unknownOf, cX3_unknownOf, 2, (some .boolean)), (3, false, 2, pI_X3_unknownOf, [(25, [])])),
  ((yX3_load, cX3_load, 6, none), (3, false, 6, pI_X3_load, [(3, [0, 1, 2, 3, 4, 5]), (79, [])])),
  ((yX4_init, cX4_init, 3, none), (4, true, 3, pI_X4_init, [(35, [])])),
  ((yX4_readQuery, cX4_readQuery, 1, (some .boolean)), (4, false, 1, pI_X4_readQuery, [(92, [])])),
  ((yX4_readOuts, cX4_readOuts, 2, (some .boolean)), (4, false, 2, pI_X4_readOuts, [(8, []), (11, [0, 1]), (29, []), (38, []), (46, [])])),
  ((yX4_readOut, cX4_readOut, 4, (some .boolean)), (4, false, 4, pI_X4_readOut, [(34, []), (62, [0, 1, 2]), (86, []), (98, []), (139, [])])),
  ((yX4_readItem, cX4_readItem, 5, (some .boolean)), (4, false, 5, pI_X4_readItem, [(29, []), (55, []), (83, [])])),
  ((yX4_readJoined, cX4_readJoined, 3, (some .boolean)), (4, false, 3, pI_X4_readJoined, [(2, [0, 1]), (85, []), (98, [])])),
  ((yX4_readWhere, cX4_readWhere, 1, (some .boolean)), (4, false, 1, pI_X4_readWhere, [(26, [])])),
  ((yX4_readGroup, cX4_readGroup, 3, (some .boolean)), (4, false, 3, pI_X4_readGroup, [(14, []), (17, [0, 1]), (33, []), (69, [])])),
  ((yX4_readCondition, cX4_readCondition, 5, (some .boolean)), (4, false, 5, pI_X4_readCondition, [(25, []), (29, [0, 1, 2, 3, 4]), (66, []), (93, [])])),
  ((yX4_readConjunction, cX4_readConjunction, 3, (some .boolean)), (4, false, 3, pI_X4_readConjunction, [(9, []), (12, [0, 1, 2]), (48, []), (68, [])])),
  ((yX4_readPart, cX4_readPart, 3, (some .boolean)), (4, false, 3, pI_X4_readPart, [(17, []), (32, [])])),
  ((yX4_notePart, cX4_notePart, 4, none), (4, false, 4, pI_X4_notePart, [(30, [])])),
  ((yX4_readTest, cX4_readTest, 3, (some .boolean)), (4, false, 3, pI_X4_readTest, [(25, []), (32, []), (73, []), (85, []), (99, [])])),
  ((yX4_readComparison, cX4_readComparison, 4, (some .boolean)), (4, false, 4, pI_X4_readComparison, [(11, []), (46, []), (83, []), (109, [])])),
  ((yX4_readOperand, cX4_readOperand, 3, (some .int)), (4, false, 3, pI_X4_readOperand, [(26, []), (62, [])])),
  ((yX4_readColumn, cX4_readColumn, 4, (some .int)), (4, false, 4, pI_X4_readColumn, [(24, []), (45, []), (74, []), (96, [])])),
  ((yX4_isAlias, cX4_isAlias, 1, (some .boolean)), (4, false, 1, pI_X4_isAlias, [(17, [])])),
  ((yX5_init, cX5_init, 1, none), (5, true, 1, pI_X5_init, [(101, [])]))]
def pg_ML2 : List ((MethodName × ByteArray × Nat × Option FieldType) × q_R) := [((yX5_clear, cX5_clear, 1, none), (5, false, 1, pI_X5_clear, [(29, [])])),
  ((yX5_settle, cX5_settle, 1, none), (5, false, 1, pI_X5_settle, [(7, [])])),
  ((yX5_operands, cX5_operands, 1, (some (.object "QueryLoops$Operands"))), (5, false, 1, pI_X5_operands, [(4, [])])),
  ((yX5_steps, cX5_steps, 1, (some (.object "QueryLoops$Steps"))), (5, false, 1, pI_X5_steps, [(4, [])])),
  ((yX5_addItem, cX5_addItem, 6, none), (5, false, 6, pI_X5_addItem, [(77, [])])),
  ((yX5_addOut, cX5_addOut, 3, none), (5, false, 3, pI_X5_addOut, [(45, [])])),
  ((yX5_addGrouped, cX5_addGrouped, 2, none), (5, false, 2, pI_X5_addGrouped, [(35, [])])),
  ((yX5_itemCount, cX5_itemCount, 1, (some .int)), (5, false, 1, pI_X5_itemCount, [(4, [])])),
  ((yX5_tableOf, cX5_tableOf, 2, (some .int)), (5, false, 2, pI_X5_tableOf, [(8, [])])),
  ((yX5_tablePlaceOf, cX5_tablePlaceOf, 2, (some .int)), (5, false, 2, pI_X5_tablePlaceOf, [(8, [])])),
  ((yX5_aliasOf, cX5_aliasOf, 2, (some .int)), (5, false, 2, pI_X5_aliasOf, [(8, [])])),
  ((yX5_aliasPlaceOf, cX5_aliasPlaceOf, 2, (some .int)), (5, false, 2, pI_X5_aliasPlaceOf, [(8, [])])),
  ((yX5_isLeft, cX5_isLeft, 2, (some .boolean)), (5, false, 2, pI_X5_isLeft, [(23, [])])),
  ((yX5_itemWith, cX5_itemWith, 3, (some .int)), (5, false, 3, pI_X5_itemWith, [(2, [0, 1, 2]), (26, []), (34, [])])),
  ((yX5_uses, cX5_uses, 3, (some .boolean)), (5, false, 3, pI_X5_uses, [(2, [0, 1, 2]), (26, []), (34, [])])),
  ((yX5_outCount, cX5_outCount, 1, (some .int)), (5, false, 1, pI_X5_outCount, [(4, [])])),
  ((yX5_outKind, cX5_outKind, 2, (some .int)), (5, false, 2, pI_X5_outKind, [(8, [])])),
  ((yX5_outColumn, cX5_outColumn, 2, (some .int)), (5, false, 2, pI_X5_outColumn, [(8, [])])),
  ((yX5_groupedCount, cX5_groupedCount, 1, (some .int)), (5, false, 1, pI_X5_groupedCount, [(4, [])])),
  ((yX5_groupColumn, cX5_groupColumn, 2, (some .int)), (5, false, 2, pI_X5_groupColumn, [(8, [])])),
  ((yX5_groupsBy, cX5_groupsBy, 3, (some .boolean)), (5, false, 3, pI_X5_groupsBy, [(2, [0, 1, 2]), (33, []), (41, [])])),
  ((yX5_gathers, cX5_gathers, 2, (some .boolean)), (5, false, 2, pI_X5_gathers, [(2, [0, 1]), (28, []), (47, [])])),
  ((yX6_init, cX6_init, 2, none), (6, true, 2, pI_X6_init, [(91, [])])),
  ((yX6_clear, cX6_clear, 1, none), (6, false, 1, pI_X6_clear, [(10, [])])),
  ((yX6_count, cX6_count, 1, (some .int)), (6, false, 1, pI_X6_count, [(4, [])])),
  ((yX6_partCount, cX6_partCount, 1, (some .int)), (6, false, 1, pI_X6_partCount, [(4, [])])),
  ((yX6_add, cX6_add, 4, none), (6, false, 4, pI_X6_add, [(57, [])])),
  ((yX6_addPart, cX6_addPart, 5, none), (6, false, 5, pI_X6_addPart, [(50, [])])),
  ((yX6_settle, cX6_settle, 2, none), (6, false, 2, pI_X6_settle, [(2, [0, 1]), (54, [])])),
  ((yX6_lastItemIn, cX6_lastItemIn, 5, (some .int)), (6, false, 5, pI_X6_lastItemIn, [(9, [0, 2, 3, 4]), (68, [])]))]
def pg_ML3 : List ((MethodName × ByteArray × Nat × Option FieldType) × q_R) := [((yX6_allTrue, cX6_allTrue, 4, (some .boolean)), (6, false, 4, pI_X6_allTrue, [(2, [0, 1, 2, 3]), (58, []), (66, [])])),
  ((yX6_truthOf, cX6_truthOf, 6, (some .int)), (6, false, 6, pI_X6_truthOf, [(9, [0, 2, 3, 4]), (131, [])])),
  ((yX6_turnTop, cX6_turnTop, 2, none), (6, false, 2, pI_X6_turnTop, [(29, [])])),
  ((yX6_joinTop, cX6_joinTop, 5, (some .int)), (6, false, 5, pI_X6_joinTop, [(13, []), (66, [])])),
  ((yX6_testOf, cX6_testOf, 6, (some .int)), (6, false, 6, pI_X6_testOf, [(23, []), (47, []), (129, [])])),
  ((yX7_init, cX7_init, 1, none), (7, true, 1, pI_X7_init, [(34, [])])),
  ((yX7_width, cX7_width, 2, (some .int)), (7, false, 2, pI_X7_width, [(19, [])])),
  ((yX7_height, cX7_height, 2, (some .int)), (7, false, 2, pI_X7_height, [(19, [])])),
  ((yX7_make, cX7_make, 3, (some .boolean)), (7, false, 3, pI_X7_make, [(20, []), (36, [])])),
  ((yX7_append, cX7_append, 6, none), (7, false, 6, pI_X7_append, [(21, []), (34, [0, 1, 2, 3, 4]), (88, [])])),
  ((yX7_dropFirst, cX7_dropFirst, 5, (some .int)), (7, false, 5, pI_X7_dropFirst, [(19, []), (35, [0, 1, 3, 4]), (95, [])])),
  ((yX7_numberAt, cX7_numberAt, 5, (some .int)), (7, false, 5, pI_X7_numberAt, [(26, [])])),
  ((yX7_unknownAt, cX7_unknownAt, 5, (some .boolean)), (7, false, 5, pI_X7_unknownAt, [(30, [])])),
  ((yX7_cellOf, cX7_cellOf, 4, (some .int)), (7, false, 4, pI_X7_cellOf, [(49, []), (60, [])])),
  ((yX8_init, cX8_init, 1, none), (8, true, 1, pI_X8_init, [(18, [])])),
  ((yX8_append, cX8_append, 2, (some .boolean)), (8, false, 2, pI_X8_append, [(30, []), (52, [])])),
  ((yX8_clear, cX8_clear, 1, none), (8, false, 1, pI_X8_clear, [(5, [])])),
  ((yX8_splitInto, cX8_splitInto, 4, none), (8, false, 4, pI_X8_splitInto, [(8, [0, 1, 2, 3]), (56, [])])),
  ((yX8_codeAt, cX8_codeAt, 2, (some .char)), (8, false, 2, pI_X8_codeAt, [(30, [])])),
  ((yX8_readToken, cX8_readToken, 6, (some .int)), (8, false, 6, pI_X8_readToken, [(51, []), (71, []), (103, [])])),
  ((yX8_endOfWord, cX8_endOfWord, 4, (some .int)), (8, false, 4, pI_X8_endOfWord, [(4, [0, 2, 3]), (34, [])])),
  ((yX8_readNumeral, cX8_readNumeral, 8, (some .int)), (8, false, 8, pI_X8_readNumeral, [(40, [0, 1, 2, 3, 4, 5, 6, 7]), (114, [1, 2, 3, 5, 6, 7]), (147, [])])),
  ((yX8_wordKind, cX8_wordKind, 3, (some .int)), (8, false, 3, pI_X8_wordKind, [(14, []), (29, []), (44, []), (59, []), (74, []), (89, []), (104, []), (119, []), (134, []), (149, []), (164, []), (179, []), (194, []), (209, []), (224, []), (239, []), (243, [])])),
  ((yX8_spells, cX8_spells, 5, (some .boolean)), (8, false, 5, pI_X8_spells, [(11, []), (15, [0, 1, 3, 4]), (42, []), (50, [])])),
  ((yX8_isSmall, cX8_isSmall, 1, (some .boolean)), (8, false, 1, pI_X8_isSmall, [(17, [])])),
  ((yX8_isCapital, cX8_isCapital, 1, (some .boolean)), (8, false, 1, pI_X8_isCapital, [(17, [])])),
  ((yX8_isDigit, cX8_isDigit, 1, (some .boolean)), (8, false, 1, pI_X8_isDigit, [(17, [])])),
  ((yX8_isSign, cX8_isSign, 1, (some .boolean)), (8, false, 1, pI_X8_isSign, [(14, [])])),
  ((yX9_init, cX9_init, 1, none), (9, true, 1, pI_X9_init, [(41, [])])),
  ((yX9_clear, cX9_clear, 1, none), (9, false, 1, pI_X9_clear, [(10, [])]))]
def pg_ML4 : List ((MethodName × ByteArray × Nat × Option FieldType) × q_R) := [((yX9_add, cX9_add, 4, none), (9, false, 4, pI_X9_add, [(59, [])])),
  ((yX9_nextKind, cX9_nextKind, 1, (some .int)), (9, false, 1, pI_X9_nextKind, [(45, [])])),
  ((yX9_nextPlace, cX9_nextPlace, 1, (some .int)), (9, false, 1, pI_X9_nextPlace, [(43, [])])),
  ((yX9_nextNumber, cX9_nextNumber, 1, (some .int)), (9, false, 1, pI_X9_nextNumber, [(43, [])])),
  ((yX9_advance, cX9_advance, 1, none), (9, false, 1, pI_X9_advance, [(23, [])])),
  ((yX9_take, cX9_take, 2, (some .boolean)), (9, false, 2, pI_X9_take, [(9, []), (15, [])])),
  ((yX10_init, cX10_init, 1, none), (10, true, 1, pI_X10_init, [(23, [])])),
  ((yX10_size, cX10_size, 1, (some .int)), (10, false, 1, pI_X10_size, [(4, [])])),
  ((yX10_clear, cX10_clear, 1, none), (10, false, 1, pI_X10_clear, [(5, [])])),
  ((yX10_put, cX10_put, 3, (some .boolean)), (10, false, 3, pI_X10_put, [(16, []), (48, [])])),
  ((yX10_numberAt, cX10_numberAt, 2, (some .int)), (10, false, 2, pI_X10_numberAt, [(19, [])])),
  ((yX10_unknownAt, cX10_unknownAt, 2, (some .boolean)), (10, false, 2, pI_X10_unknownAt, [(23, [])])),
  ((yX11_init, cX11_init, 1, none), (11, true, 1, pI_X11_init, [(141, [])])),
  ((yX11_declare, cX11_declare, 3, (some .boolean)), (11, false, 3, pI_X11_declare, [(13, []), (31, [])])),
  ((yX11_value, cX11_value, 2, (some .boolean)), (11, false, 2, pI_X11_value, [(9, [])])),
  ((yX11_nothing, cX11_nothing, 1, (some .boolean)), (11, false, 1, pI_X11_nothing, [(9, [])])),
  ((yX11_row, cX11_row, 5, (some .int)), (11, false, 5, pI_X11_row, [(50, [0, 1, 3, 4]), (82, []), (97, []), (115, [])])),
  ((yX11_drop, cX11_drop, 2, (some .int)), (11, false, 2, pI_X11_drop, [(8, [])])),
  ((yX11_ask, cX11_ask, 2, (some .boolean)), (11, false, 2, pI_X11_ask, [(8, [])])),
  ((yX11_compile, cX11_compile, 1, (some .int)), (11, false, 1, pI_X11_compile, [(81, []), (105, [])])),
  ((yX11_place, cX11_place, 1, (some .int)), (11, false, 1, pI_X11_place, [(4, [])])),
  ((yX11_run, cX11_run, 1, (some .int)), (11, false, 1, pI_X11_run, [(7, []), (35, []), (52, [])])),
  ((yX11_looked, cX11_looked, 1, (some .int)), (11, false, 1, pI_X11_looked, [(7, [])])),
  ((yX11_rows, cX11_rows, 1, (some .int)), (11, false, 1, pI_X11_rows, [(7, [])])),
  ((yX11_isNull, cX11_isNull, 3, (some .boolean)), (11, false, 3, pI_X11_isNull, [(29, [])])),
  ((yX11_result, cX11_result, 3, (some .long)), (11, false, 3, pI_X11_result, [(25, [])])),
  ((yX11_get, cX11_get, 2, (some .int)), (11, false, 2, pI_X11_get, [(17, [])])),
  ((yX12_init, cX12_init, 1, none), (12, true, 1, pI_X12_init, [(346, [])])),
  ((yX12_thrown, cX12_thrown, 1, (some .int)), (12, false, 1, pI_X12_thrown, [(4, [])])),
  ((yX12_fail, cX12_fail, 2, (some .int)), (12, false, 2, pI_X12_fail, [(6, [])]))]
def pg_ML5 : List ((MethodName × ByteArray × Nat × Option FieldType) × q_R) := [((yX12_isTable, cX12_isTable, 2, (some .boolean)), (12, false, 2, pI_X12_isTable, [(23, [])])),
  ((yX12_declare, cX12_declare, 4, (some .boolean)), (12, false, 4, pI_X12_declare, [(25, []), (42, [0, 1, 3]), (72, [])])),
  ((yX12_put, cX12_put, 3, (some .boolean)), (12, false, 3, pI_X12_put, [(9, []), (41, [])])),
  ((yX12_value, cX12_value, 2, (some .boolean)), (12, false, 2, pI_X12_value, [(11, [])])),
  ((yX12_nothing, cX12_nothing, 1, (some .boolean)), (12, false, 1, pI_X12_nothing, [(11, [])])),
  ((yX12_row, cX12_row, 4, (some .int)), (12, false, 4, pI_X12_row, [(28, []), (44, []), (61, []), (64, [0, 1, 2, 3]), (143, [])])),
  ((yX12_drop, cX12_drop, 3, (some .int)), (12, false, 3, pI_X12_drop, [(14, []), (25, []), (41, [0, 1, 2]), (98, [])])),
  ((yX12_ask, cX12_ask, 2, (some .boolean)), (12, false, 2, pI_X12_ask, [(28, []), (50, [])])),
  ((yX12_at, cX12_at, 2, (some .char)), (12, false, 2, pI_X12_at, [(18, [])])),
  ((yX12_isSmall, cX12_isSmall, 1, (some .boolean)), (12, false, 1, pI_X12_isSmall, [(17, [])])),
  ((yX12_isDigit, cX12_isDigit, 1, (some .boolean)), (12, false, 1, pI_X12_isDigit, [(17, [])])),
  ((yX12_stop, cX12_stop, 2, none), (12, false, 2, pI_X12_stop, [(17, [])])),
  ((yX12_readWord, cX12_readWord, 4, (some .int)), (12, false, 4, pI_X12_readWord, [(4, [0, 1, 2]), (80, []), (98, []), (101, [0, 1, 2, 3]), (128, []), (138, [])])),
  ((yX12_readNumeral, cX12_readNumeral, 5, (some .int)), (12, false, 5, pI_X12_readNumeral, [(38, [0, 1, 2, 3, 4]), (133, [])])),
  ((yX12_look, cX12_look, 3, (some .int)), (12, false, 3, pI_X12_look, [(42, []), (43, [0]), (139, [0, 1, 2]), (259, [0]), (267, []), (287, [])])),
  ((yX12_wrong, cX12_wrong, 1, none), (12, false, 1, pI_X12_wrong, [(25, [])])),
  ((yX12_take, cX12_take, 2, (some .boolean)), (12, false, 2, pI_X12_take, [(16, []), (28, [])])),
  ((yX12_want, cX12_want, 2, none), (12, false, 2, pI_X12_want, [(12, [])])),
  ((yX12_isIn, cX12_isIn, 3, (some .boolean)), (12, false, 3, pI_X12_isIn, [(17, [])])),
  ((yX12_readColumn, cX12_readColumn, 1, none), (12, false, 1, pI_X12_readColumn, [(51, []), (83, [])])),
  ((yX12_readOut, cX12_readOut, 2, none), (12, false, 2, pI_X12_readOut, [(126, [])])),
  ((yX12_readOuts, cX12_readOuts, 1, none), (12, false, 1, pI_X12_readOuts, [(23, [0]), (54, [])])),
  ((yX12_readOperand, cX12_readOperand, 2, none), (12, false, 2, pI_X12_readOperand, [(34, [])])),
  ((yX12_readComparison, cX12_readComparison, 2, none), (12, false, 2, pI_X12_readComparison, [(11, []), (83, [])])),
  ((yX12_closeNots, cX12_closeNots, 1, none), (12, false, 1, pI_X12_closeNots, [(0, [0]), (37, [])])),
  ((yX12_readCondition, cX12_readCondition, 3, none), (12, false, 3, pI_X12_readCondition, [(7, [0, 1]), (89, [0]), (162, [0, 1]), (187, [])])),
  ((yX12_readItem, cX12_readItem, 3, none), (12, false, 3, pI_X12_readItem, [(76, [0]), (114, [0]), (182, [])])),
  ((yX12_readGroup, cX12_readGroup, 2, none), (12, false, 2, pI_X12_readGroup, [(22, []), (25, [0, 1]), (96, [])])),
  ((yX12_readQuery, cX12_readQuery, 3, none), (12, false, 3, pI_X12_readQuery, [(37, [0, 1]), (110, [0]), (173, [])])),
  ((yX12_spot, cX12_spot, 3, none), (12, false, 3, pI_X12_spot, [(32, [])]))]
def pg_ML6 : List ((MethodName × ByteArray × Nat × Option FieldType) × q_R) := [((yX12_itemOf, cX12_itemOf, 3, (some .int)), (12, false, 3, pI_X12_itemOf, [(2, [0, 1, 2]), (33, []), (41, [])])),
  ((yX12_columnOf, cX12_columnOf, 2, (some .int)), (12, false, 2, pI_X12_columnOf, [(12, [])])),
  ((yX12_checkColumn, cX12_checkColumn, 4, none), (12, false, 4, pI_X12_checkColumn, [(47, [])])),
  ((yX12_checkRange, cX12_checkRange, 5, none), (12, false, 5, pI_X12_checkRange, [(3, [0, 2, 3, 4]), (39, [])])),
  ((yX12_isGrouped, cX12_isGrouped, 4, (some .boolean)), (12, false, 4, pI_X12_isGrouped, [(4, [0, 1, 2, 3]), (65, [])])),
  ((yX12_checkAll, cX12_checkAll, 2, none), (12, false, 2, pI_X12_checkAll, [(18, [0, 1]), (59, [0, 1]), (143, [0, 1]), (247, [0, 1]), (275, [])])),
  ((yX12_addPart, cX12_addPart, 5, none), (12, false, 5, pI_X12_addPart, [(32, [0, 2, 3]), (116, [])])),
  ((yX12_findParts, cX12_findParts, 5, none), (12, false, 5, pI_X12_findParts, [(16, []), (26, [0, 1, 2, 3]), (113, [0, 1, 2, 3, 4]), (208, [])])),
  ((yX12_compile, cX12_compile, 1, (some .int)), (12, false, 1, pI_X12_compile, [(86, []), (100, [])])),
  ((yX12_place, cX12_place, 1, (some .int)), (12, false, 1, pI_X12_place, [(9, [])])),
  ((yX12_takeOperand, cX12_takeOperand, 3, (some .int)), (12, false, 3, pI_X12_takeOperand, [(34, []), (56, []), (74, [])])),
  ((yX12_fetch, cX12_fetch, 4, none), (12, false, 4, pI_X12_fetch, [(30, []), (52, [0, 3]), (85, [])])),
  ((yX12_not, cX12_not, 1, (some .int)), (12, false, 1, pI_X12_not, [(12, [])])),
  ((yX12_both, cX12_both, 2, (some .int)), (12, false, 2, pI_X12_both, [(27, [])])),
  ((yX12_either, cX12_either, 2, (some .int)), (12, false, 2, pI_X12_either, [(29, [])])),
  ((yX12_compare, cX12_compare, 7, (some .int)), (12, false, 7, pI_X12_compare, [(47, []), (131, [0, 2, 3, 6]), (161, [])])),
  ((yX12_truthOf, cX12_truthOf, 7, (some .int)), (12, false, 7, pI_X12_truthOf, [(22, [0, 2, 3, 4, 5]), (202, [0, 2, 3, 4, 5]), (261, [])])),
  ((yX12_passes, cX12_passes, 4, (some .boolean)), (12, false, 4, pI_X12_passes, [(4, [0, 1, 2, 3]), (59, [])])),
  ((yX12_sameKey, cX12_sameKey, 3, (some .boolean)), (12, false, 3, pI_X12_sameKey, [(2, [0, 1, 2]), (69, []), (77, [])])),
  ((yX12_newRow, cX12_newRow, 2, (some .boolean)), (12, false, 2, pI_X12_newRow, [(15, []), (23, [0, 1]), (57, [0, 1]), (108, [])])),
  ((yX12_groupRow, cX12_groupRow, 2, (some .int)), (12, false, 2, pI_X12_groupRow, [(2, [0, 1]), (19, []), (34, []), (37, [0, 1]), (119, [])])),
  ((yX12_gather, cX12_gather, 6, none), (12, false, 6, pI_X12_gather, [(17, []), (25, []), (126, [])])),
  ((yX12_found, cX12_found, 3, none), (12, false, 3, pI_X12_found, [(27, []), (32, []), (35, [0, 1, 2]), (100, [])])),
  ((yX12_fits, cX12_fits, 2, (some .boolean)), (12, false, 2, pI_X12_fits, [(25, [])])),
  ((yX12_third, cX12_third, 4, none), (12, false, 4, pI_X12_third, [(4, [0, 1, 2]), (63, [0, 1, 2, 3]), (105, []), (125, [])])),
  ((yX12_afterSecond, cX12_afterSecond, 1, none), (12, false, 1, pI_X12_afterSecond, [(19, [])])),
  ((yX12_second, cX12_second, 4, none), (12, false, 4, pI_X12_second, [(4, [0, 1, 2]), (63, [0, 1, 2, 3]), (105, []), (125, [])])),
  ((yX12_first, cX12_first, 2, none), (12, false, 2, pI_X12_first, [(2, [0, 1]), (77, [])])),
  ((yX12_run, cX12_run, 1, (some .int)), (12, false, 1, pI_X12_run, [(17, []), (67, []), (78, [])])),
  ((yX12_looked, cX12_looked, 1, (some .int)), (12, false, 1, pI_X12_looked, [(9, [])]))]
def pg_ML7 : List ((MethodName × ByteArray × Nat × Option FieldType) × q_R) := [((yX12_rows, cX12_rows, 1, (some .int)), (12, false, 1, pI_X12_rows, [(9, [])])),
  ((yX12_isThere, cX12_isThere, 3, (some .boolean)), (12, false, 3, pI_X12_isThere, [(29, [])])),
  ((yX12_isNull, cX12_isNull, 3, (some .boolean)), (12, false, 3, pI_X12_isNull, [(32, [])])),
  ((yX12_result, cX12_result, 3, (some .long)), (12, false, 3, pI_X12_result, [(41, [])])),
  ((yJ0_length_8abf5, cJ0_length_8abf5, 1, (some .int)), (14, false, 1, pI_J0_length_8abf5, [(10, [])])),
  ((yJ0_coder_7d493, cJ0_coder_7d493, 1, (some .byte)), (14, false, 1, pI_J0_coder_7d493, [(14, [])])),
  ((yJ0_charAt_5068e, cJ0_charAt_5068e, 2, (some .char)), (14, false, 2, pI_J0_charAt_5068e, [(15, []), (24, [])])),
  ((yJ0_isLatin1_aae02, cJ0_isLatin1_aae02, 1, (some .boolean)), (14, false, 1, pI_J0_isLatin1_aae02, [(18, [])])),
  ((yJ0_indexOf_0f7a4, cJ0_indexOf_0f7a4, 2, (some .int)), (14, false, 2, pI_J0_indexOf_0f7a4, [(6, [])])),
  ((yJ0_indexOf_7cf53, cJ0_indexOf_7cf53, 3, (some .int)), (14, false, 3, pI_J0_indexOf_7cf53, [(36, [])])),
  ((yJ1_charAt_3b067, cJ1_charAt_3b067, 2, (some .char)), (15, false, 2, pI_J1_charAt_3b067, [(14, [])])),
  ((yJ1_canEncode_9a6ad, cJ1_canEncode_9a6ad, 1, (some .boolean)), (15, false, 1, pI_J1_canEncode_9a6ad, [(16, [])])),
  ((yJ1_indexOf_4cfef, cJ1_indexOf_4cfef, 4, (some .int)), (15, false, 4, pI_J1_indexOf_4cfef, [(8, []), (28, []), (36, [])])),
  ((yJ1_indexOfChar_4cfef, cJ1_indexOfChar_4cfef, 6, (some .int)), (15, false, 6, pI_J1_indexOfChar_4cfef, [(7, [0, 3, 4, 5]), (24, []), (32, [])])),
  ((yJ0_checkIndex_df160, cJ0_checkIndex_df160, 2, none), (14, false, 2, [], [])),
  ((yJ9_max_7cf53, cJ9_max_7cf53, 2, (some .int)), (16, false, 2, pI_J9_max_7cf53, [(10, [])])),
  ((yJ9_max_f86c9, cJ9_max_f86c9, 4, (some .long)), (16, false, 4, pI_J9_max_f86c9, [(11, [])])),
  ((yJ9_min_7cf53, cJ9_min_7cf53, 2, (some .int)), (16, false, 2, pI_J9_min_7cf53, [(10, [])])),
  ((yJ9_min_f86c9, cJ9_min_f86c9, 4, (some .long)), (16, false, 4, pI_J9_min_f86c9, [(11, [])])),
  ((yJ6_compare_7cf53, cJ6_compare_7cf53, 2, (some .int)), (17, false, 2, pI_J6_compare_7cf53, [(19, [])])),
  ((yJ0_checkBoundsBeginEnd_23922, cJ0_checkBoundsBeginEnd_23922, 3, none), (14, false, 3, [], [])),
  ((yJ3_checkIndex_8e157, cJ3_checkIndex_8e157, 3, (some .int)), (19, false, 3, [], [])),
  ((yL_row, cL_row, 4, (some .int)), (13, false, 4, [], [])),
  ((yL_compile, cL_compile, 3, (some .int)), (13, false, 3, [], [])),
  ((yL_run, cL_run, 3, (some .int)), (13, false, 3, [], []))]
def pg_ML : List ((MethodName × ByteArray × Nat × Option FieldType) × q_R) := pg_ML0 ++ pg_ML1 ++ pg_ML2 ++ pg_ML3 ++ pg_ML4 ++ pg_ML5 ++ pg_ML6 ++ pg_ML7
def pg_D0 : (MethodName × ByteArray × Nat × Option FieldType) × q_R := ((⟨"", "", ""⟩, ⟨#[]⟩, 0, none), (0, false, 0, [], []))
def pg_MT : Nat → q_R := fun mid => (pg_ML.getD mid pg_D0).2
set_option maxRecDepth 100000 in
theorem pg_YML : pg_YM = pg_ML.map (·.1) := rfl
def pt_I (e : (MethodName × ByteArray × Nat × Option FieldType) × q_R) : Prop := e.2.2.2.2.1 = [] ∨ q_Iok e.1.2.1 e.2.2.2.2.1
set_option maxRecDepth 100000 in
theorem pt_MLall : pg_ML.all (fun e => plainFor e.1.1 && (decide (q_hh e.1.1 = none) || e.2.2.2.2.1.isEmpty) && decide (pg_Rn e.2.1 = e.1.1.cls) && (!e.2.2.1 || decide (e.1.1.name = "<init>"))) = true := by decide +kernel
theorem pt_I0 : ∀ e ∈ pg_ML0, pt_I e := List.forall_mem_cons.mpr ⟨Or.inr pK_X0_init, List.forall_mem_cons.mpr ⟨Or.inr pK_X0_clear, List.forall_mem_cons.mpr ⟨Or.inr pK_X0_height, List.forall_mem_cons.mpr ⟨Or.inr pK_X0_append, List.forall_mem_cons.mpr ⟨Or.inr pK_X0_has, List.forall_mem_cons.mpr ⟨Or.inr pK_X0_unknownAt, List.forall_mem_cons.mpr ⟨Or.inr pK_X0_numberAt, List.forall_mem_cons.mpr ⟨Or.inr pK_X0_set, List.forall_mem_cons.mpr ⟨Or.inr pK_X1_init, List.forall_mem_cons.mpr ⟨Or.inr pK_X1_firstIll, List.forall_mem_cons.mpr ⟨Or.inr pK_X1_noteIll, List.forall_mem_cons.mpr ⟨Or.inr pK_X1_checkItems, List.forall_mem_cons.mpr ⟨Or.inr pK_X1_checkColumns, List.forall_mem_cons.mpr ⟨Or.inr pK_X1_checkOuts, List.forall_mem_cons.mpr ⟨Or.inr pK_X2_init, List.forall_mem_cons.mpr ⟨Or.inr pK_X2_seen, List.forall_mem_cons.mpr ⟨Or.inr pK_X2_goThroughAll, List.forall_mem_cons.mpr ⟨Or.inr pK_X2_goThrough, List.forall_mem_cons.mpr ⟨Or.inr pK_X2_goOn, List.forall_mem_cons.mpr ⟨Or.inr pK_X2_gather, List.forall_mem_cons.mpr ⟨Or.inr pK_X2_lineOfGroup, List.forall_mem_cons.mpr ⟨Or.inr pK_X2_isOfGroup, List.forall_mem_cons.mpr ⟨Or.inr pK_X2_keyOf, List.forall_mem_cons.mpr ⟨Or.inr pK_X2_begin, List.forall_mem_cons.mpr ⟨Or.inr pK_X2_tally, List.forall_mem_cons.mpr ⟨Or.inr pK_X2_joined, List.forall_mem_cons.mpr ⟨Or.inr pK_X3_init, List.forall_mem_cons.mpr ⟨Or.inr pK_X3_clear, List.forall_mem_cons.mpr ⟨Or.inr pK_X3_count, List.forall_mem_cons.mpr ⟨Or.inr pK_X3_addColumn, fun _ h => absurd h List.not_mem_nil⟩⟩⟩⟩⟩⟩⟩⟩⟩⟩⟩⟩⟩⟩⟩⟩⟩⟩⟩⟩⟩⟩⟩⟩⟩⟩⟩⟩⟩⟩
theorem pt_I1 : ∀ e ∈ pg_ML1, pt_I e := List.forall_mem_cons.mpr ⟨Or.inr pK_X3_addConstant, List.forall_mem_cons.mpr ⟨Or.inr pK_X3_isColumn, List.forall_mem_cons.mpr ⟨Or.inr pK_X3_placeOf, List.forall_mem_cons.mpr ⟨Or.inr pK_X3_aliasOf, List.forall_mem_cons.mpr ⟨Or.inr pK_X3_letterOf, List.forall_mem_cons.mpr ⟨Or.inr pK_X3_lastItemOf, List.forall_mem_cons.mpr ⟨Or.inr pK_X3_itemOf, List.forall_mem_cons.mpr ⟨Or.inr pK_X3_setItem, List.forall_mem_cons.mpr ⟨Or.inr pK_X3_sameColumn, List.forall_mem_cons.mpr ⟨Or.inr pK_X3_numberOf, List.forall_mem_cons.mpr ⟨Or.inr pK_X3_unknownOf, List.forall_mem_cons.mpr ⟨Or.inr pK_X3_load, List.forall_mem_cons.mpr ⟨Or.inr pK_X4_init, List.forall_mem_cons.mpr ⟨Or.inr pK_X4_readQuery, List.forall_mem_cons.mpr ⟨Or.inr pK_X4_readOuts, List.forall_mem_cons.mpr ⟨Or.inr pK_X4_readOut, List.forall_mem_cons.mpr ⟨Or.inr pK_X4_readItem, List.forall_mem_cons.mpr ⟨Or.inr pK_X4_readJoined, List.forall_mem_cons.mpr ⟨Or.inr pK_X4_readWhere, List.forall_mem_cons.mpr ⟨Or.inr pK_X4_readGroup, List.forall_mem_cons.mpr ⟨Or.inr pK_X4_readCondition, List.forall_mem_cons.mpr ⟨Or.inr pK_X4_readConjunction, List.forall_mem_cons.mpr ⟨Or.inr pK_X4_readPart, List.forall_mem_cons.mpr ⟨Or.inr pK_X4_notePart, List.forall_mem_cons.mpr ⟨Or.inr pK_X4_readTest, List.forall_mem_cons.mpr ⟨Or.inr pK_X4_readComparison, List.forall_mem_cons.mpr ⟨Or.inr pK_X4_readOperand, List.forall_mem_cons.mpr ⟨Or.inr pK_X4_readColumn, List.forall_mem_cons.mpr ⟨Or.inr pK_X4_isAlias, List.forall_mem_cons.mpr ⟨Or.inr pK_X5_init, fun _ h => absurd h List.not_mem_nil⟩⟩⟩⟩⟩⟩⟩⟩⟩⟩⟩⟩⟩⟩⟩⟩⟩⟩⟩⟩⟩⟩⟩⟩⟩⟩⟩⟩⟩⟩
theorem pt_I2 : ∀ e ∈ pg_ML2, pt_I e := List.forall_mem_cons.mpr ⟨Or.inr pK_X5_clear, List.forall_mem_cons.mpr ⟨Or.inr pK_X5_settle, List.forall_mem_cons.mpr ⟨Or.inr pK_X5_operands, List.forall_mem_cons.mpr ⟨Or.inr pK_X5_steps, List.forall_mem_cons.mpr ⟨Or.inr pK_X5_addItem, List.forall_mem_cons.mpr ⟨Or.inr pK_X5_addOut, List.forall_mem_cons.mpr ⟨Or.inr pK_X5_addGrouped, List.forall_mem_cons.mpr ⟨Or.inr pK_X5_itemCount, List.forall_mem_cons.mpr ⟨Or.inr pK_X5_tableOf, List.forall_mem_cons.mpr ⟨Or.inr pK_X5_tablePlaceOf, List.forall_mem_cons.mpr ⟨Or.inr pK_X5_aliasOf, List.forall_mem_cons.mpr ⟨Or.inr pK_X5_aliasPlaceOf, List.forall_mem_cons.mpr ⟨Or.inr pK_X5_isLeft, List.forall_mem_cons.mpr ⟨Or.inr pK_X5_itemWith, List.forall_mem_cons.mpr ⟨Or.inr pK_X5_uses, List.forall_mem_cons.mpr ⟨Or.inr pK_X5_outCount, List.forall_mem_cons.mpr ⟨Or.inr pK_X5_outKind, List.forall_mem_cons.mpr ⟨Or.inr pK_X5_outColumn, List.forall_mem_cons.mpr ⟨Or.inr pK_X5_groupedCount, List.forall_mem_cons.mpr ⟨Or.inr pK_X5_groupColumn, List.forall_mem_cons.mpr ⟨Or.inr pK_X5_groupsBy, List.forall_mem_cons.mpr ⟨Or.inr pK_X5_gathers, List.forall_mem_cons.mpr ⟨Or.inr pK_X6_init, List.forall_mem_cons.mpr ⟨Or.inr pK_X6_clear, List.forall_mem_cons.mpr ⟨Or.inr pK_X6_count, List.forall_mem_cons.mpr ⟨Or.inr pK_X6_partCount, List.forall_mem_cons.mpr ⟨Or.inr pK_X6_add, List.forall_mem_cons.mpr ⟨Or.inr pK_X6_addPart, List.forall_mem_cons.mpr ⟨Or.inr pK_X6_settle, List.forall_mem_cons.mpr ⟨Or.inr pK_X6_lastItemIn, fun _ h => absurd h List.not_mem_nil⟩⟩⟩⟩⟩⟩⟩⟩⟩⟩⟩⟩⟩⟩⟩⟩⟩⟩⟩⟩⟩⟩⟩⟩⟩⟩⟩⟩⟩⟩
theorem pt_I3 : ∀ e ∈ pg_ML3, pt_I e := List.forall_mem_cons.mpr ⟨Or.inr pK_X6_allTrue, List.forall_mem_cons.mpr ⟨Or.inr pK_X6_truthOf, List.forall_mem_cons.mpr ⟨Or.inr pK_X6_turnTop, List.forall_mem_cons.mpr ⟨Or.inr pK_X6_joinTop, List.forall_mem_cons.mpr ⟨Or.inr pK_X6_testOf, List.forall_mem_cons.mpr ⟨Or.inr pK_X7_init, List.forall_mem_cons.mpr ⟨Or.inr pK_X7_width, List.forall_mem_cons.mpr ⟨Or.inr pK_X7_height, List.forall_mem_cons.mpr ⟨Or.inr pK_X7_make, List.forall_mem_cons.mpr ⟨Or.inr pK_X7_append, List.forall_mem_cons.mpr ⟨Or.inr pK_X7_dropFirst, List.forall_mem_cons.mpr ⟨Or.inr pK_X7_numberAt, List.forall_mem_cons.mpr ⟨Or.inr pK_X7_unknownAt, List.forall_mem_cons.mpr ⟨Or.inr pK_X7_cellOf, List.forall_mem_cons.mpr ⟨Or.inr pK_X8_init, List.forall_mem_cons.mpr ⟨Or.inr pK_X8_append, List.forall_mem_cons.mpr ⟨Or.inr pK_X8_clear, List.forall_mem_cons.mpr ⟨Or.inr pK_X8_splitInto, List.forall_mem_cons.mpr ⟨Or.inr pK_X8_codeAt, List.forall_mem_cons.mpr ⟨Or.inr pK_X8_readToken, List.forall_mem_cons.mpr ⟨Or.inr pK_X8_endOfWord, List.forall_mem_cons.mpr ⟨Or.inr pK_X8_readNumeral, List.forall_mem_cons.mpr ⟨Or.inr pK_X8_wordKind, List.forall_mem_cons.mpr ⟨Or.inr pK_X8_spells, List.forall_mem_cons.mpr ⟨Or.inr pK_X8_isSmall, List.forall_mem_cons.mpr ⟨Or.inr pK_X8_isCapital, List.forall_mem_cons.mpr ⟨Or.inr pK_X8_isDigit, List.forall_mem_cons.mpr ⟨Or.inr pK_X8_isSign, List.forall_mem_cons.mpr ⟨Or.inr pK_X9_init, List.forall_mem_cons.mpr ⟨Or.inr pK_X9_clear, fun _ h => absurd h List.not_mem_nil⟩⟩⟩⟩⟩⟩⟩⟩⟩⟩⟩⟩⟩⟩⟩⟩⟩⟩⟩⟩⟩⟩⟩⟩⟩⟩⟩⟩⟩⟩
theorem pt_I4 : ∀ e ∈ pg_ML4, pt_I e := List.forall_mem_cons.mpr ⟨Or.inr pK_X9_add, List.forall_mem_cons.mpr ⟨Or.inr pK_X9_nextKind, List.forall_mem_cons.mpr ⟨Or.inr pK_X9_nextPlace, List.forall_mem_cons.mpr ⟨Or.inr pK_X9_nextNumber, List.forall_mem_cons.mpr ⟨Or.inr pK_X9_advance, List.forall_mem_cons.mpr ⟨Or.inr pK_X9_take, List.forall_mem_cons.mpr ⟨Or.inr pK_X10_init, List.forall_mem_cons.mpr ⟨Or.inr pK_X10_size, List.forall_mem_cons.mpr ⟨Or.inr pK_X10_clear, List.forall_mem_cons.mpr ⟨Or.inr pK_X10_put, List.forall_mem_cons.mpr ⟨Or.inr pK_X10_numberAt, List.forall_mem_cons.mpr ⟨Or.inr pK_X10_unknownAt, List.forall_mem_cons.mpr ⟨Or.inr pK_X11_init, List.forall_mem_cons.mpr ⟨Or.inr pK_X11_declare, List.forall_mem_cons.mpr ⟨Or.inr pK_X11_value, List.forall_mem_cons.mpr ⟨Or.inr pK_X11_nothing, List.forall_mem_cons.mpr ⟨Or.inr pK_X11_row, List.forall_mem_cons.mpr ⟨Or.inr pK_X11_drop, List.forall_mem_cons.mpr ⟨Or.inr pK_X11_ask, List.forall_mem_cons.mpr ⟨Or.inr pK_X11_compile, List.forall_mem_cons.mpr ⟨Or.inr pK_X11_place, List.forall_mem_cons.mpr ⟨Or.inr pK_X11_run, List.forall_mem_cons.mpr ⟨Or.inr pK_X11_looked, List.forall_mem_cons.mpr ⟨Or.inr pK_X11_rows, List.forall_mem_cons.mpr ⟨Or.inr pK_X11_isNull, List.forall_mem_cons.mpr ⟨Or.inr pK_X11_result, List.forall_mem_cons.mpr ⟨Or.inr pK_X11_get, List.forall_mem_cons.mpr ⟨Or.inr pK_X12_init, List.forall_mem_cons.mpr ⟨Or.inr pK_X12_thrown, List.forall_mem_cons.mpr ⟨Or.inr pK_X12_fail, fun _ h => absurd h List.not_mem_nil⟩⟩⟩⟩⟩⟩⟩⟩⟩⟩⟩⟩⟩⟩⟩⟩⟩⟩⟩⟩⟩⟩⟩⟩⟩⟩⟩⟩⟩⟩
theorem pt_I5 : ∀ e ∈ pg_ML5, pt_I e := List.forall_mem_cons.mpr ⟨Or.inr pK_X12_isTable, List.forall_mem_cons.mpr ⟨Or.inr pK_X12_declare, List.forall_mem_cons.mpr ⟨Or.inr pK_X12_put, List.forall_mem_cons.mpr ⟨Or.inr pK_X12_value, List.forall_mem_cons.mpr ⟨Or.inr pK_X12_nothing, List.forall_mem_cons.mpr ⟨Or.inr pK_X12_row, List.forall_mem_cons.mpr ⟨Or.inr pK_X12_drop, List.forall_mem_cons.mpr ⟨Or.inr pK_X12_ask, List.forall_mem_cons.mpr ⟨Or.inr pK_X12_at, List.forall_mem_cons.mpr ⟨Or.inr pK_X12_isSmall, List.forall_mem_cons.mpr ⟨Or.inr pK_X12_isDigit, List.forall_mem_cons.mpr ⟨Or.inr pK_X12_stop, List.forall_mem_cons.mpr ⟨Or.inr pK_X12_readWord, List.forall_mem_cons.mpr ⟨Or.inr pK_X12_readNumeral, List.forall_mem_cons.mpr ⟨Or.inr pK_X12_look, List.forall_mem_cons.mpr ⟨Or.inr pK_X12_wrong, List.forall_mem_cons.mpr ⟨Or.inr pK_X12_take, List.forall_mem_cons.mpr ⟨Or.inr pK_X12_want, List.forall_mem_cons.mpr ⟨Or.inr pK_X12_isIn, List.forall_mem_cons.mpr ⟨Or.inr pK_X12_readColumn, List.forall_mem_cons.mpr ⟨Or.inr pK_X12_readOut, List.forall_mem_cons.mpr ⟨Or.inr pK_X12_readOuts, List.forall_mem_cons.mpr ⟨Or.inr pK_X12_readOperand, List.forall_mem_cons.mpr ⟨Or.inr pK_X12_readComparison, List.forall_mem_cons.mpr ⟨Or.inr pK_X12_closeNots, List.forall_mem_cons.mpr ⟨Or.inr pK_X12_readCondition, List.forall_mem_cons.mpr ⟨Or.inr pK_X12_readItem, List.forall_mem_cons.mpr ⟨Or.inr pK_X12_readGroup, List.forall_mem_cons.mpr ⟨Or.inr pK_X12_readQuery, List.forall_mem_cons.mpr ⟨Or.inr pK_X12_spot, fun _ h => absurd h List.not_mem_nil⟩⟩⟩⟩⟩⟩⟩⟩⟩⟩⟩⟩⟩⟩⟩⟩⟩⟩⟩⟩⟩⟩⟩⟩⟩⟩⟩⟩⟩⟩
theorem pt_I6 : ∀ e ∈ pg_ML6, pt_I e := List.forall_mem_cons.mpr ⟨Or.inr pK_X12_itemOf, List.forall_mem_cons.mpr ⟨Or.inr pK_X12_columnOf, List.forall_mem_cons.mpr ⟨Or.inr pK_X12_checkColumn, List.forall_mem_cons.mpr ⟨Or.inr pK_X12_checkRange, List.forall_mem_cons.mpr ⟨Or.inr pK_X12_isGrouped, List.forall_mem_cons.mpr ⟨Or.inr pK_X12_checkAll, List.forall_mem_cons.mpr ⟨Or.inr pK_X12_addPart, List.forall_mem_cons.mpr ⟨Or.inr pK_X12_findParts, List.forall_mem_cons.mpr ⟨Or.inr pK_X12_compile, List.forall_mem_cons.mpr ⟨Or.inr pK_X12_place, List.forall_mem_cons.mpr ⟨Or.inr pK_X12_takeOperand, List.forall_mem_cons.mpr ⟨Or.inr pK_X12_fetch, List.forall_mem_cons.mpr ⟨Or.inr pK_X12_not, List.forall_mem_cons.mpr ⟨Or.inr pK_X12_both, List.forall_mem_cons.mpr ⟨Or.inr pK_X12_either, List.forall_mem_cons.mpr ⟨Or.inr pK_X12_compare, List.forall_mem_cons.mpr ⟨Or.inr pK_X12_truthOf, List.forall_mem_cons.mpr ⟨Or.inr pK_X12_passes, List.forall_mem_cons.mpr ⟨Or.inr pK_X12_sameKey, List.forall_mem_cons.mpr ⟨Or.inr pK_X12_newRow, List.forall_mem_cons.mpr ⟨Or.inr pK_X12_groupRow, List.forall_mem_cons.mpr ⟨Or.inr pK_X12_gather, List.forall_mem_cons.mpr ⟨Or.inr pK_X12_found, List.forall_mem_cons.mpr ⟨Or.inr pK_X12_fits, List.forall_mem_cons.mpr ⟨Or.inr pK_X12_third, List.forall_mem_cons.mpr ⟨Or.inr pK_X12_afterSecond, List.forall_mem_cons.mpr ⟨Or.inr pK_X12_second, List.forall_mem_cons.mpr ⟨Or.inr pK_X12_first, List.forall_mem_cons.mpr ⟨Or.inr pK_X12_run, List.forall_mem_cons.mpr ⟨Or.inr pK_X12_looked, fun _ h => absurd h List.not_mem_nil⟩⟩⟩⟩⟩⟩⟩⟩⟩⟩⟩⟩⟩⟩⟩⟩⟩⟩⟩⟩⟩⟩⟩⟩⟩⟩⟩⟩⟩⟩
theorem pt_I7 : ∀ e ∈ pg_ML7, pt_I e := List.forall_mem_cons.mpr ⟨Or.inr pK_X12_rows, List.forall_mem_cons.mpr ⟨Or.inr pK_X12_isThere, List.forall_mem_cons.mpr ⟨Or.inr pK_X12_isNull, List.forall_mem_cons.mpr ⟨Or.inr pK_X12_result, List.forall_mem_cons.mpr ⟨Or.inr pK_J0_length_8abf5, List.forall_mem_cons.mpr ⟨Or.inr pK_J0_coder_7d493, List.forall_mem_cons.mpr ⟨Or.inr pK_J0_charAt_5068e, List.forall_mem_cons.mpr ⟨Or.inr pK_J0_isLatin1_aae02, List.forall_mem_cons.mpr ⟨Or.inr pK_J0_indexOf_0f7a4, List.forall_mem_cons.mpr ⟨Or.inr pK_J0_indexOf_7cf53, List.forall_mem_cons.mpr ⟨Or.inr pK_J1_charAt_3b067, List.forall_mem_cons.mpr ⟨Or.inr pK_J1_canEncode_9a6ad, List.forall_mem_cons.mpr ⟨Or.inr pK_J1_indexOf_4cfef, List.forall_mem_cons.mpr ⟨Or.inr pK_J1_indexOfChar_4cfef, List.forall_mem_cons.mpr ⟨Or.inl rfl, List.forall_mem_cons.mpr ⟨Or.inr pK_J9_max_7cf53, List.forall_mem_cons.mpr ⟨Or.inr pK_J9_max_f86c9, List.forall_mem_cons.mpr ⟨Or.inr pK_J9_min_7cf53, List.forall_mem_cons.mpr ⟨Or.inr pK_J9_min_f86c9, List.forall_mem_cons.mpr ⟨Or.inr pK_J6_compare_7cf53, List.forall_mem_cons.mpr ⟨Or.inl rfl, List.forall_mem_cons.mpr ⟨Or.inl rfl, List.forall_mem_cons.mpr ⟨Or.inl rfl, List.forall_mem_cons.mpr ⟨Or.inl rfl, List.forall_mem_cons.mpr ⟨Or.inl rfl, fun _ h => absurd h List.not_mem_nil⟩⟩⟩⟩⟩⟩⟩⟩⟩⟩⟩⟩⟩⟩⟩⟩⟩⟩⟩⟩⟩⟩⟩⟩⟩
theorem pt_Iall : ∀ e ∈ pg_ML, pt_I e := by
  unfold pg_ML
  exact List.forall_mem_append.mpr ⟨List.forall_mem_append.mpr ⟨List.forall_mem_append.mpr ⟨List.forall_mem_append.mpr ⟨List.forall_mem_append.mpr ⟨List.forall_mem_append.mpr ⟨List.forall_mem_append.mpr ⟨pt_I0, pt_I1⟩, pt_I2⟩, pt_I3⟩, pt_I4⟩, pt_I5⟩, pt_I6⟩, pt_I7⟩
theorem pg_MTok : q_MTok pg_ym pg_MT pg_Rn := by
  intro mid
  unfold pg_ym pg_MT
  rw [pg_YML]
  rcases hm : pg_ML[mid]? with _ | x
  · rw [List.getD_eq_getElem?_getD (l := pg_ML), hm]
    exact Or.inl rfl
  · rw [List.getD_eq_getElem?_getD (l := pg_ML), List.getD_eq_getElem?_getD, List.getElem?_map, hm]
    have hx := List.mem_of_getElem? hm
    have h1 := List.all_eq_true.mp pt_MLall x hx
    simp only [Bool.and_eq_true, decide_eq_true_eq, Bool.or_eq_true, Bool.not_eq_true'] at h1
    rcases pt_Iall x hx with h2 | h2
    · exact Or.inl h2
    · rcases h1.1.1.2 with h3 | h3
      case inr => exact Or.inl (List.isEmpty_iff.mp h3)
      exact Or.inr ⟨h1.1.1.1, h3, h2, h1.1.2, fun h => h1.2.resolve_left (by intro z; have h : x.2.2.1 = true := h; rw [h] at z; cases z)⟩
