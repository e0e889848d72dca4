def pI_X12_looked : q_I := [(0, .aload_n 0, 1), (1, .iconst 0, 1), (2, .putfield 118, 3), (5, .aload_n 0, 1), (6, .getfield 330, 3), (9, .ireturn, 1)]
set_option maxRecDepth 100000 in
theorem pK_X12_looked : q_Iok cX12_looked pI_X12_looked := ⟨by decide +kernel, by decide +kernel⟩
def pI_X12_rows : q_I := [(0, .aload_n 0, 1), (1, .iconst 0, 1), (2, .putfield 118, 3), (5, .aload_n 0, 1), (6, .getfield 271, 3), (9, .ireturn, 1)]
set_option maxRecDepth 100000 in
theorem pK_X12_rows : q_Iok cX12_rows pI_X12_rows := ⟨by decide +kernel, by decide +kernel⟩
def pI_X12_isThere : q_I := [(0, .iload_n 1, 1), (1, .ifCond .lt 27, 3), (4, .iload_n 1, 1), (5, .aload_n 0, 1), (6, .getfield 271, 3), (9, .if_icmp .ge 19, 3), (12, .iload_n 2, 1), (13, .ifCond .lt 15, 3), (16, .iload_n 2, 1), (17, .aload_n 0, 1), (18, .getfield 199, 3), (21, .if_icmp .ge 7, 3), (24, .iconst 1, 1), (25, .goto 4, 3), (28, .iconst 0, 1), (29, .ireturn, 1)]
set_option maxRecDepth 100000 in
theorem pK_X12_isThere : q_Iok cX12_isThere pI_X12_isThere := ⟨by decide +kernel, by decide +kernel⟩
def pI_X12_isNull : q_I := [(0, .aload_n 0, 1), (1, .iconst 0, 1), (2, .putfield 118, 3), (5, .aload_n 0, 1), (6, .iload_n 1, 1), (7, .iload_n 2, 1), (8, .invokevirtual 354, 3), (11, .ifCond .eq 20, 3), (14, .aload_n 0, 1), (15, .getfield 105, 3), (18, .iconst 4, 1), (19, .iload_n 1, 1), (20, .imul, 1), (21, .iload_n 2, 1), (22, .iadd, 1), (23, .baload, 1), (24, .ifCond .eq 7, 3), (27, .iconst 1, 1), (28, .goto 4, 3), (31, .iconst 0, 1), (32, .ireturn, 1)]
set_option maxRecDepth 100000 in
theorem pK_X12_isNull : q_Iok cX12_isNull pI_X12_isNull := ⟨by decide +kernel, by decide +kernel⟩
def pI_X12_result : q_I := [(0, .aload_n 0, 1), (1, .iconst 0, 1), (2, .putfield 118, 3), (5, .aload_n 0, 1), (6, .iload_n 1, 1), (7, .iload_n 2, 1), (8, .invokevirtual 354, 3), (11, .ifCond .eq 16, 3), (14, .aload_n 0, 1), (15, .getfield 105, 3), (18, .iconst 4, 1), (19, .iload_n 1, 1), (20, .imul, 1), (21, .iload_n 2, 1), (22, .iadd, 1), (23, .baload, 1), (24, .ifCond .eq 7, 3), (27, .lconst 0, 1), (28, .goto 13, 3), (31, .aload_n 0, 1), (32, .getfield 108, 3), (35, .iconst 4, 1), (36, .iload_n 1, 1), (37, .imul, 1), (38, .iload_n 2, 1), (39, .iadd, 1), (40, .laload, 1), (41, .lreturn, 1)]
set_option maxRecDepth 100000 in
theorem pK_X12_result : q_Iok cX12_result pI_X12_result := ⟨by decide +kernel, by decide +kernel⟩
def pI_J0_length_8abf5 : q_I := [(0, .aload_n 0, 1), (1, .getfield 9, 3), (4, .arraylength, 1), (5, .aload_n 0, 1), (6, .invokevirtual 335, 3), (9, .ishr, 1), (10, .ireturn, 1)]
set_option maxRecDepth 100000 in
theorem pK_J0_length_8abf5 : q_Iok cJ0_length_8abf5 pI_J0_length_8abf5 := ⟨by decide +kernel, by decide +kernel⟩
def pI_J0_coder_7d493 : q_I := [(0, .getstatic 38, 3), (3, .ifCond .eq 10, 3), (6, .aload_n 0, 1), (7, .getfield 15, 3), (10, .goto 4, 3), (13, .iconst 1, 1), (14, .ireturn, 1)]
set_option maxRecDepth 100000 in
theorem pK_J0_coder_7d493 : q_Iok cJ0_coder_7d493 pI_J0_coder_7d493 := ⟨by decide +kernel, by decide +kernel⟩
def pI_J0_charAt_5068e : q_I := [(0, .aload_n 0, 1), (1, .invokevirtual 492, 3), (4, .ifCond .eq 12, 3), (7, .aload_n 0, 1), (8, .getfield 9, 3), (11, .iload_n 1, 1), (12, .invokestatic 495, 3), (15, .ireturn, 1), (16, .aload_n 0, 1), (17, .getfield 9, 3), (20, .iload_n 1, 1), (21, .invokestatic 498, 3), (24, .ireturn, 1)]
set_option maxRecDepth 100000 in
theorem pK_J0_charAt_5068e : q_Iok cJ0_charAt_5068e pI_J0_charAt_5068e := ⟨by decide +kernel, by decide +kernel⟩
def pI_J0_isLatin1_aae02 : q_I := [(0, .getstatic 38, 3), (3, .ifCond .eq 14, 3), (6, .aload_n 0, 1), (7, .getfield 15, 3), (10, .ifCond .ne 7, 3), (13, .iconst 1, 1), (14, .goto 4, 3), (17, .iconst 0, 1), (18, .ireturn, 1)]
set_option maxRecDepth 100000 in
theorem pK_J0_isLatin1_aae02 : q_Iok cJ0_isLatin1_aae02 pI_J0_isLatin1_aae02 := ⟨by decide +kernel, by decide +kernel⟩
def pI_J0_indexOf_0f7a4 : q_I := [(0, .aload_n 0, 1), (1, .iload_n 1, 1), (2, .iconst 0, 1), (3, .invokevirtual 633, 3), (6, .ireturn, 1)]
set_option maxRecDepth 100000 in
theorem pK_J0_indexOf_0f7a4 : q_Iok cJ0_indexOf_0f7a4 pI_J0_indexOf_0f7a4 := ⟨by decide +kernel, by decide +kernel⟩
def pI_J0_indexOf_7cf53 : q_I := [(0, .aload_n 0, 1), (1, .invokevirtual 492, 3), (4, .ifCond .eq 19, 3), (7, .aload_n 0, 1), (8, .getfield 9, 3), (11, .iload_n 1, 1), (12, .iload_n 2, 1), (13, .aload_n 0, 1), (14, .invokevirtual 505, 3), (17, .invokestatic 637, 3), (20, .goto 16, 3), (23, .aload_n 0, 1), (24, .getfield 9, 3), (27, .iload_n 1, 1), (28, .iload_n 2, 1), (29, .aload_n 0, 1), (30, .invokevirtual 505, 3), (33, .invokestatic 640, 3), (36, .ireturn, 1)]
set_option maxRecDepth 100000 in
theorem pK_J0_indexOf_7cf53 : q_Iok cJ0_indexOf_7cf53 pI_J0_indexOf_7cf53 := ⟨by decide +kernel, by decide +kernel⟩
def pI_J1_charAt_3b067 : q_I := [(0, .iload_n 1, 1), (1, .aload_n 0, 1), (2, .arraylength, 1), (3, .invokestatic 9, 3), (6, .aload_n 0, 1), (7, .iload_n 1, 1), (8, .baload, 1), (9, .sipush 255, 3), (12, .iand, 1), (13, .i2c, 1), (14, .ireturn, 1)]
set_option maxRecDepth 100000 in
theorem pK_J1_charAt_3b067 : q_Iok cJ1_charAt_3b067 pI_J1_charAt_3b067 := ⟨by decide +kernel, by decide +kernel⟩
def pI_J1_canEncode_9a6ad : q_I := [(0, .iload_n 0, 1), (1, .ifCond .lt 14, 3), (4, .iload_n 0, 1), (5, .sipush 255, 3), (8, .if_icmp .gt 7, 3), (11, .iconst 1, 1), (12, .goto 4, 3), (15, .iconst 0, 1), (16, .ireturn, 1)]
set_option maxRecDepth 100000 in
theorem pK_J1_canEncode_9a6ad : q_Iok cJ1_canEncode_9a6ad pI_J1_canEncode_9a6ad := ⟨by decide +kernel, by decide +kernel⟩
def pI_J1_indexOf_4cfef : q_I := [(0, .iload_n 1, 1), (1, .invokestatic 88, 3), (4, .ifCond .ne 5, 3), (7, .iconst (-1), 1), (8, .ireturn, 1), (9, .iload_n 2, 1), (10, .iconst 0, 1), (11, .invokestatic 92, 3), (14, .istore_n 2, 1), (15, .iload_n 3, 1), (16, .aload_n 0, 1), (17, .arraylength, 1), (18, .invokestatic 38, 3), (21, .istore_n 3, 1), (22, .iload_n 2, 1), (23, .iload_n 3, 1), (24, .if_icmp .lt 5, 3), (27, .iconst (-1), 1), (28, .ireturn, 1), (29, .aload_n 0, 1), (30, .iload_n 1, 1), (31, .iload_n 2, 1), (32, .iload_n 3, 1), (33, .invokestatic 95, 3), (36, .ireturn, 1)]
set_option maxRecDepth 100000 in
theorem pK_J1_indexOf_4cfef : q_Iok cJ1_indexOf_4cfef pI_J1_indexOf_4cfef := ⟨by decide +kernel, by decide +kernel⟩
def pI_J1_indexOfChar_4cfef : q_I := [(0, .iload_n 1, 1), (1, .i2b, 1), (2, .istore 4, 2), (4, .iload_n 2, 1), (5, .istore 5, 2), (7, .iload 5, 2), (9, .iload_n 3, 1), (10, .if_icmp .ge 21, 3), (13, .aload_n 0, 1), (14, .iload 5, 2), (16, .baload, 1), (17, .iload 4, 2), (19, .if_icmp .ne 6, 3), (22, .iload 5, 2), (24, .ireturn, 1), (25, .iinc 5 1, 3), (28, .goto (-21), 3), (31, .iconst (-1), 1), (32, .ireturn, 1)]
set_option maxRecDepth 100000 in
theorem pK_J1_indexOfChar_4cfef : q_Iok cJ1_indexOfChar_4cfef pI_J1_indexOfChar_4cfef := ⟨by decide +kernel, by decide +kernel⟩
def pI_J0_checkIndex_df160 : q_I := [(0, .iload_n 0, 1), (1, .iload_n 1, 1), (2, .getstatic 1053, 3), (5, .invokestatic 1059, 3), (8, .pop, 1), (9, .return_, 1)]
set_option maxRecDepth 100000 in
theorem pK_J0_checkIndex_df160 : q_Iok cJ0_checkIndex_df160 pI_J0_checkIndex_df160 := ⟨by decide +kernel, by decide +kernel⟩
def pI_J9_max_7cf53 : q_I := [(0, .iload_n 0, 1), (1, .iload_n 1, 1), (2, .if_icmp .lt 7, 3), (5, .iload_n 0, 1), (6, .goto 4, 3), (9, .iload_n 1, 1), (10, .ireturn, 1)]
set_option maxRecDepth 100000 in
theorem pK_J9_max_7cf53 : q_Iok cJ9_max_7cf53 pI_J9_max_7cf53 := ⟨by decide +kernel, by decide +kernel⟩
def pI_J9_max_f86c9 : q_I := [(0, .lload_n 0, 1), (1, .lload_n 2, 1), (2, .lcmp, 1), (3, .ifCond .lt 7, 3), (6, .lload_n 0, 1), (7, .goto 4, 3), (10, .lload_n 2, 1), (11, .lreturn, 1)]
set_option maxRecDepth 100000 in
theorem pK_J9_max_f86c9 : q_Iok cJ9_max_f86c9 pI_J9_max_f86c9 := ⟨by decide +kernel, by decide +kernel⟩
def pI_J9_min_7cf53 : q_I := [(0, .iload_n 0, 1), (1, .iload_n 1, 1), (2, .if_icmp .gt 7, 3), (5, .iload_n 0, 1), (6, .goto 4, 3), (9, .iload_n 1, 1), (10, .ireturn, 1)]
set_option maxRecDepth 100000 in
theorem pK_J9_min_7cf53 : q_Iok cJ9_min_7cf53 pI_J9_min_7cf53 := ⟨by decide +kernel, by decide +kernel⟩
def pI_J9_min_f86c9 : q_I := [(0, .lload_n 0, 1), (1, .lload_n 2, 1), (2, .lcmp, 1), (3, .ifCond .gt 7, 3), (6, .lload_n 0, 1), (7, .goto 4, 3), (10, .lload_n 2, 1), (11, .lreturn, 1)]
set_option maxRecDepth 100000 in
theorem pK_J9_min_f86c9 : q_Iok cJ9_min_f86c9 pI_J9_min_f86c9 := ⟨by decide +kernel, by decide +kernel⟩
def pI_J6_compare_7cf53 : q_I := [(0, .iload_n 0, 1), (1, .iload_n 1, 1), (2, .if_icmp .ge 7, 3), (5, .iconst (-1), 1), (6, .goto 13, 3), (9, .iload_n 0, 1), (10, .iload_n 1, 1), (11, .if_icmp .ne 7, 3), (14, .iconst 0, 1), (15, .goto 4, 3), (18, .iconst 1, 1), (19, .ireturn, 1)]
set_option maxRecDepth 100000 in
theorem pK_J6_compare_7cf53 : q_Iok cJ6_compare_7cf53 pI_J6_compare_7cf53 := ⟨by decide +kernel, by decide +kernel⟩
def pI_J0_checkBoundsBeginEnd_23922 : q_I := [(0, .iload_n 0, 1), (1, .iload_n 1, 1), (2, .iload_n 2, 1), (3, .getstatic 1053, 3), (6, .invokestatic 1062, 3), (9, .pop, 1), (10, .return_, 1)]
set_option maxRecDepth 100000 in
theorem pK_J0_checkBoundsBeginEnd_23922 : q_Iok cJ0_checkBoundsBeginEnd_23922 pI_J0_checkBoundsBeginEnd_23922 := ⟨by decide +kernel, by decide +kernel⟩
def pI_J3_checkIndex_8e157 : q_I := [(0, .iload_n 0, 1), (1, .ifCond .lt 8, 3), (4, .iload_n 0, 1), (5, .iload_n 1, 1), (6, .if_icmp .lt 10, 3), (9, .aload_n 2, 1), (10, .iload_n 0, 1), (11, .iload_n 1, 1), (12, .invokestatic 95, 3), (15, .athrow, 1), (16, .iload_n 0, 1), (17, .ireturn, 1)]
set_option maxRecDepth 100000 in
theorem pK_J3_checkIndex_8e157 : q_Iok cJ3_checkIndex_8e157 pI_J3_checkIndex_8e157 := ⟨by decide +kernel, by decide +kernel⟩
