def bTok_init_0 : List EN := [(0, .aload_n 0, 1, 0, 0, 0, []), (1, .invokespecial 3, 3, 0, 1, -1, []), (4, .aload_n 0, 1, 0, 0, 0, []), (5, .new 9, 3, 6, 6, 0, [594, 4645]), (8, .dup, 1, 0, 0, 0, []), (9, .invokespecial 11, 3, nTape_init, 1, 7, [1, 640, 594, 4645])]
theorem kTok_init_0 : okb (mth nTok_init) 0 bTok_init_0 = true := by decide +kernel
def bTok_init_12 : List EN := [(12, .putfield 12, 3, 7, 0, 3, []), (15, .aload_n 0, 1, 0, 0, 0, []), (16, .new 16, 3, 5, 9, 0, [594, 4645]), (19, .dup, 1, 0, 0, 0, []), (20, .invokespecial 18, 3, nScr_init, 1, 6, [5, 406, 594, 4645])]
theorem kTok_init_12 : okb (mth nTok_init) 12 bTok_init_12 = true := by decide +kernel
def bTok_init_23 : List EN := [(23, .putfield 19, 3, 7, 1, 3, []), (26, .aload_n 0, 1, 0, 0, 0, []), (27, .new 23, 3, 0, 2, 0, [594, 4645]), (30, .dup, 1, 0, 0, 0, []), (31, .invokespecial 25, 3, nHist_init, 1, 1, [1, 10, 594, 4645])]
theorem kTok_init_23 : okb (mth nTok_init) 23 bTok_init_23 = true := by decide +kernel
def bTok_init_34 : List EN := [(34, .putfield 26, 3, 7, 2, 3, []), (37, .aload_n 0, 1, 0, 0, 0, []), (38, .new 30, 3, 3, 11, 0, [594, 4645]), (41, .dup, 1, 0, 0, 0, []), (42, .invokespecial 32, 3, nNet_init, 1, 4, [291, 1775, 594, 4645])]
theorem kTok_init_34 : okb (mth nTok_init) 34 bTok_init_34 = true := by decide +kernel
def bTok_init_45 : List EN := [(45, .putfield 33, 3, 7, 3, 3, []), (48, .aload_n 0, 1, 0, 0, 0, []), (49, .new 30, 3, 3, 11, 0, [594, 4645]), (52, .dup, 1, 0, 0, 0, []), (53, .invokespecial 32, 3, nNet_init, 1, 4, [291, 1775, 594, 4645])]
theorem kTok_init_45 : okb (mth nTok_init) 45 bTok_init_45 = true := by decide +kernel
def bTok_init_56 : List EN := [(56, .putfield 37, 3, 7, 4, 3, []), (59, .aload_n 0, 1, 0, 0, 0, []), (60, .iconst 0, 1, 0, 0, 0, []), (61, .putfield 40, 3, 7, 5, 0, []), (64, .return_, 1, 0, 0, 0, [])]
theorem kTok_init_56 : okb (mth nTok_init) 56 bTok_init_56 = true := by decide +kernel
def bTok_feed_0 : List EN := [(0, .aload_n 0, 1, 0, 0, 0, []), (1, .getfield 12, 3, 7, 0, 3, []), (4, .getfield 44, 3, 6, 1, 0, []), (7, .bipush 20, 2, 0, 0, 0, []), (9, .iadd, 1, 0, 0, 0, []), (10, .sipush 640, 3, 0, 0, 0, []), (13, .if_icmp .le 5, 3, 18, 0, 0, [])]
theorem kTok_feed_0 : okb (mth nTok_feed) 0 bTok_feed_0 = true := by decide +kernel
def bTok_feed_16 : List EN := [(16, .iconst (-1), 1, 0, 0, 0, []), (17, .ireturn, 1, 0, 0, 0, [])]
theorem kTok_feed_16 : okb (mth nTok_feed) 16 bTok_feed_16 = true := by decide +kernel
def bTok_feed_18 : List EN := [(18, .aload_n 0, 1, 0, 0, 0, []), (19, .getfield 12, 3, 7, 0, 3, []), (22, .iload_n 1, 1, 0, 0, 0, []), (23, .invokevirtual 47, 3, nTape_add, 2, 7, [])]
theorem kTok_feed_18 : okb (mth nTok_feed) 18 bTok_feed_18 = true := by decide +kernel
def bTok_feed_26 : List EN := [(26, .aload_n 0, 1, 0, 0, 0, []), (27, .getfield 12, 3, 7, 0, 3, []), (30, .iload_n 2, 1, 0, 0, 0, []), (31, .invokevirtual 47, 3, nTape_add, 2, 7, [])]
theorem kTok_feed_26 : okb (mth nTok_feed) 26 bTok_feed_26 = true := by decide +kernel
def bTok_feed_34 : List EN := [(34, .aload_n 0, 1, 0, 0, 0, []), (35, .getfield 12, 3, 7, 0, 3, []), (38, .iload_n 3, 1, 0, 0, 0, []), (39, .invokevirtual 47, 3, nTape_add, 2, 7, [])]
theorem kTok_feed_34 : okb (mth nTok_feed) 34 bTok_feed_34 = true := by decide +kernel
def bTok_feed_42 : List EN := [(42, .aload_n 0, 1, 0, 0, 0, []), (43, .getfield 12, 3, 7, 0, 3, []), (46, .iload 4, 2, 0, 0, 0, []), (48, .invokevirtual 47, 3, nTape_add, 2, 7, [])]
theorem kTok_feed_42 : okb (mth nTok_feed) 42 bTok_feed_42 = true := by decide +kernel
def bTok_feed_51 : List EN := [(51, .aload_n 0, 1, 0, 0, 0, []), (52, .getfield 12, 3, 7, 0, 3, []), (55, .iload 5, 2, 0, 0, 0, []), (57, .invokevirtual 47, 3, nTape_add, 2, 7, [])]
theorem kTok_feed_51 : okb (mth nTok_feed) 51 bTok_feed_51 = true := by decide +kernel
def bTok_feed_60 : List EN := [(60, .aload_n 0, 1, 0, 0, 0, []), (61, .getfield 12, 3, 7, 0, 3, []), (64, .getfield 44, 3, 6, 1, 0, []), (67, .ireturn, 1, 0, 0, 0, [])]
theorem kTok_feed_60 : okb (mth nTok_feed) 60 bTok_feed_60 = true := by decide +kernel
def bTok_end_0 : List EN := [(0, .iload_n 1, 1, 0, 0, 0, []), (1, .ifCond .lt 14, 3, 15, 0, 0, [])]
theorem kTok_end_0 : okb (mth nTok_end) 0 bTok_end_0 = true := by decide +kernel
def bTok_end_4 : List EN := [(4, .iload_n 1, 1, 0, 0, 0, []), (5, .aload_n 0, 1, 0, 0, 0, []), (6, .getfield 12, 3, 7, 0, 3, []), (9, .getfield 44, 3, 6, 1, 0, []), (12, .if_icmp .le 5, 3, 17, 0, 0, [])]
theorem kTok_end_4 : okb (mth nTok_end) 4 bTok_end_4 = true := by decide +kernel
def bTok_end_15 : List EN := [(15, .iconst 0, 1, 0, 0, 0, []), (16, .ireturn, 1, 0, 0, 1, [])]
theorem kTok_end_15 : okb (mth nTok_end) 15 bTok_end_15 = true := by decide +kernel
def bTok_end_17 : List EN := [(17, .aload_n 0, 1, 0, 0, 0, []), (18, .getfield 12, 3, 7, 0, 3, []), (21, .iload_n 1, 1, 0, 0, 0, []), (22, .putfield 44, 3, 6, 1, 0, []), (25, .iconst 1, 1, 0, 0, 0, []), (26, .ireturn, 1, 0, 0, 1, [])]
theorem kTok_end_17 : okb (mth nTok_end) 17 bTok_end_17 = true := by decide +kernel
def bTok_text_0 : List EN := [(0, .aload_n 0, 1, 0, 0, 0, []), (1, .getfield 19, 3, 7, 1, 3, []), (4, .aload_n 0, 1, 0, 0, 0, []), (5, .getfield 12, 3, 7, 0, 3, []), (8, .invokevirtual 51, 3, nScr_read, 2, 6, [])]
theorem kTok_text_0 : okb (mth nTok_text) 0 bTok_text_0 = true := by decide +kernel
def bTok_text_11 : List EN := [(11, .aload_n 0, 1, 0, 0, 0, []), (12, .getfield 12, 3, 7, 0, 3, []), (15, .iconst 0, 1, 0, 0, 0, []), (16, .putfield 44, 3, 6, 1, 0, []), (19, .aload_n 0, 1, 0, 0, 0, []), (20, .getfield 37, 3, 7, 4, 3, []), (23, .aload_n 0, 1, 0, 0, 0, []), (24, .getfield 19, 3, 7, 1, 3, []), (27, .getfield 55, 3, 5, 5, 0, []), (30, .aload_n 0, 1, 0, 0, 0, []), (31, .getfield 19, 3, 7, 1, 3, []), (34, .getfield 58, 3, 5, 0, 3, []), (37, .invokevirtual 62, 3, nNet_begin, 3, 4, [])]
theorem kTok_text_11 : okb (mth nTok_text) 11 bTok_text_11 = true := by decide +kernel
def bTok_text_40 : List EN := [(40, .iconst 0, 1, 0, 0, 0, []), (41, .istore_n 1, 1, 0, 0, 0, [])]
theorem kTok_text_40 : okb (mth nTok_text) 40 bTok_text_40 = true := by decide +kernel
def bTok_text_42 : List EN := [(42, .iload_n 1, 1, 0, 0, 0, []), (43, .aload_n 0, 1, 0, 0, 0, []), (44, .getfield 19, 3, 7, 1, 3, []), (47, .getfield 66, 3, 5, 6, 0, []), (50, .if_icmp .ge 46, 3, 96, 0, 0, [])]
theorem kTok_text_42 : okb (mth nTok_text) 42 bTok_text_42 = true := by decide +kernel
def bTok_text_53 : List EN := [(53, .aload_n 0, 1, 0, 0, 0, []), (54, .getfield 37, 3, 7, 4, 3, []), (57, .aload_n 0, 1, 0, 0, 0, []), (58, .getfield 19, 3, 7, 1, 3, []), (61, .getfield 69, 3, 5, 1, 3, []), (64, .iload_n 1, 1, 0, 0, 0, []), (65, .iaload, 1, 0, 0, 0, []), (66, .aload_n 0, 1, 0, 0, 0, []), (67, .getfield 19, 3, 7, 1, 3, []), (70, .getfield 72, 3, 5, 2, 3, []), (73, .iload_n 1, 1, 0, 0, 0, []), (74, .iaload, 1, 0, 0, 0, []), (75, .aload_n 0, 1, 0, 0, 0, []), (76, .getfield 19, 3, 7, 1, 3, []), (79, .getfield 75, 3, 5, 3, 3, []), (82, .iload_n 1, 1, 0, 0, 0, []), (83, .iaload, 1, 0, 0, 0, []), (84, .invokevirtual 78, 3, nNet_act, 4, 4, [])]
theorem kTok_text_53 : okb (mth nTok_text) 53 bTok_text_53 = true := by decide +kernel
def bTok_text_87 : List EN := [(87, .ifCond .lt 9, 3, 96, 0, 0, [])]
theorem kTok_text_87 : okb (mth nTok_text) 87 bTok_text_87 = true := by decide +kernel
def bTok_text_90 : List EN := [(90, .iinc 1 1, 3, 0, 0, 0, []), (93, .goto (-51), 3, 42, 0, 0, [])]
theorem kTok_text_90 : okb (mth nTok_text) 90 bTok_text_90 = true := by decide +kernel
def bTok_text_96 : List EN := [(96, .iload_n 1, 1, 0, 0, 0, []), (97, .aload_n 0, 1, 0, 0, 0, []), (98, .getfield 19, 3, 7, 1, 3, []), (101, .getfield 66, 3, 5, 6, 0, []), (104, .if_icmp .ge 20, 3, 124, 0, 0, [])]
theorem kTok_text_96 : okb (mth nTok_text) 96 bTok_text_96 = true := by decide +kernel
def bTok_text_107 : List EN := [(107, .aload_n 0, 1, 0, 0, 0, []), (108, .iconst 4, 1, 0, 0, 0, []), (109, .putfield 40, 3, 7, 5, 0, []), (112, .iconst (-1), 1, 0, 0, 0, []), (113, .aload_n 0, 1, 0, 0, 0, []), (114, .getfield 19, 3, 7, 1, 3, []), (117, .getfield 82, 3, 5, 4, 3, []), (120, .iload_n 1, 1, 0, 0, 0, []), (121, .iaload, 1, 0, 0, 0, []), (122, .isub, 1, 0, 0, 0, []), (123, .ireturn, 1, 0, 0, 0, [])]
theorem kTok_text_107 : okb (mth nTok_text) 107 bTok_text_107 = true := by decide +kernel
def bTok_text_124 : List EN := [(124, .aload_n 0, 1, 0, 0, 0, []), (125, .aload_n 0, 1, 0, 0, 0, []), (126, .getfield 19, 3, 7, 1, 3, []), (129, .getfield 85, 3, 5, 7, 0, []), (132, .putfield 40, 3, 7, 5, 0, []), (135, .aload_n 0, 1, 0, 0, 0, []), (136, .getfield 40, 3, 7, 5, 0, []), (139, .ifCond .eq 13, 3, 152, 0, 0, [])]
theorem kTok_text_124 : okb (mth nTok_text) 124 bTok_text_124 = true := by decide +kernel
def bTok_text_142 : List EN := [(142, .iconst (-1), 1, 0, 0, 0, []), (143, .aload_n 0, 1, 0, 0, 0, []), (144, .getfield 19, 3, 7, 1, 3, []), (147, .getfield 86, 3, 5, 8, 0, []), (150, .isub, 1, 0, 0, 0, []), (151, .ireturn, 1, 0, 0, 0, [])]
theorem kTok_text_142 : okb (mth nTok_text) 142 bTok_text_142 = true := by decide +kernel
def bTok_text_152 : List EN := [(152, .aload_n 0, 1, 0, 0, 0, []), (153, .getfield 33, 3, 7, 3, 3, []), (156, .astore_n 2, 1, 0, 0, 0, []), (157, .aload_n 0, 1, 0, 0, 0, []), (158, .aload_n 0, 1, 0, 0, 0, []), (159, .getfield 37, 3, 7, 4, 3, []), (162, .putfield 33, 3, 7, 3, 3, []), (165, .aload_n 0, 1, 0, 0, 0, []), (166, .aload_n 2, 1, 0, 0, 0, []), (167, .putfield 37, 3, 7, 4, 3, []), (170, .aload_n 0, 1, 0, 0, 0, []), (171, .getfield 26, 3, 7, 2, 3, []), (174, .iconst 0, 1, 0, 0, 0, []), (175, .putfield 89, 3, 0, 1, 0, []), (178, .iload_n 1, 1, 0, 0, 0, []), (179, .ireturn, 1, 0, 0, 0, [])]
theorem kTok_text_152 : okb (mth nTok_text) 152 bTok_text_152 = true := by decide +kernel
def bTok_fault_0 : List EN := [(0, .aload_n 0, 1, 0, 0, 0, []), (1, .getfield 40, 3, 7, 5, 0, []), (4, .ireturn, 1, 0, 0, 0, [])]
theorem kTok_fault_0 : okb (mth nTok_fault) 0 bTok_fault_0 = true := by decide +kernel
def bTok_now_0 : List EN := [(0, .iload_n 1, 1, 0, 0, 0, []), (1, .tableswitch 183 0 12 #[67, 75, 83, 92, 107, 115, 123, 131, 139, 148, 157, 167, 175], 67, 184, 0, 0, [68, 76, 84, 93, 108, 116, 124, 132, 140, 149, 158, 168, 176])]
theorem kTok_now_0 : okb (mth nTok_now) 0 bTok_now_0 = true := by decide +kernel
def bTok_now_68 : List EN := [(68, .aload_n 0, 1, 0, 0, 0, []), (69, .getfield 33, 3, 7, 3, 3, []), (72, .getfield 92, 3, 3, 3, 0, []), (75, .ireturn, 1, 0, 0, 0, [])]
theorem kTok_now_68 : okb (mth nTok_now) 68 bTok_now_68 = true := by decide +kernel
def bTok_now_76 : List EN := [(76, .aload_n 0, 1, 0, 0, 0, []), (77, .getfield 33, 3, 7, 3, 3, []), (80, .getfield 95, 3, 3, 4, 0, []), (83, .ireturn, 1, 0, 0, 0, [])]
theorem kTok_now_76 : okb (mth nTok_now) 76 bTok_now_76 = true := by decide +kernel
def bTok_now_84 : List EN := [(84, .aload_n 0, 1, 0, 0, 0, []), (85, .getfield 33, 3, 7, 3, 3, []), (88, .iconst 0, 1, 0, 0, 0, []), (89, .invokevirtual 96, 3, nNet_passesFrom, 2, 4, [])]
theorem kTok_now_84 : okb (mth nTok_now) 84 bTok_now_84 = true := by decide +kernel
def bTok_now_92 : List EN := [(92, .ireturn, 1, 0, 0, 0, [])]
theorem kTok_now_92 : okb (mth nTok_now) 92 bTok_now_92 = true := by decide +kernel
def bTok_now_93 : List EN := [(93, .aload_n 0, 1, 0, 0, 0, []), (94, .getfield 33, 3, 7, 3, 3, []), (97, .aload_n 0, 1, 0, 0, 0, []), (98, .getfield 33, 3, 7, 3, 3, []), (101, .invokevirtual 100, 3, nNet_greatestMark, 1, 4, [])]
theorem kTok_now_93 : okb (mth nTok_now) 93 bTok_now_93 = true := by decide +kernel
def bTok_now_104 : List EN := [(104, .invokevirtual 96, 3, nNet_passesFrom, 2, 4, [])]
theorem kTok_now_104 : okb (mth nTok_now) 104 bTok_now_104 = true := by decide +kernel
def bTok_now_107 : List EN := [(107, .ireturn, 1, 0, 0, 0, [])]
theorem kTok_now_107 : okb (mth nTok_now) 107 bTok_now_107 = true := by decide +kernel
def bTok_now_108 : List EN := [(108, .aload_n 0, 1, 0, 0, 0, []), (109, .getfield 33, 3, 7, 3, 3, []), (112, .getfield 104, 3, 3, 5, 0, []), (115, .ireturn, 1, 0, 0, 0, [])]
theorem kTok_now_108 : okb (mth nTok_now) 108 bTok_now_108 = true := by decide +kernel
def bTok_now_116 : List EN := [(116, .aload_n 0, 1, 0, 0, 0, []), (117, .getfield 33, 3, 7, 3, 3, []), (120, .getfield 107, 3, 3, 6, 0, []), (123, .ireturn, 1, 0, 0, 0, [])]
theorem kTok_now_116 : okb (mth nTok_now) 116 bTok_now_116 = true := by decide +kernel
def bTok_now_124 : List EN := [(124, .aload_n 0, 1, 0, 0, 0, []), (125, .getfield 33, 3, 7, 3, 3, []), (128, .getfield 110, 3, 3, 7, 0, []), (131, .ireturn, 1, 0, 0, 0, [])]
theorem kTok_now_124 : okb (mth nTok_now) 124 bTok_now_124 = true := by decide +kernel
def bTok_now_132 : List EN := [(132, .aload_n 0, 1, 0, 0, 0, []), (133, .getfield 33, 3, 7, 3, 3, []), (136, .getfield 113, 3, 3, 8, 0, []), (139, .ireturn, 1, 0, 0, 0, [])]
theorem kTok_now_132 : okb (mth nTok_now) 132 bTok_now_132 = true := by decide +kernel
def bTok_now_140 : List EN := [(140, .aload_n 0, 1, 0, 0, 0, []), (141, .getfield 33, 3, 7, 3, 3, []), (144, .iconst 4, 1, 0, 0, 0, []), (145, .invokevirtual 116, 3, nNet_bitsOf, 2, 4, [])]
theorem kTok_now_140 : okb (mth nTok_now) 140 bTok_now_140 = true := by decide +kernel
def bTok_now_148 : List EN := [(148, .ireturn, 1, 0, 0, 0, [])]
theorem kTok_now_148 : okb (mth nTok_now) 148 bTok_now_148 = true := by decide +kernel
def bTok_now_149 : List EN := [(149, .aload_n 0, 1, 0, 0, 0, []), (150, .getfield 33, 3, 7, 3, 3, []), (153, .iconst 5, 1, 0, 0, 0, []), (154, .invokevirtual 116, 3, nNet_bitsOf, 2, 4, [])]
theorem kTok_now_149 : okb (mth nTok_now) 149 bTok_now_149 = true := by decide +kernel
def bTok_now_157 : List EN := [(157, .ireturn, 1, 0, 0, 0, [])]
theorem kTok_now_157 : okb (mth nTok_now) 157 bTok_now_157 = true := by decide +kernel
def bTok_now_158 : List EN := [(158, .aload_n 0, 1, 0, 0, 0, []), (159, .getfield 33, 3, 7, 3, 3, []), (162, .bipush 6, 2, 0, 0, 0, []), (164, .invokevirtual 116, 3, nNet_bitsOf, 2, 4, [])]
theorem kTok_now_158 : okb (mth nTok_now) 158 bTok_now_158 = true := by decide +kernel
def bTok_now_167 : List EN := [(167, .ireturn, 1, 0, 0, 0, [])]
theorem kTok_now_167 : okb (mth nTok_now) 167 bTok_now_167 = true := by decide +kernel
def bTok_now_168 : List EN := [(168, .aload_n 0, 1, 0, 0, 0, []), (169, .getfield 26, 3, 7, 2, 3, []), (172, .getfield 89, 3, 0, 1, 0, []), (175, .ireturn, 1, 0, 0, 0, [])]
theorem kTok_now_168 : okb (mth nTok_now) 168 bTok_now_168 = true := by decide +kernel
def bTok_now_176 : List EN := [(176, .aload_n 0, 1, 0, 0, 0, []), (177, .getfield 12, 3, 7, 0, 3, []), (180, .getfield 44, 3, 6, 1, 0, []), (183, .ireturn, 1, 0, 0, 0, [])]
theorem kTok_now_176 : okb (mth nTok_now) 176 bTok_now_176 = true := by decide +kernel
def bTok_now_184 : List EN := [(184, .iconst (-1), 1, 0, 0, 0, []), (185, .ireturn, 1, 0, 0, 0, [])]
theorem kTok_now_184 : okb (mth nTok_now) 184 bTok_now_184 = true := by decide +kernel
def bTok_pass_0 : List EN := [(0, .aload_n 0, 1, 0, 0, 0, []), (1, .getfield 33, 3, 7, 3, 3, []), (4, .iload_n 1, 1, 0, 0, 0, []), (5, .iload_n 2, 1, 0, 0, 0, []), (6, .invokevirtual 126, 3, nNet_ofPass, 3, 4, [])]
theorem kTok_pass_0 : okb (mth nTok_pass) 0 bTok_pass_0 = true := by decide +kernel
def bTok_pass_9 : List EN := [(9, .ireturn, 1, 0, 0, 0, [])]
theorem kTok_pass_9 : okb (mth nTok_pass) 9 bTok_pass_9 = true := by decide +kernel
def bTok_way_0 : List EN := [(0, .aload_n 0, 1, 0, 0, 0, []), (1, .getfield 33, 3, 7, 3, 3, []), (4, .iload_n 1, 1, 0, 0, 0, []), (5, .iload_n 2, 1, 0, 0, 0, []), (6, .invokevirtual 129, 3, nNet_countOnWay, 3, 4, [])]
theorem kTok_way_0 : okb (mth nTok_way) 0 bTok_way_0 = true := by decide +kernel
def bTok_way_9 : List EN := [(9, .ireturn, 1, 0, 0, 0, [])]
theorem kTok_way_9 : okb (mth nTok_way) 9 bTok_way_9 = true := by decide +kernel
def bTok_message_0 : List EN := [(0, .aload_n 0, 1, 0, 0, 0, []), (1, .getfield 33, 3, 7, 3, 3, []), (4, .iload_n 1, 1, 0, 0, 0, []), (5, .iload_n 2, 1, 0, 0, 0, []), (6, .iload_n 3, 1, 0, 0, 0, []), (7, .invokevirtual 132, 3, nNet_find, 4, 4, [])]
theorem kTok_message_0 : okb (mth nTok_message) 0 bTok_message_0 = true := by decide +kernel
def bTok_message_10 : List EN := [(10, .istore 5, 2, 0, 0, 0, []), (12, .iload 5, 2, 0, 0, 0, []), (14, .iconst (-1), 1, 0, 0, 0, []), (15, .if_icmp .ne 5, 3, 20, 0, 0, [])]
theorem kTok_message_10 : okb (mth nTok_message) 10 bTok_message_10 = true := by decide +kernel
def bTok_message_18 : List EN := [(18, .iconst (-1), 1, 0, 0, 0, []), (19, .ireturn, 1, 0, 0, 0, [])]
theorem kTok_message_18 : okb (mth nTok_message) 18 bTok_message_18 = true := by decide +kernel
def bTok_message_20 : List EN := [(20, .aload_n 0, 1, 0, 0, 0, []), (21, .getfield 33, 3, 7, 3, 3, []), (24, .getfield 135, 3, 3, 1, 3, []), (27, .iload 5, 2, 0, 0, 0, []), (29, .aaload, 1, 0, 0, 0, []), (30, .astore 6, 2, 0, 0, 0, []), (32, .iload 4, 2, 0, 0, 0, []), (34, .tableswitch 44 0 2 #[26, 32, 38], 26, 78, 0, 0, [60, 66, 72])]
theorem kTok_message_20 : okb (mth nTok_message) 20 bTok_message_20 = true := by decide +kernel
def bTok_message_60 : List EN := [(60, .aload 6, 2, 0, 0, 0, []), (62, .getfield 139, 3, 2, 3, 0, []), (65, .ireturn, 1, 0, 0, 0, [])]
theorem kTok_message_60 : okb (mth nTok_message) 60 bTok_message_60 = true := by decide +kernel
def bTok_message_66 : List EN := [(66, .aload 6, 2, 0, 0, 0, []), (68, .getfield 144, 3, 2, 4, 0, []), (71, .ireturn, 1, 0, 0, 0, [])]
theorem kTok_message_66 : okb (mth nTok_message) 66 bTok_message_66 = true := by decide +kernel
def bTok_message_72 : List EN := [(72, .aload 6, 2, 0, 0, 0, []), (74, .getfield 147, 3, 2, 5, 0, []), (77, .ireturn, 1, 0, 0, 0, [])]
theorem kTok_message_72 : okb (mth nTok_message) 72 bTok_message_72 = true := by decide +kernel
def bTok_message_78 : List EN := [(78, .iconst (-1), 1, 0, 0, 0, []), (79, .ireturn, 1, 0, 0, 0, [])]
theorem kTok_message_78 : okb (mth nTok_message) 78 bTok_message_78 = true := by decide +kernel
def bTok_would_0 : List EN := [(0, .aload_n 0, 1, 0, 0, 0, []), (1, .getfield 33, 3, 7, 3, 3, []), (4, .iload_n 1, 1, 0, 0, 0, []), (5, .iload_n 2, 1, 0, 0, 0, []), (6, .iconst 0, 1, 0, 0, 0, []), (7, .invokevirtual 132, 3, nNet_find, 4, 4, [])]
theorem kTok_would_0 : okb (mth nTok_would) 0 bTok_would_0 = true := by decide +kernel
def bTok_would_10 : List EN := [(10, .istore_n 3, 1, 0, 0, 0, []), (11, .iload_n 3, 1, 0, 0, 0, []), (12, .iconst (-1), 1, 0, 0, 0, []), (13, .if_icmp .ne 5, 3, 18, 0, 0, [])]
theorem kTok_would_10 : okb (mth nTok_would) 10 bTok_would_10 = true := by decide +kernel
def bTok_would_16 : List EN := [(16, .iconst (-1), 1, 0, 0, 0, []), (17, .ireturn, 1, 0, 0, 0, [])]
theorem kTok_would_16 : okb (mth nTok_would) 16 bTok_would_16 = true := by decide +kernel
def bTok_would_18 : List EN := [(18, .aload_n 0, 1, 0, 0, 0, []), (19, .getfield 37, 3, 7, 4, 3, []), (22, .aload_n 0, 1, 0, 0, 0, []), (23, .getfield 33, 3, 7, 3, 3, []), (26, .invokevirtual 150, 3, nNet_copyFrom, 2, 4, [])]
theorem kTok_would_18 : okb (mth nTok_would) 18 bTok_would_18 = true := by decide +kernel
def bTok_would_29 : List EN := [(29, .aload_n 0, 1, 0, 0, 0, []), (30, .getfield 37, 3, 7, 4, 3, []), (33, .iload_n 3, 1, 0, 0, 0, []), (34, .invokevirtual 154, 3, nNet_deliver, 2, 4, [])]
theorem kTok_would_29 : okb (mth nTok_would) 29 bTok_would_29 = true := by decide +kernel
def bTok_would_37 : List EN := [(37, .pop, 1, 0, 0, 0, []), (38, .aload_n 0, 1, 0, 0, 0, []), (39, .getfield 37, 3, 7, 4, 3, []), (42, .getfield 157, 3, 3, 10, 0, []), (45, .iconst (-1), 1, 0, 0, 0, []), (46, .if_icmp .eq 5, 3, 51, 0, 0, [])]
theorem kTok_would_37 : okb (mth nTok_would) 37 bTok_would_37 = true := by decide +kernel
def bTok_would_49 : List EN := [(49, .iconst 1, 1, 0, 0, 0, []), (50, .ireturn, 1, 0, 0, 0, [])]
theorem kTok_would_49 : okb (mth nTok_would) 49 bTok_would_49 = true := by decide +kernel
def bTok_would_51 : List EN := [(51, .aload_n 0, 1, 0, 0, 0, []), (52, .getfield 37, 3, 7, 4, 3, []), (55, .getfield 160, 3, 3, 9, 0, []), (58, .aload_n 0, 1, 0, 0, 0, []), (59, .getfield 33, 3, 7, 3, 3, []), (62, .getfield 160, 3, 3, 9, 0, []), (65, .if_icmp .le 5, 3, 70, 0, 0, [])]
theorem kTok_would_51 : okb (mth nTok_would) 51 bTok_would_51 = true := by decide +kernel
def bTok_would_68 : List EN := [(68, .iconst 2, 1, 0, 0, 0, []), (69, .ireturn, 1, 0, 0, 0, [])]
theorem kTok_would_68 : okb (mth nTok_would) 68 bTok_would_68 = true := by decide +kernel
def bTok_would_70 : List EN := [(70, .aload_n 0, 1, 0, 0, 0, []), (71, .getfield 37, 3, 7, 4, 3, []), (74, .getfield 104, 3, 3, 5, 0, []), (77, .aload_n 0, 1, 0, 0, 0, []), (78, .getfield 33, 3, 7, 3, 3, []), (81, .getfield 104, 3, 3, 5, 0, []), (84, .if_icmp .le 7, 3, 91, 0, 0, [])]
theorem kTok_would_70 : okb (mth nTok_would) 70 bTok_would_70 = true := by decide +kernel
def bTok_would_87 : List EN := [(87, .iconst 3, 1, 0, 0, 0, []), (88, .goto 4, 3, 92, 0, 0, [])]
theorem kTok_would_87 : okb (mth nTok_would) 87 bTok_would_87 = true := by decide +kernel
def bTok_would_91 : List EN := [(91, .iconst 0, 1, 0, 0, 0, [])]
theorem kTok_would_91 : okb (mth nTok_would) 91 bTok_would_91 = true := by decide +kernel
def bTok_would_92 : List EN := [(92, .ireturn, 1, 0, 0, 0, [])]
theorem kTok_would_92 : okb (mth nTok_would) 92 bTok_would_92 = true := by decide +kernel
def bTok_soon_0 : List EN := [(0, .aload_n 0, 1, 0, 0, 0, []), (1, .getfield 33, 3, 7, 3, 3, []), (4, .iload_n 1, 1, 0, 0, 0, []), (5, .invokevirtual 163, 3, nNet_isMember, 2, 4, [16]), (8, .ifCond .ne 5, 3, 13, 0, 0, [])]
theorem kTok_soon_0 : okb (mth nTok_soon) 0 bTok_soon_0 = true := by decide +kernel
def bTok_soon_11 : List EN := [(11, .iconst (-1), 1, 0, 0, 0, []), (12, .ireturn, 1, 0, 0, 0, [])]
theorem kTok_soon_11 : okb (mth nTok_soon) 11 bTok_soon_11 = true := by decide +kernel
def bTok_soon_13 : List EN := [(13, .aload_n 0, 1, 0, 0, 0, []), (14, .getfield 33, 3, 7, 3, 3, []), (17, .getfield 167, 3, 3, 0, 3, []), (20, .iload_n 1, 1, 0, 0, 0, []), (21, .aaload, 1, 0, 0, 0, []), (22, .getfield 171, 3, 1, 11, 1, []), (25, .ifCond .eq 5, 3, 30, 0, 0, [])]
theorem kTok_soon_13 : okb (mth nTok_soon) 13 bTok_soon_13 = true := by decide +kernel
def bTok_soon_28 : List EN := [(28, .iconst 0, 1, 0, 0, 0, []), (29, .ireturn, 1, 0, 0, 0, [])]
theorem kTok_soon_28 : okb (mth nTok_soon) 28 bTok_soon_28 = true := by decide +kernel
def bTok_soon_30 : List EN := [(30, .aload_n 0, 1, 0, 0, 0, []), (31, .getfield 37, 3, 7, 4, 3, []), (34, .aload_n 0, 1, 0, 0, 0, []), (35, .getfield 33, 3, 7, 3, 3, []), (38, .invokevirtual 150, 3, nNet_copyFrom, 2, 4, [])]
theorem kTok_soon_30 : okb (mth nTok_soon) 30 bTok_soon_30 = true := by decide +kernel
def bTok_soon_41 : List EN := [(41, .iconst 1, 1, 0, 0, 0, []), (42, .istore_n 2, 1, 0, 0, 0, [])]
theorem kTok_soon_41 : okb (mth nTok_soon) 41 bTok_soon_41 = true := by decide +kernel
def bTok_soon_43 : List EN := [(43, .iload_n 2, 1, 0, 0, 0, []), (44, .sipush 200, 3, 0, 0, 0, []), (47, .if_icmp .gt 40, 3, 87, 0, 0, [])]
theorem kTok_soon_43 : okb (mth nTok_soon) 43 bTok_soon_43 = true := by decide +kernel
def bTok_soon_50 : List EN := [(50, .aload_n 0, 1, 0, 0, 0, []), (51, .getfield 37, 3, 7, 4, 3, []), (54, .iconst 1, 1, 0, 0, 0, []), (55, .invokevirtual 177, 3, nNet_settleBy, 2, 4, [])]
theorem kTok_soon_50 : okb (mth nTok_soon) 50 bTok_soon_50 = true := by decide +kernel
def bTok_soon_58 : List EN := [(58, .ifCond .ne 6, 3, 64, 0, 0, [])]
theorem kTok_soon_58 : okb (mth nTok_soon) 58 bTok_soon_58 = true := by decide +kernel
def bTok_soon_61 : List EN := [(61, .bipush (-2), 2, 0, 0, 0, []), (63, .ireturn, 1, 0, 0, 0, [])]
theorem kTok_soon_61 : okb (mth nTok_soon) 61 bTok_soon_61 = true := by decide +kernel
def bTok_soon_64 : List EN := [(64, .aload_n 0, 1, 0, 0, 0, []), (65, .getfield 37, 3, 7, 4, 3, []), (68, .getfield 167, 3, 3, 0, 3, []), (71, .iload_n 1, 1, 0, 0, 0, []), (72, .aaload, 1, 0, 0, 0, []), (73, .getfield 171, 3, 1, 11, 1, []), (76, .ifCond .eq 5, 3, 81, 0, 0, [])]
theorem kTok_soon_64 : okb (mth nTok_soon) 64 bTok_soon_64 = true := by decide +kernel
def bTok_soon_79 : List EN := [(79, .iload_n 2, 1, 0, 0, 0, []), (80, .ireturn, 1, 0, 0, 0, [])]
theorem kTok_soon_79 : okb (mth nTok_soon) 79 bTok_soon_79 = true := by decide +kernel
def bTok_soon_81 : List EN := [(81, .iinc 2 1, 3, 0, 0, 0, []), (84, .goto (-41), 3, 43, 0, 0, [])]
theorem kTok_soon_81 : okb (mth nTok_soon) 81 bTok_soon_81 = true := by decide +kernel
def bTok_soon_87 : List EN := [(87, .bipush (-2), 2, 0, 0, 0, []), (89, .ireturn, 1, 0, 0, 0, [])]
theorem kTok_soon_87 : okb (mth nTok_soon) 87 bTok_soon_87 = true := by decide +kernel
def bTok_order_0 : List EN := [(0, .iload_n 1, 1, 0, 0, 0, []), (1, .ifCond .lt 9, 3, 10, 0, 0, [])]
theorem kTok_order_0 : okb (mth nTok_order) 0 bTok_order_0 = true := by decide +kernel
def bTok_order_4 : List EN := [(4, .iload_n 1, 1, 0, 0, 0, []), (5, .bipush 20, 2, 0, 0, 0, []), (7, .if_icmp .lt 5, 3, 12, 0, 0, [])]
theorem kTok_order_4 : okb (mth nTok_order) 4 bTok_order_4 = true := by decide +kernel
def bTok_order_10 : List EN := [(10, .iconst (-1), 1, 0, 0, 0, []), (11, .ireturn, 1, 0, 0, 0, [])]
theorem kTok_order_10 : okb (mth nTok_order) 10 bTok_order_10 = true := by decide +kernel
def bTok_order_12 : List EN := [(12, .aload_n 0, 1, 0, 0, 0, []), (13, .getfield 37, 3, 7, 4, 3, []), (16, .aload_n 0, 1, 0, 0, 0, []), (17, .getfield 33, 3, 7, 3, 3, []), (20, .invokevirtual 150, 3, nNet_copyFrom, 2, 4, [])]
theorem kTok_order_12 : okb (mth nTok_order) 12 bTok_order_12 = true := by decide +kernel
def bTok_order_23 : List EN := [(23, .iconst 0, 1, 0, 0, 0, []), (24, .istore_n 2, 1, 0, 0, 0, []), (25, .iconst 1, 1, 0, 0, 0, []), (26, .istore_n 3, 1, 0, 0, 0, [])]
theorem kTok_order_23 : okb (mth nTok_order) 23 bTok_order_23 = true := by decide +kernel
def bTok_order_27 : List EN := [(27, .iload_n 3, 1, 0, 0, 0, []), (28, .sipush 200, 3, 0, 0, 0, []), (31, .if_icmp .gt 49, 3, 80, 0, 0, [])]
theorem kTok_order_27 : okb (mth nTok_order) 27 bTok_order_27 = true := by decide +kernel
def bTok_order_34 : List EN := [(34, .aload_n 0, 1, 0, 0, 0, []), (35, .getfield 37, 3, 7, 4, 3, []), (38, .iconst 1, 1, 0, 0, 0, []), (39, .invokevirtual 177, 3, nNet_settleBy, 2, 4, [])]
theorem kTok_order_34 : okb (mth nTok_order) 34 bTok_order_34 = true := by decide +kernel
def bTok_order_42 : List EN := [(42, .ifCond .ne 5, 3, 47, 0, 0, [])]
theorem kTok_order_42 : okb (mth nTok_order) 42 bTok_order_42 = true := by decide +kernel
def bTok_order_45 : List EN := [(45, .iconst (-1), 1, 0, 0, 0, []), (46, .ireturn, 1, 0, 0, 0, [])]
theorem kTok_order_45 : okb (mth nTok_order) 45 bTok_order_45 = true := by decide +kernel
def bTok_order_47 : List EN := [(47, .aload_n 0, 1, 0, 0, 0, []), (48, .getfield 37, 3, 7, 4, 3, []), (51, .getfield 157, 3, 3, 10, 0, []), (54, .iconst (-1), 1, 0, 0, 0, []), (55, .if_icmp .eq 19, 3, 74, 0, 0, [])]
theorem kTok_order_47 : okb (mth nTok_order) 47 bTok_order_47 = true := by decide +kernel
def bTok_order_58 : List EN := [(58, .iload_n 2, 1, 0, 0, 0, []), (59, .iload_n 1, 1, 0, 0, 0, []), (60, .if_icmp .ne 11, 3, 71, 0, 0, [])]
theorem kTok_order_58 : okb (mth nTok_order) 58 bTok_order_58 = true := by decide +kernel
def bTok_order_63 : List EN := [(63, .aload_n 0, 1, 0, 0, 0, []), (64, .getfield 37, 3, 7, 4, 3, []), (67, .getfield 157, 3, 3, 10, 0, []), (70, .ireturn, 1, 0, 0, 0, [])]
theorem kTok_order_63 : okb (mth nTok_order) 63 bTok_order_63 = true := by decide +kernel
def bTok_order_71 : List EN := [(71, .iinc 2 1, 3, 0, 0, 0, [])]
theorem kTok_order_71 : okb (mth nTok_order) 71 bTok_order_71 = true := by decide +kernel
def bTok_order_74 : List EN := [(74, .iinc 3 1, 3, 0, 0, 0, []), (77, .goto (-50), 3, 27, 0, 0, [])]
theorem kTok_order_74 : okb (mth nTok_order) 74 bTok_order_74 = true := by decide +kernel
def bTok_order_80 : List EN := [(80, .iconst (-1), 1, 0, 0, 0, []), (81, .ireturn, 1, 0, 0, 0, [])]
theorem kTok_order_80 : okb (mth nTok_order) 80 bTok_order_80 = true := by decide +kernel
def bTok_ask_0 : List EN := [(0, .aload_n 0, 1, 0, 0, 0, []), (1, .getfield 37, 3, 7, 4, 3, []), (4, .aload_n 0, 1, 0, 0, 0, []), (5, .getfield 33, 3, 7, 3, 3, []), (8, .invokevirtual 150, 3, nNet_copyFrom, 2, 4, [])]
theorem kTok_ask_0 : okb (mth nTok_ask) 0 bTok_ask_0 = true := by decide +kernel
def bTok_ask_11 : List EN := [(11, .aload_n 0, 1, 0, 0, 0, []), (12, .aload_n 0, 1, 0, 0, 0, []), (13, .getfield 33, 3, 7, 3, 3, []), (16, .iload_n 1, 1, 0, 0, 0, []), (17, .invokevirtual 180, 3, nNet_askBy, 2, 4, [])]
theorem kTok_ask_11 : okb (mth nTok_ask) 11 bTok_ask_11 = true := by decide +kernel
def bTok_ask_20 : List EN := [(20, .invokevirtual 183, 3, nTok_kept, 2, 8, [292, 1786, 292, 1786])]
theorem kTok_ask_20 : okb (mth nTok_ask) 20 bTok_ask_20 = true := by decide +kernel
def bTok_ask_23 : List EN := [(23, .ireturn, 1, 0, 0, 0, [])]
theorem kTok_ask_23 : okb (mth nTok_ask) 23 bTok_ask_23 = true := by decide +kernel
def bTok_leave_0 : List EN := [(0, .aload_n 0, 1, 0, 0, 0, []), (1, .getfield 37, 3, 7, 4, 3, []), (4, .aload_n 0, 1, 0, 0, 0, []), (5, .getfield 33, 3, 7, 3, 3, []), (8, .invokevirtual 150, 3, nNet_copyFrom, 2, 4, [])]
theorem kTok_leave_0 : okb (mth nTok_leave) 0 bTok_leave_0 = true := by decide +kernel
def bTok_leave_11 : List EN := [(11, .aload_n 0, 1, 0, 0, 0, []), (12, .aload_n 0, 1, 0, 0, 0, []), (13, .getfield 33, 3, 7, 3, 3, []), (16, .iload_n 1, 1, 0, 0, 0, []), (17, .invokevirtual 186, 3, nNet_leaveBy, 2, 4, [])]
theorem kTok_leave_11 : okb (mth nTok_leave) 11 bTok_leave_11 = true := by decide +kernel
def bTok_leave_20 : List EN := [(20, .invokevirtual 183, 3, nTok_kept, 2, 8, [292, 1786, 292, 1786])]
theorem kTok_leave_20 : okb (mth nTok_leave) 20 bTok_leave_20 = true := by decide +kernel
def bTok_leave_23 : List EN := [(23, .ireturn, 1, 0, 0, 0, [])]
theorem kTok_leave_23 : okb (mth nTok_leave) 23 bTok_leave_23 = true := by decide +kernel
def bTok_suspect_0 : List EN := [(0, .aload_n 0, 1, 0, 0, 0, []), (1, .getfield 37, 3, 7, 4, 3, []), (4, .aload_n 0, 1, 0, 0, 0, []), (5, .getfield 33, 3, 7, 3, 3, []), (8, .invokevirtual 150, 3, nNet_copyFrom, 2, 4, [])]
theorem kTok_suspect_0 : okb (mth nTok_suspect) 0 bTok_suspect_0 = true := by decide +kernel
def bTok_suspect_11 : List EN := [(11, .aload_n 0, 1, 0, 0, 0, []), (12, .aload_n 0, 1, 0, 0, 0, []), (13, .getfield 33, 3, 7, 3, 3, []), (16, .iload_n 1, 1, 0, 0, 0, []), (17, .invokevirtual 189, 3, nNet_suspectBy, 2, 4, [])]
theorem kTok_suspect_11 : okb (mth nTok_suspect) 11 bTok_suspect_11 = true := by decide +kernel
def bTok_suspect_20 : List EN := [(20, .invokevirtual 183, 3, nTok_kept, 2, 8, [292, 1786, 292, 1786])]
theorem kTok_suspect_20 : okb (mth nTok_suspect) 20 bTok_suspect_20 = true := by decide +kernel
def bTok_suspect_23 : List EN := [(23, .ireturn, 1, 0, 0, 0, [])]
theorem kTok_suspect_23 : okb (mth nTok_suspect) 23 bTok_suspect_23 = true := by decide +kernel
def bTok_send_0 : List EN := [(0, .aload_n 0, 1, 0, 0, 0, []), (1, .getfield 37, 3, 7, 4, 3, []), (4, .aload_n 0, 1, 0, 0, 0, []), (5, .getfield 33, 3, 7, 3, 3, []), (8, .invokevirtual 150, 3, nNet_copyFrom, 2, 4, [])]
theorem kTok_send_0 : okb (mth nTok_send) 0 bTok_send_0 = true := by decide +kernel
def bTok_send_11 : List EN := [(11, .aload_n 0, 1, 0, 0, 0, []), (12, .aload_n 0, 1, 0, 0, 0, []), (13, .getfield 33, 3, 7, 3, 3, []), (16, .iload_n 1, 1, 0, 0, 0, []), (17, .iload_n 2, 1, 0, 0, 0, []), (18, .invokevirtual 192, 3, nNet_deliverOn, 3, 4, [])]
theorem kTok_send_11 : okb (mth nTok_send) 11 bTok_send_11 = true := by decide +kernel
def bTok_send_21 : List EN := [(21, .invokevirtual 183, 3, nTok_kept, 2, 8, [292, 1786, 292, 1786])]
theorem kTok_send_21 : okb (mth nTok_send) 21 bTok_send_21 = true := by decide +kernel
def bTok_send_24 : List EN := [(24, .ireturn, 1, 0, 0, 0, [])]
theorem kTok_send_24 : okb (mth nTok_send) 24 bTok_send_24 = true := by decide +kernel
def bTok_lose_0 : List EN := [(0, .aload_n 0, 1, 0, 0, 0, []), (1, .getfield 37, 3, 7, 4, 3, []), (4, .aload_n 0, 1, 0, 0, 0, []), (5, .getfield 33, 3, 7, 3, 3, []), (8, .invokevirtual 150, 3, nNet_copyFrom, 2, 4, [])]
theorem kTok_lose_0 : okb (mth nTok_lose) 0 bTok_lose_0 = true := by decide +kernel
def bTok_lose_11 : List EN := [(11, .aload_n 0, 1, 0, 0, 0, []), (12, .aload_n 0, 1, 0, 0, 0, []), (13, .getfield 33, 3, 7, 3, 3, []), (16, .iload_n 1, 1, 0, 0, 0, []), (17, .iload_n 2, 1, 0, 0, 0, []), (18, .invokevirtual 195, 3, nNet_loseOn, 3, 4, [])]
theorem kTok_lose_11 : okb (mth nTok_lose) 11 bTok_lose_11 = true := by decide +kernel
def bTok_lose_21 : List EN := [(21, .invokevirtual 183, 3, nTok_kept, 2, 8, [292, 1786, 292, 1786])]
theorem kTok_lose_21 : okb (mth nTok_lose) 21 bTok_lose_21 = true := by decide +kernel
def bTok_lose_24 : List EN := [(24, .ireturn, 1, 0, 0, 0, [])]
theorem kTok_lose_24 : okb (mth nTok_lose) 24 bTok_lose_24 = true := by decide +kernel
def bTok_settle_0 : List EN := [(0, .iload_n 1, 1, 0, 0, 0, []), (1, .iconst 1, 1, 0, 0, 0, []), (2, .if_icmp .lt 9, 3, 11, 0, 0, [])]
theorem kTok_settle_0 : okb (mth nTok_settle) 0 bTok_settle_0 = true := by decide +kernel
def bTok_settle_5 : List EN := [(5, .iload_n 1, 1, 0, 0, 0, []), (6, .bipush 99, 2, 0, 0, 0, []), (8, .if_icmp .le 5, 3, 13, 0, 0, [])]
theorem kTok_settle_5 : okb (mth nTok_settle) 5 bTok_settle_5 = true := by decide +kernel
def bTok_settle_11 : List EN := [(11, .iconst (-1), 1, 0, 0, 0, []), (12, .ireturn, 1, 0, 0, 0, [])]
theorem kTok_settle_11 : okb (mth nTok_settle) 11 bTok_settle_11 = true := by decide +kernel
def bTok_settle_13 : List EN := [(13, .aload_n 0, 1, 0, 0, 0, []), (14, .getfield 37, 3, 7, 4, 3, []), (17, .aload_n 0, 1, 0, 0, 0, []), (18, .getfield 33, 3, 7, 3, 3, []), (21, .invokevirtual 150, 3, nNet_copyFrom, 2, 4, [])]
theorem kTok_settle_13 : okb (mth nTok_settle) 13 bTok_settle_13 = true := by decide +kernel
def bTok_settle_24 : List EN := [(24, .aload_n 0, 1, 0, 0, 0, []), (25, .aload_n 0, 1, 0, 0, 0, []), (26, .getfield 33, 3, 7, 3, 3, []), (29, .iload_n 1, 1, 0, 0, 0, []), (30, .invokevirtual 177, 3, nNet_settleBy, 2, 4, [])]
theorem kTok_settle_24 : okb (mth nTok_settle) 24 bTok_settle_24 = true := by decide +kernel
def bTok_settle_33 : List EN := [(33, .invokevirtual 183, 3, nTok_kept, 2, 8, [292, 1786, 292, 1786])]
theorem kTok_settle_33 : okb (mth nTok_settle) 33 bTok_settle_33 = true := by decide +kernel
def bTok_settle_36 : List EN := [(36, .ireturn, 1, 0, 0, 0, [])]
theorem kTok_settle_36 : okb (mth nTok_settle) 36 bTok_settle_36 = true := by decide +kernel
def bTok_undo_0 : List EN := [(0, .aload_n 0, 1, 0, 0, 0, []), (1, .getfield 26, 3, 7, 2, 3, []), (4, .getfield 89, 3, 0, 1, 0, []), (7, .ifCond .ne 5, 3, 12, 0, 0, [])]
theorem kTok_undo_0 : okb (mth nTok_undo) 0 bTok_undo_0 = true := by decide +kernel
def bTok_undo_10 : List EN := [(10, .iconst (-1), 1, 0, 0, 0, []), (11, .ireturn, 1, 0, 0, 0, [])]
theorem kTok_undo_10 : okb (mth nTok_undo) 10 bTok_undo_10 = true := by decide +kernel
def bTok_undo_12 : List EN := [(12, .aload_n 0, 1, 0, 0, 0, []), (13, .aload_n 0, 1, 0, 0, 0, []), (14, .getfield 26, 3, 7, 2, 3, []), (17, .aload_n 0, 1, 0, 0, 0, []), (18, .getfield 33, 3, 7, 3, 3, []), (21, .invokevirtual 198, 3, nHist_takeBack, 2, 1, [])]
theorem kTok_undo_12 : okb (mth nTok_undo) 12 bTok_undo_12 = true := by decide +kernel
def bTok_undo_24 : List EN := [(24, .putfield 33, 3, 7, 3, 3, []), (27, .aload_n 0, 1, 0, 0, 0, []), (28, .getfield 26, 3, 7, 2, 3, []), (31, .getfield 89, 3, 0, 1, 0, []), (34, .ireturn, 1, 0, 0, 0, [])]
theorem kTok_undo_24 : okb (mth nTok_undo) 24 bTok_undo_24 = true := by decide +kernel
def bTok_kept_0 : List EN := [(0, .iload_n 1, 1, 0, 0, 0, []), (1, .ifCond .lt 18, 3, 19, 0, 0, [])]
theorem kTok_kept_0 : okb (mth nTok_kept) 0 bTok_kept_0 = true := by decide +kernel
def bTok_kept_4 : List EN := [(4, .aload_n 0, 1, 0, 0, 0, []), (5, .aload_n 0, 1, 0, 0, 0, []), (6, .getfield 26, 3, 7, 2, 3, []), (9, .aload_n 0, 1, 0, 0, 0, []), (10, .getfield 37, 3, 7, 4, 3, []), (13, .invokevirtual 202, 3, nHist_keep, 2, 1, [292, 1786, 292, 1786])]
theorem kTok_kept_4 : okb (mth nTok_kept) 4 bTok_kept_4 = true := by decide +kernel
def bTok_kept_16 : List EN := [(16, .putfield 37, 3, 7, 4, 3, [])]
theorem kTok_kept_16 : okb (mth nTok_kept) 16 bTok_kept_16 = true := by decide +kernel
def bTok_kept_19 : List EN := [(19, .iload_n 1, 1, 0, 0, 0, []), (20, .ireturn, 1, 0, 0, 0, [])]
theorem kTok_kept_19 : okb (mth nTok_kept) 19 bTok_kept_19 = true := by decide +kernel
