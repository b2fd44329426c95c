def bTape_init_0 : List EN := [(0, .aload_n 0, 1, 0, 0, 0, []), (1, .invokespecial 3, 3, 0, 1, -1, []), (4, .aload_n 0, 1, 0, 0, 0, []), (5, .sipush 640, 3, 0, 0, 0, []), (8, .newarray .byte, 2, 11, 0, 0, [1, 640]), (10, .putfield 9, 3, 6, 0, 3, []), (13, .aload_n 0, 1, 0, 0, 0, []), (14, .iconst 0, 1, 0, 0, 0, []), (15, .putfield 15, 3, 6, 1, 0, []), (18, .aload_n 0, 1, 0, 0, 0, []), (19, .iconst 3, 1, 0, 0, 0, []), (20, .putfield 19, 3, 6, 2, 0, []), (23, .aload_n 0, 1, 0, 0, 0, []), (24, .iconst 0, 1, 0, 0, 0, []), (25, .putfield 22, 3, 6, 3, 0, []), (28, .aload_n 0, 1, 0, 0, 0, []), (29, .iconst 0, 1, 0, 0, 0, []), (30, .putfield 25, 3, 6, 4, 0, []), (33, .aload_n 0, 1, 0, 0, 0, []), (34, .iconst 0, 1, 0, 0, 0, []), (35, .putfield 28, 3, 6, 5, 0, []), (38, .return_, 1, 0, 0, 0, [])]
theorem kTape_init_0 : okb (mth nTape_init) 0 bTape_init_0 = true := by decide +kernel
def bTape_add_0 : List EN := [(0, .bipush 24, 2, 0, 0, 0, []), (2, .istore_n 2, 1, 0, 0, 0, [])]
theorem kTape_add_0 : okb (mth nTape_add) 0 bTape_add_0 = true := by decide +kernel
def bTape_add_3 : List EN := [(3, .iload_n 2, 1, 0, 0, 0, []), (4, .ifCond .lt 42, 3, 46, 0, 0, [])]
theorem kTape_add_3 : okb (mth nTape_add) 3 bTape_add_3 = true := by decide +kernel
def bTape_add_7 : List EN := [(7, .aload_n 0, 1, 0, 0, 0, []), (8, .getfield 15, 3, 6, 1, 0, []), (11, .sipush 640, 3, 0, 0, 0, []), (14, .if_icmp .ge 32, 3, 46, 0, 0, [])]
theorem kTape_add_7 : okb (mth nTape_add) 7 bTape_add_7 = true := by decide +kernel
def bTape_add_17 : List EN := [(17, .aload_n 0, 1, 0, 0, 0, []), (18, .getfield 9, 3, 6, 0, 3, []), (21, .aload_n 0, 1, 0, 0, 0, []), (22, .getfield 15, 3, 6, 1, 0, []), (25, .iload_n 1, 1, 0, 0, 0, []), (26, .iload_n 2, 1, 0, 0, 0, []), (27, .ishr, 1, 0, 0, 0, []), (28, .i2b, 1, 0, 0, 0, []), (29, .bastore, 1, 0, 0, 0, []), (30, .aload_n 0, 1, 0, 0, 0, []), (31, .dup, 1, 0, 0, 0, []), (32, .getfield 15, 3, 6, 1, 0, []), (35, .iconst 1, 1, 0, 0, 0, []), (36, .iadd, 1, 0, 0, 0, []), (37, .putfield 15, 3, 6, 1, 0, []), (40, .iinc 2 (-8), 3, 0, 0, 0, []), (43, .goto (-40), 3, 3, 0, 0, [])]
theorem kTape_add_17 : okb (mth nTape_add) 17 bTape_add_17 = true := by decide +kernel
def bTape_add_46 : List EN := [(46, .return_, 1, 0, 0, 0, [])]
theorem kTape_add_46 : okb (mth nTape_add) 46 bTape_add_46 = true := by decide +kernel
def bTape_next_0 : List EN := [(0, .aload_n 0, 1, 0, 0, 0, []), (1, .aload_n 0, 1, 0, 0, 0, []), (2, .getfield 25, 3, 6, 4, 0, []), (5, .putfield 22, 3, 6, 3, 0, [])]
theorem kTape_next_0 : okb (mth nTape_next) 0 bTape_next_0 = true := by decide +kernel
def bTape_next_8 : List EN := [(8, .aload_n 0, 1, 0, 0, 0, []), (9, .getfield 22, 3, 6, 3, 0, []), (12, .aload_n 0, 1, 0, 0, 0, []), (13, .getfield 15, 3, 6, 1, 0, []), (16, .if_icmp .ge 31, 3, 47, 0, 0, [])]
theorem kTape_next_8 : okb (mth nTape_next) 8 bTape_next_8 = true := by decide +kernel
def bTape_next_19 : List EN := [(19, .aload_n 0, 1, 0, 0, 0, []), (20, .getfield 9, 3, 6, 0, 3, []), (23, .aload_n 0, 1, 0, 0, 0, []), (24, .getfield 22, 3, 6, 3, 0, []), (27, .baload, 1, 0, 0, 0, []), (28, .invokestatic 31, 3, nTape_isBlank, 1, 0, [17]), (31, .ifCond .eq 16, 3, 47, 0, 0, [])]
theorem kTape_next_19 : okb (mth nTape_next) 19 bTape_next_19 = true := by decide +kernel
def bTape_next_34 : List EN := [(34, .aload_n 0, 1, 0, 0, 0, []), (35, .dup, 1, 0, 0, 0, []), (36, .getfield 22, 3, 6, 3, 0, []), (39, .iconst 1, 1, 0, 0, 0, []), (40, .iadd, 1, 0, 0, 0, []), (41, .putfield 22, 3, 6, 3, 0, []), (44, .goto (-36), 3, 8, 0, 0, [])]
theorem kTape_next_34 : okb (mth nTape_next) 34 bTape_next_34 = true := by decide +kernel
def bTape_next_47 : List EN := [(47, .aload_n 0, 1, 0, 0, 0, []), (48, .getfield 22, 3, 6, 3, 0, []), (51, .aload_n 0, 1, 0, 0, 0, []), (52, .getfield 15, 3, 6, 1, 0, []), (55, .if_icmp .ge 13, 3, 68, 0, 0, [])]
theorem kTape_next_47 : okb (mth nTape_next) 47 bTape_next_47 = true := by decide +kernel
def bTape_next_58 : List EN := [(58, .aload_n 0, 1, 0, 0, 0, []), (59, .getfield 22, 3, 6, 3, 0, []), (62, .sipush 600, 3, 0, 0, 0, []), (65, .if_icmp .lt 45, 3, 110, 0, 0, [])]
theorem kTape_next_58 : okb (mth nTape_next) 58 bTape_next_58 = true := by decide +kernel
def bTape_next_68 : List EN := [(68, .aload_n 0, 1, 0, 0, 0, []), (69, .aload_n 0, 1, 0, 0, 0, []), (70, .getfield 15, 3, 6, 1, 0, []), (73, .sipush 600, 3, 0, 0, 0, []), (76, .if_icmp .le 7, 3, 83, 0, 0, [])]
theorem kTape_next_68 : okb (mth nTape_next) 68 bTape_next_68 = true := by decide +kernel
def bTape_next_79 : List EN := [(79, .iconst 4, 1, 0, 0, 0, []), (80, .goto 4, 3, 84, 0, 0, [])]
theorem kTape_next_79 : okb (mth nTape_next) 79 bTape_next_79 = true := by decide +kernel
def bTape_next_83 : List EN := [(83, .iconst 3, 1, 0, 0, 0, [])]
theorem kTape_next_83 : okb (mth nTape_next) 83 bTape_next_83 = true := by decide +kernel
def bTape_next_84 : List EN := [(84, .putfield 19, 3, 6, 2, 0, []), (87, .aload_n 0, 1, 0, 0, 0, []), (88, .aload_n 0, 1, 0, 0, 0, []), (89, .getfield 15, 3, 6, 1, 0, []), (92, .sipush 600, 3, 0, 0, 0, []), (95, .invokestatic 35, 3, nMath_min, 2, 0, [21]), (98, .putfield 22, 3, 6, 3, 0, []), (101, .aload_n 0, 1, 0, 0, 0, []), (102, .aload_n 0, 1, 0, 0, 0, []), (103, .getfield 22, 3, 6, 3, 0, []), (106, .putfield 25, 3, 6, 4, 0, []), (109, .return_, 1, 0, 0, 0, [])]
theorem kTape_next_84 : okb (mth nTape_next) 84 bTape_next_84 = true := by decide +kernel
def bTape_next_110 : List EN := [(110, .aload_n 0, 1, 0, 0, 0, []), (111, .aload_n 0, 1, 0, 0, 0, []), (112, .getfield 22, 3, 6, 3, 0, []), (115, .putfield 25, 3, 6, 4, 0, []), (118, .iconst 0, 1, 0, 0, 0, []), (119, .istore_n 1, 1, 0, 0, 0, []), (120, .aload_n 0, 1, 0, 0, 0, []), (121, .iconst 0, 1, 0, 0, 0, []), (122, .putfield 28, 3, 6, 5, 0, [])]
theorem kTape_next_110 : okb (mth nTape_next) 110 bTape_next_110 = true := by decide +kernel
def bTape_next_125 : List EN := [(125, .aload_n 0, 1, 0, 0, 0, []), (126, .getfield 25, 3, 6, 4, 0, []), (129, .aload_n 0, 1, 0, 0, 0, []), (130, .getfield 15, 3, 6, 1, 0, []), (133, .if_icmp .ge 88, 3, 221, 0, 0, [])]
theorem kTape_next_125 : okb (mth nTape_next) 125 bTape_next_125 = true := by decide +kernel
def bTape_next_136 : List EN := [(136, .aload_n 0, 1, 0, 0, 0, []), (137, .getfield 9, 3, 6, 0, 3, []), (140, .aload_n 0, 1, 0, 0, 0, []), (141, .getfield 25, 3, 6, 4, 0, []), (144, .baload, 1, 0, 0, 0, []), (145, .invokestatic 41, 3, nTape_isLetter, 1, 0, [18]), (148, .ifCond .ne 18, 3, 166, 0, 0, [])]
theorem kTape_next_136 : okb (mth nTape_next) 136 bTape_next_136 = true := by decide +kernel
def bTape_next_151 : List EN := [(151, .aload_n 0, 1, 0, 0, 0, []), (152, .getfield 9, 3, 6, 0, 3, []), (155, .aload_n 0, 1, 0, 0, 0, []), (156, .getfield 25, 3, 6, 4, 0, []), (159, .baload, 1, 0, 0, 0, []), (160, .invokestatic 44, 3, nTape_isDigit, 1, 0, [19]), (163, .ifCond .eq 58, 3, 221, 0, 0, [])]
theorem kTape_next_151 : okb (mth nTape_next) 151 bTape_next_151 = true := by decide +kernel
def bTape_next_166 : List EN := [(166, .aload_n 0, 1, 0, 0, 0, []), (167, .getfield 9, 3, 6, 0, 3, []), (170, .aload_n 0, 1, 0, 0, 0, []), (171, .getfield 25, 3, 6, 4, 0, []), (174, .baload, 1, 0, 0, 0, []), (175, .invokestatic 44, 3, nTape_isDigit, 1, 0, [19]), (178, .ifCond .eq 30, 3, 208, 0, 0, [])]
theorem kTape_next_166 : okb (mth nTape_next) 166 bTape_next_166 = true := by decide +kernel
def bTape_next_181 : List EN := [(181, .iinc 1 1, 3, 0, 0, 0, []), (184, .aload_n 0, 1, 0, 0, 0, []), (185, .aload_n 0, 1, 0, 0, 0, []), (186, .getfield 28, 3, 6, 5, 0, []), (189, .bipush 10, 2, 0, 0, 0, []), (191, .imul, 1, 0, 0, 0, []), (192, .aload_n 0, 1, 0, 0, 0, []), (193, .getfield 9, 3, 6, 0, 3, []), (196, .aload_n 0, 1, 0, 0, 0, []), (197, .getfield 25, 3, 6, 4, 0, []), (200, .baload, 1, 0, 0, 0, []), (201, .iadd, 1, 0, 0, 0, []), (202, .bipush 48, 2, 0, 0, 0, []), (204, .isub, 1, 0, 0, 0, []), (205, .putfield 28, 3, 6, 5, 0, [])]
theorem kTape_next_181 : okb (mth nTape_next) 181 bTape_next_181 = true := by decide +kernel
def bTape_next_208 : List EN := [(208, .aload_n 0, 1, 0, 0, 0, []), (209, .dup, 1, 0, 0, 0, []), (210, .getfield 25, 3, 6, 4, 0, []), (213, .iconst 1, 1, 0, 0, 0, []), (214, .iadd, 1, 0, 0, 0, []), (215, .putfield 25, 3, 6, 4, 0, []), (218, .goto (-93), 3, 125, 0, 0, [])]
theorem kTape_next_208 : okb (mth nTape_next) 208 bTape_next_208 = true := by decide +kernel
def bTape_next_221 : List EN := [(221, .aload_n 0, 1, 0, 0, 0, []), (222, .aload_n 0, 1, 0, 0, 0, []), (223, .aload_n 0, 1, 0, 0, 0, []), (224, .getfield 25, 3, 6, 4, 0, []), (227, .aload_n 0, 1, 0, 0, 0, []), (228, .getfield 22, 3, 6, 3, 0, []), (231, .isub, 1, 0, 0, 0, []), (232, .iload_n 1, 1, 0, 0, 0, []), (233, .invokevirtual 47, 3, nTape_kindOfRun, 3, 7, [])]
theorem kTape_next_221 : okb (mth nTape_next) 221 bTape_next_221 = true := by decide +kernel
def bTape_next_236 : List EN := [(236, .putfield 19, 3, 6, 2, 0, []), (239, .aload_n 0, 1, 0, 0, 0, []), (240, .getfield 19, 3, 6, 2, 0, []), (243, .iconst 2, 1, 0, 0, 0, []), (244, .if_icmp .ne 13, 3, 257, 0, 0, [])]
theorem kTape_next_236 : okb (mth nTape_next) 236 bTape_next_236 = true := by decide +kernel
def bTape_next_247 : List EN := [(247, .aload_n 0, 1, 0, 0, 0, []), (248, .aload_n 0, 1, 0, 0, 0, []), (249, .getfield 22, 3, 6, 3, 0, []), (252, .iconst 1, 1, 0, 0, 0, []), (253, .iadd, 1, 0, 0, 0, []), (254, .putfield 25, 3, 6, 4, 0, [])]
theorem kTape_next_247 : okb (mth nTape_next) 247 bTape_next_247 = true := by decide +kernel
def bTape_next_257 : List EN := [(257, .return_, 1, 0, 0, 0, [])]
theorem kTape_next_257 : okb (mth nTape_next) 257 bTape_next_257 = true := by decide +kernel
def bTape_kindOfRun_0 : List EN := [(0, .iload_n 1, 1, 0, 0, 0, []), (1, .ifCond .ne 23, 3, 24, 0, 0, [])]
theorem kTape_kindOfRun_0 : okb (mth nTape_kindOfRun) 0 bTape_kindOfRun_0 = true := by decide +kernel
def bTape_kindOfRun_4 : List EN := [(4, .aload_n 0, 1, 0, 0, 0, []), (5, .getfield 9, 3, 6, 0, 3, []), (8, .aload_n 0, 1, 0, 0, 0, []), (9, .getfield 22, 3, 6, 3, 0, []), (12, .baload, 1, 0, 0, 0, []), (13, .bipush 59, 2, 0, 0, 0, []), (15, .if_icmp .ne 7, 3, 22, 0, 0, [])]
theorem kTape_kindOfRun_4 : okb (mth nTape_kindOfRun) 4 bTape_kindOfRun_4 = true := by decide +kernel
def bTape_kindOfRun_18 : List EN := [(18, .iconst 2, 1, 0, 0, 0, []), (19, .goto 4, 3, 23, 0, 0, [])]
theorem kTape_kindOfRun_18 : okb (mth nTape_kindOfRun) 18 bTape_kindOfRun_18 = true := by decide +kernel
def bTape_kindOfRun_22 : List EN := [(22, .iconst 4, 1, 0, 0, 0, [])]
theorem kTape_kindOfRun_22 : okb (mth nTape_kindOfRun) 22 bTape_kindOfRun_22 = true := by decide +kernel
def bTape_kindOfRun_23 : List EN := [(23, .ireturn, 1, 0, 0, 0, [])]
theorem kTape_kindOfRun_23 : okb (mth nTape_kindOfRun) 23 bTape_kindOfRun_23 = true := by decide +kernel
def bTape_kindOfRun_24 : List EN := [(24, .iload_n 2, 1, 0, 0, 0, []), (25, .ifCond .ne 5, 3, 30, 0, 0, [])]
theorem kTape_kindOfRun_24 : okb (mth nTape_kindOfRun) 24 bTape_kindOfRun_24 = true := by decide +kernel
def bTape_kindOfRun_28 : List EN := [(28, .iconst 0, 1, 0, 0, 0, []), (29, .ireturn, 1, 0, 0, 0, [])]
theorem kTape_kindOfRun_28 : okb (mth nTape_kindOfRun) 28 bTape_kindOfRun_28 = true := by decide +kernel
def bTape_kindOfRun_30 : List EN := [(30, .iload_n 2, 1, 0, 0, 0, []), (31, .iload_n 1, 1, 0, 0, 0, []), (32, .if_icmp .ne 12, 3, 44, 0, 0, [])]
theorem kTape_kindOfRun_30 : okb (mth nTape_kindOfRun) 30 bTape_kindOfRun_30 = true := by decide +kernel
def bTape_kindOfRun_35 : List EN := [(35, .iload_n 2, 1, 0, 0, 0, []), (36, .iconst 2, 1, 0, 0, 0, []), (37, .if_icmp .gt 7, 3, 44, 0, 0, [])]
theorem kTape_kindOfRun_35 : okb (mth nTape_kindOfRun) 35 bTape_kindOfRun_35 = true := by decide +kernel
def bTape_kindOfRun_40 : List EN := [(40, .iconst 1, 1, 0, 0, 0, []), (41, .goto 4, 3, 45, 0, 0, [])]
theorem kTape_kindOfRun_40 : okb (mth nTape_kindOfRun) 40 bTape_kindOfRun_40 = true := by decide +kernel
def bTape_kindOfRun_44 : List EN := [(44, .iconst 4, 1, 0, 0, 0, [])]
theorem kTape_kindOfRun_44 : okb (mth nTape_kindOfRun) 44 bTape_kindOfRun_44 = true := by decide +kernel
def bTape_kindOfRun_45 : List EN := [(45, .ireturn, 1, 0, 0, 0, [])]
theorem kTape_kindOfRun_45 : okb (mth nTape_kindOfRun) 45 bTape_kindOfRun_45 = true := by decide +kernel
def bTape_isWord_0 : List EN := [(0, .aload_n 0, 1, 0, 0, 0, []), (1, .getfield 19, 3, 6, 2, 0, []), (4, .ifCond .ne 19, 3, 23, 0, 0, [])]
theorem kTape_isWord_0 : okb (mth nTape_isWord) 0 bTape_isWord_0 = true := by decide +kernel
def bTape_isWord_7 : List EN := [(7, .aload_n 0, 1, 0, 0, 0, []), (8, .getfield 25, 3, 6, 4, 0, []), (11, .aload_n 0, 1, 0, 0, 0, []), (12, .getfield 22, 3, 6, 3, 0, []), (15, .isub, 1, 0, 0, 0, []), (16, .aload_n 1, 1, 0, 0, 0, []), (17, .invokevirtual 50, 3, nStr_length, 1, 20, [])]
theorem kTape_isWord_7 : okb (mth nTape_isWord) 7 bTape_isWord_7 = true := by decide +kernel
def bTape_isWord_20 : List EN := [(20, .if_icmp .eq 5, 3, 25, 0, 0, [])]
theorem kTape_isWord_20 : okb (mth nTape_isWord) 20 bTape_isWord_20 = true := by decide +kernel
def bTape_isWord_23 : List EN := [(23, .iconst 0, 1, 0, 0, 0, []), (24, .ireturn, 1, 0, 0, 1, [])]
theorem kTape_isWord_23 : okb (mth nTape_isWord) 23 bTape_isWord_23 = true := by decide +kernel
def bTape_isWord_25 : List EN := [(25, .iconst 0, 1, 0, 0, 0, []), (26, .istore_n 2, 1, 0, 0, 0, [])]
theorem kTape_isWord_25 : okb (mth nTape_isWord) 25 bTape_isWord_25 = true := by decide +kernel
def bTape_isWord_27 : List EN := [(27, .iload_n 2, 1, 0, 0, 0, []), (28, .aload_n 1, 1, 0, 0, 0, []), (29, .invokevirtual 50, 3, nStr_length, 1, 20, [])]
theorem kTape_isWord_27 : okb (mth nTape_isWord) 27 bTape_isWord_27 = true := by decide +kernel
def bTape_isWord_32 : List EN := [(32, .if_icmp .ge 30, 3, 62, 0, 0, [])]
theorem kTape_isWord_32 : okb (mth nTape_isWord) 32 bTape_isWord_32 = true := by decide +kernel
def bTape_isWord_35 : List EN := [(35, .aload_n 0, 1, 0, 0, 0, []), (36, .getfield 9, 3, 6, 0, 3, []), (39, .aload_n 0, 1, 0, 0, 0, []), (40, .getfield 22, 3, 6, 3, 0, []), (43, .iload_n 2, 1, 0, 0, 0, []), (44, .iadd, 1, 0, 0, 0, []), (45, .baload, 1, 0, 0, 0, []), (46, .aload_n 1, 1, 0, 0, 0, []), (47, .iload_n 2, 1, 0, 0, 0, []), (48, .invokevirtual 55, 3, nStr_charAt, 2, 20, [])]
theorem kTape_isWord_35 : okb (mth nTape_isWord) 35 bTape_isWord_35 = true := by decide +kernel
def bTape_isWord_51 : List EN := [(51, .if_icmp .eq 5, 3, 56, 0, 0, [])]
theorem kTape_isWord_51 : okb (mth nTape_isWord) 51 bTape_isWord_51 = true := by decide +kernel
def bTape_isWord_54 : List EN := [(54, .iconst 0, 1, 0, 0, 0, []), (55, .ireturn, 1, 0, 0, 1, [])]
theorem kTape_isWord_54 : okb (mth nTape_isWord) 54 bTape_isWord_54 = true := by decide +kernel
def bTape_isWord_56 : List EN := [(56, .iinc 2 1, 3, 0, 0, 0, []), (59, .goto (-32), 3, 27, 0, 0, [])]
theorem kTape_isWord_56 : okb (mth nTape_isWord) 56 bTape_isWord_56 = true := by decide +kernel
def bTape_isWord_62 : List EN := [(62, .iconst 1, 1, 0, 0, 0, []), (63, .ireturn, 1, 0, 0, 1, [])]
theorem kTape_isWord_62 : okb (mth nTape_isWord) 62 bTape_isWord_62 = true := by decide +kernel
def bTape_isBlank_0 : List EN := [(0, .iload_n 0, 1, 0, 0, 0, []), (1, .bipush 32, 2, 0, 0, 0, []), (3, .if_icmp .eq 9, 3, 12, 0, 0, [])]
theorem kTape_isBlank_0 : okb (mth nTape_isBlank) 0 bTape_isBlank_0 = true := by decide +kernel
def bTape_isBlank_6 : List EN := [(6, .iload_n 0, 1, 0, 0, 0, []), (7, .bipush 10, 2, 0, 0, 0, []), (9, .if_icmp .ne 7, 3, 16, 0, 0, [])]
theorem kTape_isBlank_6 : okb (mth nTape_isBlank) 6 bTape_isBlank_6 = true := by decide +kernel
def bTape_isBlank_12 : List EN := [(12, .iconst 1, 1, 0, 0, 0, []), (13, .goto 4, 3, 17, 0, 0, [])]
theorem kTape_isBlank_12 : okb (mth nTape_isBlank) 12 bTape_isBlank_12 = true := by decide +kernel
def bTape_isBlank_16 : List EN := [(16, .iconst 0, 1, 0, 0, 0, [])]
theorem kTape_isBlank_16 : okb (mth nTape_isBlank) 16 bTape_isBlank_16 = true := by decide +kernel
def bTape_isBlank_17 : List EN := [(17, .ireturn, 1, 0, 0, 1, [])]
theorem kTape_isBlank_17 : okb (mth nTape_isBlank) 17 bTape_isBlank_17 = true := by decide +kernel
def bTape_isLetter_0 : List EN := [(0, .iload_n 0, 1, 0, 0, 0, []), (1, .bipush 97, 2, 0, 0, 0, []), (3, .if_icmp .lt 13, 3, 16, 0, 0, [])]
theorem kTape_isLetter_0 : okb (mth nTape_isLetter) 0 bTape_isLetter_0 = true := by decide +kernel
def bTape_isLetter_6 : List EN := [(6, .iload_n 0, 1, 0, 0, 0, []), (7, .bipush 122, 2, 0, 0, 0, []), (9, .if_icmp .gt 7, 3, 16, 0, 0, [])]
theorem kTape_isLetter_6 : okb (mth nTape_isLetter) 6 bTape_isLetter_6 = true := by decide +kernel
def bTape_isLetter_12 : List EN := [(12, .iconst 1, 1, 0, 0, 0, []), (13, .goto 4, 3, 17, 0, 0, [])]
theorem kTape_isLetter_12 : okb (mth nTape_isLetter) 12 bTape_isLetter_12 = true := by decide +kernel
def bTape_isLetter_16 : List EN := [(16, .iconst 0, 1, 0, 0, 0, [])]
theorem kTape_isLetter_16 : okb (mth nTape_isLetter) 16 bTape_isLetter_16 = true := by decide +kernel
def bTape_isLetter_17 : List EN := [(17, .ireturn, 1, 0, 0, 1, [])]
theorem kTape_isLetter_17 : okb (mth nTape_isLetter) 17 bTape_isLetter_17 = true := by decide +kernel
def bTape_isDigit_0 : List EN := [(0, .iload_n 0, 1, 0, 0, 0, []), (1, .bipush 48, 2, 0, 0, 0, []), (3, .if_icmp .lt 13, 3, 16, 0, 0, [])]
theorem kTape_isDigit_0 : okb (mth nTape_isDigit) 0 bTape_isDigit_0 = true := by decide +kernel
def bTape_isDigit_6 : List EN := [(6, .iload_n 0, 1, 0, 0, 0, []), (7, .bipush 57, 2, 0, 0, 0, []), (9, .if_icmp .gt 7, 3, 16, 0, 0, [])]
theorem kTape_isDigit_6 : okb (mth nTape_isDigit) 6 bTape_isDigit_6 = true := by decide +kernel
def bTape_isDigit_12 : List EN := [(12, .iconst 1, 1, 0, 0, 0, []), (13, .goto 4, 3, 17, 0, 0, [])]
theorem kTape_isDigit_12 : okb (mth nTape_isDigit) 12 bTape_isDigit_12 = true := by decide +kernel
def bTape_isDigit_16 : List EN := [(16, .iconst 0, 1, 0, 0, 0, [])]
theorem kTape_isDigit_16 : okb (mth nTape_isDigit) 16 bTape_isDigit_16 = true := by decide +kernel
def bTape_isDigit_17 : List EN := [(17, .ireturn, 1, 0, 0, 1, [])]
theorem kTape_isDigit_17 : okb (mth nTape_isDigit) 17 bTape_isDigit_17 = true := by decide +kernel
