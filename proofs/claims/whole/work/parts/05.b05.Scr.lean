def bScr_init_0 : List EN := [(0, .aload_n 0, 1, 0, 0, 0, []), (1, .invokespecial 3, 3, 0, 1, -1, []), (4, .aload_n 0, 1, 0, 0, 0, []), (5, .bipush 6, 2, 0, 0, 0, []), (7, .newarray .int, 2, 10, 0, 0, [5, 406]), (9, .putfield 9, 3, 5, 0, 3, []), (12, .aload_n 0, 1, 0, 0, 0, []), (13, .bipush 100, 2, 0, 0, 0, []), (15, .newarray .int, 2, 10, 0, 0, [5, 406]), (17, .putfield 15, 3, 5, 1, 3, []), (20, .aload_n 0, 1, 0, 0, 0, []), (21, .bipush 100, 2, 0, 0, 0, []), (23, .newarray .int, 2, 10, 0, 0, [5, 406]), (25, .putfield 18, 3, 5, 2, 3, []), (28, .aload_n 0, 1, 0, 0, 0, []), (29, .bipush 100, 2, 0, 0, 0, []), (31, .newarray .int, 2, 10, 0, 0, [5, 406]), (33, .putfield 21, 3, 5, 3, 3, []), (36, .aload_n 0, 1, 0, 0, 0, []), (37, .bipush 100, 2, 0, 0, 0, []), (39, .newarray .int, 2, 10, 0, 0, [5, 406]), (41, .putfield 24, 3, 5, 4, 3, []), (44, .aload_n 0, 1, 0, 0, 0, []), (45, .iconst 0, 1, 0, 0, 0, []), (46, .putfield 27, 3, 5, 5, 0, []), (49, .aload_n 0, 1, 0, 0, 0, []), (50, .iconst 0, 1, 0, 0, 0, []), (51, .putfield 31, 3, 5, 6, 0, []), (54, .aload_n 0, 1, 0, 0, 0, []), (55, .iconst 0, 1, 0, 0, 0, []), (56, .putfield 34, 3, 5, 7, 0, []), (59, .aload_n 0, 1, 0, 0, 0, []), (60, .iconst 0, 1, 0, 0, 0, []), (61, .putfield 37, 3, 5, 8, 0, []), (64, .return_, 1, 0, 0, 0, [])]
theorem kScr_init_0 : okb (mth nScr_init) 0 bScr_init_0 = true := by decide +kernel
def bScr_read_0 : List EN := [(0, .iconst 0, 1, 0, 0, 0, []), (1, .istore_n 2, 1, 0, 0, 0, [])]
theorem kScr_read_0 : okb (mth nScr_read) 0 bScr_read_0 = true := by decide +kernel
def bScr_read_2 : List EN := [(2, .iload_n 2, 1, 0, 0, 0, []), (3, .bipush 6, 2, 0, 0, 0, []), (5, .if_icmp .ge 16, 3, 21, 0, 0, [])]
theorem kScr_read_2 : okb (mth nScr_read) 2 bScr_read_2 = true := by decide +kernel
def bScr_read_8 : List EN := [(8, .aload_n 0, 1, 0, 0, 0, []), (9, .getfield 9, 3, 5, 0, 3, []), (12, .iload_n 2, 1, 0, 0, 0, []), (13, .iconst 0, 1, 0, 0, 0, []), (14, .iastore, 1, 0, 0, 0, []), (15, .iinc 2 1, 3, 0, 0, 0, []), (18, .goto (-16), 3, 2, 0, 0, [])]
theorem kScr_read_8 : okb (mth nScr_read) 8 bScr_read_8 = true := by decide +kernel
def bScr_read_21 : List EN := [(21, .aload_n 0, 1, 0, 0, 0, []), (22, .iconst 0, 1, 0, 0, 0, []), (23, .putfield 27, 3, 5, 5, 0, []), (26, .aload_n 0, 1, 0, 0, 0, []), (27, .iconst 0, 1, 0, 0, 0, []), (28, .putfield 31, 3, 5, 6, 0, []), (31, .aload_n 0, 1, 0, 0, 0, []), (32, .iconst 0, 1, 0, 0, 0, []), (33, .putfield 34, 3, 5, 7, 0, []), (36, .aload_n 0, 1, 0, 0, 0, []), (37, .iconst 0, 1, 0, 0, 0, []), (38, .putfield 37, 3, 5, 8, 0, []), (41, .aload_n 1, 1, 0, 0, 0, []), (42, .iconst 0, 1, 0, 0, 0, []), (43, .putfield 40, 3, 6, 4, 0, []), (46, .aload_n 0, 1, 0, 0, 0, []), (47, .aload_n 1, 1, 0, 0, 0, []), (48, .invokevirtual 45, 3, nScr_readMembers, 2, 6, [])]
theorem kScr_read_21 : okb (mth nScr_read) 21 bScr_read_21 = true := by decide +kernel
def bScr_read_51 : List EN := [(51, .ifCond .eq 16, 3, 67, 0, 0, [])]
theorem kScr_read_51 : okb (mth nScr_read) 51 bScr_read_51 = true := by decide +kernel
def bScr_read_54 : List EN := [(54, .aload_n 0, 1, 0, 0, 0, []), (55, .aload_n 1, 1, 0, 0, 0, []), (56, .invokevirtual 49, 3, nScr_readRanks, 2, 6, [])]
theorem kScr_read_54 : okb (mth nScr_read) 54 bScr_read_54 = true := by decide +kernel
def bScr_read_59 : List EN := [(59, .ifCond .eq 8, 3, 67, 0, 0, [])]
theorem kScr_read_59 : okb (mth nScr_read) 59 bScr_read_59 = true := by decide +kernel
def bScr_read_62 : List EN := [(62, .aload_n 0, 1, 0, 0, 0, []), (63, .aload_n 1, 1, 0, 0, 0, []), (64, .invokevirtual 52, 3, nScr_readActs, 2, 6, [])]
theorem kScr_read_62 : okb (mth nScr_read) 62 bScr_read_62 = true := by decide +kernel
def bScr_read_67 : List EN := [(67, .return_, 1, 0, 0, 0, [])]
theorem kScr_read_67 : okb (mth nScr_read) 67 bScr_read_67 = true := by decide +kernel
def bScr_readMembers_0 : List EN := [(0, .aload_n 1, 1, 0, 0, 0, []), (1, .invokevirtual 56, 3, nTape_next, 1, 7, [])]
theorem kScr_readMembers_0 : okb (mth nScr_readMembers) 0 bScr_readMembers_0 = true := by decide +kernel
def bScr_readMembers_4 : List EN := [(4, .aload_n 1, 1, 0, 0, 0, []), (5, .ldc 59, 2, 0, 1, 0, []), (7, .invokevirtual 60, 3, nTape_isWord, 2, 7, [])]
theorem kScr_readMembers_4 : okb (mth nScr_readMembers) 4 bScr_readMembers_4 = true := by decide +kernel
def bScr_readMembers_10 : List EN := [(10, .ifCond .ne 10, 3, 20, 0, 0, [])]
theorem kScr_readMembers_10 : okb (mth nScr_readMembers) 10 bScr_readMembers_10 = true := by decide +kernel
def bScr_readMembers_13 : List EN := [(13, .aload_n 0, 1, 0, 0, 0, []), (14, .iconst 1, 1, 0, 0, 0, []), (15, .aload_n 1, 1, 0, 0, 0, []), (16, .invokevirtual 64, 3, nScr_refuse, 3, 6, [])]
theorem kScr_readMembers_13 : okb (mth nScr_readMembers) 13 bScr_readMembers_13 = true := by decide +kernel
def bScr_readMembers_19 : List EN := [(19, .ireturn, 1, 0, 0, 1, [])]
theorem kScr_readMembers_19 : okb (mth nScr_readMembers) 19 bScr_readMembers_19 = true := by decide +kernel
def bScr_readMembers_20 : List EN := [(20, .aload_n 0, 1, 0, 0, 0, []), (21, .aload_n 1, 1, 0, 0, 0, []), (22, .iconst 2, 1, 0, 0, 0, []), (23, .bipush 6, 2, 0, 0, 0, []), (25, .invokevirtual 68, 3, nScr_readNumber, 4, 6, [])]
theorem kScr_readMembers_20 : okb (mth nScr_readMembers) 20 bScr_readMembers_20 = true := by decide +kernel
def bScr_readMembers_28 : List EN := [(28, .ifCond .ne 5, 3, 33, 0, 0, [])]
theorem kScr_readMembers_28 : okb (mth nScr_readMembers) 28 bScr_readMembers_28 = true := by decide +kernel
def bScr_readMembers_31 : List EN := [(31, .iconst 0, 1, 0, 0, 0, []), (32, .ireturn, 1, 0, 0, 1, [])]
theorem kScr_readMembers_31 : okb (mth nScr_readMembers) 31 bScr_readMembers_31 = true := by decide +kernel
def bScr_readMembers_33 : List EN := [(33, .aload_n 0, 1, 0, 0, 0, []), (34, .aload_n 1, 1, 0, 0, 0, []), (35, .getfield 72, 3, 6, 5, 0, []), (38, .putfield 27, 3, 5, 5, 0, []), (41, .aload_n 0, 1, 0, 0, 0, []), (42, .aload_n 1, 1, 0, 0, 0, []), (43, .invokevirtual 75, 3, nScr_readSign, 2, 6, [])]
theorem kScr_readMembers_33 : okb (mth nScr_readMembers) 33 bScr_readMembers_33 = true := by decide +kernel
def bScr_readMembers_46 : List EN := [(46, .ireturn, 1, 0, 0, 1, [])]
theorem kScr_readMembers_46 : okb (mth nScr_readMembers) 46 bScr_readMembers_46 = true := by decide +kernel
def bScr_readRanks_0 : List EN := [(0, .aload_n 1, 1, 0, 0, 0, []), (1, .invokevirtual 56, 3, nTape_next, 1, 7, [])]
theorem kScr_readRanks_0 : okb (mth nScr_readRanks) 0 bScr_readRanks_0 = true := by decide +kernel
def bScr_readRanks_4 : List EN := [(4, .iconst 0, 1, 0, 0, 0, []), (5, .istore_n 2, 1, 0, 0, 0, [])]
theorem kScr_readRanks_4 : okb (mth nScr_readRanks) 4 bScr_readRanks_4 = true := by decide +kernel
def bScr_readRanks_6 : List EN := [(6, .iload_n 2, 1, 0, 0, 0, []), (7, .bipush 20, 2, 0, 0, 0, []), (9, .if_icmp .gt 90, 3, 99, 0, 0, [])]
theorem kScr_readRanks_6 : okb (mth nScr_readRanks) 6 bScr_readRanks_6 = true := by decide +kernel
def bScr_readRanks_12 : List EN := [(12, .aload_n 1, 1, 0, 0, 0, []), (13, .ldc 78, 2, 0, 2, 0, []), (15, .invokevirtual 60, 3, nTape_isWord, 2, 7, [])]
theorem kScr_readRanks_12 : okb (mth nScr_readRanks) 12 bScr_readRanks_12 = true := by decide +kernel
def bScr_readRanks_18 : List EN := [(18, .ifCond .eq 81, 3, 99, 0, 0, [])]
theorem kScr_readRanks_18 : okb (mth nScr_readRanks) 18 bScr_readRanks_18 = true := by decide +kernel
def bScr_readRanks_21 : List EN := [(21, .iload_n 2, 1, 0, 0, 0, []), (22, .bipush 20, 2, 0, 0, 0, []), (24, .if_icmp .ne 10, 3, 34, 0, 0, [])]
theorem kScr_readRanks_21 : okb (mth nScr_readRanks) 21 bScr_readRanks_21 = true := by decide +kernel
def bScr_readRanks_27 : List EN := [(27, .aload_n 0, 1, 0, 0, 0, []), (28, .iconst 3, 1, 0, 0, 0, []), (29, .aload_n 1, 1, 0, 0, 0, []), (30, .invokevirtual 64, 3, nScr_refuse, 3, 6, [])]
theorem kScr_readRanks_27 : okb (mth nScr_readRanks) 27 bScr_readRanks_27 = true := by decide +kernel
def bScr_readRanks_33 : List EN := [(33, .ireturn, 1, 0, 0, 1, [])]
theorem kScr_readRanks_33 : okb (mth nScr_readRanks) 33 bScr_readRanks_33 = true := by decide +kernel
def bScr_readRanks_34 : List EN := [(34, .aload_n 0, 1, 0, 0, 0, []), (35, .aload_n 1, 1, 0, 0, 0, []), (36, .iconst 0, 1, 0, 0, 0, []), (37, .aload_n 0, 1, 0, 0, 0, []), (38, .getfield 27, 3, 5, 5, 0, []), (41, .iconst 1, 1, 0, 0, 0, []), (42, .isub, 1, 0, 0, 0, []), (43, .invokevirtual 68, 3, nScr_readNumber, 4, 6, [])]
theorem kScr_readRanks_34 : okb (mth nScr_readRanks) 34 bScr_readRanks_34 = true := by decide +kernel
def bScr_readRanks_46 : List EN := [(46, .ifCond .ne 5, 3, 51, 0, 0, [])]
theorem kScr_readRanks_46 : okb (mth nScr_readRanks) 46 bScr_readRanks_46 = true := by decide +kernel
def bScr_readRanks_49 : List EN := [(49, .iconst 0, 1, 0, 0, 0, []), (50, .ireturn, 1, 0, 0, 1, [])]
theorem kScr_readRanks_49 : okb (mth nScr_readRanks) 49 bScr_readRanks_49 = true := by decide +kernel
def bScr_readRanks_51 : List EN := [(51, .aload_n 1, 1, 0, 0, 0, []), (52, .getfield 72, 3, 6, 5, 0, []), (55, .istore_n 3, 1, 0, 0, 0, []), (56, .aload_n 0, 1, 0, 0, 0, []), (57, .aload_n 1, 1, 0, 0, 0, []), (58, .iconst 0, 1, 0, 0, 0, []), (59, .bipush 9, 2, 0, 0, 0, []), (61, .invokevirtual 68, 3, nScr_readNumber, 4, 6, [])]
theorem kScr_readRanks_51 : okb (mth nScr_readRanks) 51 bScr_readRanks_51 = true := by decide +kernel
def bScr_readRanks_64 : List EN := [(64, .ifCond .ne 5, 3, 69, 0, 0, [])]
theorem kScr_readRanks_64 : okb (mth nScr_readRanks) 64 bScr_readRanks_64 = true := by decide +kernel
def bScr_readRanks_67 : List EN := [(67, .iconst 0, 1, 0, 0, 0, []), (68, .ireturn, 1, 0, 0, 1, [])]
theorem kScr_readRanks_67 : okb (mth nScr_readRanks) 67 bScr_readRanks_67 = true := by decide +kernel
def bScr_readRanks_69 : List EN := [(69, .aload_n 0, 1, 0, 0, 0, []), (70, .getfield 9, 3, 5, 0, 3, []), (73, .iload_n 3, 1, 0, 0, 0, []), (74, .aload_n 1, 1, 0, 0, 0, []), (75, .getfield 72, 3, 6, 5, 0, []), (78, .iastore, 1, 0, 0, 0, []), (79, .aload_n 0, 1, 0, 0, 0, []), (80, .aload_n 1, 1, 0, 0, 0, []), (81, .invokevirtual 75, 3, nScr_readSign, 2, 6, [])]
theorem kScr_readRanks_69 : okb (mth nScr_readRanks) 69 bScr_readRanks_69 = true := by decide +kernel
def bScr_readRanks_84 : List EN := [(84, .ifCond .ne 5, 3, 89, 0, 0, [])]
theorem kScr_readRanks_84 : okb (mth nScr_readRanks) 84 bScr_readRanks_84 = true := by decide +kernel
def bScr_readRanks_87 : List EN := [(87, .iconst 0, 1, 0, 0, 0, []), (88, .ireturn, 1, 0, 0, 1, [])]
theorem kScr_readRanks_87 : okb (mth nScr_readRanks) 87 bScr_readRanks_87 = true := by decide +kernel
def bScr_readRanks_89 : List EN := [(89, .aload_n 1, 1, 0, 0, 0, []), (90, .invokevirtual 56, 3, nTape_next, 1, 7, [])]
theorem kScr_readRanks_89 : okb (mth nScr_readRanks) 89 bScr_readRanks_89 = true := by decide +kernel
def bScr_readRanks_93 : List EN := [(93, .iinc 2 1, 3, 0, 0, 0, []), (96, .goto (-90), 3, 6, 0, 0, [])]
theorem kScr_readRanks_93 : okb (mth nScr_readRanks) 93 bScr_readRanks_93 = true := by decide +kernel
def bScr_readRanks_99 : List EN := [(99, .iconst 1, 1, 0, 0, 0, []), (100, .ireturn, 1, 0, 0, 1, [])]
theorem kScr_readRanks_99 : okb (mth nScr_readRanks) 99 bScr_readRanks_99 = true := by decide +kernel
def bScr_readActs_0 : List EN := [(0, .aload_n 0, 1, 0, 0, 0, []), (1, .getfield 31, 3, 5, 6, 0, []), (4, .bipush 100, 2, 0, 0, 0, []), (6, .if_icmp .ge 37, 3, 43, 0, 0, [])]
theorem kScr_readActs_0 : okb (mth nScr_readActs) 0 bScr_readActs_0 = true := by decide +kernel
def bScr_readActs_9 : List EN := [(9, .aload_n 1, 1, 0, 0, 0, []), (10, .getfield 80, 3, 6, 2, 0, []), (13, .iconst 3, 1, 0, 0, 0, []), (14, .if_icmp .eq 29, 3, 43, 0, 0, [])]
theorem kScr_readActs_9 : okb (mth nScr_readActs) 9 bScr_readActs_9 = true := by decide +kernel
def bScr_readActs_17 : List EN := [(17, .aload_n 0, 1, 0, 0, 0, []), (18, .aload_n 1, 1, 0, 0, 0, []), (19, .invokevirtual 83, 3, nScr_readAct, 2, 6, [])]
theorem kScr_readActs_17 : okb (mth nScr_readActs) 17 bScr_readActs_17 = true := by decide +kernel
def bScr_readActs_22 : List EN := [(22, .ifCond .ne 4, 3, 26, 0, 0, [])]
theorem kScr_readActs_22 : okb (mth nScr_readActs) 22 bScr_readActs_22 = true := by decide +kernel
def bScr_readActs_25 : List EN := [(25, .return_, 1, 0, 0, 0, [])]
theorem kScr_readActs_25 : okb (mth nScr_readActs) 25 bScr_readActs_25 = true := by decide +kernel
def bScr_readActs_26 : List EN := [(26, .aload_n 0, 1, 0, 0, 0, []), (27, .dup, 1, 0, 0, 0, []), (28, .getfield 31, 3, 5, 6, 0, []), (31, .iconst 1, 1, 0, 0, 0, []), (32, .iadd, 1, 0, 0, 0, []), (33, .putfield 31, 3, 5, 6, 0, []), (36, .aload_n 1, 1, 0, 0, 0, []), (37, .invokevirtual 56, 3, nTape_next, 1, 7, [])]
theorem kScr_readActs_26 : okb (mth nScr_readActs) 26 bScr_readActs_26 = true := by decide +kernel
def bScr_readActs_40 : List EN := [(40, .goto (-40), 3, 0, 0, 0, [])]
theorem kScr_readActs_40 : okb (mth nScr_readActs) 40 bScr_readActs_40 = true := by decide +kernel
def bScr_readActs_43 : List EN := [(43, .return_, 1, 0, 0, 0, [])]
theorem kScr_readActs_43 : okb (mth nScr_readActs) 43 bScr_readActs_43 = true := by decide +kernel
def bScr_readAct_0 : List EN := [(0, .aload_n 1, 1, 0, 0, 0, []), (1, .invokestatic 86, 3, nScr_actOf, 1, 0, [])]
theorem kScr_readAct_0 : okb (mth nScr_readAct) 0 bScr_readAct_0 = true := by decide +kernel
def bScr_readAct_4 : List EN := [(4, .istore_n 2, 1, 0, 0, 0, []), (5, .iload_n 2, 1, 0, 0, 0, []), (6, .iconst (-1), 1, 0, 0, 0, []), (7, .if_icmp .ne 10, 3, 17, 0, 0, [])]
theorem kScr_readAct_4 : okb (mth nScr_readAct) 4 bScr_readAct_4 = true := by decide +kernel
def bScr_readAct_10 : List EN := [(10, .aload_n 0, 1, 0, 0, 0, []), (11, .iconst 1, 1, 0, 0, 0, []), (12, .aload_n 1, 1, 0, 0, 0, []), (13, .invokevirtual 64, 3, nScr_refuse, 3, 6, [])]
theorem kScr_readAct_10 : okb (mth nScr_readAct) 10 bScr_readAct_10 = true := by decide +kernel
def bScr_readAct_16 : List EN := [(16, .ireturn, 1, 0, 0, 1, [])]
theorem kScr_readAct_16 : okb (mth nScr_readAct) 16 bScr_readAct_16 = true := by decide +kernel
def bScr_readAct_17 : List EN := [(17, .aload_n 0, 1, 0, 0, 0, []), (18, .aload_n 1, 1, 0, 0, 0, []), (19, .iload_n 2, 1, 0, 0, 0, []), (20, .iconst 5, 1, 0, 0, 0, []), (21, .if_icmp .ne 7, 3, 28, 0, 0, [])]
theorem kScr_readAct_17 : okb (mth nScr_readAct) 17 bScr_readAct_17 = true := by decide +kernel
def bScr_readAct_24 : List EN := [(24, .iconst 1, 1, 0, 0, 0, []), (25, .goto 4, 3, 29, 0, 0, [])]
theorem kScr_readAct_24 : okb (mth nScr_readAct) 24 bScr_readAct_24 = true := by decide +kernel
def bScr_readAct_28 : List EN := [(28, .iconst 0, 1, 0, 0, 0, [])]
theorem kScr_readAct_28 : okb (mth nScr_readAct) 28 bScr_readAct_28 = true := by decide +kernel
def bScr_readAct_29 : List EN := [(29, .bipush 99, 2, 0, 0, 0, []), (31, .invokevirtual 68, 3, nScr_readNumber, 4, 6, [])]
theorem kScr_readAct_29 : okb (mth nScr_readAct) 29 bScr_readAct_29 = true := by decide +kernel
def bScr_readAct_34 : List EN := [(34, .ifCond .ne 5, 3, 39, 0, 0, [])]
theorem kScr_readAct_34 : okb (mth nScr_readAct) 34 bScr_readAct_34 = true := by decide +kernel
def bScr_readAct_37 : List EN := [(37, .iconst 0, 1, 0, 0, 0, []), (38, .ireturn, 1, 0, 0, 1, [])]
theorem kScr_readAct_37 : okb (mth nScr_readAct) 37 bScr_readAct_37 = true := by decide +kernel
def bScr_readAct_39 : List EN := [(39, .aload_n 1, 1, 0, 0, 0, []), (40, .getfield 72, 3, 6, 5, 0, []), (43, .istore_n 3, 1, 0, 0, 0, []), (44, .iconst 0, 1, 0, 0, 0, []), (45, .istore 4, 2, 0, 0, 0, []), (47, .iload_n 2, 1, 0, 0, 0, []), (48, .iconst 3, 1, 0, 0, 0, []), (49, .if_icmp .eq 8, 3, 57, 0, 0, [])]
theorem kScr_readAct_39 : okb (mth nScr_readAct) 39 bScr_readAct_39 = true := by decide +kernel
def bScr_readAct_52 : List EN := [(52, .iload_n 2, 1, 0, 0, 0, []), (53, .iconst 4, 1, 0, 0, 0, []), (54, .if_icmp .ne 22, 3, 76, 0, 0, [])]
theorem kScr_readAct_52 : okb (mth nScr_readAct) 52 bScr_readAct_52 = true := by decide +kernel
def bScr_readAct_57 : List EN := [(57, .aload_n 0, 1, 0, 0, 0, []), (58, .aload_n 1, 1, 0, 0, 0, []), (59, .iconst 0, 1, 0, 0, 0, []), (60, .bipush 99, 2, 0, 0, 0, []), (62, .invokevirtual 68, 3, nScr_readNumber, 4, 6, [])]
theorem kScr_readAct_57 : okb (mth nScr_readAct) 57 bScr_readAct_57 = true := by decide +kernel
def bScr_readAct_65 : List EN := [(65, .ifCond .ne 5, 3, 70, 0, 0, [])]
theorem kScr_readAct_65 : okb (mth nScr_readAct) 65 bScr_readAct_65 = true := by decide +kernel
def bScr_readAct_68 : List EN := [(68, .iconst 0, 1, 0, 0, 0, []), (69, .ireturn, 1, 0, 0, 1, [])]
theorem kScr_readAct_68 : okb (mth nScr_readAct) 68 bScr_readAct_68 = true := by decide +kernel
def bScr_readAct_70 : List EN := [(70, .aload_n 1, 1, 0, 0, 0, []), (71, .getfield 72, 3, 6, 5, 0, []), (74, .istore 4, 2, 0, 0, 0, [])]
theorem kScr_readAct_70 : okb (mth nScr_readAct) 70 bScr_readAct_70 = true := by decide +kernel
def bScr_readAct_76 : List EN := [(76, .aload_n 0, 1, 0, 0, 0, []), (77, .aload_n 1, 1, 0, 0, 0, []), (78, .invokevirtual 75, 3, nScr_readSign, 2, 6, [])]
theorem kScr_readAct_76 : okb (mth nScr_readAct) 76 bScr_readAct_76 = true := by decide +kernel
def bScr_readAct_81 : List EN := [(81, .ifCond .ne 5, 3, 86, 0, 0, [])]
theorem kScr_readAct_81 : okb (mth nScr_readAct) 81 bScr_readAct_81 = true := by decide +kernel
def bScr_readAct_84 : List EN := [(84, .iconst 0, 1, 0, 0, 0, []), (85, .ireturn, 1, 0, 0, 1, [])]
theorem kScr_readAct_84 : okb (mth nScr_readAct) 84 bScr_readAct_84 = true := by decide +kernel
def bScr_readAct_86 : List EN := [(86, .aload_n 0, 1, 0, 0, 0, []), (87, .getfield 15, 3, 5, 1, 3, []), (90, .aload_n 0, 1, 0, 0, 0, []), (91, .getfield 31, 3, 5, 6, 0, []), (94, .iload_n 2, 1, 0, 0, 0, []), (95, .iastore, 1, 0, 0, 0, []), (96, .aload_n 0, 1, 0, 0, 0, []), (97, .getfield 18, 3, 5, 2, 3, []), (100, .aload_n 0, 1, 0, 0, 0, []), (101, .getfield 31, 3, 5, 6, 0, []), (104, .iload_n 3, 1, 0, 0, 0, []), (105, .iastore, 1, 0, 0, 0, []), (106, .aload_n 0, 1, 0, 0, 0, []), (107, .getfield 21, 3, 5, 3, 3, []), (110, .aload_n 0, 1, 0, 0, 0, []), (111, .getfield 31, 3, 5, 6, 0, []), (114, .iload 4, 2, 0, 0, 0, []), (116, .iastore, 1, 0, 0, 0, []), (117, .aload_n 0, 1, 0, 0, 0, []), (118, .getfield 24, 3, 5, 4, 3, []), (121, .aload_n 0, 1, 0, 0, 0, []), (122, .getfield 31, 3, 5, 6, 0, []), (125, .aload_n 1, 1, 0, 0, 0, []), (126, .getfield 90, 3, 6, 3, 0, []), (129, .iastore, 1, 0, 0, 0, []), (130, .iconst 1, 1, 0, 0, 0, []), (131, .ireturn, 1, 0, 0, 1, [])]
theorem kScr_readAct_86 : okb (mth nScr_readAct) 86 bScr_readAct_86 = true := by decide +kernel
def bScr_actOf_0 : List EN := [(0, .aload_n 0, 1, 0, 0, 0, []), (1, .ldc 93, 2, 0, 3, 0, []), (3, .invokevirtual 60, 3, nTape_isWord, 2, 7, [])]
theorem kScr_actOf_0 : okb (mth nScr_actOf) 0 bScr_actOf_0 = true := by decide +kernel
def bScr_actOf_6 : List EN := [(6, .ifCond .eq 5, 3, 11, 0, 0, [])]
theorem kScr_actOf_6 : okb (mth nScr_actOf) 6 bScr_actOf_6 = true := by decide +kernel
def bScr_actOf_9 : List EN := [(9, .iconst 0, 1, 0, 0, 0, []), (10, .ireturn, 1, 0, 0, 0, [])]
theorem kScr_actOf_9 : okb (mth nScr_actOf) 9 bScr_actOf_9 = true := by decide +kernel
def bScr_actOf_11 : List EN := [(11, .aload_n 0, 1, 0, 0, 0, []), (12, .ldc 95, 2, 0, 4, 0, []), (14, .invokevirtual 60, 3, nTape_isWord, 2, 7, [])]
theorem kScr_actOf_11 : okb (mth nScr_actOf) 11 bScr_actOf_11 = true := by decide +kernel
def bScr_actOf_17 : List EN := [(17, .ifCond .eq 5, 3, 22, 0, 0, [])]
theorem kScr_actOf_17 : okb (mth nScr_actOf) 17 bScr_actOf_17 = true := by decide +kernel
def bScr_actOf_20 : List EN := [(20, .iconst 1, 1, 0, 0, 0, []), (21, .ireturn, 1, 0, 0, 0, [])]
theorem kScr_actOf_20 : okb (mth nScr_actOf) 20 bScr_actOf_20 = true := by decide +kernel
def bScr_actOf_22 : List EN := [(22, .aload_n 0, 1, 0, 0, 0, []), (23, .ldc 97, 2, 0, 5, 0, []), (25, .invokevirtual 60, 3, nTape_isWord, 2, 7, [])]
theorem kScr_actOf_22 : okb (mth nScr_actOf) 22 bScr_actOf_22 = true := by decide +kernel
def bScr_actOf_28 : List EN := [(28, .ifCond .eq 5, 3, 33, 0, 0, [])]
theorem kScr_actOf_28 : okb (mth nScr_actOf) 28 bScr_actOf_28 = true := by decide +kernel
def bScr_actOf_31 : List EN := [(31, .iconst 2, 1, 0, 0, 0, []), (32, .ireturn, 1, 0, 0, 0, [])]
theorem kScr_actOf_31 : okb (mth nScr_actOf) 31 bScr_actOf_31 = true := by decide +kernel
def bScr_actOf_33 : List EN := [(33, .aload_n 0, 1, 0, 0, 0, []), (34, .ldc 99, 2, 0, 6, 0, []), (36, .invokevirtual 60, 3, nTape_isWord, 2, 7, [])]
theorem kScr_actOf_33 : okb (mth nScr_actOf) 33 bScr_actOf_33 = true := by decide +kernel
def bScr_actOf_39 : List EN := [(39, .ifCond .eq 5, 3, 44, 0, 0, [])]
theorem kScr_actOf_39 : okb (mth nScr_actOf) 39 bScr_actOf_39 = true := by decide +kernel
def bScr_actOf_42 : List EN := [(42, .iconst 3, 1, 0, 0, 0, []), (43, .ireturn, 1, 0, 0, 0, [])]
theorem kScr_actOf_42 : okb (mth nScr_actOf) 42 bScr_actOf_42 = true := by decide +kernel
def bScr_actOf_44 : List EN := [(44, .aload_n 0, 1, 0, 0, 0, []), (45, .ldc 101, 2, 0, 7, 0, []), (47, .invokevirtual 60, 3, nTape_isWord, 2, 7, [])]
theorem kScr_actOf_44 : okb (mth nScr_actOf) 44 bScr_actOf_44 = true := by decide +kernel
def bScr_actOf_50 : List EN := [(50, .ifCond .eq 5, 3, 55, 0, 0, [])]
theorem kScr_actOf_50 : okb (mth nScr_actOf) 50 bScr_actOf_50 = true := by decide +kernel
def bScr_actOf_53 : List EN := [(53, .iconst 4, 1, 0, 0, 0, []), (54, .ireturn, 1, 0, 0, 0, [])]
theorem kScr_actOf_53 : okb (mth nScr_actOf) 53 bScr_actOf_53 = true := by decide +kernel
def bScr_actOf_55 : List EN := [(55, .aload_n 0, 1, 0, 0, 0, []), (56, .ldc 103, 2, 0, 8, 0, []), (58, .invokevirtual 60, 3, nTape_isWord, 2, 7, [])]
theorem kScr_actOf_55 : okb (mth nScr_actOf) 55 bScr_actOf_55 = true := by decide +kernel
def bScr_actOf_61 : List EN := [(61, .ifCond .eq 7, 3, 68, 0, 0, [])]
theorem kScr_actOf_61 : okb (mth nScr_actOf) 61 bScr_actOf_61 = true := by decide +kernel
def bScr_actOf_64 : List EN := [(64, .iconst 5, 1, 0, 0, 0, []), (65, .goto 4, 3, 69, 0, 0, [])]
theorem kScr_actOf_64 : okb (mth nScr_actOf) 64 bScr_actOf_64 = true := by decide +kernel
def bScr_actOf_68 : List EN := [(68, .iconst (-1), 1, 0, 0, 0, [])]
theorem kScr_actOf_68 : okb (mth nScr_actOf) 68 bScr_actOf_68 = true := by decide +kernel
def bScr_actOf_69 : List EN := [(69, .ireturn, 1, 0, 0, 0, [])]
theorem kScr_actOf_69 : okb (mth nScr_actOf) 69 bScr_actOf_69 = true := by decide +kernel
def bScr_readNumber_0 : List EN := [(0, .aload_n 1, 1, 0, 0, 0, []), (1, .invokevirtual 56, 3, nTape_next, 1, 7, [])]
theorem kScr_readNumber_0 : okb (mth nScr_readNumber) 0 bScr_readNumber_0 = true := by decide +kernel
def bScr_readNumber_4 : List EN := [(4, .aload_n 1, 1, 0, 0, 0, []), (5, .getfield 80, 3, 6, 2, 0, []), (8, .iconst 1, 1, 0, 0, 0, []), (9, .if_icmp .eq 10, 3, 19, 0, 0, [])]
theorem kScr_readNumber_4 : okb (mth nScr_readNumber) 4 bScr_readNumber_4 = true := by decide +kernel
def bScr_readNumber_12 : List EN := [(12, .aload_n 0, 1, 0, 0, 0, []), (13, .iconst 1, 1, 0, 0, 0, []), (14, .aload_n 1, 1, 0, 0, 0, []), (15, .invokevirtual 64, 3, nScr_refuse, 3, 6, [])]
theorem kScr_readNumber_12 : okb (mth nScr_readNumber) 12 bScr_readNumber_12 = true := by decide +kernel
def bScr_readNumber_18 : List EN := [(18, .ireturn, 1, 0, 0, 1, [])]
theorem kScr_readNumber_18 : okb (mth nScr_readNumber) 18 bScr_readNumber_18 = true := by decide +kernel
def bScr_readNumber_19 : List EN := [(19, .aload_n 1, 1, 0, 0, 0, []), (20, .getfield 72, 3, 6, 5, 0, []), (23, .iload_n 2, 1, 0, 0, 0, []), (24, .if_icmp .lt 11, 3, 35, 0, 0, [])]
theorem kScr_readNumber_19 : okb (mth nScr_readNumber) 19 bScr_readNumber_19 = true := by decide +kernel
def bScr_readNumber_27 : List EN := [(27, .aload_n 1, 1, 0, 0, 0, []), (28, .getfield 72, 3, 6, 5, 0, []), (31, .iload_n 3, 1, 0, 0, 0, []), (32, .if_icmp .le 10, 3, 42, 0, 0, [])]
theorem kScr_readNumber_27 : okb (mth nScr_readNumber) 27 bScr_readNumber_27 = true := by decide +kernel
def bScr_readNumber_35 : List EN := [(35, .aload_n 0, 1, 0, 0, 0, []), (36, .iconst 2, 1, 0, 0, 0, []), (37, .aload_n 1, 1, 0, 0, 0, []), (38, .invokevirtual 64, 3, nScr_refuse, 3, 6, [])]
theorem kScr_readNumber_35 : okb (mth nScr_readNumber) 35 bScr_readNumber_35 = true := by decide +kernel
def bScr_readNumber_41 : List EN := [(41, .ireturn, 1, 0, 0, 1, [])]
theorem kScr_readNumber_41 : okb (mth nScr_readNumber) 41 bScr_readNumber_41 = true := by decide +kernel
def bScr_readNumber_42 : List EN := [(42, .iconst 1, 1, 0, 0, 0, []), (43, .ireturn, 1, 0, 0, 1, [])]
theorem kScr_readNumber_42 : okb (mth nScr_readNumber) 42 bScr_readNumber_42 = true := by decide +kernel
def bScr_readSign_0 : List EN := [(0, .aload_n 1, 1, 0, 0, 0, []), (1, .invokevirtual 56, 3, nTape_next, 1, 7, [])]
theorem kScr_readSign_0 : okb (mth nScr_readSign) 0 bScr_readSign_0 = true := by decide +kernel
def bScr_readSign_4 : List EN := [(4, .aload_n 1, 1, 0, 0, 0, []), (5, .getfield 80, 3, 6, 2, 0, []), (8, .iconst 2, 1, 0, 0, 0, []), (9, .if_icmp .eq 12, 3, 21, 0, 0, [])]
theorem kScr_readSign_4 : okb (mth nScr_readSign) 4 bScr_readSign_4 = true := by decide +kernel
def bScr_readSign_12 : List EN := [(12, .aload_n 0, 1, 0, 0, 0, []), (13, .iconst 1, 1, 0, 0, 0, []), (14, .aload_n 1, 1, 0, 0, 0, []), (15, .invokevirtual 64, 3, nScr_refuse, 3, 6, [])]
theorem kScr_readSign_12 : okb (mth nScr_readSign) 12 bScr_readSign_12 = true := by decide +kernel
def bScr_readSign_18 : List EN := [(18, .ifCond .eq 7, 3, 25, 0, 0, [])]
theorem kScr_readSign_18 : okb (mth nScr_readSign) 18 bScr_readSign_18 = true := by decide +kernel
def bScr_readSign_21 : List EN := [(21, .iconst 1, 1, 0, 0, 0, []), (22, .goto 4, 3, 26, 0, 0, [])]
theorem kScr_readSign_21 : okb (mth nScr_readSign) 21 bScr_readSign_21 = true := by decide +kernel
def bScr_readSign_25 : List EN := [(25, .iconst 0, 1, 0, 0, 0, [])]
theorem kScr_readSign_25 : okb (mth nScr_readSign) 25 bScr_readSign_25 = true := by decide +kernel
def bScr_readSign_26 : List EN := [(26, .ireturn, 1, 0, 0, 1, [])]
theorem kScr_readSign_26 : okb (mth nScr_readSign) 26 bScr_readSign_26 = true := by decide +kernel
def bScr_refuse_0 : List EN := [(0, .aload_n 0, 1, 0, 0, 0, []), (1, .iload_n 1, 1, 0, 0, 0, []), (2, .putfield 34, 3, 5, 7, 0, []), (5, .aload_n 0, 1, 0, 0, 0, []), (6, .aload_n 2, 1, 0, 0, 0, []), (7, .getfield 90, 3, 6, 3, 0, []), (10, .putfield 37, 3, 5, 8, 0, []), (13, .iconst 0, 1, 0, 0, 0, []), (14, .ireturn, 1, 0, 0, 1, [])]
theorem kScr_refuse_0 : okb (mth nScr_refuse) 0 bScr_refuse_0 = true := by decide +kernel
