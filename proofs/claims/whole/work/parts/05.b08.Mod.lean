def bMod_thrown_0 : List EN := [(0, .aload_n 0, 1, 0, 0, 0, []), (1, .getfield 1, 3, 8, 0, 0, []), (4, .ireturn, 1, 0, 0, 0, [])]
theorem kMod_thrown_0 : okb (mth nMod_thrown) 0 bMod_thrown_0 = true := by decide +kernel
def bMod_refuse_0 : List EN := [(0, .aload_n 0, 1, 0, 0, 0, []), (1, .iconst 1, 1, 0, 0, 0, []), (2, .putfield 1, 3, 8, 0, 0, []), (5, .iconst 0, 1, 0, 0, 0, []), (6, .ireturn, 1, 0, 0, 0, [])]
theorem kMod_refuse_0 : okb (mth nMod_refuse) 0 bMod_refuse_0 = true := by decide +kernel
def bMod_isIn_0 : List EN := [(0, .iload_n 0, 1, 0, 0, 0, []), (1, .iload_n 1, 1, 0, 0, 0, []), (2, .if_icmp .lt 12, 3, 14, 0, 0, [])]
theorem kMod_isIn_0 : okb (mth nMod_isIn) 0 bMod_isIn_0 = true := by decide +kernel
def bMod_isIn_5 : List EN := [(5, .iload_n 0, 1, 0, 0, 0, []), (6, .iload_n 2, 1, 0, 0, 0, []), (7, .if_icmp .gt 7, 3, 14, 0, 0, [])]
theorem kMod_isIn_5 : okb (mth nMod_isIn) 5 bMod_isIn_5 = true := by decide +kernel
def bMod_isIn_10 : List EN := [(10, .iconst 1, 1, 0, 0, 0, []), (11, .goto 4, 3, 15, 0, 0, [])]
theorem kMod_isIn_10 : okb (mth nMod_isIn) 10 bMod_isIn_10 = true := by decide +kernel
def bMod_isIn_14 : List EN := [(14, .iconst 0, 1, 0, 0, 0, [])]
theorem kMod_isIn_14 : okb (mth nMod_isIn) 14 bMod_isIn_14 = true := by decide +kernel
def bMod_isIn_15 : List EN := [(15, .ireturn, 1, 0, 0, 1, [])]
theorem kMod_isIn_15 : okb (mth nMod_isIn) 15 bMod_isIn_15 = true := by decide +kernel
def bMod_lays_0 : List EN := [(0, .bipush 24, 2, 0, 0, 0, []), (2, .istore_n 2, 1, 0, 0, 0, [])]
theorem kMod_lays_0 : okb (mth nMod_lays) 0 bMod_lays_0 = true := by decide +kernel
def bMod_lays_3 : List EN := [(3, .iload_n 2, 1, 0, 0, 0, []), (4, .ifCond .lt 35, 3, 39, 0, 0, [])]
theorem kMod_lays_3 : okb (mth nMod_lays) 3 bMod_lays_3 = true := by decide +kernel
def bMod_lays_7 : List EN := [(7, .aload_n 0, 1, 0, 0, 0, []), (8, .getfield 7, 3, 8, 1, 3, []), (11, .aload_n 0, 1, 0, 0, 0, []), (12, .getfield 11, 3, 8, 2, 0, []), (15, .iload_n 1, 1, 0, 0, 0, []), (16, .iload_n 2, 1, 0, 0, 0, []), (17, .iushr, 1, 0, 0, 0, []), (18, .sipush 255, 3, 0, 0, 0, []), (21, .iand, 1, 0, 0, 0, []), (22, .iastore, 1, 0, 0, 0, []), (23, .aload_n 0, 1, 0, 0, 0, []), (24, .dup, 1, 0, 0, 0, []), (25, .getfield 11, 3, 8, 2, 0, []), (28, .iconst 1, 1, 0, 0, 0, []), (29, .iadd, 1, 0, 0, 0, []), (30, .putfield 11, 3, 8, 2, 0, []), (33, .iinc 2 (-8), 3, 0, 0, 0, []), (36, .goto (-33), 3, 3, 0, 0, [])]
theorem kMod_lays_7 : okb (mth nMod_lays) 7 bMod_lays_7 = true := by decide +kernel
def bMod_lays_39 : List EN := [(39, .return_, 1, 0, 0, 0, [])]
theorem kMod_lays_39 : okb (mth nMod_lays) 39 bMod_lays_39 = true := by decide +kernel
def bMod_feed_0 : List EN := [(0, .aload_n 0, 1, 0, 0, 0, []), (1, .iconst 0, 1, 0, 0, 0, []), (2, .putfield 1, 3, 8, 0, 0, []), (5, .aload_n 0, 1, 0, 0, 0, []), (6, .getfield 11, 3, 8, 2, 0, []), (9, .bipush 20, 2, 0, 0, 0, []), (11, .iadd, 1, 0, 0, 0, []), (12, .sipush 640, 3, 0, 0, 0, []), (15, .if_icmp .le 5, 3, 20, 0, 0, [])]
theorem kMod_feed_0 : okb (mth nMod_feed) 0 bMod_feed_0 = true := by decide +kernel
def bMod_feed_18 : List EN := [(18, .iconst (-1), 1, 0, 0, 0, []), (19, .ireturn, 1, 0, 0, 0, [])]
theorem kMod_feed_18 : okb (mth nMod_feed) 18 bMod_feed_18 = true := by decide +kernel
def bMod_feed_20 : List EN := [(20, .aload_n 0, 1, 0, 0, 0, []), (21, .iload_n 1, 1, 0, 0, 0, []), (22, .invokevirtual 14, 3, nMod_lays, 2, 9, [])]
theorem kMod_feed_20 : okb (mth nMod_feed) 20 bMod_feed_20 = true := by decide +kernel
def bMod_feed_25 : List EN := [(25, .aload_n 0, 1, 0, 0, 0, []), (26, .iload_n 2, 1, 0, 0, 0, []), (27, .invokevirtual 14, 3, nMod_lays, 2, 9, [])]
theorem kMod_feed_25 : okb (mth nMod_feed) 25 bMod_feed_25 = true := by decide +kernel
def bMod_feed_30 : List EN := [(30, .aload_n 0, 1, 0, 0, 0, []), (31, .iload_n 3, 1, 0, 0, 0, []), (32, .invokevirtual 14, 3, nMod_lays, 2, 9, [])]
theorem kMod_feed_30 : okb (mth nMod_feed) 30 bMod_feed_30 = true := by decide +kernel
def bMod_feed_35 : List EN := [(35, .aload_n 0, 1, 0, 0, 0, []), (36, .iload 4, 2, 0, 0, 0, []), (38, .invokevirtual 14, 3, nMod_lays, 2, 9, [])]
theorem kMod_feed_35 : okb (mth nMod_feed) 35 bMod_feed_35 = true := by decide +kernel
def bMod_feed_41 : List EN := [(41, .aload_n 0, 1, 0, 0, 0, []), (42, .iload 5, 2, 0, 0, 0, []), (44, .invokevirtual 14, 3, nMod_lays, 2, 9, [])]
theorem kMod_feed_41 : okb (mth nMod_feed) 41 bMod_feed_41 = true := by decide +kernel
def bMod_feed_47 : List EN := [(47, .aload_n 0, 1, 0, 0, 0, []), (48, .getfield 11, 3, 8, 2, 0, []), (51, .ireturn, 1, 0, 0, 0, [])]
theorem kMod_feed_47 : okb (mth nMod_feed) 47 bMod_feed_47 = true := by decide +kernel
def bMod_end_0 : List EN := [(0, .aload_n 0, 1, 0, 0, 0, []), (1, .iconst 0, 1, 0, 0, 0, []), (2, .putfield 1, 3, 8, 0, 0, []), (5, .iload_n 1, 1, 0, 0, 0, []), (6, .ifCond .lt 11, 3, 17, 0, 0, [])]
theorem kMod_end_0 : okb (mth nMod_end) 0 bMod_end_0 = true := by decide +kernel
def bMod_end_9 : List EN := [(9, .iload_n 1, 1, 0, 0, 0, []), (10, .aload_n 0, 1, 0, 0, 0, []), (11, .getfield 11, 3, 8, 2, 0, []), (14, .if_icmp .le 5, 3, 19, 0, 0, [])]
theorem kMod_end_9 : okb (mth nMod_end) 9 bMod_end_9 = true := by decide +kernel
def bMod_end_17 : List EN := [(17, .iconst 0, 1, 0, 0, 0, []), (18, .ireturn, 1, 0, 0, 1, [])]
theorem kMod_end_17 : okb (mth nMod_end) 17 bMod_end_17 = true := by decide +kernel
def bMod_end_19 : List EN := [(19, .aload_n 0, 1, 0, 0, 0, []), (20, .iload_n 1, 1, 0, 0, 0, []), (21, .putfield 11, 3, 8, 2, 0, []), (24, .iconst 1, 1, 0, 0, 0, []), (25, .ireturn, 1, 0, 0, 1, [])]
theorem kMod_end_19 : okb (mth nMod_end) 19 bMod_end_19 = true := by decide +kernel
def bMod_tapeAt_0 : List EN := [(0, .iload_n 1, 1, 0, 0, 0, []), (1, .aload_n 0, 1, 0, 0, 0, []), (2, .getfield 18, 3, 8, 3, 0, []), (5, .if_icmp .ge 12, 3, 17, 0, 0, [])]
theorem kMod_tapeAt_0 : okb (mth nMod_tapeAt) 0 bMod_tapeAt_0 = true := by decide +kernel
def bMod_tapeAt_8 : List EN := [(8, .aload_n 0, 1, 0, 0, 0, []), (9, .getfield 7, 3, 8, 1, 3, []), (12, .iload_n 1, 1, 0, 0, 0, []), (13, .iaload, 1, 0, 0, 0, []), (14, .goto 4, 3, 18, 0, 0, [])]
theorem kMod_tapeAt_8 : okb (mth nMod_tapeAt) 8 bMod_tapeAt_8 = true := by decide +kernel
def bMod_tapeAt_17 : List EN := [(17, .iconst 0, 1, 0, 0, 0, [])]
theorem kMod_tapeAt_17 : okb (mth nMod_tapeAt) 17 bMod_tapeAt_17 = true := by decide +kernel
def bMod_tapeAt_18 : List EN := [(18, .ireturn, 1, 0, 0, 0, [])]
theorem kMod_tapeAt_18 : okb (mth nMod_tapeAt) 18 bMod_tapeAt_18 = true := by decide +kernel
def bMod_isDigit_0 : List EN := [(0, .iload_n 0, 1, 0, 0, 0, []), (1, .bipush 48, 2, 0, 0, 0, []), (3, .if_icmp .lt 13, 3, 16, 0, 0, [])]
theorem kMod_isDigit_0 : okb (mth nMod_isDigit) 0 bMod_isDigit_0 = true := by decide +kernel
def bMod_isDigit_6 : List EN := [(6, .iload_n 0, 1, 0, 0, 0, []), (7, .bipush 57, 2, 0, 0, 0, []), (9, .if_icmp .gt 7, 3, 16, 0, 0, [])]
theorem kMod_isDigit_6 : okb (mth nMod_isDigit) 6 bMod_isDigit_6 = true := by decide +kernel
def bMod_isDigit_12 : List EN := [(12, .iconst 1, 1, 0, 0, 0, []), (13, .goto 4, 3, 17, 0, 0, [])]
theorem kMod_isDigit_12 : okb (mth nMod_isDigit) 12 bMod_isDigit_12 = true := by decide +kernel
def bMod_isDigit_16 : List EN := [(16, .iconst 0, 1, 0, 0, 0, [])]
theorem kMod_isDigit_16 : okb (mth nMod_isDigit) 16 bMod_isDigit_16 = true := by decide +kernel
def bMod_isDigit_17 : List EN := [(17, .ireturn, 1, 0, 0, 1, [])]
theorem kMod_isDigit_17 : okb (mth nMod_isDigit) 17 bMod_isDigit_17 = true := by decide +kernel
def bMod_isLetter_0 : List EN := [(0, .iload_n 0, 1, 0, 0, 0, []), (1, .bipush 97, 2, 0, 0, 0, []), (3, .if_icmp .lt 13, 3, 16, 0, 0, [])]
theorem kMod_isLetter_0 : okb (mth nMod_isLetter) 0 bMod_isLetter_0 = true := by decide +kernel
def bMod_isLetter_6 : List EN := [(6, .iload_n 0, 1, 0, 0, 0, []), (7, .bipush 122, 2, 0, 0, 0, []), (9, .if_icmp .gt 7, 3, 16, 0, 0, [])]
theorem kMod_isLetter_6 : okb (mth nMod_isLetter) 6 bMod_isLetter_6 = true := by decide +kernel
def bMod_isLetter_12 : List EN := [(12, .iconst 1, 1, 0, 0, 0, []), (13, .goto 4, 3, 17, 0, 0, [])]
theorem kMod_isLetter_12 : okb (mth nMod_isLetter) 12 bMod_isLetter_12 = true := by decide +kernel
def bMod_isLetter_16 : List EN := [(16, .iconst 0, 1, 0, 0, 0, [])]
theorem kMod_isLetter_16 : okb (mth nMod_isLetter) 16 bMod_isLetter_16 = true := by decide +kernel
def bMod_isLetter_17 : List EN := [(17, .ireturn, 1, 0, 0, 1, [])]
theorem kMod_isLetter_17 : okb (mth nMod_isLetter) 17 bMod_isLetter_17 = true := by decide +kernel
def bMod_go_0 : List EN := [(0, .aload_n 0, 1, 0, 0, 0, []), (1, .getfield 21, 3, 8, 4, 0, []), (4, .aload_n 0, 1, 0, 0, 0, []), (5, .getfield 18, 3, 8, 3, 0, []), (8, .if_icmp .ge 44, 3, 52, 0, 0, [])]
theorem kMod_go_0 : okb (mth nMod_go) 0 bMod_go_0 = true := by decide +kernel
def bMod_go_11 : List EN := [(11, .aload_n 0, 1, 0, 0, 0, []), (12, .getfield 7, 3, 8, 1, 3, []), (15, .aload_n 0, 1, 0, 0, 0, []), (16, .getfield 21, 3, 8, 4, 0, []), (19, .iaload, 1, 0, 0, 0, []), (20, .bipush 32, 2, 0, 0, 0, []), (22, .if_icmp .eq 17, 3, 39, 0, 0, [])]
theorem kMod_go_11 : okb (mth nMod_go) 11 bMod_go_11 = true := by decide +kernel
def bMod_go_25 : List EN := [(25, .aload_n 0, 1, 0, 0, 0, []), (26, .getfield 7, 3, 8, 1, 3, []), (29, .aload_n 0, 1, 0, 0, 0, []), (30, .getfield 21, 3, 8, 4, 0, []), (33, .iaload, 1, 0, 0, 0, []), (34, .bipush 10, 2, 0, 0, 0, []), (36, .if_icmp .ne 16, 3, 52, 0, 0, [])]
theorem kMod_go_25 : okb (mth nMod_go) 25 bMod_go_25 = true := by decide +kernel
def bMod_go_39 : List EN := [(39, .aload_n 0, 1, 0, 0, 0, []), (40, .dup, 1, 0, 0, 0, []), (41, .getfield 21, 3, 8, 4, 0, []), (44, .iconst 1, 1, 0, 0, 0, []), (45, .iadd, 1, 0, 0, 0, []), (46, .putfield 21, 3, 8, 4, 0, []), (49, .goto (-49), 3, 0, 0, 0, [])]
theorem kMod_go_39 : okb (mth nMod_go) 39 bMod_go_39 = true := by decide +kernel
def bMod_go_52 : List EN := [(52, .aload_n 0, 1, 0, 0, 0, []), (53, .aload_n 0, 1, 0, 0, 0, []), (54, .getfield 21, 3, 8, 4, 0, []), (57, .putfield 24, 3, 8, 5, 0, []), (60, .aload_n 0, 1, 0, 0, 0, []), (61, .getfield 18, 3, 8, 3, 0, []), (64, .sipush 600, 3, 0, 0, 0, []), (67, .if_icmp .le 26, 3, 93, 0, 0, [])]
theorem kMod_go_52 : okb (mth nMod_go) 52 bMod_go_52 = true := by decide +kernel
def bMod_go_70 : List EN := [(70, .aload_n 0, 1, 0, 0, 0, []), (71, .getfield 24, 3, 8, 5, 0, []), (74, .sipush 600, 3, 0, 0, 0, []), (77, .if_icmp .lt 16, 3, 93, 0, 0, [])]
theorem kMod_go_70 : okb (mth nMod_go) 70 bMod_go_70 = true := by decide +kernel
def bMod_go_80 : List EN := [(80, .aload_n 0, 1, 0, 0, 0, []), (81, .sipush 600, 3, 0, 0, 0, []), (84, .putfield 24, 3, 8, 5, 0, []), (87, .aload_n 0, 1, 0, 0, 0, []), (88, .iconst 1, 1, 0, 0, 0, []), (89, .putfield 27, 3, 8, 6, 0, []), (92, .return_, 1, 0, 0, 0, [])]
theorem kMod_go_80 : okb (mth nMod_go) 80 bMod_go_80 = true := by decide +kernel
def bMod_go_93 : List EN := [(93, .aload_n 0, 1, 0, 0, 0, []), (94, .getfield 21, 3, 8, 4, 0, []), (97, .aload_n 0, 1, 0, 0, 0, []), (98, .getfield 18, 3, 8, 3, 0, []), (101, .if_icmp .lt 9, 3, 110, 0, 0, [])]
theorem kMod_go_93 : okb (mth nMod_go) 93 bMod_go_93 = true := by decide +kernel
def bMod_go_104 : List EN := [(104, .aload_n 0, 1, 0, 0, 0, []), (105, .iconst 0, 1, 0, 0, 0, []), (106, .putfield 27, 3, 8, 6, 0, []), (109, .return_, 1, 0, 0, 0, [])]
theorem kMod_go_104 : okb (mth nMod_go) 104 bMod_go_104 = true := by decide +kernel
def bMod_go_110 : List EN := [(110, .aload_n 0, 1, 0, 0, 0, []), (111, .getfield 7, 3, 8, 1, 3, []), (114, .aload_n 0, 1, 0, 0, 0, []), (115, .getfield 21, 3, 8, 4, 0, []), (118, .iaload, 1, 0, 0, 0, []), (119, .istore_n 1, 1, 0, 0, 0, []), (120, .iload_n 1, 1, 0, 0, 0, []), (121, .invokestatic 30, 3, nMod_isLetter, 1, 0, [2]), (124, .ifCond .ne 36, 3, 160, 0, 0, [])]
theorem kMod_go_110 : okb (mth nMod_go) 110 bMod_go_110 = true := by decide +kernel
def bMod_go_127 : List EN := [(127, .iload_n 1, 1, 0, 0, 0, []), (128, .invokestatic 34, 3, nMod_isDigit, 1, 0, [1]), (131, .ifCond .ne 29, 3, 160, 0, 0, [])]
theorem kMod_go_127 : okb (mth nMod_go) 127 bMod_go_127 = true := by decide +kernel
def bMod_go_134 : List EN := [(134, .aload_n 0, 1, 0, 0, 0, []), (135, .iload_n 1, 1, 0, 0, 0, []), (136, .bipush 59, 2, 0, 0, 0, []), (138, .if_icmp .ne 7, 3, 145, 0, 0, [])]
theorem kMod_go_134 : okb (mth nMod_go) 134 bMod_go_134 = true := by decide +kernel
def bMod_go_141 : List EN := [(141, .iconst 4, 1, 0, 0, 0, []), (142, .goto 4, 3, 146, 0, 0, [])]
theorem kMod_go_141 : okb (mth nMod_go) 141 bMod_go_141 = true := by decide +kernel
def bMod_go_145 : List EN := [(145, .iconst 1, 1, 0, 0, 0, [])]
theorem kMod_go_145 : okb (mth nMod_go) 145 bMod_go_145 = true := by decide +kernel
def bMod_go_146 : List EN := [(146, .putfield 27, 3, 8, 6, 0, []), (149, .aload_n 0, 1, 0, 0, 0, []), (150, .dup, 1, 0, 0, 0, []), (151, .getfield 21, 3, 8, 4, 0, []), (154, .iconst 1, 1, 0, 0, 0, []), (155, .iadd, 1, 0, 0, 0, []), (156, .putfield 21, 3, 8, 4, 0, []), (159, .return_, 1, 0, 0, 0, [])]
theorem kMod_go_146 : okb (mth nMod_go) 146 bMod_go_146 = true := by decide +kernel
def bMod_go_160 : List EN := [(160, .iload_n 1, 1, 0, 0, 0, []), (161, .invokestatic 30, 3, nMod_isLetter, 1, 0, [2]), (164, .istore_n 2, 1, 0, 0, 0, []), (165, .iconst 1, 1, 0, 0, 0, []), (166, .istore_n 3, 1, 0, 0, 0, []), (167, .aload_n 0, 1, 0, 0, 0, []), (168, .lconst 0, 1, 0, 0, 0, []), (169, .putfield 37, 3, 8, 10, 2, []), (172, .aload_n 0, 1, 0, 0, 0, []), (173, .iconst 0, 1, 0, 0, 0, []), (174, .putfield 41, 3, 8, 7, 0, [])]
theorem kMod_go_160 : okb (mth nMod_go) 160 bMod_go_160 = true := by decide +kernel
def bMod_go_177 : List EN := [(177, .aload_n 0, 1, 0, 0, 0, []), (178, .aload_n 0, 1, 0, 0, 0, []), (179, .getfield 21, 3, 8, 4, 0, []), (182, .invokevirtual 44, 3, nMod_tapeAt, 2, 9, [])]
theorem kMod_go_177 : okb (mth nMod_go) 177 bMod_go_177 = true := by decide +kernel
def bMod_go_185 : List EN := [(185, .invokestatic 30, 3, nMod_isLetter, 1, 0, [2]), (188, .ifCond .ne 17, 3, 205, 0, 0, [])]
theorem kMod_go_185 : okb (mth nMod_go) 185 bMod_go_185 = true := by decide +kernel
def bMod_go_191 : List EN := [(191, .aload_n 0, 1, 0, 0, 0, []), (192, .aload_n 0, 1, 0, 0, 0, []), (193, .getfield 21, 3, 8, 4, 0, []), (196, .invokevirtual 44, 3, nMod_tapeAt, 2, 9, [])]
theorem kMod_go_191 : okb (mth nMod_go) 191 bMod_go_191 = true := by decide +kernel
def bMod_go_199 : List EN := [(199, .invokestatic 34, 3, nMod_isDigit, 1, 0, [1]), (202, .ifCond .eq 110, 3, 312, 0, 0, [])]
theorem kMod_go_199 : okb (mth nMod_go) 199 bMod_go_199 = true := by decide +kernel
def bMod_go_205 : List EN := [(205, .aload_n 0, 1, 0, 0, 0, []), (206, .getfield 7, 3, 8, 1, 3, []), (209, .aload_n 0, 1, 0, 0, 0, []), (210, .getfield 21, 3, 8, 4, 0, []), (213, .iaload, 1, 0, 0, 0, []), (214, .istore 4, 2, 0, 0, 0, []), (216, .iload_n 3, 1, 0, 0, 0, []), (217, .ifCond .eq 16, 3, 233, 0, 0, [])]
theorem kMod_go_205 : okb (mth nMod_go) 205 bMod_go_205 = true := by decide +kernel
def bMod_go_220 : List EN := [(220, .iload 4, 2, 0, 0, 0, []), (222, .invokestatic 30, 3, nMod_isLetter, 1, 0, [2]), (225, .iload_n 2, 1, 0, 0, 0, []), (226, .if_icmp .ne 7, 3, 233, 0, 0, [])]
theorem kMod_go_220 : okb (mth nMod_go) 220 bMod_go_220 = true := by decide +kernel
def bMod_go_229 : List EN := [(229, .iconst 1, 1, 0, 0, 0, []), (230, .goto 4, 3, 234, 0, 0, [])]
theorem kMod_go_229 : okb (mth nMod_go) 229 bMod_go_229 = true := by decide +kernel
def bMod_go_233 : List EN := [(233, .iconst 0, 1, 0, 0, 0, [])]
theorem kMod_go_233 : okb (mth nMod_go) 233 bMod_go_233 = true := by decide +kernel
def bMod_go_234 : List EN := [(234, .istore_n 3, 1, 0, 0, 0, []), (235, .aload_n 0, 1, 0, 0, 0, []), (236, .getfield 21, 3, 8, 4, 0, []), (239, .aload_n 0, 1, 0, 0, 0, []), (240, .getfield 24, 3, 8, 5, 0, []), (243, .isub, 1, 0, 0, 0, []), (244, .bipush 8, 2, 0, 0, 0, []), (246, .if_icmp .ge 23, 3, 269, 0, 0, [])]
theorem kMod_go_234 : okb (mth nMod_go) 234 bMod_go_234 = true := by decide +kernel
def bMod_go_249 : List EN := [(249, .aload_n 0, 1, 0, 0, 0, []), (250, .ldc2_w 48, 3, 0, 0, 27, []), (253, .aload_n 0, 1, 0, 0, 0, []), (254, .getfield 37, 3, 8, 10, 2, []), (257, .lmul, 1, 0, 0, 0, []), (258, .iload 4, 2, 0, 0, 0, []), (260, .i2l, 1, 0, 0, 0, []), (261, .ladd, 1, 0, 0, 0, []), (262, .ldc2_w 50, 3, 0, 0, 96, []), (265, .lsub, 1, 0, 0, 0, []), (266, .putfield 37, 3, 8, 10, 2, [])]
theorem kMod_go_249 : okb (mth nMod_go) 249 bMod_go_249 = true := by decide +kernel
def bMod_go_269 : List EN := [(269, .aload_n 0, 1, 0, 0, 0, []), (270, .getfield 21, 3, 8, 4, 0, []), (273, .aload_n 0, 1, 0, 0, 0, []), (274, .getfield 24, 3, 8, 5, 0, []), (277, .isub, 1, 0, 0, 0, []), (278, .iconst 2, 1, 0, 0, 0, []), (279, .if_icmp .ge 20, 3, 299, 0, 0, [])]
theorem kMod_go_269 : okb (mth nMod_go) 269 bMod_go_269 = true := by decide +kernel
def bMod_go_282 : List EN := [(282, .aload_n 0, 1, 0, 0, 0, []), (283, .bipush 10, 2, 0, 0, 0, []), (285, .aload_n 0, 1, 0, 0, 0, []), (286, .getfield 41, 3, 8, 7, 0, []), (289, .imul, 1, 0, 0, 0, []), (290, .iload 4, 2, 0, 0, 0, []), (292, .iadd, 1, 0, 0, 0, []), (293, .bipush 48, 2, 0, 0, 0, []), (295, .isub, 1, 0, 0, 0, []), (296, .putfield 41, 3, 8, 7, 0, [])]
theorem kMod_go_282 : okb (mth nMod_go) 282 bMod_go_282 = true := by decide +kernel
def bMod_go_299 : List EN := [(299, .aload_n 0, 1, 0, 0, 0, []), (300, .dup, 1, 0, 0, 0, []), (301, .getfield 21, 3, 8, 4, 0, []), (304, .iconst 1, 1, 0, 0, 0, []), (305, .iadd, 1, 0, 0, 0, []), (306, .putfield 21, 3, 8, 4, 0, []), (309, .goto (-132), 3, 177, 0, 0, [])]
theorem kMod_go_299 : okb (mth nMod_go) 299 bMod_go_299 = true := by decide +kernel
def bMod_go_312 : List EN := [(312, .aload_n 0, 1, 0, 0, 0, []), (313, .iload_n 3, 1, 0, 0, 0, []), (314, .ifCond .eq 20, 3, 334, 0, 0, [])]
theorem kMod_go_312 : okb (mth nMod_go) 312 bMod_go_312 = true := by decide +kernel
def bMod_go_317 : List EN := [(317, .iload_n 2, 1, 0, 0, 0, []), (318, .ifCond .ne 20, 3, 338, 0, 0, [])]
theorem kMod_go_317 : okb (mth nMod_go) 317 bMod_go_317 = true := by decide +kernel
def bMod_go_321 : List EN := [(321, .aload_n 0, 1, 0, 0, 0, []), (322, .getfield 21, 3, 8, 4, 0, []), (325, .aload_n 0, 1, 0, 0, 0, []), (326, .getfield 24, 3, 8, 5, 0, []), (329, .isub, 1, 0, 0, 0, []), (330, .iconst 2, 1, 0, 0, 0, []), (331, .if_icmp .le 7, 3, 338, 0, 0, [])]
theorem kMod_go_321 : okb (mth nMod_go) 321 bMod_go_321 = true := by decide +kernel
def bMod_go_334 : List EN := [(334, .iconst 1, 1, 0, 0, 0, []), (335, .goto 12, 3, 347, 0, 0, [])]
theorem kMod_go_334 : okb (mth nMod_go) 334 bMod_go_334 = true := by decide +kernel
def bMod_go_338 : List EN := [(338, .iload_n 2, 1, 0, 0, 0, []), (339, .ifCond .eq 7, 3, 346, 0, 0, [])]
theorem kMod_go_338 : okb (mth nMod_go) 338 bMod_go_338 = true := by decide +kernel
def bMod_go_342 : List EN := [(342, .iconst 2, 1, 0, 0, 0, []), (343, .goto 4, 3, 347, 0, 0, [])]
theorem kMod_go_342 : okb (mth nMod_go) 342 bMod_go_342 = true := by decide +kernel
def bMod_go_346 : List EN := [(346, .iconst 3, 1, 0, 0, 0, [])]
theorem kMod_go_346 : okb (mth nMod_go) 346 bMod_go_346 = true := by decide +kernel
def bMod_go_347 : List EN := [(347, .putfield 27, 3, 8, 6, 0, []), (350, .return_, 1, 0, 0, 0, [])]
theorem kMod_go_347 : okb (mth nMod_go) 347 bMod_go_347 = true := by decide +kernel
def bMod_three_0 : List EN := [(0, .ldc2_w 48, 3, 0, 0, 27, []), (3, .ldc2_w 48, 3, 0, 0, 27, []), (6, .iload_n 0, 1, 0, 0, 0, []), (7, .i2l, 1, 0, 0, 0, []), (8, .ldc2_w 50, 3, 0, 0, 96, []), (11, .lsub, 1, 0, 0, 0, []), (12, .lmul, 1, 0, 0, 0, []), (13, .iload_n 1, 1, 0, 0, 0, []), (14, .i2l, 1, 0, 0, 0, []), (15, .ladd, 1, 0, 0, 0, []), (16, .ldc2_w 50, 3, 0, 0, 96, []), (19, .lsub, 1, 0, 0, 0, []), (20, .lmul, 1, 0, 0, 0, []), (21, .iload_n 2, 1, 0, 0, 0, []), (22, .i2l, 1, 0, 0, 0, []), (23, .ladd, 1, 0, 0, 0, []), (24, .ldc2_w 50, 3, 0, 0, 96, []), (27, .lsub, 1, 0, 0, 0, []), (28, .lreturn, 1, 0, 0, 0, [])]
theorem kMod_three_0 : okb (mth nMod_three) 0 bMod_three_0 = true := by decide +kernel
def bMod_six_0 : List EN := [(0, .ldc2_w 52, 3, 0, 0, 19683, []), (3, .iload_n 0, 1, 0, 0, 0, []), (4, .iload_n 1, 1, 0, 0, 0, []), (5, .iload_n 2, 1, 0, 0, 0, []), (6, .invokestatic 54, 3, nMod_three, 3, 0, [3]), (9, .lmul, 1, 0, 0, 0, []), (10, .iload_n 3, 1, 0, 0, 0, []), (11, .iload 4, 2, 0, 0, 0, []), (13, .iload 5, 2, 0, 0, 0, []), (15, .invokestatic 54, 3, nMod_three, 3, 0, [3]), (18, .ladd, 1, 0, 0, 0, []), (19, .lreturn, 1, 0, 0, 0, [])]
theorem kMod_six_0 : okb (mth nMod_six) 0 bMod_six_0 = true := by decide +kernel
def bMod_four_0 : List EN := [(0, .ldc2_w 48, 3, 0, 0, 27, []), (3, .iload_n 0, 1, 0, 0, 0, []), (4, .iload_n 1, 1, 0, 0, 0, []), (5, .iload_n 2, 1, 0, 0, 0, []), (6, .invokestatic 54, 3, nMod_three, 3, 0, [3]), (9, .lmul, 1, 0, 0, 0, []), (10, .iload_n 3, 1, 0, 0, 0, []), (11, .i2l, 1, 0, 0, 0, []), (12, .ladd, 1, 0, 0, 0, []), (13, .ldc2_w 50, 3, 0, 0, 96, []), (16, .lsub, 1, 0, 0, 0, []), (17, .lreturn, 1, 0, 0, 0, [])]
theorem kMod_four_0 : okb (mth nMod_four) 0 bMod_four_0 = true := by decide +kernel
def bMod_isWord_0 : List EN := [(0, .aload_n 0, 1, 0, 0, 0, []), (1, .getfield 27, 3, 8, 6, 0, []), (4, .iconst 2, 1, 0, 0, 0, []), (5, .if_icmp .ne 16, 3, 21, 0, 0, [])]
theorem kMod_isWord_0 : okb (mth nMod_isWord) 0 bMod_isWord_0 = true := by decide +kernel
def bMod_isWord_8 : List EN := [(8, .aload_n 0, 1, 0, 0, 0, []), (9, .getfield 37, 3, 8, 10, 2, []), (12, .lload_n 1, 1, 0, 0, 0, []), (13, .lcmp, 1, 0, 0, 0, []), (14, .ifCond .ne 7, 3, 21, 0, 0, [])]
theorem kMod_isWord_8 : okb (mth nMod_isWord) 8 bMod_isWord_8 = true := by decide +kernel
def bMod_isWord_17 : List EN := [(17, .iconst 1, 1, 0, 0, 0, []), (18, .goto 4, 3, 22, 0, 0, [])]
theorem kMod_isWord_17 : okb (mth nMod_isWord) 17 bMod_isWord_17 = true := by decide +kernel
def bMod_isWord_21 : List EN := [(21, .iconst 0, 1, 0, 0, 0, [])]
theorem kMod_isWord_21 : okb (mth nMod_isWord) 21 bMod_isWord_21 = true := by decide +kernel
def bMod_isWord_22 : List EN := [(22, .ireturn, 1, 0, 0, 1, [])]
theorem kMod_isWord_22 : okb (mth nMod_isWord) 22 bMod_isWord_22 = true := by decide +kernel
def bMod_bad_0 : List EN := [(0, .aload_n 0, 1, 0, 0, 0, []), (1, .aload_n 0, 1, 0, 0, 0, []), (2, .getfield 27, 3, 8, 6, 0, []), (5, .iconst 1, 1, 0, 0, 0, []), (6, .if_icmp .ne 7, 3, 13, 0, 0, [])]
theorem kMod_bad_0 : okb (mth nMod_bad) 0 bMod_bad_0 = true := by decide +kernel
def bMod_bad_9 : List EN := [(9, .iconst 1, 1, 0, 0, 0, []), (10, .goto 4, 3, 14, 0, 0, [])]
theorem kMod_bad_9 : okb (mth nMod_bad) 9 bMod_bad_9 = true := by decide +kernel
def bMod_bad_13 : List EN := [(13, .iload_n 1, 1, 0, 0, 0, [])]
theorem kMod_bad_13 : okb (mth nMod_bad) 13 bMod_bad_13 = true := by decide +kernel
def bMod_bad_14 : List EN := [(14, .putfield 58, 3, 8, 8, 0, []), (17, .aload_n 0, 1, 0, 0, 0, []), (18, .aload_n 0, 1, 0, 0, 0, []), (19, .getfield 24, 3, 8, 5, 0, []), (22, .putfield 61, 3, 8, 9, 0, []), (25, .iconst 0, 1, 0, 0, 0, []), (26, .ireturn, 1, 0, 0, 1, [])]
theorem kMod_bad_14 : okb (mth nMod_bad) 14 bMod_bad_14 = true := by decide +kernel
def bMod_init_0 : List EN := [(0, .aload_n 0, 1, 0, 0, 0, []), (1, .invokespecial 64, 3, 0, 1, -1, []), (4, .aload_n 0, 1, 0, 0, 0, []), (5, .sipush 640, 3, 0, 0, 0, []), (8, .newarray .int, 2, 10, 0, 0, [5, 27382]), (10, .putfield 7, 3, 8, 1, 3, []), (13, .aload_n 0, 1, 0, 0, 0, []), (14, .sipush 2226, 3, 0, 0, 0, []), (17, .newarray .int, 2, 10, 0, 0, [5, 27382]), (19, .putfield 70, 3, 8, 11, 3, []), (22, .aload_n 0, 1, 0, 0, 0, []), (23, .sipush 2226, 3, 0, 0, 0, []), (26, .newarray .int, 2, 10, 0, 0, [5, 27382]), (28, .putfield 73, 3, 8, 12, 3, []), (31, .aload_n 0, 1, 0, 0, 0, []), (32, .sipush 22260, 3, 0, 0, 0, []), (35, .newarray .int, 2, 10, 0, 0, [5, 27382]), (37, .putfield 76, 3, 8, 13, 3, []), (40, .aload_n 0, 1, 0, 0, 0, []), (41, .bipush 30, 2, 0, 0, 0, []), (43, .newarray .int, 2, 10, 0, 0, [5, 27382]), (45, .putfield 79, 3, 8, 17, 3, []), (48, .aload_n 0, 1, 0, 0, 0, []), (49, .iconst 2, 1, 0, 0, 0, []), (50, .invokevirtual 82, 3, nMod_begins, 2, 9, [])]
theorem kMod_init_0 : okb (mth nMod_init) 0 bMod_init_0 = true := by decide +kernel
def bMod_init_53 : List EN := [(53, .return_, 1, 0, 0, 0, [])]
theorem kMod_init_53 : okb (mth nMod_init) 53 bMod_init_53 = true := by decide +kernel
def bMod_begins_0 : List EN := [(0, .iconst 0, 1, 0, 0, 0, []), (1, .istore_n 2, 1, 0, 0, 0, [])]
theorem kMod_begins_0 : okb (mth nMod_begins) 0 bMod_begins_0 = true := by decide +kernel
def bMod_begins_2 : List EN := [(2, .iload_n 2, 1, 0, 0, 0, []), (3, .sipush 2226, 3, 0, 0, 0, []), (6, .if_icmp .ge 16, 3, 22, 0, 0, [])]
theorem kMod_begins_2 : okb (mth nMod_begins) 2 bMod_begins_2 = true := by decide +kernel
def bMod_begins_9 : List EN := [(9, .aload_n 0, 1, 0, 0, 0, []), (10, .getfield 70, 3, 8, 11, 3, []), (13, .iload_n 2, 1, 0, 0, 0, []), (14, .iconst 0, 1, 0, 0, 0, []), (15, .iastore, 1, 0, 0, 0, []), (16, .iinc 2 1, 3, 0, 0, 0, []), (19, .goto (-17), 3, 2, 0, 0, [])]
theorem kMod_begins_9 : okb (mth nMod_begins) 9 bMod_begins_9 = true := by decide +kernel
def bMod_begins_22 : List EN := [(22, .aload_n 0, 1, 0, 0, 0, []), (23, .getfield 70, 3, 8, 11, 3, []), (26, .iconst 0, 1, 0, 0, 0, []), (27, .iload_n 1, 1, 0, 0, 0, []), (28, .iastore, 1, 0, 0, 0, []), (29, .iconst 0, 1, 0, 0, 0, []), (30, .istore_n 2, 1, 0, 0, 0, [])]
theorem kMod_begins_22 : okb (mth nMod_begins) 22 bMod_begins_22 = true := by decide +kernel
def bMod_begins_31 : List EN := [(31, .iload_n 2, 1, 0, 0, 0, []), (32, .iload_n 1, 1, 0, 0, 0, []), (33, .if_icmp .ge 20, 3, 53, 0, 0, [])]
theorem kMod_begins_31 : okb (mth nMod_begins) 31 bMod_begins_31 = true := by decide +kernel
def bMod_begins_36 : List EN := [(36, .aload_n 0, 1, 0, 0, 0, []), (37, .getfield 70, 3, 8, 11, 3, []), (40, .iload_n 2, 1, 0, 0, 0, []), (41, .iconst 1, 1, 0, 0, 0, []), (42, .invokestatic 85, 3, nMod_at, 2, 0, [6]), (45, .iconst 1, 1, 0, 0, 0, []), (46, .iastore, 1, 0, 0, 0, []), (47, .iinc 2 1, 3, 0, 0, 0, []), (50, .goto (-19), 3, 31, 0, 0, [])]
theorem kMod_begins_36 : okb (mth nMod_begins) 36 bMod_begins_36 = true := by decide +kernel
def bMod_begins_53 : List EN := [(53, .aload_n 0, 1, 0, 0, 0, []), (54, .getfield 70, 3, 8, 11, 3, []), (57, .iconst 0, 1, 0, 0, 0, []), (58, .bipush 30, 2, 0, 0, 0, []), (60, .invokestatic 85, 3, nMod_at, 2, 0, [6]), (63, .iconst 1, 1, 0, 0, 0, []), (64, .iastore, 1, 0, 0, 0, []), (65, .return_, 1, 0, 0, 0, [])]
theorem kMod_begins_53 : okb (mth nMod_begins) 53 bMod_begins_53 = true := by decide +kernel
def bMod_at_0 : List EN := [(0, .bipush 6, 2, 0, 0, 0, []), (2, .bipush 70, 2, 0, 0, 0, []), (4, .iload_n 0, 1, 0, 0, 0, []), (5, .imul, 1, 0, 0, 0, []), (6, .iadd, 1, 0, 0, 0, []), (7, .iload_n 1, 1, 0, 0, 0, []), (8, .iadd, 1, 0, 0, 0, []), (9, .ireturn, 1, 0, 0, 0, [])]
theorem kMod_at_0 : okb (mth nMod_at) 0 bMod_at_0 = true := by decide +kernel
def bMod_its_0 : List EN := [(0, .aload_n 0, 1, 0, 0, 0, []), (1, .getfield 70, 3, 8, 11, 3, []), (4, .iload_n 1, 1, 0, 0, 0, []), (5, .iload_n 2, 1, 0, 0, 0, []), (6, .invokestatic 85, 3, nMod_at, 2, 0, [6]), (9, .iaload, 1, 0, 0, 0, []), (10, .ireturn, 1, 0, 0, 0, [])]
theorem kMod_its_0 : okb (mth nMod_its) 0 bMod_its_0 = true := by decide +kernel
def bMod_isMember_0 : List EN := [(0, .iload_n 1, 1, 0, 0, 0, []), (1, .iconst 0, 1, 0, 0, 0, []), (2, .aload_n 0, 1, 0, 0, 0, []), (3, .getfield 70, 3, 8, 11, 3, []), (6, .iconst 0, 1, 0, 0, 0, []), (7, .iaload, 1, 0, 0, 0, []), (8, .iconst 1, 1, 0, 0, 0, []), (9, .isub, 1, 0, 0, 0, []), (10, .invokestatic 89, 3, nMod_isIn, 3, 0, [0]), (13, .ireturn, 1, 0, 0, 1, [])]
theorem kMod_isMember_0 : okb (mth nMod_isMember) 0 bMod_isMember_0 = true := by decide +kernel
def bMod_has_0 : List EN := [(0, .aload_n 0, 1, 0, 0, 0, []), (1, .iload_n 1, 1, 0, 0, 0, []), (2, .bipush 30, 2, 0, 0, 0, []), (4, .invokevirtual 93, 3, nMod_its, 3, 9, [10]), (7, .ifCond .le 7, 3, 14, 0, 0, [])]
theorem kMod_has_0 : okb (mth nMod_has) 0 bMod_has_0 = true := by decide +kernel
def bMod_has_10 : List EN := [(10, .iconst 1, 1, 0, 0, 0, []), (11, .goto 4, 3, 15, 0, 0, [])]
theorem kMod_has_10 : okb (mth nMod_has) 10 bMod_has_10 = true := by decide +kernel
def bMod_has_14 : List EN := [(14, .iconst 0, 1, 0, 0, 0, [])]
theorem kMod_has_14 : okb (mth nMod_has) 14 bMod_has_14 = true := by decide +kernel
def bMod_has_15 : List EN := [(15, .ireturn, 1, 0, 0, 1, [])]
theorem kMod_has_15 : okb (mth nMod_has) 15 bMod_has_15 = true := by decide +kernel
def bMod_sent_0 : List EN := [(0, .sipush 426, 3, 0, 0, 0, []), (3, .bipush 30, 2, 0, 0, 0, []), (5, .iload_n 0, 1, 0, 0, 0, []), (6, .imul, 1, 0, 0, 0, []), (7, .iadd, 1, 0, 0, 0, []), (8, .iload_n 1, 1, 0, 0, 0, []), (9, .iadd, 1, 0, 0, 0, []), (10, .ireturn, 1, 0, 0, 0, [])]
theorem kMod_sent_0 : okb (mth nMod_sent) 0 bMod_sent_0 = true := by decide +kernel
def bMod_sends_0 : List EN := [(0, .aload_n 0, 1, 0, 0, 0, []), (1, .getfield 70, 3, 8, 11, 3, []), (4, .iconst 5, 1, 0, 0, 0, []), (5, .iaload, 1, 0, 0, 0, []), (6, .istore 6, 2, 0, 0, 0, []), (8, .iconst 0, 1, 0, 0, 0, []), (9, .istore 7, 2, 0, 0, 0, [])]
theorem kMod_sends_0 : okb (mth nMod_sends) 0 bMod_sends_0 = true := by decide +kernel
def bMod_sends_11 : List EN := [(11, .iload 7, 2, 0, 0, 0, []), (13, .bipush 30, 2, 0, 0, 0, []), (15, .if_icmp .ge 22, 3, 37, 0, 0, [])]
theorem kMod_sends_11 : okb (mth nMod_sends) 11 bMod_sends_11 = true := by decide +kernel
def bMod_sends_18 : List EN := [(18, .aload_n 0, 1, 0, 0, 0, []), (19, .getfield 70, 3, 8, 11, 3, []), (22, .iload 6, 2, 0, 0, 0, []), (24, .iload 7, 2, 0, 0, 0, []), (26, .invokestatic 96, 3, nMod_sent, 2, 0, [7]), (29, .iconst 0, 1, 0, 0, 0, []), (30, .iastore, 1, 0, 0, 0, []), (31, .iinc 7 1, 3, 0, 0, 0, []), (34, .goto (-23), 3, 11, 0, 0, [])]
theorem kMod_sends_18 : okb (mth nMod_sends) 18 bMod_sends_18 = true := by decide +kernel
def bMod_sends_37 : List EN := [(37, .aload_n 0, 1, 0, 0, 0, []), (38, .getfield 70, 3, 8, 11, 3, []), (41, .iload 6, 2, 0, 0, 0, []), (43, .iconst 0, 1, 0, 0, 0, []), (44, .invokestatic 96, 3, nMod_sent, 2, 0, [7]), (47, .iload_n 1, 1, 0, 0, 0, []), (48, .iastore, 1, 0, 0, 0, []), (49, .aload_n 0, 1, 0, 0, 0, []), (50, .getfield 70, 3, 8, 11, 3, []), (53, .iload 6, 2, 0, 0, 0, []), (55, .iconst 1, 1, 0, 0, 0, []), (56, .invokestatic 96, 3, nMod_sent, 2, 0, [7]), (59, .iload_n 2, 1, 0, 0, 0, []), (60, .iastore, 1, 0, 0, 0, []), (61, .aload_n 0, 1, 0, 0, 0, []), (62, .getfield 70, 3, 8, 11, 3, []), (65, .iload 6, 2, 0, 0, 0, []), (67, .iconst 2, 1, 0, 0, 0, []), (68, .invokestatic 96, 3, nMod_sent, 2, 0, [7]), (71, .iload_n 3, 1, 0, 0, 0, []), (72, .iastore, 1, 0, 0, 0, []), (73, .aload_n 0, 1, 0, 0, 0, []), (74, .getfield 70, 3, 8, 11, 3, []), (77, .iload 6, 2, 0, 0, 0, []), (79, .iconst 3, 1, 0, 0, 0, []), (80, .invokestatic 96, 3, nMod_sent, 2, 0, [7]), (83, .iload 4, 2, 0, 0, 0, []), (85, .iastore, 1, 0, 0, 0, []), (86, .aload_n 0, 1, 0, 0, 0, []), (87, .getfield 70, 3, 8, 11, 3, []), (90, .iload 6, 2, 0, 0, 0, []), (92, .iconst 4, 1, 0, 0, 0, []), (93, .invokestatic 96, 3, nMod_sent, 2, 0, [7]), (96, .iload 5, 2, 0, 0, 0, []), (98, .iastore, 1, 0, 0, 0, []), (99, .aload_n 0, 1, 0, 0, 0, []), (100, .getfield 70, 3, 8, 11, 3, []), (103, .iconst 5, 1, 0, 0, 0, []), (104, .dup2, 1, 0, 0, 0, []), (105, .iaload, 1, 0, 0, 0, []), (106, .iconst 1, 1, 0, 0, 0, []), (107, .iadd, 1, 0, 0, 0, []), (108, .iastore, 1, 0, 0, 0, []), (109, .return_, 1, 0, 0, 0, [])]
theorem kMod_sends_37 : okb (mth nMod_sends) 37 bMod_sends_37 = true := by decide +kernel
def bMod_sendsAll_0 : List EN := [(0, .iconst 0, 1, 0, 0, 0, []), (1, .istore 5, 2, 0, 0, 0, [])]
theorem kMod_sendsAll_0 : okb (mth nMod_sendsAll) 0 bMod_sendsAll_0 = true := by decide +kernel
def bMod_sendsAll_3 : List EN := [(3, .iload 5, 2, 0, 0, 0, []), (5, .aload_n 0, 1, 0, 0, 0, []), (6, .getfield 70, 3, 8, 11, 3, []), (9, .iconst 0, 1, 0, 0, 0, []), (10, .iaload, 1, 0, 0, 0, []), (11, .if_icmp .ge 26, 3, 37, 0, 0, [])]
theorem kMod_sendsAll_3 : okb (mth nMod_sendsAll) 3 bMod_sendsAll_3 = true := by decide +kernel
def bMod_sendsAll_14 : List EN := [(14, .iload 5, 2, 0, 0, 0, []), (16, .iload_n 1, 1, 0, 0, 0, []), (17, .if_icmp .eq 14, 3, 31, 0, 0, [])]
theorem kMod_sendsAll_14 : okb (mth nMod_sendsAll) 14 bMod_sendsAll_14 = true := by decide +kernel
def bMod_sendsAll_20 : List EN := [(20, .aload_n 0, 1, 0, 0, 0, []), (21, .iload_n 1, 1, 0, 0, 0, []), (22, .iload 5, 2, 0, 0, 0, []), (24, .iload_n 2, 1, 0, 0, 0, []), (25, .iload_n 3, 1, 0, 0, 0, []), (26, .iload 4, 2, 0, 0, 0, []), (28, .invokevirtual 99, 3, nMod_sends, 6, 9, [])]
theorem kMod_sendsAll_20 : okb (mth nMod_sendsAll) 20 bMod_sendsAll_20 = true := by decide +kernel
def bMod_sendsAll_31 : List EN := [(31, .iinc 5 1, 3, 0, 0, 0, []), (34, .goto (-31), 3, 3, 0, 0, [])]
theorem kMod_sendsAll_31 : okb (mth nMod_sendsAll) 31 bMod_sendsAll_31 = true := by decide +kernel
def bMod_sendsAll_37 : List EN := [(37, .return_, 1, 0, 0, 0, [])]
theorem kMod_sendsAll_37 : okb (mth nMod_sendsAll) 37 bMod_sendsAll_37 = true := by decide +kernel
def bMod_placeIn_0 : List EN := [(0, .iconst 0, 1, 0, 0, 0, []), (1, .istore_n 3, 1, 0, 0, 0, [])]
theorem kMod_placeIn_0 : okb (mth nMod_placeIn) 0 bMod_placeIn_0 = true := by decide +kernel
def bMod_placeIn_2 : List EN := [(2, .iload_n 3, 1, 0, 0, 0, []), (3, .aload_n 0, 1, 0, 0, 0, []), (4, .iload_n 1, 1, 0, 0, 0, []), (5, .bipush 31, 2, 0, 0, 0, []), (7, .invokevirtual 93, 3, nMod_its, 3, 9, [10]), (10, .if_icmp .ge 24, 3, 34, 0, 0, [])]
theorem kMod_placeIn_2 : okb (mth nMod_placeIn) 2 bMod_placeIn_2 = true := by decide +kernel
def bMod_placeIn_13 : List EN := [(13, .aload_n 0, 1, 0, 0, 0, []), (14, .iload_n 1, 1, 0, 0, 0, []), (15, .bipush 38, 2, 0, 0, 0, []), (17, .iload_n 3, 1, 0, 0, 0, []), (18, .iadd, 1, 0, 0, 0, []), (19, .invokevirtual 93, 3, nMod_its, 3, 9, [10]), (22, .iload_n 2, 1, 0, 0, 0, []), (23, .if_icmp .ne 5, 3, 28, 0, 0, [])]
theorem kMod_placeIn_13 : okb (mth nMod_placeIn) 13 bMod_placeIn_13 = true := by decide +kernel
def bMod_placeIn_26 : List EN := [(26, .iload_n 3, 1, 0, 0, 0, []), (27, .ireturn, 1, 0, 0, 0, [])]
theorem kMod_placeIn_26 : okb (mth nMod_placeIn) 26 bMod_placeIn_26 = true := by decide +kernel
def bMod_placeIn_28 : List EN := [(28, .iinc 3 1, 3, 0, 0, 0, []), (31, .goto (-29), 3, 2, 0, 0, [])]
theorem kMod_placeIn_28 : okb (mth nMod_placeIn) 28 bMod_placeIn_28 = true := by decide +kernel
def bMod_placeIn_34 : List EN := [(34, .iconst (-1), 1, 0, 0, 0, []), (35, .ireturn, 1, 0, 0, 0, [])]
theorem kMod_placeIn_34 : okb (mth nMod_placeIn) 34 bMod_placeIn_34 = true := by decide +kernel
def bMod_takesOut_0 : List EN := [(0, .iload_n 2, 1, 0, 0, 0, []), (1, .istore_n 3, 1, 0, 0, 0, [])]
theorem kMod_takesOut_0 : okb (mth nMod_takesOut) 0 bMod_takesOut_0 = true := by decide +kernel
def bMod_takesOut_2 : List EN := [(2, .iload_n 3, 1, 0, 0, 0, []), (3, .iconst 1, 1, 0, 0, 0, []), (4, .iadd, 1, 0, 0, 0, []), (5, .aload_n 0, 1, 0, 0, 0, []), (6, .iload_n 1, 1, 0, 0, 0, []), (7, .bipush 31, 2, 0, 0, 0, []), (9, .invokevirtual 93, 3, nMod_its, 3, 9, [10]), (12, .if_icmp .ge 57, 3, 69, 0, 0, [])]
theorem kMod_takesOut_2 : okb (mth nMod_takesOut) 2 bMod_takesOut_2 = true := by decide +kernel
def bMod_takesOut_15 : List EN := [(15, .aload_n 0, 1, 0, 0, 0, []), (16, .getfield 70, 3, 8, 11, 3, []), (19, .iload_n 1, 1, 0, 0, 0, []), (20, .bipush 38, 2, 0, 0, 0, []), (22, .iload_n 3, 1, 0, 0, 0, []), (23, .iadd, 1, 0, 0, 0, []), (24, .invokestatic 85, 3, nMod_at, 2, 0, [6]), (27, .aload_n 0, 1, 0, 0, 0, []), (28, .iload_n 1, 1, 0, 0, 0, []), (29, .bipush 38, 2, 0, 0, 0, []), (31, .iload_n 3, 1, 0, 0, 0, []), (32, .iadd, 1, 0, 0, 0, []), (33, .iconst 1, 1, 0, 0, 0, []), (34, .iadd, 1, 0, 0, 0, []), (35, .invokevirtual 93, 3, nMod_its, 3, 9, [10]), (38, .iastore, 1, 0, 0, 0, []), (39, .aload_n 0, 1, 0, 0, 0, []), (40, .getfield 70, 3, 8, 11, 3, []), (43, .iload_n 1, 1, 0, 0, 0, []), (44, .bipush 44, 2, 0, 0, 0, []), (46, .iload_n 3, 1, 0, 0, 0, []), (47, .iadd, 1, 0, 0, 0, []), (48, .invokestatic 85, 3, nMod_at, 2, 0, [6]), (51, .aload_n 0, 1, 0, 0, 0, []), (52, .iload_n 1, 1, 0, 0, 0, []), (53, .bipush 44, 2, 0, 0, 0, []), (55, .iload_n 3, 1, 0, 0, 0, []), (56, .iadd, 1, 0, 0, 0, []), (57, .iconst 1, 1, 0, 0, 0, []), (58, .iadd, 1, 0, 0, 0, []), (59, .invokevirtual 93, 3, nMod_its, 3, 9, [10]), (62, .iastore, 1, 0, 0, 0, []), (63, .iinc 3 1, 3, 0, 0, 0, []), (66, .goto (-64), 3, 2, 0, 0, [])]
theorem kMod_takesOut_15 : okb (mth nMod_takesOut) 15 bMod_takesOut_15 = true := by decide +kernel
def bMod_takesOut_69 : List EN := [(69, .aload_n 0, 1, 0, 0, 0, []), (70, .getfield 70, 3, 8, 11, 3, []), (73, .iload_n 1, 1, 0, 0, 0, []), (74, .bipush 31, 2, 0, 0, 0, []), (76, .invokestatic 85, 3, nMod_at, 2, 0, [6]), (79, .dup2, 1, 0, 0, 0, []), (80, .iaload, 1, 0, 0, 0, []), (81, .iconst 1, 1, 0, 0, 0, []), (82, .isub, 1, 0, 0, 0, []), (83, .iastore, 1, 0, 0, 0, []), (84, .aload_n 0, 1, 0, 0, 0, []), (85, .getfield 70, 3, 8, 11, 3, []), (88, .iload_n 1, 1, 0, 0, 0, []), (89, .bipush 38, 2, 0, 0, 0, []), (91, .aload_n 0, 1, 0, 0, 0, []), (92, .iload_n 1, 1, 0, 0, 0, []), (93, .bipush 31, 2, 0, 0, 0, []), (95, .invokevirtual 93, 3, nMod_its, 3, 9, [10]), (98, .iadd, 1, 0, 0, 0, []), (99, .invokestatic 85, 3, nMod_at, 2, 0, [6]), (102, .iconst 0, 1, 0, 0, 0, []), (103, .iastore, 1, 0, 0, 0, []), (104, .aload_n 0, 1, 0, 0, 0, []), (105, .getfield 70, 3, 8, 11, 3, []), (108, .iload_n 1, 1, 0, 0, 0, []), (109, .bipush 44, 2, 0, 0, 0, []), (111, .aload_n 0, 1, 0, 0, 0, []), (112, .iload_n 1, 1, 0, 0, 0, []), (113, .bipush 31, 2, 0, 0, 0, []), (115, .invokevirtual 93, 3, nMod_its, 3, 9, [10]), (118, .iadd, 1, 0, 0, 0, []), (119, .invokestatic 85, 3, nMod_at, 2, 0, [6]), (122, .iconst 0, 1, 0, 0, 0, []), (123, .iastore, 1, 0, 0, 0, []), (124, .return_, 1, 0, 0, 0, [])]
theorem kMod_takesOut_69 : okb (mth nMod_takesOut) 69 bMod_takesOut_69 = true := by decide +kernel
def bMod_comesIn_0 : List EN := [(0, .aload_n 0, 1, 0, 0, 0, []), (1, .iload_n 1, 1, 0, 0, 0, []), (2, .bipush 31, 2, 0, 0, 0, []), (4, .invokevirtual 93, 3, nMod_its, 3, 9, [10]), (7, .istore_n 3, 1, 0, 0, 0, []), (8, .aload_n 0, 1, 0, 0, 0, []), (9, .getfield 70, 3, 8, 11, 3, []), (12, .iload_n 1, 1, 0, 0, 0, []), (13, .bipush 38, 2, 0, 0, 0, []), (15, .iload_n 3, 1, 0, 0, 0, []), (16, .iadd, 1, 0, 0, 0, []), (17, .invokestatic 85, 3, nMod_at, 2, 0, [6]), (20, .iload_n 2, 1, 0, 0, 0, []), (21, .iastore, 1, 0, 0, 0, []), (22, .aload_n 0, 1, 0, 0, 0, []), (23, .getfield 70, 3, 8, 11, 3, []), (26, .iload_n 1, 1, 0, 0, 0, []), (27, .bipush 44, 2, 0, 0, 0, []), (29, .iload_n 3, 1, 0, 0, 0, []), (30, .iadd, 1, 0, 0, 0, []), (31, .invokestatic 85, 3, nMod_at, 2, 0, [6]), (34, .iconst 0, 1, 0, 0, 0, []), (35, .iastore, 1, 0, 0, 0, []), (36, .aload_n 0, 1, 0, 0, 0, []), (37, .getfield 70, 3, 8, 11, 3, []), (40, .iload_n 1, 1, 0, 0, 0, []), (41, .bipush 31, 2, 0, 0, 0, []), (43, .invokestatic 85, 3, nMod_at, 2, 0, [6]), (46, .dup2, 1, 0, 0, 0, []), (47, .iaload, 1, 0, 0, 0, []), (48, .iconst 1, 1, 0, 0, 0, []), (49, .iadd, 1, 0, 0, 0, []), (50, .iastore, 1, 0, 0, 0, []), (51, .return_, 1, 0, 0, 0, [])]
theorem kMod_comesIn_0 : okb (mth nMod_comesIn) 0 bMod_comesIn_0 = true := by decide +kernel
def bMod_laysRow_0 : List EN := [(0, .iconst 0, 1, 0, 0, 0, []), (1, .istore_n 2, 1, 0, 0, 0, [])]
theorem kMod_laysRow_0 : okb (mth nMod_laysRow) 0 bMod_laysRow_0 = true := by decide +kernel
def bMod_laysRow_2 : List EN := [(2, .iload_n 2, 1, 0, 0, 0, []), (3, .bipush 6, 2, 0, 0, 0, []), (5, .if_icmp .ge 31, 3, 36, 0, 0, [])]
theorem kMod_laysRow_2 : okb (mth nMod_laysRow) 2 bMod_laysRow_2 = true := by decide +kernel
def bMod_laysRow_8 : List EN := [(8, .aload_n 0, 1, 0, 0, 0, []), (9, .getfield 70, 3, 8, 11, 3, []), (12, .iload_n 1, 1, 0, 0, 0, []), (13, .bipush 18, 2, 0, 0, 0, []), (15, .iload_n 2, 1, 0, 0, 0, []), (16, .iadd, 1, 0, 0, 0, []), (17, .invokestatic 85, 3, nMod_at, 2, 0, [6]), (20, .aload_n 0, 1, 0, 0, 0, []), (21, .iload_n 1, 1, 0, 0, 0, []), (22, .bipush 32, 2, 0, 0, 0, []), (24, .iload_n 2, 1, 0, 0, 0, []), (25, .iadd, 1, 0, 0, 0, []), (26, .invokevirtual 93, 3, nMod_its, 3, 9, [10]), (29, .iastore, 1, 0, 0, 0, []), (30, .iinc 2 1, 3, 0, 0, 0, []), (33, .goto (-31), 3, 2, 0, 0, [])]
theorem kMod_laysRow_8 : okb (mth nMod_laysRow) 8 bMod_laysRow_8 = true := by decide +kernel
def bMod_laysRow_36 : List EN := [(36, .return_, 1, 0, 0, 0, [])]
theorem kMod_laysRow_36 : okb (mth nMod_laysRow) 36 bMod_laysRow_36 = true := by decide +kernel
def bMod_loses_0 : List EN := [(0, .iconst 0, 1, 0, 0, 0, []), (1, .istore_n 2, 1, 0, 0, 0, [])]
theorem kMod_loses_0 : okb (mth nMod_loses) 0 bMod_loses_0 = true := by decide +kernel
def bMod_loses_2 : List EN := [(2, .iload_n 2, 1, 0, 0, 0, []), (3, .bipush 20, 2, 0, 0, 0, []), (5, .if_icmp .ge 23, 3, 28, 0, 0, [])]
theorem kMod_loses_2 : okb (mth nMod_loses) 2 bMod_loses_2 = true := by decide +kernel
def bMod_loses_8 : List EN := [(8, .aload_n 0, 1, 0, 0, 0, []), (9, .getfield 70, 3, 8, 11, 3, []), (12, .iload_n 1, 1, 0, 0, 0, []), (13, .bipush 30, 2, 0, 0, 0, []), (15, .iload_n 2, 1, 0, 0, 0, []), (16, .iadd, 1, 0, 0, 0, []), (17, .invokestatic 85, 3, nMod_at, 2, 0, [6]), (20, .iconst 0, 1, 0, 0, 0, []), (21, .iastore, 1, 0, 0, 0, []), (22, .iinc 2 1, 3, 0, 0, 0, []), (25, .goto (-23), 3, 2, 0, 0, [])]
theorem kMod_loses_8 : okb (mth nMod_loses) 8 bMod_loses_8 = true := by decide +kernel
def bMod_loses_28 : List EN := [(28, .return_, 1, 0, 0, 0, [])]
theorem kMod_loses_28 : okb (mth nMod_loses) 28 bMod_loses_28 = true := by decide +kernel
def bMod_urge_0 : List EN := [(0, .aload_n 0, 1, 0, 0, 0, []), (1, .iload_n 1, 1, 0, 0, 0, []), (2, .bipush 12, 2, 0, 0, 0, []), (4, .aload_n 0, 1, 0, 0, 0, []), (5, .iload_n 1, 1, 0, 0, 0, []), (6, .bipush 38, 2, 0, 0, 0, []), (8, .iload_n 2, 1, 0, 0, 0, []), (9, .iadd, 1, 0, 0, 0, []), (10, .invokevirtual 93, 3, nMod_its, 3, 9, [10]), (13, .iadd, 1, 0, 0, 0, []), (14, .invokevirtual 93, 3, nMod_its, 3, 9, [10]), (17, .aload_n 0, 1, 0, 0, 0, []), (18, .iload_n 1, 1, 0, 0, 0, []), (19, .bipush 44, 2, 0, 0, 0, []), (21, .iload_n 2, 1, 0, 0, 0, []), (22, .iadd, 1, 0, 0, 0, []), (23, .invokevirtual 93, 3, nMod_its, 3, 9, [10]), (26, .iadd, 1, 0, 0, 0, []), (27, .ireturn, 1, 0, 0, 0, [])]
theorem kMod_urge_0 : okb (mth nMod_urge) 0 bMod_urge_0 = true := by decide +kernel
def bMod_handsOn_0 : List EN := [(0, .aload_n 0, 1, 0, 0, 0, []), (1, .iload_n 1, 1, 0, 0, 0, []), (2, .iload_n 1, 1, 0, 0, 0, []), (3, .invokevirtual 103, 3, nMod_placeIn, 3, 9, [])]
theorem kMod_handsOn_0 : okb (mth nMod_handsOn) 0 bMod_handsOn_0 = true := by decide +kernel
def bMod_handsOn_6 : List EN := [(6, .iconst (-1), 1, 0, 0, 0, []), (7, .if_icmp .eq 14, 3, 21, 0, 0, [])]
theorem kMod_handsOn_6 : okb (mth nMod_handsOn) 6 bMod_handsOn_6 = true := by decide +kernel
def bMod_handsOn_10 : List EN := [(10, .aload_n 0, 1, 0, 0, 0, []), (11, .iload_n 1, 1, 0, 0, 0, []), (12, .aload_n 0, 1, 0, 0, 0, []), (13, .iload_n 1, 1, 0, 0, 0, []), (14, .iload_n 1, 1, 0, 0, 0, []), (15, .invokevirtual 103, 3, nMod_placeIn, 3, 9, [])]
theorem kMod_handsOn_10 : okb (mth nMod_handsOn) 10 bMod_handsOn_10 = true := by decide +kernel
def bMod_handsOn_18 : List EN := [(18, .invokevirtual 106, 3, nMod_takesOut, 3, 9, [])]
theorem kMod_handsOn_18 : okb (mth nMod_handsOn) 18 bMod_handsOn_18 = true := by decide +kernel
def bMod_handsOn_21 : List EN := [(21, .iconst 0, 1, 0, 0, 0, []), (22, .istore_n 2, 1, 0, 0, 0, [])]
theorem kMod_handsOn_21 : okb (mth nMod_handsOn) 21 bMod_handsOn_21 = true := by decide +kernel
def bMod_handsOn_23 : List EN := [(23, .iload_n 2, 1, 0, 0, 0, []), (24, .aload_n 0, 1, 0, 0, 0, []), (25, .getfield 70, 3, 8, 11, 3, []), (28, .iconst 0, 1, 0, 0, 0, []), (29, .iaload, 1, 0, 0, 0, []), (30, .if_icmp .ge 51, 3, 81, 0, 0, [])]
theorem kMod_handsOn_23 : okb (mth nMod_handsOn) 23 bMod_handsOn_23 = true := by decide +kernel
def bMod_handsOn_33 : List EN := [(33, .iload_n 2, 1, 0, 0, 0, []), (34, .iload_n 1, 1, 0, 0, 0, []), (35, .if_icmp .eq 40, 3, 75, 0, 0, [])]
theorem kMod_handsOn_33 : okb (mth nMod_handsOn) 33 bMod_handsOn_33 = true := by decide +kernel
def bMod_handsOn_38 : List EN := [(38, .aload_n 0, 1, 0, 0, 0, []), (39, .iload_n 1, 1, 0, 0, 0, []), (40, .bipush 6, 2, 0, 0, 0, []), (42, .iload_n 2, 1, 0, 0, 0, []), (43, .iadd, 1, 0, 0, 0, []), (44, .invokevirtual 93, 3, nMod_its, 3, 9, [10]), (47, .aload_n 0, 1, 0, 0, 0, []), (48, .iload_n 1, 1, 0, 0, 0, []), (49, .bipush 32, 2, 0, 0, 0, []), (51, .iload_n 2, 1, 0, 0, 0, []), (52, .iadd, 1, 0, 0, 0, []), (53, .invokevirtual 93, 3, nMod_its, 3, 9, [10]), (56, .if_icmp .le 19, 3, 75, 0, 0, [])]
theorem kMod_handsOn_38 : okb (mth nMod_handsOn) 38 bMod_handsOn_38 = true := by decide +kernel
def bMod_handsOn_59 : List EN := [(59, .aload_n 0, 1, 0, 0, 0, []), (60, .iload_n 1, 1, 0, 0, 0, []), (61, .iload_n 2, 1, 0, 0, 0, []), (62, .invokevirtual 103, 3, nMod_placeIn, 3, 9, [])]
theorem kMod_handsOn_59 : okb (mth nMod_handsOn) 59 bMod_handsOn_59 = true := by decide +kernel
def bMod_handsOn_65 : List EN := [(65, .iconst (-1), 1, 0, 0, 0, []), (66, .if_icmp .ne 9, 3, 75, 0, 0, [])]
theorem kMod_handsOn_65 : okb (mth nMod_handsOn) 65 bMod_handsOn_65 = true := by decide +kernel
def bMod_handsOn_69 : List EN := [(69, .aload_n 0, 1, 0, 0, 0, []), (70, .iload_n 1, 1, 0, 0, 0, []), (71, .iload_n 2, 1, 0, 0, 0, []), (72, .invokevirtual 110, 3, nMod_comesIn, 3, 9, [])]
theorem kMod_handsOn_69 : okb (mth nMod_handsOn) 69 bMod_handsOn_69 = true := by decide +kernel
def bMod_handsOn_75 : List EN := [(75, .iinc 2 1, 3, 0, 0, 0, []), (78, .goto (-55), 3, 23, 0, 0, [])]
theorem kMod_handsOn_75 : okb (mth nMod_handsOn) 75 bMod_handsOn_75 = true := by decide +kernel
def bMod_handsOn_81 : List EN := [(81, .aload_n 0, 1, 0, 0, 0, []), (82, .iload_n 1, 1, 0, 0, 0, []), (83, .bipush 31, 2, 0, 0, 0, []), (85, .invokevirtual 93, 3, nMod_its, 3, 9, [10]), (88, .ifCond .ne 5, 3, 93, 0, 0, [])]
theorem kMod_handsOn_81 : okb (mth nMod_handsOn) 81 bMod_handsOn_81 = true := by decide +kernel
def bMod_handsOn_91 : List EN := [(91, .iload_n 1, 1, 0, 0, 0, []), (92, .ireturn, 1, 0, 0, 0, [])]
theorem kMod_handsOn_91 : okb (mth nMod_handsOn) 91 bMod_handsOn_91 = true := by decide +kernel
def bMod_handsOn_93 : List EN := [(93, .iconst 0, 1, 0, 0, 0, []), (94, .istore_n 2, 1, 0, 0, 0, []), (95, .iconst 1, 1, 0, 0, 0, []), (96, .istore_n 3, 1, 0, 0, 0, [])]
theorem kMod_handsOn_93 : okb (mth nMod_handsOn) 93 bMod_handsOn_93 = true := by decide +kernel
def bMod_handsOn_97 : List EN := [(97, .iload_n 3, 1, 0, 0, 0, []), (98, .aload_n 0, 1, 0, 0, 0, []), (99, .iload_n 1, 1, 0, 0, 0, []), (100, .bipush 31, 2, 0, 0, 0, []), (102, .invokevirtual 93, 3, nMod_its, 3, 9, [10]), (105, .if_icmp .ge 26, 3, 131, 0, 0, [])]
theorem kMod_handsOn_97 : okb (mth nMod_handsOn) 97 bMod_handsOn_97 = true := by decide +kernel
def bMod_handsOn_108 : List EN := [(108, .aload_n 0, 1, 0, 0, 0, []), (109, .iload_n 1, 1, 0, 0, 0, []), (110, .iload_n 3, 1, 0, 0, 0, []), (111, .invokevirtual 113, 3, nMod_urge, 3, 9, [])]
theorem kMod_handsOn_108 : okb (mth nMod_handsOn) 108 bMod_handsOn_108 = true := by decide +kernel
def bMod_handsOn_114 : List EN := [(114, .aload_n 0, 1, 0, 0, 0, []), (115, .iload_n 1, 1, 0, 0, 0, []), (116, .iload_n 2, 1, 0, 0, 0, []), (117, .invokevirtual 113, 3, nMod_urge, 3, 9, [])]
theorem kMod_handsOn_114 : okb (mth nMod_handsOn) 114 bMod_handsOn_114 = true := by decide +kernel
def bMod_handsOn_120 : List EN := [(120, .if_icmp .le 5, 3, 125, 0, 0, [])]
theorem kMod_handsOn_120 : okb (mth nMod_handsOn) 120 bMod_handsOn_120 = true := by decide +kernel
def bMod_handsOn_123 : List EN := [(123, .iload_n 3, 1, 0, 0, 0, []), (124, .istore_n 2, 1, 0, 0, 0, [])]
theorem kMod_handsOn_123 : okb (mth nMod_handsOn) 123 bMod_handsOn_123 = true := by decide +kernel
def bMod_handsOn_125 : List EN := [(125, .iinc 3 1, 3, 0, 0, 0, []), (128, .goto (-31), 3, 97, 0, 0, [])]
theorem kMod_handsOn_125 : okb (mth nMod_handsOn) 125 bMod_handsOn_125 = true := by decide +kernel
def bMod_handsOn_131 : List EN := [(131, .aload_n 0, 1, 0, 0, 0, []), (132, .iload_n 1, 1, 0, 0, 0, []), (133, .bipush 38, 2, 0, 0, 0, []), (135, .iload_n 2, 1, 0, 0, 0, []), (136, .iadd, 1, 0, 0, 0, []), (137, .invokevirtual 93, 3, nMod_its, 3, 9, [10]), (140, .istore_n 3, 1, 0, 0, 0, []), (141, .aload_n 0, 1, 0, 0, 0, []), (142, .iload_n 1, 1, 0, 0, 0, []), (143, .iload_n 2, 1, 0, 0, 0, []), (144, .invokevirtual 106, 3, nMod_takesOut, 3, 9, [])]
theorem kMod_handsOn_131 : okb (mth nMod_handsOn) 131 bMod_handsOn_131 = true := by decide +kernel
def bMod_handsOn_147 : List EN := [(147, .iconst 0, 1, 0, 0, 0, []), (148, .istore 4, 2, 0, 0, 0, [])]
theorem kMod_handsOn_147 : okb (mth nMod_handsOn) 147 bMod_handsOn_147 = true := by decide +kernel
def bMod_handsOn_150 : List EN := [(150, .iload 4, 2, 0, 0, 0, []), (152, .aload_n 0, 1, 0, 0, 0, []), (153, .iload_n 1, 1, 0, 0, 0, []), (154, .bipush 31, 2, 0, 0, 0, []), (156, .invokevirtual 93, 3, nMod_its, 3, 9, [10]), (159, .if_icmp .ge 27, 3, 186, 0, 0, [])]
theorem kMod_handsOn_150 : okb (mth nMod_handsOn) 150 bMod_handsOn_150 = true := by decide +kernel
def bMod_handsOn_162 : List EN := [(162, .aload_n 0, 1, 0, 0, 0, []), (163, .getfield 70, 3, 8, 11, 3, []), (166, .iload_n 1, 1, 0, 0, 0, []), (167, .bipush 44, 2, 0, 0, 0, []), (169, .iload 4, 2, 0, 0, 0, []), (171, .iadd, 1, 0, 0, 0, []), (172, .invokestatic 85, 3, nMod_at, 2, 0, [6]), (175, .dup2, 1, 0, 0, 0, []), (176, .iaload, 1, 0, 0, 0, []), (177, .iconst 1, 1, 0, 0, 0, []), (178, .iadd, 1, 0, 0, 0, []), (179, .iastore, 1, 0, 0, 0, []), (180, .iinc 4 1, 3, 0, 0, 0, []), (183, .goto (-33), 3, 150, 0, 0, [])]
theorem kMod_handsOn_162 : okb (mth nMod_handsOn) 162 bMod_handsOn_162 = true := by decide +kernel
def bMod_handsOn_186 : List EN := [(186, .aload_n 0, 1, 0, 0, 0, []), (187, .iload_n 1, 1, 0, 0, 0, []), (188, .invokevirtual 116, 3, nMod_laysRow, 2, 9, [])]
theorem kMod_handsOn_186 : okb (mth nMod_handsOn) 186 bMod_handsOn_186 = true := by decide +kernel
def bMod_handsOn_191 : List EN := [(191, .aload_n 0, 1, 0, 0, 0, []), (192, .iload_n 1, 1, 0, 0, 0, []), (193, .iload_n 3, 1, 0, 0, 0, []), (194, .iconst 1, 1, 0, 0, 0, []), (195, .aload_n 0, 1, 0, 0, 0, []), (196, .iload_n 1, 1, 0, 0, 0, []), (197, .bipush 30, 2, 0, 0, 0, []), (199, .invokevirtual 93, 3, nMod_its, 3, 9, [10]), (202, .aload_n 0, 1, 0, 0, 0, []), (203, .iload_n 1, 1, 0, 0, 0, []), (204, .bipush 31, 2, 0, 0, 0, []), (206, .invokevirtual 93, 3, nMod_its, 3, 9, [10]), (209, .invokevirtual 99, 3, nMod_sends, 6, 9, [])]
theorem kMod_handsOn_191 : okb (mth nMod_handsOn) 191 bMod_handsOn_191 = true := by decide +kernel
def bMod_handsOn_212 : List EN := [(212, .iconst 0, 1, 0, 0, 0, []), (213, .istore 4, 2, 0, 0, 0, [])]
theorem kMod_handsOn_212 : okb (mth nMod_handsOn) 212 bMod_handsOn_212 = true := by decide +kernel
def bMod_handsOn_215 : List EN := [(215, .iload 4, 2, 0, 0, 0, []), (217, .bipush 20, 2, 0, 0, 0, []), (219, .if_icmp .ge 39, 3, 258, 0, 0, [])]
theorem kMod_handsOn_215 : okb (mth nMod_handsOn) 215 bMod_handsOn_215 = true := by decide +kernel
def bMod_handsOn_222 : List EN := [(222, .aload_n 0, 1, 0, 0, 0, []), (223, .getfield 70, 3, 8, 11, 3, []), (226, .aload_n 0, 1, 0, 0, 0, []), (227, .getfield 70, 3, 8, 11, 3, []), (230, .iconst 5, 1, 0, 0, 0, []), (231, .iaload, 1, 0, 0, 0, []), (232, .iconst 1, 1, 0, 0, 0, []), (233, .isub, 1, 0, 0, 0, []), (234, .iconst 5, 1, 0, 0, 0, []), (235, .iload 4, 2, 0, 0, 0, []), (237, .iadd, 1, 0, 0, 0, []), (238, .invokestatic 96, 3, nMod_sent, 2, 0, [7]), (241, .aload_n 0, 1, 0, 0, 0, []), (242, .iload_n 1, 1, 0, 0, 0, []), (243, .bipush 30, 2, 0, 0, 0, []), (245, .iload 4, 2, 0, 0, 0, []), (247, .iadd, 1, 0, 0, 0, []), (248, .invokevirtual 93, 3, nMod_its, 3, 9, [10]), (251, .iastore, 1, 0, 0, 0, []), (252, .iinc 4 1, 3, 0, 0, 0, []), (255, .goto (-40), 3, 215, 0, 0, [])]
theorem kMod_handsOn_222 : okb (mth nMod_handsOn) 222 bMod_handsOn_222 = true := by decide +kernel
def bMod_handsOn_258 : List EN := [(258, .aload_n 0, 1, 0, 0, 0, []), (259, .iload_n 1, 1, 0, 0, 0, []), (260, .invokevirtual 119, 3, nMod_loses, 2, 9, [])]
theorem kMod_handsOn_258 : okb (mth nMod_handsOn) 258 bMod_handsOn_258 = true := by decide +kernel
def bMod_handsOn_263 : List EN := [(263, .aload_n 0, 1, 0, 0, 0, []), (264, .iconst 1, 1, 0, 0, 0, []), (265, .putfield 122, 3, 8, 15, 1, []), (268, .iload_n 3, 1, 0, 0, 0, []), (269, .ireturn, 1, 0, 0, 0, [])]
theorem kMod_handsOn_263 : okb (mth nMod_handsOn) 263 bMod_handsOn_263 = true := by decide +kernel
def bMod_comes_0 : List EN := [(0, .aload_n 0, 1, 0, 0, 0, []), (1, .getfield 70, 3, 8, 11, 3, []), (4, .iload_n 1, 1, 0, 0, 0, []), (5, .iconst 2, 1, 0, 0, 0, []), (6, .invokestatic 85, 3, nMod_at, 2, 0, [6]), (9, .iconst 0, 1, 0, 0, 0, []), (10, .iastore, 1, 0, 0, 0, []), (11, .aload_n 0, 1, 0, 0, 0, []), (12, .getfield 70, 3, 8, 11, 3, []), (15, .iload_n 1, 1, 0, 0, 0, []), (16, .iconst 3, 1, 0, 0, 0, []), (17, .invokestatic 85, 3, nMod_at, 2, 0, [6]), (20, .iconst 1, 1, 0, 0, 0, []), (21, .iastore, 1, 0, 0, 0, []), (22, .aload_n 0, 1, 0, 0, 0, []), (23, .iload_n 1, 1, 0, 0, 0, []), (24, .putfield 126, 3, 8, 16, 0, []), (27, .return_, 1, 0, 0, 0, [])]
theorem kMod_comes_0 : okb (mth nMod_comes) 0 bMod_comes_0 = true := by decide +kernel
def bMod_dies_0 : List EN := [(0, .aload_n 0, 1, 0, 0, 0, []), (1, .iload_n 1, 1, 0, 0, 0, []), (2, .invokevirtual 129, 3, nMod_has, 2, 9, [12]), (5, .ifCond .ne 4, 3, 9, 0, 0, [])]
theorem kMod_dies_0 : okb (mth nMod_dies) 0 bMod_dies_0 = true := by decide +kernel
def bMod_dies_8 : List EN := [(8, .return_, 1, 0, 0, 0, [])]
theorem kMod_dies_8 : okb (mth nMod_dies) 8 bMod_dies_8 = true := by decide +kernel
def bMod_dies_9 : List EN := [(9, .aload_n 0, 1, 0, 0, 0, []), (10, .getfield 70, 3, 8, 11, 3, []), (13, .iconst 1, 1, 0, 0, 0, []), (14, .dup2, 1, 0, 0, 0, []), (15, .iaload, 1, 0, 0, 0, []), (16, .iconst 1, 1, 0, 0, 0, []), (17, .iadd, 1, 0, 0, 0, []), (18, .iastore, 1, 0, 0, 0, []), (19, .aload_n 0, 1, 0, 0, 0, []), (20, .iload_n 1, 1, 0, 0, 0, []), (21, .invokevirtual 119, 3, nMod_loses, 2, 9, [])]
theorem kMod_dies_9 : okb (mth nMod_dies) 9 bMod_dies_9 = true := by decide +kernel
def bMod_dies_24 : List EN := [(24, .return_, 1, 0, 0, 0, [])]
theorem kMod_dies_24 : okb (mth nMod_dies) 24 bMod_dies_24 = true := by decide +kernel
def bMod_dropsVotes_0 : List EN := [(0, .aload_n 0, 1, 0, 0, 0, []), (1, .getfield 70, 3, 8, 11, 3, []), (4, .iload_n 1, 1, 0, 0, 0, []), (5, .iconst 4, 1, 0, 0, 0, []), (6, .invokestatic 85, 3, nMod_at, 2, 0, [6]), (9, .iconst 0, 1, 0, 0, 0, []), (10, .iastore, 1, 0, 0, 0, []), (11, .aload_n 0, 1, 0, 0, 0, []), (12, .getfield 70, 3, 8, 11, 3, []), (15, .iload_n 1, 1, 0, 0, 0, []), (16, .iconst 5, 1, 0, 0, 0, []), (17, .invokestatic 85, 3, nMod_at, 2, 0, [6]), (20, .iconst 0, 1, 0, 0, 0, []), (21, .iastore, 1, 0, 0, 0, []), (22, .iconst 0, 1, 0, 0, 0, []), (23, .istore_n 2, 1, 0, 0, 0, [])]
theorem kMod_dropsVotes_0 : okb (mth nMod_dropsVotes) 0 bMod_dropsVotes_0 = true := by decide +kernel
def bMod_dropsVotes_24 : List EN := [(24, .iload_n 2, 1, 0, 0, 0, []), (25, .bipush 6, 2, 0, 0, 0, []), (27, .if_icmp .ge 23, 3, 50, 0, 0, [])]
theorem kMod_dropsVotes_24 : okb (mth nMod_dropsVotes) 24 bMod_dropsVotes_24 = true := by decide +kernel
def bMod_dropsVotes_30 : List EN := [(30, .aload_n 0, 1, 0, 0, 0, []), (31, .getfield 70, 3, 8, 11, 3, []), (34, .iload_n 1, 1, 0, 0, 0, []), (35, .bipush 24, 2, 0, 0, 0, []), (37, .iload_n 2, 1, 0, 0, 0, []), (38, .iadd, 1, 0, 0, 0, []), (39, .invokestatic 85, 3, nMod_at, 2, 0, [6]), (42, .iconst 0, 1, 0, 0, 0, []), (43, .iastore, 1, 0, 0, 0, []), (44, .iinc 2 1, 3, 0, 0, 0, []), (47, .goto (-23), 3, 24, 0, 0, [])]
theorem kMod_dropsVotes_30 : okb (mth nMod_dropsVotes) 30 bMod_dropsVotes_30 = true := by decide +kernel
def bMod_dropsVotes_50 : List EN := [(50, .return_, 1, 0, 0, 0, [])]
theorem kMod_dropsVotes_50 : okb (mth nMod_dropsVotes) 50 bMod_dropsVotes_50 = true := by decide +kernel
def bMod_leaves_0 : List EN := [(0, .aload_n 0, 1, 0, 0, 0, []), (1, .getfield 70, 3, 8, 11, 3, []), (4, .iload_n 1, 1, 0, 0, 0, []), (5, .iconst 3, 1, 0, 0, 0, []), (6, .invokestatic 85, 3, nMod_at, 2, 0, [6]), (9, .iconst 0, 1, 0, 0, 0, []), (10, .iastore, 1, 0, 0, 0, []), (11, .aload_n 0, 1, 0, 0, 0, []), (12, .getfield 70, 3, 8, 11, 3, []), (15, .iload_n 1, 1, 0, 0, 0, []), (16, .iconst 0, 1, 0, 0, 0, []), (17, .invokestatic 85, 3, nMod_at, 2, 0, [6]), (20, .aload_n 0, 1, 0, 0, 0, []), (21, .iload_n 1, 1, 0, 0, 0, []), (22, .bipush 6, 2, 0, 0, 0, []), (24, .iload_n 1, 1, 0, 0, 0, []), (25, .iadd, 1, 0, 0, 0, []), (26, .invokevirtual 93, 3, nMod_its, 3, 9, [10]), (29, .iastore, 1, 0, 0, 0, []), (30, .aload_n 0, 1, 0, 0, 0, []), (31, .getfield 70, 3, 8, 11, 3, []), (34, .iconst 4, 1, 0, 0, 0, []), (35, .dup2, 1, 0, 0, 0, []), (36, .iaload, 1, 0, 0, 0, []), (37, .iconst 1, 1, 0, 0, 0, []), (38, .iadd, 1, 0, 0, 0, []), (39, .iastore, 1, 0, 0, 0, []), (40, .aload_n 0, 1, 0, 0, 0, []), (41, .iload_n 1, 1, 0, 0, 0, []), (42, .invokevirtual 129, 3, nMod_has, 2, 9, [12]), (45, .ifCond .eq 22, 3, 67, 0, 0, [])]
theorem kMod_leaves_0 : okb (mth nMod_leaves) 0 bMod_leaves_0 = true := by decide +kernel
def bMod_leaves_48 : List EN := [(48, .aload_n 0, 1, 0, 0, 0, []), (49, .getfield 70, 3, 8, 11, 3, []), (52, .iload_n 1, 1, 0, 0, 0, []), (53, .bipush 32, 2, 0, 0, 0, []), (55, .iload_n 1, 1, 0, 0, 0, []), (56, .iadd, 1, 0, 0, 0, []), (57, .invokestatic 85, 3, nMod_at, 2, 0, [6]), (60, .aload_n 0, 1, 0, 0, 0, []), (61, .iload_n 1, 1, 0, 0, 0, []), (62, .iconst 0, 1, 0, 0, 0, []), (63, .invokevirtual 93, 3, nMod_its, 3, 9, [10]), (66, .iastore, 1, 0, 0, 0, [])]
theorem kMod_leaves_48 : okb (mth nMod_leaves) 48 bMod_leaves_48 = true := by decide +kernel
def bMod_leaves_67 : List EN := [(67, .return_, 1, 0, 0, 0, [])]
theorem kMod_leaves_67 : okb (mth nMod_leaves) 67 bMod_leaves_67 = true := by decide +kernel
def bMod_takesMessage_0 : List EN := [(0, .iconst 0, 1, 0, 0, 0, []), (1, .istore_n 2, 1, 0, 0, 0, [])]
theorem kMod_takesMessage_0 : okb (mth nMod_takesMessage) 0 bMod_takesMessage_0 = true := by decide +kernel
def bMod_takesMessage_2 : List EN := [(2, .iload_n 2, 1, 0, 0, 0, []), (3, .bipush 30, 2, 0, 0, 0, []), (5, .if_icmp .ge 25, 3, 30, 0, 0, [])]
theorem kMod_takesMessage_2 : okb (mth nMod_takesMessage) 2 bMod_takesMessage_2 = true := by decide +kernel
def bMod_takesMessage_8 : List EN := [(8, .aload_n 0, 1, 0, 0, 0, []), (9, .getfield 79, 3, 8, 17, 3, []), (12, .iload_n 2, 1, 0, 0, 0, []), (13, .aload_n 0, 1, 0, 0, 0, []), (14, .getfield 70, 3, 8, 11, 3, []), (17, .iload_n 1, 1, 0, 0, 0, []), (18, .iload_n 2, 1, 0, 0, 0, []), (19, .invokestatic 96, 3, nMod_sent, 2, 0, [7]), (22, .iaload, 1, 0, 0, 0, []), (23, .iastore, 1, 0, 0, 0, []), (24, .iinc 2 1, 3, 0, 0, 0, []), (27, .goto (-25), 3, 2, 0, 0, [])]
theorem kMod_takesMessage_8 : okb (mth nMod_takesMessage) 8 bMod_takesMessage_8 = true := by decide +kernel
def bMod_takesMessage_30 : List EN := [(30, .iload_n 1, 1, 0, 0, 0, []), (31, .iconst 0, 1, 0, 0, 0, []), (32, .invokestatic 96, 3, nMod_sent, 2, 0, [7]), (35, .istore_n 2, 1, 0, 0, 0, [])]
theorem kMod_takesMessage_30 : okb (mth nMod_takesMessage) 30 bMod_takesMessage_30 = true := by decide +kernel
def bMod_takesMessage_36 : List EN := [(36, .iload_n 2, 1, 0, 0, 0, []), (37, .aload_n 0, 1, 0, 0, 0, []), (38, .getfield 70, 3, 8, 11, 3, []), (41, .iconst 5, 1, 0, 0, 0, []), (42, .iaload, 1, 0, 0, 0, []), (43, .iconst 1, 1, 0, 0, 0, []), (44, .isub, 1, 0, 0, 0, []), (45, .iconst 0, 1, 0, 0, 0, []), (46, .invokestatic 96, 3, nMod_sent, 2, 0, [7]), (49, .if_icmp .ge 24, 3, 73, 0, 0, [])]
theorem kMod_takesMessage_36 : okb (mth nMod_takesMessage) 36 bMod_takesMessage_36 = true := by decide +kernel
def bMod_takesMessage_52 : List EN := [(52, .aload_n 0, 1, 0, 0, 0, []), (53, .getfield 70, 3, 8, 11, 3, []), (56, .iload_n 2, 1, 0, 0, 0, []), (57, .aload_n 0, 1, 0, 0, 0, []), (58, .getfield 70, 3, 8, 11, 3, []), (61, .iload_n 2, 1, 0, 0, 0, []), (62, .bipush 30, 2, 0, 0, 0, []), (64, .iadd, 1, 0, 0, 0, []), (65, .iaload, 1, 0, 0, 0, []), (66, .iastore, 1, 0, 0, 0, []), (67, .iinc 2 1, 3, 0, 0, 0, []), (70, .goto (-34), 3, 36, 0, 0, [])]
theorem kMod_takesMessage_52 : okb (mth nMod_takesMessage) 52 bMod_takesMessage_52 = true := by decide +kernel
def bMod_takesMessage_73 : List EN := [(73, .aload_n 0, 1, 0, 0, 0, []), (74, .getfield 70, 3, 8, 11, 3, []), (77, .iconst 5, 1, 0, 0, 0, []), (78, .dup2, 1, 0, 0, 0, []), (79, .iaload, 1, 0, 0, 0, []), (80, .iconst 1, 1, 0, 0, 0, []), (81, .isub, 1, 0, 0, 0, []), (82, .iastore, 1, 0, 0, 0, []), (83, .return_, 1, 0, 0, 0, [])]
theorem kMod_takesMessage_73 : okb (mth nMod_takesMessage) 73 bMod_takesMessage_73 = true := by decide +kernel
def bMod_firstOf_0 : List EN := [(0, .iconst 0, 1, 0, 0, 0, []), (1, .istore_n 3, 1, 0, 0, 0, [])]
theorem kMod_firstOf_0 : okb (mth nMod_firstOf) 0 bMod_firstOf_0 = true := by decide +kernel
def bMod_firstOf_2 : List EN := [(2, .iload_n 3, 1, 0, 0, 0, []), (3, .aload_n 0, 1, 0, 0, 0, []), (4, .getfield 70, 3, 8, 11, 3, []), (7, .iconst 5, 1, 0, 0, 0, []), (8, .iaload, 1, 0, 0, 0, []), (9, .if_icmp .ge 39, 3, 48, 0, 0, [])]
theorem kMod_firstOf_2 : okb (mth nMod_firstOf) 2 bMod_firstOf_2 = true := by decide +kernel
def bMod_firstOf_12 : List EN := [(12, .aload_n 0, 1, 0, 0, 0, []), (13, .getfield 70, 3, 8, 11, 3, []), (16, .iload_n 3, 1, 0, 0, 0, []), (17, .iconst 0, 1, 0, 0, 0, []), (18, .invokestatic 96, 3, nMod_sent, 2, 0, [7]), (21, .iaload, 1, 0, 0, 0, []), (22, .iload_n 1, 1, 0, 0, 0, []), (23, .if_icmp .ne 19, 3, 42, 0, 0, [])]
theorem kMod_firstOf_12 : okb (mth nMod_firstOf) 12 bMod_firstOf_12 = true := by decide +kernel
def bMod_firstOf_26 : List EN := [(26, .aload_n 0, 1, 0, 0, 0, []), (27, .getfield 70, 3, 8, 11, 3, []), (30, .iload_n 3, 1, 0, 0, 0, []), (31, .iconst 1, 1, 0, 0, 0, []), (32, .invokestatic 96, 3, nMod_sent, 2, 0, [7]), (35, .iaload, 1, 0, 0, 0, []), (36, .iload_n 2, 1, 0, 0, 0, []), (37, .if_icmp .ne 5, 3, 42, 0, 0, [])]
theorem kMod_firstOf_26 : okb (mth nMod_firstOf) 26 bMod_firstOf_26 = true := by decide +kernel
def bMod_firstOf_40 : List EN := [(40, .iload_n 3, 1, 0, 0, 0, []), (41, .ireturn, 1, 0, 0, 0, [])]
theorem kMod_firstOf_40 : okb (mth nMod_firstOf) 40 bMod_firstOf_40 = true := by decide +kernel
def bMod_firstOf_42 : List EN := [(42, .iinc 3 1, 3, 0, 0, 0, []), (45, .goto (-43), 3, 2, 0, 0, [])]
theorem kMod_firstOf_42 : okb (mth nMod_firstOf) 42 bMod_firstOf_42 = true := by decide +kernel
def bMod_firstOf_48 : List EN := [(48, .iconst (-1), 1, 0, 0, 0, []), (49, .ireturn, 1, 0, 0, 0, [])]
theorem kMod_firstOf_48 : okb (mth nMod_firstOf) 48 bMod_firstOf_48 = true := by decide +kernel
def bMod_delivers_0 : List EN := [(0, .aload_n 0, 1, 0, 0, 0, []), (1, .iload_n 1, 1, 0, 0, 0, []), (2, .invokevirtual 132, 3, nMod_takesMessage, 2, 9, [])]
theorem kMod_delivers_0 : okb (mth nMod_delivers) 0 bMod_delivers_0 = true := by decide +kernel
def bMod_delivers_5 : List EN := [(5, .aload_n 0, 1, 0, 0, 0, []), (6, .iconst 0, 1, 0, 0, 0, []), (7, .putfield 122, 3, 8, 15, 1, []), (10, .aload_n 0, 1, 0, 0, 0, []), (11, .iconst (-1), 1, 0, 0, 0, []), (12, .putfield 126, 3, 8, 16, 0, []), (15, .aload_n 0, 1, 0, 0, 0, []), (16, .getfield 79, 3, 8, 17, 3, []), (19, .iconst 1, 1, 0, 0, 0, []), (20, .iaload, 1, 0, 0, 0, []), (21, .istore_n 2, 1, 0, 0, 0, []), (22, .aload_n 0, 1, 0, 0, 0, []), (23, .getfield 79, 3, 8, 17, 3, []), (26, .iconst 2, 1, 0, 0, 0, []), (27, .iaload, 1, 0, 0, 0, []), (28, .tableswitch 93 0 3 #[32, 45, 52, 71], 32, 121, 0, 0, [60, 73, 80, 99])]
theorem kMod_delivers_5 : okb (mth nMod_delivers) 5 bMod_delivers_5 = true := by decide +kernel
def bMod_delivers_60 : List EN := [(60, .aload_n 0, 1, 0, 0, 0, []), (61, .iload_n 2, 1, 0, 0, 0, []), (62, .aload_n 0, 1, 0, 0, 0, []), (63, .getfield 79, 3, 8, 17, 3, []), (66, .iconst 0, 1, 0, 0, 0, []), (67, .iaload, 1, 0, 0, 0, []), (68, .invokevirtual 135, 3, nMod_asked, 3, 9, [])]
theorem kMod_delivers_60 : okb (mth nMod_delivers) 60 bMod_delivers_60 = true := by decide +kernel
def bMod_delivers_71 : List EN := [(71, .iconst 0, 1, 0, 0, 0, []), (72, .ireturn, 1, 0, 0, 0, [])]
theorem kMod_delivers_71 : okb (mth nMod_delivers) 71 bMod_delivers_71 = true := by decide +kernel
def bMod_delivers_73 : List EN := [(73, .aload_n 0, 1, 0, 0, 0, []), (74, .iload_n 2, 1, 0, 0, 0, []), (75, .invokevirtual 138, 3, nMod_passed, 2, 9, [])]
theorem kMod_delivers_73 : okb (mth nMod_delivers) 73 bMod_delivers_73 = true := by decide +kernel
def bMod_delivers_78 : List EN := [(78, .iconst 1, 1, 0, 0, 0, []), (79, .ireturn, 1, 0, 0, 0, [])]
theorem kMod_delivers_78 : okb (mth nMod_delivers) 78 bMod_delivers_78 = true := by decide +kernel
def bMod_delivers_80 : List EN := [(80, .aload_n 0, 1, 0, 0, 0, []), (81, .iload_n 2, 1, 0, 0, 0, []), (82, .aload_n 0, 1, 0, 0, 0, []), (83, .getfield 79, 3, 8, 17, 3, []), (86, .iconst 0, 1, 0, 0, 0, []), (87, .iaload, 1, 0, 0, 0, []), (88, .aload_n 0, 1, 0, 0, 0, []), (89, .getfield 79, 3, 8, 17, 3, []), (92, .iconst 3, 1, 0, 0, 0, []), (93, .iaload, 1, 0, 0, 0, []), (94, .invokevirtual 141, 3, nMod_doubted, 4, 9, [])]
theorem kMod_delivers_80 : okb (mth nMod_delivers) 80 bMod_delivers_80 = true := by decide +kernel
def bMod_delivers_97 : List EN := [(97, .iconst 2, 1, 0, 0, 0, []), (98, .ireturn, 1, 0, 0, 0, [])]
theorem kMod_delivers_97 : okb (mth nMod_delivers) 97 bMod_delivers_97 = true := by decide +kernel
def bMod_delivers_99 : List EN := [(99, .aload_n 0, 1, 0, 0, 0, []), (100, .iload_n 2, 1, 0, 0, 0, []), (101, .iconst 4, 1, 0, 0, 0, []), (102, .invokevirtual 93, 3, nMod_its, 3, 9, [10]), (105, .aload_n 0, 1, 0, 0, 0, []), (106, .getfield 79, 3, 8, 17, 3, []), (109, .iconst 3, 1, 0, 0, 0, []), (110, .iaload, 1, 0, 0, 0, []), (111, .if_icmp .ne 8, 3, 119, 0, 0, [])]
theorem kMod_delivers_99 : okb (mth nMod_delivers) 99 bMod_delivers_99 = true := by decide +kernel
def bMod_delivers_114 : List EN := [(114, .aload_n 0, 1, 0, 0, 0, []), (115, .iload_n 2, 1, 0, 0, 0, []), (116, .invokevirtual 145, 3, nMod_dropsVotes, 2, 9, [])]
theorem kMod_delivers_114 : okb (mth nMod_delivers) 114 bMod_delivers_114 = true := by decide +kernel
def bMod_delivers_119 : List EN := [(119, .iconst 3, 1, 0, 0, 0, []), (120, .ireturn, 1, 0, 0, 0, [])]
theorem kMod_delivers_119 : okb (mth nMod_delivers) 119 bMod_delivers_119 = true := by decide +kernel
def bMod_delivers_121 : List EN := [(121, .aload_n 0, 1, 0, 0, 0, []), (122, .iload_n 2, 1, 0, 0, 0, []), (123, .aload_n 0, 1, 0, 0, 0, []), (124, .getfield 79, 3, 8, 17, 3, []), (127, .iconst 0, 1, 0, 0, 0, []), (128, .iaload, 1, 0, 0, 0, []), (129, .aload_n 0, 1, 0, 0, 0, []), (130, .getfield 79, 3, 8, 17, 3, []), (133, .iconst 3, 1, 0, 0, 0, []), (134, .iaload, 1, 0, 0, 0, []), (135, .aload_n 0, 1, 0, 0, 0, []), (136, .getfield 79, 3, 8, 17, 3, []), (139, .iconst 4, 1, 0, 0, 0, []), (140, .iaload, 1, 0, 0, 0, []), (141, .invokevirtual 148, 3, nMod_voted, 5, 9, [])]
theorem kMod_delivers_121 : okb (mth nMod_delivers) 121 bMod_delivers_121 = true := by decide +kernel
def bMod_delivers_144 : List EN := [(144, .iconst 4, 1, 0, 0, 0, []), (145, .ireturn, 1, 0, 0, 0, [])]
theorem kMod_delivers_144 : okb (mth nMod_delivers) 144 bMod_delivers_144 = true := by decide +kernel
def bMod_asked_0 : List EN := [(0, .aload_n 0, 1, 0, 0, 0, []), (1, .getfield 79, 3, 8, 17, 3, []), (4, .iconst 3, 1, 0, 0, 0, []), (5, .iaload, 1, 0, 0, 0, []), (6, .aload_n 0, 1, 0, 0, 0, []), (7, .iload_n 1, 1, 0, 0, 0, []), (8, .bipush 6, 2, 0, 0, 0, []), (10, .iload_n 2, 1, 0, 0, 0, []), (11, .iadd, 1, 0, 0, 0, []), (12, .invokevirtual 93, 3, nMod_its, 3, 9, [10]), (15, .if_icmp .le 22, 3, 37, 0, 0, [])]
theorem kMod_asked_0 : okb (mth nMod_asked) 0 bMod_asked_0 = true := by decide +kernel
def bMod_asked_18 : List EN := [(18, .aload_n 0, 1, 0, 0, 0, []), (19, .getfield 70, 3, 8, 11, 3, []), (22, .iload_n 1, 1, 0, 0, 0, []), (23, .bipush 6, 2, 0, 0, 0, []), (25, .iload_n 2, 1, 0, 0, 0, []), (26, .iadd, 1, 0, 0, 0, []), (27, .invokestatic 85, 3, nMod_at, 2, 0, [6]), (30, .aload_n 0, 1, 0, 0, 0, []), (31, .getfield 79, 3, 8, 17, 3, []), (34, .iconst 3, 1, 0, 0, 0, []), (35, .iaload, 1, 0, 0, 0, []), (36, .iastore, 1, 0, 0, 0, [])]
theorem kMod_asked_18 : okb (mth nMod_asked) 18 bMod_asked_18 = true := by decide +kernel
def bMod_asked_37 : List EN := [(37, .aload_n 0, 1, 0, 0, 0, []), (38, .getfield 70, 3, 8, 11, 3, []), (41, .iload_n 1, 1, 0, 0, 0, []), (42, .bipush 12, 2, 0, 0, 0, []), (44, .iload_n 2, 1, 0, 0, 0, []), (45, .iadd, 1, 0, 0, 0, []), (46, .invokestatic 85, 3, nMod_at, 2, 0, [6]), (49, .aload_n 0, 1, 0, 0, 0, []), (50, .getfield 79, 3, 8, 17, 3, []), (53, .iconst 4, 1, 0, 0, 0, []), (54, .iaload, 1, 0, 0, 0, []), (55, .iastore, 1, 0, 0, 0, []), (56, .aload_n 0, 1, 0, 0, 0, []), (57, .iload_n 1, 1, 0, 0, 0, []), (58, .invokevirtual 129, 3, nMod_has, 2, 9, [12]), (61, .ifCond .eq 18, 3, 79, 0, 0, [])]
theorem kMod_asked_37 : okb (mth nMod_asked) 37 bMod_asked_37 = true := by decide +kernel
def bMod_asked_64 : List EN := [(64, .aload_n 0, 1, 0, 0, 0, []), (65, .iload_n 1, 1, 0, 0, 0, []), (66, .iconst 3, 1, 0, 0, 0, []), (67, .invokevirtual 93, 3, nMod_its, 3, 9, [10]), (70, .ifCond .ne 9, 3, 79, 0, 0, [])]
theorem kMod_asked_64 : okb (mth nMod_asked) 64 bMod_asked_64 = true := by decide +kernel
def bMod_asked_73 : List EN := [(73, .aload_n 0, 1, 0, 0, 0, []), (74, .iload_n 1, 1, 0, 0, 0, []), (75, .invokevirtual 152, 3, nMod_handsOn, 2, 9, [])]
theorem kMod_asked_73 : okb (mth nMod_asked) 73 bMod_asked_73 = true := by decide +kernel
def bMod_asked_78 : List EN := [(78, .pop, 1, 0, 0, 0, [])]
theorem kMod_asked_78 : okb (mth nMod_asked) 78 bMod_asked_78 = true := by decide +kernel
def bMod_asked_79 : List EN := [(79, .return_, 1, 0, 0, 0, [])]
theorem kMod_asked_79 : okb (mth nMod_asked) 79 bMod_asked_79 = true := by decide +kernel
def bMod_passed_0 : List EN := [(0, .aload_n 0, 1, 0, 0, 0, []), (1, .getfield 79, 3, 8, 17, 3, []), (4, .iconst 5, 1, 0, 0, 0, []), (5, .iaload, 1, 0, 0, 0, []), (6, .aload_n 0, 1, 0, 0, 0, []), (7, .iload_n 1, 1, 0, 0, 0, []), (8, .iconst 1, 1, 0, 0, 0, []), (9, .invokevirtual 93, 3, nMod_its, 3, 9, [10]), (12, .if_icmp .ge 14, 3, 26, 0, 0, [])]
theorem kMod_passed_0 : okb (mth nMod_passed) 0 bMod_passed_0 = true := by decide +kernel
def bMod_passed_15 : List EN := [(15, .aload_n 0, 1, 0, 0, 0, []), (16, .getfield 70, 3, 8, 11, 3, []), (19, .iconst 1, 1, 0, 0, 0, []), (20, .dup2, 1, 0, 0, 0, []), (21, .iaload, 1, 0, 0, 0, []), (22, .iconst 1, 1, 0, 0, 0, []), (23, .iadd, 1, 0, 0, 0, []), (24, .iastore, 1, 0, 0, 0, []), (25, .return_, 1, 0, 0, 0, [])]
theorem kMod_passed_15 : okb (mth nMod_passed) 15 bMod_passed_15 = true := by decide +kernel
def bMod_passed_26 : List EN := [(26, .aload_n 0, 1, 0, 0, 0, []), (27, .iload_n 1, 1, 0, 0, 0, []), (28, .invokevirtual 155, 3, nMod_dies, 2, 9, [])]
theorem kMod_passed_26 : okb (mth nMod_passed) 26 bMod_passed_26 = true := by decide +kernel
def bMod_passed_31 : List EN := [(31, .iconst 0, 1, 0, 0, 0, []), (32, .istore_n 2, 1, 0, 0, 0, [])]
theorem kMod_passed_31 : okb (mth nMod_passed) 31 bMod_passed_31 = true := by decide +kernel
def bMod_passed_33 : List EN := [(33, .iload_n 2, 1, 0, 0, 0, []), (34, .bipush 20, 2, 0, 0, 0, []), (36, .if_icmp .ge 30, 3, 66, 0, 0, [])]
theorem kMod_passed_33 : okb (mth nMod_passed) 33 bMod_passed_33 = true := by decide +kernel
def bMod_passed_39 : List EN := [(39, .aload_n 0, 1, 0, 0, 0, []), (40, .getfield 70, 3, 8, 11, 3, []), (43, .iload_n 1, 1, 0, 0, 0, []), (44, .bipush 30, 2, 0, 0, 0, []), (46, .iload_n 2, 1, 0, 0, 0, []), (47, .iadd, 1, 0, 0, 0, []), (48, .invokestatic 85, 3, nMod_at, 2, 0, [6]), (51, .aload_n 0, 1, 0, 0, 0, []), (52, .getfield 79, 3, 8, 17, 3, []), (55, .iconst 5, 1, 0, 0, 0, []), (56, .iload_n 2, 1, 0, 0, 0, []), (57, .iadd, 1, 0, 0, 0, []), (58, .iaload, 1, 0, 0, 0, []), (59, .iastore, 1, 0, 0, 0, []), (60, .iinc 2 1, 3, 0, 0, 0, []), (63, .goto (-30), 3, 33, 0, 0, [])]
theorem kMod_passed_39 : okb (mth nMod_passed) 39 bMod_passed_39 = true := by decide +kernel
def bMod_passed_66 : List EN := [(66, .aload_n 0, 1, 0, 0, 0, []), (67, .getfield 70, 3, 8, 11, 3, []), (70, .iload_n 1, 1, 0, 0, 0, []), (71, .iconst 1, 1, 0, 0, 0, []), (72, .invokestatic 85, 3, nMod_at, 2, 0, [6]), (75, .aload_n 0, 1, 0, 0, 0, []), (76, .iload_n 1, 1, 0, 0, 0, []), (77, .bipush 30, 2, 0, 0, 0, []), (79, .invokevirtual 93, 3, nMod_its, 3, 9, [10]), (82, .iastore, 1, 0, 0, 0, []), (83, .aload_n 0, 1, 0, 0, 0, []), (84, .iload_n 1, 1, 0, 0, 0, []), (85, .invokevirtual 145, 3, nMod_dropsVotes, 2, 9, [])]
theorem kMod_passed_66 : okb (mth nMod_passed) 66 bMod_passed_66 = true := by decide +kernel
def bMod_passed_88 : List EN := [(88, .aload_n 0, 1, 0, 0, 0, []), (89, .iload_n 1, 1, 0, 0, 0, []), (90, .iconst 0, 1, 0, 0, 0, []), (91, .invokevirtual 93, 3, nMod_its, 3, 9, [10]), (94, .aload_n 0, 1, 0, 0, 0, []), (95, .iload_n 1, 1, 0, 0, 0, []), (96, .bipush 32, 2, 0, 0, 0, []), (98, .iload_n 1, 1, 0, 0, 0, []), (99, .iadd, 1, 0, 0, 0, []), (100, .invokevirtual 93, 3, nMod_its, 3, 9, [10]), (103, .if_icmp .le 22, 3, 125, 0, 0, [])]
theorem kMod_passed_88 : okb (mth nMod_passed) 88 bMod_passed_88 = true := by decide +kernel
def bMod_passed_106 : List EN := [(106, .aload_n 0, 1, 0, 0, 0, []), (107, .getfield 70, 3, 8, 11, 3, []), (110, .iload_n 1, 1, 0, 0, 0, []), (111, .bipush 32, 2, 0, 0, 0, []), (113, .iload_n 1, 1, 0, 0, 0, []), (114, .iadd, 1, 0, 0, 0, []), (115, .invokestatic 85, 3, nMod_at, 2, 0, [6]), (118, .aload_n 0, 1, 0, 0, 0, []), (119, .iload_n 1, 1, 0, 0, 0, []), (120, .iconst 0, 1, 0, 0, 0, []), (121, .invokevirtual 93, 3, nMod_its, 3, 9, [10]), (124, .iastore, 1, 0, 0, 0, [])]
theorem kMod_passed_106 : okb (mth nMod_passed) 106 bMod_passed_106 = true := by decide +kernel
def bMod_passed_125 : List EN := [(125, .aload_n 0, 1, 0, 0, 0, []), (126, .iload_n 1, 1, 0, 0, 0, []), (127, .invokevirtual 116, 3, nMod_laysRow, 2, 9, [])]
theorem kMod_passed_125 : okb (mth nMod_passed) 125 bMod_passed_125 = true := by decide +kernel
def bMod_passed_130 : List EN := [(130, .aload_n 0, 1, 0, 0, 0, []), (131, .iload_n 1, 1, 0, 0, 0, []), (132, .iconst 2, 1, 0, 0, 0, []), (133, .invokevirtual 93, 3, nMod_its, 3, 9, [10]), (136, .iconst 1, 1, 0, 0, 0, []), (137, .if_icmp .ne 11, 3, 148, 0, 0, [])]
theorem kMod_passed_130 : okb (mth nMod_passed) 130 bMod_passed_130 = true := by decide +kernel
def bMod_passed_140 : List EN := [(140, .aload_n 0, 1, 0, 0, 0, []), (141, .iload_n 1, 1, 0, 0, 0, []), (142, .invokevirtual 158, 3, nMod_comes, 2, 9, [])]
theorem kMod_passed_140 : okb (mth nMod_passed) 140 bMod_passed_140 = true := by decide +kernel
def bMod_passed_145 : List EN := [(145, .goto 18, 3, 163, 0, 0, [])]
theorem kMod_passed_145 : okb (mth nMod_passed) 145 bMod_passed_145 = true := by decide +kernel
def bMod_passed_148 : List EN := [(148, .aload_n 0, 1, 0, 0, 0, []), (149, .iload_n 1, 1, 0, 0, 0, []), (150, .iconst 3, 1, 0, 0, 0, []), (151, .invokevirtual 93, 3, nMod_its, 3, 9, [10]), (154, .ifCond .ne 9, 3, 163, 0, 0, [])]
theorem kMod_passed_148 : okb (mth nMod_passed) 148 bMod_passed_148 = true := by decide +kernel
def bMod_passed_157 : List EN := [(157, .aload_n 0, 1, 0, 0, 0, []), (158, .iload_n 1, 1, 0, 0, 0, []), (159, .invokevirtual 152, 3, nMod_handsOn, 2, 9, [])]
theorem kMod_passed_157 : okb (mth nMod_passed) 157 bMod_passed_157 = true := by decide +kernel
def bMod_passed_162 : List EN := [(162, .pop, 1, 0, 0, 0, [])]
theorem kMod_passed_162 : okb (mth nMod_passed) 162 bMod_passed_162 = true := by decide +kernel
def bMod_passed_163 : List EN := [(163, .return_, 1, 0, 0, 0, [])]
theorem kMod_passed_163 : okb (mth nMod_passed) 163 bMod_passed_163 = true := by decide +kernel
def bMod_doubted_0 : List EN := [(0, .aload_n 0, 1, 0, 0, 0, []), (1, .iload_n 1, 1, 0, 0, 0, []), (2, .invokevirtual 129, 3, nMod_has, 2, 9, [12]), (5, .ifCond .eq 70, 3, 75, 0, 0, [])]
theorem kMod_doubted_0 : okb (mth nMod_doubted) 0 bMod_doubted_0 = true := by decide +kernel
def bMod_doubted_8 : List EN := [(8, .aload_n 0, 1, 0, 0, 0, []), (9, .iload_n 1, 1, 0, 0, 0, []), (10, .bipush 30, 2, 0, 0, 0, []), (12, .invokevirtual 93, 3, nMod_its, 3, 9, [10]), (15, .iload_n 3, 1, 0, 0, 0, []), (16, .iconst 1, 1, 0, 0, 0, []), (17, .isub, 1, 0, 0, 0, []), (18, .if_icmp .lt 57, 3, 75, 0, 0, [])]
theorem kMod_doubted_8 : okb (mth nMod_doubted) 8 bMod_doubted_8 = true := by decide +kernel
def bMod_doubted_21 : List EN := [(21, .iload_n 3, 1, 0, 0, 0, []), (22, .aload_n 0, 1, 0, 0, 0, []), (23, .iload_n 1, 1, 0, 0, 0, []), (24, .bipush 30, 2, 0, 0, 0, []), (26, .invokevirtual 93, 3, nMod_its, 3, 9, [10]), (29, .if_icmp .le 15, 3, 44, 0, 0, [])]
theorem kMod_doubted_21 : okb (mth nMod_doubted) 21 bMod_doubted_21 = true := by decide +kernel
def bMod_doubted_32 : List EN := [(32, .aload_n 0, 1, 0, 0, 0, []), (33, .getfield 70, 3, 8, 11, 3, []), (36, .iload_n 1, 1, 0, 0, 0, []), (37, .bipush 30, 2, 0, 0, 0, []), (39, .invokestatic 85, 3, nMod_at, 2, 0, [6]), (42, .iload_n 3, 1, 0, 0, 0, []), (43, .iastore, 1, 0, 0, 0, [])]
theorem kMod_doubted_32 : okb (mth nMod_doubted) 32 bMod_doubted_32 = true := by decide +kernel
def bMod_doubted_44 : List EN := [(44, .iload_n 3, 1, 0, 0, 0, []), (45, .aload_n 0, 1, 0, 0, 0, []), (46, .iload_n 1, 1, 0, 0, 0, []), (47, .iconst 1, 1, 0, 0, 0, []), (48, .invokevirtual 93, 3, nMod_its, 3, 9, [10]), (51, .if_icmp .le 14, 3, 65, 0, 0, [])]
theorem kMod_doubted_44 : okb (mth nMod_doubted) 44 bMod_doubted_44 = true := by decide +kernel
def bMod_doubted_54 : List EN := [(54, .aload_n 0, 1, 0, 0, 0, []), (55, .getfield 70, 3, 8, 11, 3, []), (58, .iload_n 1, 1, 0, 0, 0, []), (59, .iconst 1, 1, 0, 0, 0, []), (60, .invokestatic 85, 3, nMod_at, 2, 0, [6]), (63, .iload_n 3, 1, 0, 0, 0, []), (64, .iastore, 1, 0, 0, 0, [])]
theorem kMod_doubted_54 : okb (mth nMod_doubted) 54 bMod_doubted_54 = true := by decide +kernel
def bMod_doubted_65 : List EN := [(65, .aload_n 0, 1, 0, 0, 0, []), (66, .iload_n 1, 1, 0, 0, 0, []), (67, .iload_n 2, 1, 0, 0, 0, []), (68, .iconst 3, 1, 0, 0, 0, []), (69, .iload_n 3, 1, 0, 0, 0, []), (70, .iconst 0, 1, 0, 0, 0, []), (71, .invokevirtual 99, 3, nMod_sends, 6, 9, [])]
theorem kMod_doubted_65 : okb (mth nMod_doubted) 65 bMod_doubted_65 = true := by decide +kernel
def bMod_doubted_74 : List EN := [(74, .return_, 1, 0, 0, 0, [])]
theorem kMod_doubted_74 : okb (mth nMod_doubted) 74 bMod_doubted_74 = true := by decide +kernel
def bMod_doubted_75 : List EN := [(75, .aload_n 0, 1, 0, 0, 0, []), (76, .iload_n 1, 1, 0, 0, 0, []), (77, .iconst 1, 1, 0, 0, 0, []), (78, .invokevirtual 93, 3, nMod_its, 3, 9, [10]), (81, .iload_n 3, 1, 0, 0, 0, []), (82, .if_icmp .lt 4, 3, 86, 0, 0, [])]
theorem kMod_doubted_75 : okb (mth nMod_doubted) 75 bMod_doubted_75 = true := by decide +kernel
def bMod_doubted_85 : List EN := [(85, .return_, 1, 0, 0, 0, [])]
theorem kMod_doubted_85 : okb (mth nMod_doubted) 85 bMod_doubted_85 = true := by decide +kernel
def bMod_doubted_86 : List EN := [(86, .aload_n 0, 1, 0, 0, 0, []), (87, .getfield 70, 3, 8, 11, 3, []), (90, .iload_n 1, 1, 0, 0, 0, []), (91, .iconst 1, 1, 0, 0, 0, []), (92, .invokestatic 85, 3, nMod_at, 2, 0, [6]), (95, .iload_n 3, 1, 0, 0, 0, []), (96, .iastore, 1, 0, 0, 0, []), (97, .aload_n 0, 1, 0, 0, 0, []), (98, .iload_n 1, 1, 0, 0, 0, []), (99, .invokevirtual 155, 3, nMod_dies, 2, 9, [])]
theorem kMod_doubted_86 : okb (mth nMod_doubted) 86 bMod_doubted_86 = true := by decide +kernel
def bMod_doubted_102 : List EN := [(102, .aload_n 0, 1, 0, 0, 0, []), (103, .iload_n 1, 1, 0, 0, 0, []), (104, .invokevirtual 145, 3, nMod_dropsVotes, 2, 9, [])]
theorem kMod_doubted_102 : okb (mth nMod_doubted) 102 bMod_doubted_102 = true := by decide +kernel
def bMod_doubted_107 : List EN := [(107, .aload_n 0, 1, 0, 0, 0, []), (108, .iload_n 1, 1, 0, 0, 0, []), (109, .iload_n 2, 1, 0, 0, 0, []), (110, .iconst 4, 1, 0, 0, 0, []), (111, .iload_n 3, 1, 0, 0, 0, []), (112, .aload_n 0, 1, 0, 0, 0, []), (113, .iload_n 1, 1, 0, 0, 0, []), (114, .iconst 0, 1, 0, 0, 0, []), (115, .invokevirtual 93, 3, nMod_its, 3, 9, [10]), (118, .invokevirtual 99, 3, nMod_sends, 6, 9, [])]
theorem kMod_doubted_107 : okb (mth nMod_doubted) 107 bMod_doubted_107 = true := by decide +kernel
def bMod_doubted_121 : List EN := [(121, .return_, 1, 0, 0, 0, [])]
theorem kMod_doubted_121 : okb (mth nMod_doubted) 121 bMod_doubted_121 = true := by decide +kernel
def bMod_voted_0 : List EN := [(0, .aload_n 0, 1, 0, 0, 0, []), (1, .iload_n 1, 1, 0, 0, 0, []), (2, .iconst 4, 1, 0, 0, 0, []), (3, .invokevirtual 93, 3, nMod_its, 3, 9, [10]), (6, .iload_n 3, 1, 0, 0, 0, []), (7, .if_icmp .ne 13, 3, 20, 0, 0, [])]
theorem kMod_voted_0 : okb (mth nMod_voted) 0 bMod_voted_0 = true := by decide +kernel
def bMod_voted_10 : List EN := [(10, .aload_n 0, 1, 0, 0, 0, []), (11, .iload_n 1, 1, 0, 0, 0, []), (12, .iconst 1, 1, 0, 0, 0, []), (13, .invokevirtual 93, 3, nMod_its, 3, 9, [10]), (16, .iload_n 3, 1, 0, 0, 0, []), (17, .if_icmp .eq 4, 3, 21, 0, 0, [])]
theorem kMod_voted_10 : okb (mth nMod_voted) 10 bMod_voted_10 = true := by decide +kernel
def bMod_voted_20 : List EN := [(20, .return_, 1, 0, 0, 0, [])]
theorem kMod_voted_20 : okb (mth nMod_voted) 20 bMod_voted_20 = true := by decide +kernel
def bMod_voted_21 : List EN := [(21, .aload_n 0, 1, 0, 0, 0, []), (22, .getfield 70, 3, 8, 11, 3, []), (25, .iload_n 1, 1, 0, 0, 0, []), (26, .iconst 5, 1, 0, 0, 0, []), (27, .invokestatic 85, 3, nMod_at, 2, 0, [6]), (30, .dup2, 1, 0, 0, 0, []), (31, .iaload, 1, 0, 0, 0, []), (32, .iconst 1, 1, 0, 0, 0, []), (33, .iload_n 2, 1, 0, 0, 0, []), (34, .ishl, 1, 0, 0, 0, []), (35, .ior, 1, 0, 0, 0, []), (36, .iastore, 1, 0, 0, 0, []), (37, .aload_n 0, 1, 0, 0, 0, []), (38, .getfield 70, 3, 8, 11, 3, []), (41, .iload_n 1, 1, 0, 0, 0, []), (42, .bipush 24, 2, 0, 0, 0, []), (44, .iload_n 2, 1, 0, 0, 0, []), (45, .iadd, 1, 0, 0, 0, []), (46, .invokestatic 85, 3, nMod_at, 2, 0, [6]), (49, .iload 4, 2, 0, 0, 0, []), (51, .iastore, 1, 0, 0, 0, []), (52, .aload_n 0, 1, 0, 0, 0, []), (53, .iload_n 1, 1, 0, 0, 0, []), (54, .iconst 5, 1, 0, 0, 0, []), (55, .invokevirtual 93, 3, nMod_its, 3, 9, [10]), (58, .iconst 1, 1, 0, 0, 0, []), (59, .aload_n 0, 1, 0, 0, 0, []), (60, .getfield 70, 3, 8, 11, 3, []), (63, .iconst 0, 1, 0, 0, 0, []), (64, .iaload, 1, 0, 0, 0, []), (65, .ishl, 1, 0, 0, 0, []), (66, .iconst 1, 1, 0, 0, 0, []), (67, .isub, 1, 0, 0, 0, []), (68, .iconst 1, 1, 0, 0, 0, []), (69, .iload_n 1, 1, 0, 0, 0, []), (70, .ishl, 1, 0, 0, 0, []), (71, .isub, 1, 0, 0, 0, []), (72, .if_icmp .eq 4, 3, 76, 0, 0, [])]
theorem kMod_voted_21 : okb (mth nMod_voted) 21 bMod_voted_21 = true := by decide +kernel
def bMod_voted_75 : List EN := [(75, .return_, 1, 0, 0, 0, [])]
theorem kMod_voted_75 : okb (mth nMod_voted) 75 bMod_voted_75 = true := by decide +kernel
def bMod_voted_76 : List EN := [(76, .aload_n 0, 1, 0, 0, 0, []), (77, .iload_n 1, 1, 0, 0, 0, []), (78, .invokevirtual 119, 3, nMod_loses, 2, 9, [])]
theorem kMod_voted_76 : okb (mth nMod_voted) 76 bMod_voted_76 = true := by decide +kernel
def bMod_voted_81 : List EN := [(81, .aload_n 0, 1, 0, 0, 0, []), (82, .getfield 70, 3, 8, 11, 3, []), (85, .iload_n 1, 1, 0, 0, 0, []), (86, .bipush 30, 2, 0, 0, 0, []), (88, .invokestatic 85, 3, nMod_at, 2, 0, [6]), (91, .iload_n 3, 1, 0, 0, 0, []), (92, .iastore, 1, 0, 0, 0, []), (93, .iconst 0, 1, 0, 0, 0, []), (94, .istore 5, 2, 0, 0, 0, [])]
theorem kMod_voted_81 : okb (mth nMod_voted) 81 bMod_voted_81 = true := by decide +kernel
def bMod_voted_96 : List EN := [(96, .iload 5, 2, 0, 0, 0, []), (98, .bipush 6, 2, 0, 0, 0, []), (100, .if_icmp .ge 48, 3, 148, 0, 0, [])]
theorem kMod_voted_96 : okb (mth nMod_voted) 96 bMod_voted_96 = true := by decide +kernel
def bMod_voted_103 : List EN := [(103, .aload_n 0, 1, 0, 0, 0, []), (104, .getfield 70, 3, 8, 11, 3, []), (107, .iload_n 1, 1, 0, 0, 0, []), (108, .bipush 32, 2, 0, 0, 0, []), (110, .iload 5, 2, 0, 0, 0, []), (112, .iadd, 1, 0, 0, 0, []), (113, .invokestatic 85, 3, nMod_at, 2, 0, [6]), (116, .iload 5, 2, 0, 0, 0, []), (118, .iload_n 1, 1, 0, 0, 0, []), (119, .if_icmp .ne 12, 3, 131, 0, 0, [])]
theorem kMod_voted_103 : okb (mth nMod_voted) 103 bMod_voted_103 = true := by decide +kernel
def bMod_voted_122 : List EN := [(122, .aload_n 0, 1, 0, 0, 0, []), (123, .iload_n 1, 1, 0, 0, 0, []), (124, .iconst 0, 1, 0, 0, 0, []), (125, .invokevirtual 93, 3, nMod_its, 3, 9, [10]), (128, .goto 13, 3, 141, 0, 0, [])]
theorem kMod_voted_122 : okb (mth nMod_voted) 122 bMod_voted_122 = true := by decide +kernel
def bMod_voted_131 : List EN := [(131, .aload_n 0, 1, 0, 0, 0, []), (132, .iload_n 1, 1, 0, 0, 0, []), (133, .bipush 24, 2, 0, 0, 0, []), (135, .iload 5, 2, 0, 0, 0, []), (137, .iadd, 1, 0, 0, 0, []), (138, .invokevirtual 93, 3, nMod_its, 3, 9, [10])]
theorem kMod_voted_131 : okb (mth nMod_voted) 131 bMod_voted_131 = true := by decide +kernel
def bMod_voted_141 : List EN := [(141, .iastore, 1, 0, 0, 0, []), (142, .iinc 5 1, 3, 0, 0, 0, []), (145, .goto (-49), 3, 96, 0, 0, [])]
theorem kMod_voted_141 : okb (mth nMod_voted) 141 bMod_voted_141 = true := by decide +kernel
def bMod_voted_148 : List EN := [(148, .aload_n 0, 1, 0, 0, 0, []), (149, .getfield 70, 3, 8, 11, 3, []), (152, .iconst 2, 1, 0, 0, 0, []), (153, .dup2, 1, 0, 0, 0, []), (154, .iaload, 1, 0, 0, 0, []), (155, .iconst 1, 1, 0, 0, 0, []), (156, .iadd, 1, 0, 0, 0, []), (157, .iastore, 1, 0, 0, 0, []), (158, .aload_n 0, 1, 0, 0, 0, []), (159, .iload_n 1, 1, 0, 0, 0, []), (160, .invokevirtual 145, 3, nMod_dropsVotes, 2, 9, [])]
theorem kMod_voted_148 : okb (mth nMod_voted) 148 bMod_voted_148 = true := by decide +kernel
def bMod_voted_163 : List EN := [(163, .aload_n 0, 1, 0, 0, 0, []), (164, .iload_n 1, 1, 0, 0, 0, []), (165, .invokevirtual 116, 3, nMod_laysRow, 2, 9, [])]
theorem kMod_voted_163 : okb (mth nMod_voted) 163 bMod_voted_163 = true := by decide +kernel
def bMod_voted_168 : List EN := [(168, .aload_n 0, 1, 0, 0, 0, []), (169, .iload_n 1, 1, 0, 0, 0, []), (170, .invokevirtual 158, 3, nMod_comes, 2, 9, [])]
theorem kMod_voted_168 : okb (mth nMod_voted) 168 bMod_voted_168 = true := by decide +kernel
def bMod_voted_173 : List EN := [(173, .return_, 1, 0, 0, 0, [])]
theorem kMod_voted_173 : okb (mth nMod_voted) 173 bMod_voted_173 = true := by decide +kernel
def bMod_asks_0 : List EN := [(0, .aload_n 0, 1, 0, 0, 0, []), (1, .iload_n 1, 1, 0, 0, 0, []), (2, .invokevirtual 161, 3, nMod_isMember, 2, 9, [11]), (5, .ifCond .ne 5, 3, 10, 0, 0, [])]
theorem kMod_asks_0 : okb (mth nMod_asks) 0 bMod_asks_0 = true := by decide +kernel
def bMod_asks_8 : List EN := [(8, .iconst (-1), 1, 0, 0, 0, []), (9, .ireturn, 1, 0, 0, 0, [])]
theorem kMod_asks_8 : okb (mth nMod_asks) 8 bMod_asks_8 = true := by decide +kernel
def bMod_asks_10 : List EN := [(10, .aload_n 0, 1, 0, 0, 0, []), (11, .iload_n 1, 1, 0, 0, 0, []), (12, .iconst 2, 1, 0, 0, 0, []), (13, .invokevirtual 93, 3, nMod_its, 3, 9, [10]), (16, .iconst 1, 1, 0, 0, 0, []), (17, .if_icmp .eq 13, 3, 30, 0, 0, [])]
theorem kMod_asks_10 : okb (mth nMod_asks) 10 bMod_asks_10 = true := by decide +kernel
def bMod_asks_20 : List EN := [(20, .aload_n 0, 1, 0, 0, 0, []), (21, .iload_n 1, 1, 0, 0, 0, []), (22, .iconst 3, 1, 0, 0, 0, []), (23, .invokevirtual 93, 3, nMod_its, 3, 9, [10]), (26, .iconst 1, 1, 0, 0, 0, []), (27, .if_icmp .ne 6, 3, 33, 0, 0, [])]
theorem kMod_asks_20 : okb (mth nMod_asks) 20 bMod_asks_20 = true := by decide +kernel
def bMod_asks_30 : List EN := [(30, .bipush (-2), 2, 0, 0, 0, []), (32, .ireturn, 1, 0, 0, 0, [])]
theorem kMod_asks_30 : okb (mth nMod_asks) 30 bMod_asks_30 = true := by decide +kernel
def bMod_asks_33 : List EN := [(33, .aload_n 0, 1, 0, 0, 0, []), (34, .iload_n 1, 1, 0, 0, 0, []), (35, .invokevirtual 129, 3, nMod_has, 2, 9, [12]), (38, .ifCond .ne 26, 3, 64, 0, 0, [])]
theorem kMod_asks_33 : okb (mth nMod_asks) 33 bMod_asks_33 = true := by decide +kernel
def bMod_asks_41 : List EN := [(41, .aload_n 0, 1, 0, 0, 0, []), (42, .getfield 70, 3, 8, 11, 3, []), (45, .iconst 5, 1, 0, 0, 0, []), (46, .iaload, 1, 0, 0, 0, []), (47, .aload_n 0, 1, 0, 0, 0, []), (48, .getfield 70, 3, 8, 11, 3, []), (51, .iconst 0, 1, 0, 0, 0, []), (52, .iaload, 1, 0, 0, 0, []), (53, .iadd, 1, 0, 0, 0, []), (54, .iconst 1, 1, 0, 0, 0, []), (55, .isub, 1, 0, 0, 0, []), (56, .bipush 40, 2, 0, 0, 0, []), (58, .if_icmp .le 6, 3, 64, 0, 0, [])]
theorem kMod_asks_41 : okb (mth nMod_asks) 41 bMod_asks_41 = true := by decide +kernel
def bMod_asks_61 : List EN := [(61, .bipush (-3), 2, 0, 0, 0, []), (63, .ireturn, 1, 0, 0, 0, [])]
theorem kMod_asks_61 : okb (mth nMod_asks) 61 bMod_asks_61 = true := by decide +kernel
def bMod_asks_64 : List EN := [(64, .aload_n 0, 1, 0, 0, 0, []), (65, .getfield 70, 3, 8, 11, 3, []), (68, .iload_n 1, 1, 0, 0, 0, []), (69, .bipush 6, 2, 0, 0, 0, []), (71, .iload_n 1, 1, 0, 0, 0, []), (72, .iadd, 1, 0, 0, 0, []), (73, .invokestatic 85, 3, nMod_at, 2, 0, [6]), (76, .dup2, 1, 0, 0, 0, []), (77, .iaload, 1, 0, 0, 0, []), (78, .iconst 1, 1, 0, 0, 0, []), (79, .iadd, 1, 0, 0, 0, []), (80, .iastore, 1, 0, 0, 0, []), (81, .aload_n 0, 1, 0, 0, 0, []), (82, .iload_n 1, 1, 0, 0, 0, []), (83, .invokevirtual 129, 3, nMod_has, 2, 9, [12]), (86, .ifCond .eq 11, 3, 97, 0, 0, [])]
theorem kMod_asks_64 : okb (mth nMod_asks) 64 bMod_asks_64 = true := by decide +kernel
def bMod_asks_89 : List EN := [(89, .aload_n 0, 1, 0, 0, 0, []), (90, .iload_n 1, 1, 0, 0, 0, []), (91, .invokevirtual 158, 3, nMod_comes, 2, 9, [])]
theorem kMod_asks_89 : okb (mth nMod_asks) 89 bMod_asks_89 = true := by decide +kernel
def bMod_asks_94 : List EN := [(94, .goto 38, 3, 132, 0, 0, [])]
theorem kMod_asks_94 : okb (mth nMod_asks) 94 bMod_asks_94 = true := by decide +kernel
def bMod_asks_97 : List EN := [(97, .aload_n 0, 1, 0, 0, 0, []), (98, .getfield 70, 3, 8, 11, 3, []), (101, .iload_n 1, 1, 0, 0, 0, []), (102, .iconst 2, 1, 0, 0, 0, []), (103, .invokestatic 85, 3, nMod_at, 2, 0, [6]), (106, .iconst 1, 1, 0, 0, 0, []), (107, .iastore, 1, 0, 0, 0, []), (108, .aload_n 0, 1, 0, 0, 0, []), (109, .iload_n 1, 1, 0, 0, 0, []), (110, .iconst 0, 1, 0, 0, 0, []), (111, .aload_n 0, 1, 0, 0, 0, []), (112, .iload_n 1, 1, 0, 0, 0, []), (113, .bipush 6, 2, 0, 0, 0, []), (115, .iload_n 1, 1, 0, 0, 0, []), (116, .iadd, 1, 0, 0, 0, []), (117, .invokevirtual 93, 3, nMod_its, 3, 9, [10]), (120, .aload_n 0, 1, 0, 0, 0, []), (121, .iload_n 1, 1, 0, 0, 0, []), (122, .bipush 12, 2, 0, 0, 0, []), (124, .iload_n 1, 1, 0, 0, 0, []), (125, .iadd, 1, 0, 0, 0, []), (126, .invokevirtual 93, 3, nMod_its, 3, 9, [10]), (129, .invokevirtual 164, 3, nMod_sendsAll, 5, 9, [])]
theorem kMod_asks_97 : okb (mth nMod_asks) 97 bMod_asks_97 = true := by decide +kernel
def bMod_asks_132 : List EN := [(132, .aload_n 0, 1, 0, 0, 0, []), (133, .iload_n 1, 1, 0, 0, 0, []), (134, .bipush 6, 2, 0, 0, 0, []), (136, .iload_n 1, 1, 0, 0, 0, []), (137, .iadd, 1, 0, 0, 0, []), (138, .invokevirtual 93, 3, nMod_its, 3, 9, [10]), (141, .ireturn, 1, 0, 0, 0, [])]
theorem kMod_asks_132 : okb (mth nMod_asks) 132 bMod_asks_132 = true := by decide +kernel
def bMod_leavesTo_0 : List EN := [(0, .aload_n 0, 1, 0, 0, 0, []), (1, .iload_n 1, 1, 0, 0, 0, []), (2, .invokevirtual 161, 3, nMod_isMember, 2, 9, [11]), (5, .ifCond .eq 12, 3, 17, 0, 0, [])]
theorem kMod_leavesTo_0 : okb (mth nMod_leavesTo) 0 bMod_leavesTo_0 = true := by decide +kernel
def bMod_leavesTo_8 : List EN := [(8, .aload_n 0, 1, 0, 0, 0, []), (9, .iload_n 1, 1, 0, 0, 0, []), (10, .iconst 3, 1, 0, 0, 0, []), (11, .invokevirtual 93, 3, nMod_its, 3, 9, [10]), (14, .ifCond .ne 5, 3, 19, 0, 0, [])]
theorem kMod_leavesTo_8 : okb (mth nMod_leavesTo) 8 bMod_leavesTo_8 = true := by decide +kernel
def bMod_leavesTo_17 : List EN := [(17, .iconst (-1), 1, 0, 0, 0, []), (18, .ireturn, 1, 0, 0, 0, [])]
theorem kMod_leavesTo_17 : okb (mth nMod_leavesTo) 17 bMod_leavesTo_17 = true := by decide +kernel
def bMod_leavesTo_19 : List EN := [(19, .aload_n 0, 1, 0, 0, 0, []), (20, .iload_n 1, 1, 0, 0, 0, []), (21, .invokevirtual 167, 3, nMod_leaves, 2, 9, [])]
theorem kMod_leavesTo_19 : okb (mth nMod_leavesTo) 19 bMod_leavesTo_19 = true := by decide +kernel
def bMod_leavesTo_24 : List EN := [(24, .aload_n 0, 1, 0, 0, 0, []), (25, .iload_n 1, 1, 0, 0, 0, []), (26, .invokevirtual 129, 3, nMod_has, 2, 9, [12]), (29, .ifCond .eq 11, 3, 40, 0, 0, [])]
theorem kMod_leavesTo_24 : okb (mth nMod_leavesTo) 24 bMod_leavesTo_24 = true := by decide +kernel
def bMod_leavesTo_32 : List EN := [(32, .aload_n 0, 1, 0, 0, 0, []), (33, .iload_n 1, 1, 0, 0, 0, []), (34, .invokevirtual 152, 3, nMod_handsOn, 2, 9, [])]
theorem kMod_leavesTo_32 : okb (mth nMod_leavesTo) 32 bMod_leavesTo_32 = true := by decide +kernel
def bMod_leavesTo_37 : List EN := [(37, .goto 4, 3, 41, 0, 0, [])]
theorem kMod_leavesTo_37 : okb (mth nMod_leavesTo) 37 bMod_leavesTo_37 = true := by decide +kernel
def bMod_leavesTo_40 : List EN := [(40, .iload_n 1, 1, 0, 0, 0, [])]
theorem kMod_leavesTo_40 : okb (mth nMod_leavesTo) 40 bMod_leavesTo_40 = true := by decide +kernel
def bMod_leavesTo_41 : List EN := [(41, .ireturn, 1, 0, 0, 0, [])]
theorem kMod_leavesTo_41 : okb (mth nMod_leavesTo) 41 bMod_leavesTo_41 = true := by decide +kernel
def bMod_suspects_0 : List EN := [(0, .aload_n 0, 1, 0, 0, 0, []), (1, .iload_n 1, 1, 0, 0, 0, []), (2, .invokevirtual 161, 3, nMod_isMember, 2, 9, [11]), (5, .ifCond .ne 5, 3, 10, 0, 0, [])]
theorem kMod_suspects_0 : okb (mth nMod_suspects) 0 bMod_suspects_0 = true := by decide +kernel
def bMod_suspects_8 : List EN := [(8, .iconst (-1), 1, 0, 0, 0, []), (9, .ireturn, 1, 0, 0, 0, [])]
theorem kMod_suspects_8 : okb (mth nMod_suspects) 8 bMod_suspects_8 = true := by decide +kernel
def bMod_suspects_10 : List EN := [(10, .aload_n 0, 1, 0, 0, 0, []), (11, .iload_n 1, 1, 0, 0, 0, []), (12, .iconst 2, 1, 0, 0, 0, []), (13, .invokevirtual 93, 3, nMod_its, 3, 9, [10]), (16, .ifCond .ne 6, 3, 22, 0, 0, [])]
theorem kMod_suspects_10 : okb (mth nMod_suspects) 10 bMod_suspects_10 = true := by decide +kernel
def bMod_suspects_19 : List EN := [(19, .bipush (-2), 2, 0, 0, 0, []), (21, .ireturn, 1, 0, 0, 0, [])]
theorem kMod_suspects_19 : okb (mth nMod_suspects) 19 bMod_suspects_19 = true := by decide +kernel
def bMod_suspects_22 : List EN := [(22, .aload_n 0, 1, 0, 0, 0, []), (23, .getfield 70, 3, 8, 11, 3, []), (26, .iconst 5, 1, 0, 0, 0, []), (27, .iaload, 1, 0, 0, 0, []), (28, .aload_n 0, 1, 0, 0, 0, []), (29, .getfield 70, 3, 8, 11, 3, []), (32, .iconst 0, 1, 0, 0, 0, []), (33, .iaload, 1, 0, 0, 0, []), (34, .iadd, 1, 0, 0, 0, []), (35, .iconst 1, 1, 0, 0, 0, []), (36, .isub, 1, 0, 0, 0, []), (37, .bipush 40, 2, 0, 0, 0, []), (39, .if_icmp .le 6, 3, 45, 0, 0, [])]
theorem kMod_suspects_22 : okb (mth nMod_suspects) 22 bMod_suspects_22 = true := by decide +kernel
def bMod_suspects_42 : List EN := [(42, .bipush (-3), 2, 0, 0, 0, []), (44, .ireturn, 1, 0, 0, 0, [])]
theorem kMod_suspects_42 : okb (mth nMod_suspects) 42 bMod_suspects_42 = true := by decide +kernel
def bMod_suspects_45 : List EN := [(45, .aload_n 0, 1, 0, 0, 0, []), (46, .iload_n 1, 1, 0, 0, 0, []), (47, .iconst 1, 1, 0, 0, 0, []), (48, .invokevirtual 93, 3, nMod_its, 3, 9, [10]), (51, .iconst 1, 1, 0, 0, 0, []), (52, .iadd, 1, 0, 0, 0, []), (53, .istore_n 2, 1, 0, 0, 0, []), (54, .aload_n 0, 1, 0, 0, 0, []), (55, .getfield 70, 3, 8, 11, 3, []), (58, .iload_n 1, 1, 0, 0, 0, []), (59, .iconst 1, 1, 0, 0, 0, []), (60, .invokestatic 85, 3, nMod_at, 2, 0, [6]), (63, .iload_n 2, 1, 0, 0, 0, []), (64, .iastore, 1, 0, 0, 0, []), (65, .aload_n 0, 1, 0, 0, 0, []), (66, .iload_n 1, 1, 0, 0, 0, []), (67, .invokevirtual 145, 3, nMod_dropsVotes, 2, 9, [])]
theorem kMod_suspects_45 : okb (mth nMod_suspects) 45 bMod_suspects_45 = true := by decide +kernel
def bMod_suspects_70 : List EN := [(70, .aload_n 0, 1, 0, 0, 0, []), (71, .getfield 70, 3, 8, 11, 3, []), (74, .iload_n 1, 1, 0, 0, 0, []), (75, .iconst 4, 1, 0, 0, 0, []), (76, .invokestatic 85, 3, nMod_at, 2, 0, [6]), (79, .iload_n 2, 1, 0, 0, 0, []), (80, .iastore, 1, 0, 0, 0, []), (81, .aload_n 0, 1, 0, 0, 0, []), (82, .iload_n 1, 1, 0, 0, 0, []), (83, .iconst 2, 1, 0, 0, 0, []), (84, .iload_n 2, 1, 0, 0, 0, []), (85, .iconst 0, 1, 0, 0, 0, []), (86, .invokevirtual 164, 3, nMod_sendsAll, 5, 9, [])]
theorem kMod_suspects_70 : okb (mth nMod_suspects) 70 bMod_suspects_70 = true := by decide +kernel
def bMod_suspects_89 : List EN := [(89, .iload_n 2, 1, 0, 0, 0, []), (90, .ireturn, 1, 0, 0, 0, [])]
theorem kMod_suspects_89 : okb (mth nMod_suspects) 89 bMod_suspects_89 = true := by decide +kernel
def bMod_sendsFirst_0 : List EN := [(0, .aload_n 0, 1, 0, 0, 0, []), (1, .iload_n 1, 1, 0, 0, 0, []), (2, .iload_n 2, 1, 0, 0, 0, []), (3, .invokevirtual 170, 3, nMod_firstOf, 3, 9, [])]
theorem kMod_sendsFirst_0 : okb (mth nMod_sendsFirst) 0 bMod_sendsFirst_0 = true := by decide +kernel
def bMod_sendsFirst_6 : List EN := [(6, .istore_n 3, 1, 0, 0, 0, []), (7, .iload_n 3, 1, 0, 0, 0, []), (8, .iconst (-1), 1, 0, 0, 0, []), (9, .if_icmp .ne 7, 3, 16, 0, 0, [])]
theorem kMod_sendsFirst_6 : okb (mth nMod_sendsFirst) 6 bMod_sendsFirst_6 = true := by decide +kernel
def bMod_sendsFirst_12 : List EN := [(12, .iconst (-1), 1, 0, 0, 0, []), (13, .goto 8, 3, 21, 0, 0, [])]
theorem kMod_sendsFirst_12 : okb (mth nMod_sendsFirst) 12 bMod_sendsFirst_12 = true := by decide +kernel
def bMod_sendsFirst_16 : List EN := [(16, .aload_n 0, 1, 0, 0, 0, []), (17, .iload_n 3, 1, 0, 0, 0, []), (18, .invokevirtual 173, 3, nMod_delivers, 2, 9, [])]
theorem kMod_sendsFirst_16 : okb (mth nMod_sendsFirst) 16 bMod_sendsFirst_16 = true := by decide +kernel
def bMod_sendsFirst_21 : List EN := [(21, .ireturn, 1, 0, 0, 0, [])]
theorem kMod_sendsFirst_21 : okb (mth nMod_sendsFirst) 21 bMod_sendsFirst_21 = true := by decide +kernel
def bMod_losesFirst_0 : List EN := [(0, .aload_n 0, 1, 0, 0, 0, []), (1, .iload_n 1, 1, 0, 0, 0, []), (2, .iload_n 2, 1, 0, 0, 0, []), (3, .invokevirtual 170, 3, nMod_firstOf, 3, 9, [])]
theorem kMod_losesFirst_0 : okb (mth nMod_losesFirst) 0 bMod_losesFirst_0 = true := by decide +kernel
def bMod_losesFirst_6 : List EN := [(6, .istore_n 3, 1, 0, 0, 0, []), (7, .iload_n 3, 1, 0, 0, 0, []), (8, .iconst (-1), 1, 0, 0, 0, []), (9, .if_icmp .ne 5, 3, 14, 0, 0, [])]
theorem kMod_losesFirst_6 : okb (mth nMod_losesFirst) 6 bMod_losesFirst_6 = true := by decide +kernel
def bMod_losesFirst_12 : List EN := [(12, .iconst (-1), 1, 0, 0, 0, []), (13, .ireturn, 1, 0, 0, 0, [])]
theorem kMod_losesFirst_12 : okb (mth nMod_losesFirst) 12 bMod_losesFirst_12 = true := by decide +kernel
def bMod_losesFirst_14 : List EN := [(14, .aload_n 0, 1, 0, 0, 0, []), (15, .iload_n 3, 1, 0, 0, 0, []), (16, .invokevirtual 132, 3, nMod_takesMessage, 2, 9, [])]
theorem kMod_losesFirst_14 : okb (mth nMod_losesFirst) 14 bMod_losesFirst_14 = true := by decide +kernel
def bMod_losesFirst_19 : List EN := [(19, .aload_n 0, 1, 0, 0, 0, []), (20, .getfield 70, 3, 8, 11, 3, []), (23, .iconst 3, 1, 0, 0, 0, []), (24, .dup2, 1, 0, 0, 0, []), (25, .iaload, 1, 0, 0, 0, []), (26, .iconst 1, 1, 0, 0, 0, []), (27, .iadd, 1, 0, 0, 0, []), (28, .iastore, 1, 0, 0, 0, []), (29, .aload_n 0, 1, 0, 0, 0, []), (30, .getfield 79, 3, 8, 17, 3, []), (33, .iconst 2, 1, 0, 0, 0, []), (34, .iaload, 1, 0, 0, 0, []), (35, .ireturn, 1, 0, 0, 0, [])]
theorem kMod_losesFirst_19 : okb (mth nMod_losesFirst) 19 bMod_losesFirst_19 = true := by decide +kernel
def bMod_settlesOnce_0 : List EN := [(0, .iconst 0, 1, 0, 0, 0, []), (1, .istore_n 1, 1, 0, 0, 0, [])]
theorem kMod_settlesOnce_0 : okb (mth nMod_settlesOnce) 0 bMod_settlesOnce_0 = true := by decide +kernel
def bMod_settlesOnce_2 : List EN := [(2, .iload_n 1, 1, 0, 0, 0, []), (3, .aload_n 0, 1, 0, 0, 0, []), (4, .getfield 70, 3, 8, 11, 3, []), (7, .iconst 0, 1, 0, 0, 0, []), (8, .iaload, 1, 0, 0, 0, []), (9, .if_icmp .ge 25, 3, 34, 0, 0, [])]
theorem kMod_settlesOnce_2 : okb (mth nMod_settlesOnce) 2 bMod_settlesOnce_2 = true := by decide +kernel
def bMod_settlesOnce_12 : List EN := [(12, .aload_n 0, 1, 0, 0, 0, []), (13, .iload_n 1, 1, 0, 0, 0, []), (14, .iconst 3, 1, 0, 0, 0, []), (15, .invokevirtual 93, 3, nMod_its, 3, 9, [10]), (18, .iconst 1, 1, 0, 0, 0, []), (19, .if_icmp .ne 9, 3, 28, 0, 0, [])]
theorem kMod_settlesOnce_12 : okb (mth nMod_settlesOnce) 12 bMod_settlesOnce_12 = true := by decide +kernel
def bMod_settlesOnce_22 : List EN := [(22, .aload_n 0, 1, 0, 0, 0, []), (23, .iload_n 1, 1, 0, 0, 0, []), (24, .invokevirtual 176, 3, nMod_leavesTo, 2, 9, [])]
theorem kMod_settlesOnce_22 : okb (mth nMod_settlesOnce) 22 bMod_settlesOnce_22 = true := by decide +kernel
def bMod_settlesOnce_27 : List EN := [(27, .pop, 1, 0, 0, 0, [])]
theorem kMod_settlesOnce_27 : okb (mth nMod_settlesOnce) 27 bMod_settlesOnce_27 = true := by decide +kernel
def bMod_settlesOnce_28 : List EN := [(28, .iinc 1 1, 3, 0, 0, 0, []), (31, .goto (-29), 3, 2, 0, 0, [])]
theorem kMod_settlesOnce_28 : okb (mth nMod_settlesOnce) 28 bMod_settlesOnce_28 = true := by decide +kernel
def bMod_settlesOnce_34 : List EN := [(34, .aload_n 0, 1, 0, 0, 0, []), (35, .getfield 70, 3, 8, 11, 3, []), (38, .iconst 5, 1, 0, 0, 0, []), (39, .iaload, 1, 0, 0, 0, []), (40, .ifCond .ne 5, 3, 45, 0, 0, [])]
theorem kMod_settlesOnce_34 : okb (mth nMod_settlesOnce) 34 bMod_settlesOnce_34 = true := by decide +kernel
def bMod_settlesOnce_43 : List EN := [(43, .iconst 0, 1, 0, 0, 0, []), (44, .ireturn, 1, 0, 0, 1, [])]
theorem kMod_settlesOnce_43 : okb (mth nMod_settlesOnce) 43 bMod_settlesOnce_43 = true := by decide +kernel
def bMod_settlesOnce_45 : List EN := [(45, .aload_n 0, 1, 0, 0, 0, []), (46, .iconst 0, 1, 0, 0, 0, []), (47, .invokevirtual 173, 3, nMod_delivers, 2, 9, [])]
theorem kMod_settlesOnce_45 : okb (mth nMod_settlesOnce) 45 bMod_settlesOnce_45 = true := by decide +kernel
def bMod_settlesOnce_50 : List EN := [(50, .pop, 1, 0, 0, 0, []), (51, .iconst 1, 1, 0, 0, 0, []), (52, .ireturn, 1, 0, 0, 1, [])]
theorem kMod_settlesOnce_50 : okb (mth nMod_settlesOnce) 50 bMod_settlesOnce_50 = true := by decide +kernel
def bMod_settles_0 : List EN := [(0, .iconst 0, 1, 0, 0, 0, []), (1, .istore_n 2, 1, 0, 0, 0, [])]
theorem kMod_settles_0 : okb (mth nMod_settles) 0 bMod_settles_0 = true := by decide +kernel
def bMod_settles_2 : List EN := [(2, .iload_n 2, 1, 0, 0, 0, []), (3, .iload_n 1, 1, 0, 0, 0, []), (4, .if_icmp .ge 16, 3, 20, 0, 0, [])]
theorem kMod_settles_2 : okb (mth nMod_settles) 2 bMod_settles_2 = true := by decide +kernel
def bMod_settles_7 : List EN := [(7, .aload_n 0, 1, 0, 0, 0, []), (8, .invokevirtual 179, 3, nMod_settlesOnce, 1, 9, [])]
theorem kMod_settles_7 : okb (mth nMod_settles) 7 bMod_settles_7 = true := by decide +kernel
def bMod_settles_11 : List EN := [(11, .ifCond .eq 9, 3, 20, 0, 0, [])]
theorem kMod_settles_11 : okb (mth nMod_settles) 11 bMod_settles_11 = true := by decide +kernel
def bMod_settles_14 : List EN := [(14, .iinc 2 1, 3, 0, 0, 0, []), (17, .goto (-15), 3, 2, 0, 0, [])]
theorem kMod_settles_14 : okb (mth nMod_settles) 14 bMod_settles_14 = true := by decide +kernel
def bMod_settles_20 : List EN := [(20, .iload_n 2, 1, 0, 0, 0, []), (21, .ireturn, 1, 0, 0, 0, [])]
theorem kMod_settles_20 : okb (mth nMod_settles) 20 bMod_settles_20 = true := by decide +kernel
def bMod_told_0 : List EN := [(0, .aload_n 0, 1, 0, 0, 0, []), (1, .getfield 27, 3, 8, 6, 0, []), (4, .iconst 3, 1, 0, 0, 0, []), (5, .if_icmp .eq 9, 3, 14, 0, 0, [])]
theorem kMod_told_0 : okb (mth nMod_told) 0 bMod_told_0 = true := by decide +kernel
def bMod_told_8 : List EN := [(8, .aload_n 0, 1, 0, 0, 0, []), (9, .iconst 1, 1, 0, 0, 0, []), (10, .invokevirtual 183, 3, nMod_bad, 2, 9, [])]
theorem kMod_told_8 : okb (mth nMod_told) 8 bMod_told_8 = true := by decide +kernel
def bMod_told_13 : List EN := [(13, .ireturn, 1, 0, 0, 1, [])]
theorem kMod_told_13 : okb (mth nMod_told) 13 bMod_told_13 = true := by decide +kernel
def bMod_told_14 : List EN := [(14, .aload_n 0, 1, 0, 0, 0, []), (15, .getfield 41, 3, 8, 7, 0, []), (18, .iload_n 1, 1, 0, 0, 0, []), (19, .iload_n 2, 1, 0, 0, 0, []), (20, .invokestatic 89, 3, nMod_isIn, 3, 0, [0]), (23, .ifCond .ne 9, 3, 32, 0, 0, [])]
theorem kMod_told_14 : okb (mth nMod_told) 14 bMod_told_14 = true := by decide +kernel
def bMod_told_26 : List EN := [(26, .aload_n 0, 1, 0, 0, 0, []), (27, .iconst 2, 1, 0, 0, 0, []), (28, .invokevirtual 183, 3, nMod_bad, 2, 9, [])]
theorem kMod_told_26 : okb (mth nMod_told) 26 bMod_told_26 = true := by decide +kernel
def bMod_told_31 : List EN := [(31, .ireturn, 1, 0, 0, 1, [])]
theorem kMod_told_31 : okb (mth nMod_told) 31 bMod_told_31 = true := by decide +kernel
def bMod_told_32 : List EN := [(32, .aload_n 0, 1, 0, 0, 0, []), (33, .aload_n 0, 1, 0, 0, 0, []), (34, .getfield 41, 3, 8, 7, 0, []), (37, .putfield 186, 3, 8, 18, 0, []), (40, .aload_n 0, 1, 0, 0, 0, []), (41, .invokevirtual 189, 3, nMod_go, 1, 9, [])]
theorem kMod_told_32 : okb (mth nMod_told) 32 bMod_told_32 = true := by decide +kernel
def bMod_told_44 : List EN := [(44, .iconst 1, 1, 0, 0, 0, []), (45, .ireturn, 1, 0, 0, 1, [])]
theorem kMod_told_44 : okb (mth nMod_told) 44 bMod_told_44 = true := by decide +kernel
def bMod_readEnd_0 : List EN := [(0, .aload_n 0, 1, 0, 0, 0, []), (1, .getfield 27, 3, 8, 6, 0, []), (4, .iconst 4, 1, 0, 0, 0, []), (5, .if_icmp .eq 9, 3, 14, 0, 0, [])]
theorem kMod_readEnd_0 : okb (mth nMod_readEnd) 0 bMod_readEnd_0 = true := by decide +kernel
def bMod_readEnd_8 : List EN := [(8, .aload_n 0, 1, 0, 0, 0, []), (9, .iconst 1, 1, 0, 0, 0, []), (10, .invokevirtual 183, 3, nMod_bad, 2, 9, [])]
theorem kMod_readEnd_8 : okb (mth nMod_readEnd) 8 bMod_readEnd_8 = true := by decide +kernel
def bMod_readEnd_13 : List EN := [(13, .ireturn, 1, 0, 0, 1, [])]
theorem kMod_readEnd_13 : okb (mth nMod_readEnd) 13 bMod_readEnd_13 = true := by decide +kernel
def bMod_readEnd_14 : List EN := [(14, .aload_n 0, 1, 0, 0, 0, []), (15, .invokevirtual 189, 3, nMod_go, 1, 9, [])]
theorem kMod_readEnd_14 : okb (mth nMod_readEnd) 14 bMod_readEnd_14 = true := by decide +kernel
def bMod_readEnd_18 : List EN := [(18, .iconst 1, 1, 0, 0, 0, []), (19, .ireturn, 1, 0, 0, 1, [])]
theorem kMod_readEnd_18 : okb (mth nMod_readEnd) 18 bMod_readEnd_18 = true := by decide +kernel
def bMod_readMembers_0 : List EN := [(0, .aload_n 0, 1, 0, 0, 0, []), (1, .ldc2_w 48, 3, 0, 0, 27, []), (4, .bipush 109, 2, 0, 0, 0, []), (6, .bipush 101, 2, 0, 0, 0, []), (8, .bipush 109, 2, 0, 0, 0, []), (10, .bipush 98, 2, 0, 0, 0, []), (12, .bipush 101, 2, 0, 0, 0, []), (14, .bipush 114, 2, 0, 0, 0, []), (16, .invokestatic 192, 3, nMod_six, 6, 0, [4]), (19, .lmul, 1, 0, 0, 0, []), (20, .ldc2_w 196, 3, 0, 0, 19, []), (23, .ladd, 1, 0, 0, 0, []), (24, .invokevirtual 198, 3, nMod_isWord, 2, 9, [])]
theorem kMod_readMembers_0 : okb (mth nMod_readMembers) 0 bMod_readMembers_0 = true := by decide +kernel
def bMod_readMembers_27 : List EN := [(27, .ifCond .ne 9, 3, 36, 0, 0, [])]
theorem kMod_readMembers_27 : okb (mth nMod_readMembers) 27 bMod_readMembers_27 = true := by decide +kernel
def bMod_readMembers_30 : List EN := [(30, .aload_n 0, 1, 0, 0, 0, []), (31, .iconst 1, 1, 0, 0, 0, []), (32, .invokevirtual 183, 3, nMod_bad, 2, 9, [])]
theorem kMod_readMembers_30 : okb (mth nMod_readMembers) 30 bMod_readMembers_30 = true := by decide +kernel
def bMod_readMembers_35 : List EN := [(35, .ireturn, 1, 0, 0, 1, [])]
theorem kMod_readMembers_35 : okb (mth nMod_readMembers) 35 bMod_readMembers_35 = true := by decide +kernel
def bMod_readMembers_36 : List EN := [(36, .aload_n 0, 1, 0, 0, 0, []), (37, .invokevirtual 189, 3, nMod_go, 1, 9, [])]
theorem kMod_readMembers_36 : okb (mth nMod_readMembers) 36 bMod_readMembers_36 = true := by decide +kernel
def bMod_readMembers_40 : List EN := [(40, .aload_n 0, 1, 0, 0, 0, []), (41, .iconst 2, 1, 0, 0, 0, []), (42, .bipush 6, 2, 0, 0, 0, []), (44, .invokevirtual 202, 3, nMod_told, 3, 9, [])]
theorem kMod_readMembers_40 : okb (mth nMod_readMembers) 40 bMod_readMembers_40 = true := by decide +kernel
def bMod_readMembers_47 : List EN := [(47, .ifCond .ne 5, 3, 52, 0, 0, [])]
theorem kMod_readMembers_47 : okb (mth nMod_readMembers) 47 bMod_readMembers_47 = true := by decide +kernel
def bMod_readMembers_50 : List EN := [(50, .iconst 0, 1, 0, 0, 0, []), (51, .ireturn, 1, 0, 0, 1, [])]
theorem kMod_readMembers_50 : okb (mth nMod_readMembers) 50 bMod_readMembers_50 = true := by decide +kernel
def bMod_readMembers_52 : List EN := [(52, .aload_n 0, 1, 0, 0, 0, []), (53, .aload_n 0, 1, 0, 0, 0, []), (54, .getfield 186, 3, 8, 18, 0, []), (57, .invokevirtual 82, 3, nMod_begins, 2, 9, [])]
theorem kMod_readMembers_52 : okb (mth nMod_readMembers) 52 bMod_readMembers_52 = true := by decide +kernel
def bMod_readMembers_60 : List EN := [(60, .aload_n 0, 1, 0, 0, 0, []), (61, .invokevirtual 206, 3, nMod_readEnd, 1, 9, [])]
theorem kMod_readMembers_60 : okb (mth nMod_readMembers) 60 bMod_readMembers_60 = true := by decide +kernel
def bMod_readMembers_64 : List EN := [(64, .ireturn, 1, 0, 0, 1, [])]
theorem kMod_readMembers_64 : okb (mth nMod_readMembers) 64 bMod_readMembers_64 = true := by decide +kernel
def bMod_isRank_0 : List EN := [(0, .aload_n 0, 1, 0, 0, 0, []), (1, .bipush 114, 2, 0, 0, 0, []), (3, .bipush 97, 2, 0, 0, 0, []), (5, .bipush 110, 2, 0, 0, 0, []), (7, .bipush 107, 2, 0, 0, 0, []), (9, .invokestatic 209, 3, nMod_four, 4, 0, [5]), (12, .invokevirtual 198, 3, nMod_isWord, 2, 9, [])]
theorem kMod_isRank_0 : okb (mth nMod_isRank) 0 bMod_isRank_0 = true := by decide +kernel
def bMod_isRank_15 : List EN := [(15, .ireturn, 1, 0, 0, 1, [])]
theorem kMod_isRank_15 : okb (mth nMod_isRank) 15 bMod_isRank_15 = true := by decide +kernel
def bMod_readRank_0 : List EN := [(0, .aload_n 0, 1, 0, 0, 0, []), (1, .getfield 213, 3, 8, 19, 0, []), (4, .bipush 20, 2, 0, 0, 0, []), (6, .if_icmp .ne 9, 3, 15, 0, 0, [])]
theorem kMod_readRank_0 : okb (mth nMod_readRank) 0 bMod_readRank_0 = true := by decide +kernel
def bMod_readRank_9 : List EN := [(9, .aload_n 0, 1, 0, 0, 0, []), (10, .iconst 3, 1, 0, 0, 0, []), (11, .invokevirtual 183, 3, nMod_bad, 2, 9, [])]
theorem kMod_readRank_9 : okb (mth nMod_readRank) 9 bMod_readRank_9 = true := by decide +kernel
def bMod_readRank_14 : List EN := [(14, .ireturn, 1, 0, 0, 1, [])]
theorem kMod_readRank_14 : okb (mth nMod_readRank) 14 bMod_readRank_14 = true := by decide +kernel
def bMod_readRank_15 : List EN := [(15, .aload_n 0, 1, 0, 0, 0, []), (16, .invokevirtual 189, 3, nMod_go, 1, 9, [])]
theorem kMod_readRank_15 : okb (mth nMod_readRank) 15 bMod_readRank_15 = true := by decide +kernel
def bMod_readRank_19 : List EN := [(19, .aload_n 0, 1, 0, 0, 0, []), (20, .iconst 0, 1, 0, 0, 0, []), (21, .aload_n 0, 1, 0, 0, 0, []), (22, .getfield 70, 3, 8, 11, 3, []), (25, .iconst 0, 1, 0, 0, 0, []), (26, .iaload, 1, 0, 0, 0, []), (27, .iconst 1, 1, 0, 0, 0, []), (28, .isub, 1, 0, 0, 0, []), (29, .invokevirtual 202, 3, nMod_told, 3, 9, [])]
theorem kMod_readRank_19 : okb (mth nMod_readRank) 19 bMod_readRank_19 = true := by decide +kernel
def bMod_readRank_32 : List EN := [(32, .ifCond .ne 5, 3, 37, 0, 0, [])]
theorem kMod_readRank_32 : okb (mth nMod_readRank) 32 bMod_readRank_32 = true := by decide +kernel
def bMod_readRank_35 : List EN := [(35, .iconst 0, 1, 0, 0, 0, []), (36, .ireturn, 1, 0, 0, 1, [])]
theorem kMod_readRank_35 : okb (mth nMod_readRank) 35 bMod_readRank_35 = true := by decide +kernel
def bMod_readRank_37 : List EN := [(37, .aload_n 0, 1, 0, 0, 0, []), (38, .getfield 186, 3, 8, 18, 0, []), (41, .istore_n 1, 1, 0, 0, 0, []), (42, .aload_n 0, 1, 0, 0, 0, []), (43, .iconst 0, 1, 0, 0, 0, []), (44, .bipush 9, 2, 0, 0, 0, []), (46, .invokevirtual 202, 3, nMod_told, 3, 9, [])]
theorem kMod_readRank_37 : okb (mth nMod_readRank) 37 bMod_readRank_37 = true := by decide +kernel
def bMod_readRank_49 : List EN := [(49, .ifCond .ne 5, 3, 54, 0, 0, [])]
theorem kMod_readRank_49 : okb (mth nMod_readRank) 49 bMod_readRank_49 = true := by decide +kernel
def bMod_readRank_52 : List EN := [(52, .iconst 0, 1, 0, 0, 0, []), (53, .ireturn, 1, 0, 0, 1, [])]
theorem kMod_readRank_52 : okb (mth nMod_readRank) 52 bMod_readRank_52 = true := by decide +kernel
def bMod_readRank_54 : List EN := [(54, .iconst 0, 1, 0, 0, 0, []), (55, .istore_n 2, 1, 0, 0, 0, [])]
theorem kMod_readRank_54 : okb (mth nMod_readRank) 54 bMod_readRank_54 = true := by decide +kernel
def bMod_readRank_56 : List EN := [(56, .iload_n 2, 1, 0, 0, 0, []), (57, .aload_n 0, 1, 0, 0, 0, []), (58, .getfield 70, 3, 8, 11, 3, []), (61, .iconst 0, 1, 0, 0, 0, []), (62, .iaload, 1, 0, 0, 0, []), (63, .if_icmp .ge 26, 3, 89, 0, 0, [])]
theorem kMod_readRank_56 : okb (mth nMod_readRank) 56 bMod_readRank_56 = true := by decide +kernel
def bMod_readRank_66 : List EN := [(66, .aload_n 0, 1, 0, 0, 0, []), (67, .getfield 70, 3, 8, 11, 3, []), (70, .iload_n 2, 1, 0, 0, 0, []), (71, .bipush 12, 2, 0, 0, 0, []), (73, .iload_n 1, 1, 0, 0, 0, []), (74, .iadd, 1, 0, 0, 0, []), (75, .invokestatic 85, 3, nMod_at, 2, 0, [6]), (78, .aload_n 0, 1, 0, 0, 0, []), (79, .getfield 186, 3, 8, 18, 0, []), (82, .iastore, 1, 0, 0, 0, []), (83, .iinc 2 1, 3, 0, 0, 0, []), (86, .goto (-30), 3, 56, 0, 0, [])]
theorem kMod_readRank_66 : okb (mth nMod_readRank) 66 bMod_readRank_66 = true := by decide +kernel
def bMod_readRank_89 : List EN := [(89, .aload_n 0, 1, 0, 0, 0, []), (90, .dup, 1, 0, 0, 0, []), (91, .getfield 213, 3, 8, 19, 0, []), (94, .iconst 1, 1, 0, 0, 0, []), (95, .iadd, 1, 0, 0, 0, []), (96, .putfield 213, 3, 8, 19, 0, []), (99, .aload_n 0, 1, 0, 0, 0, []), (100, .invokevirtual 206, 3, nMod_readEnd, 1, 9, [])]
theorem kMod_readRank_89 : okb (mth nMod_readRank) 89 bMod_readRank_89 = true := by decide +kernel
def bMod_readRank_103 : List EN := [(103, .ireturn, 1, 0, 0, 1, [])]
theorem kMod_readRank_103 : okb (mth nMod_readRank) 103 bMod_readRank_103 = true := by decide +kernel
def bMod_actHere_0 : List EN := [(0, .aload_n 0, 1, 0, 0, 0, []), (1, .bipush 97, 2, 0, 0, 0, []), (3, .bipush 115, 2, 0, 0, 0, []), (5, .bipush 107, 2, 0, 0, 0, []), (7, .invokestatic 54, 3, nMod_three, 3, 0, [3]), (10, .invokevirtual 198, 3, nMod_isWord, 2, 9, [])]
theorem kMod_actHere_0 : okb (mth nMod_actHere) 0 bMod_actHere_0 = true := by decide +kernel
def bMod_actHere_13 : List EN := [(13, .ifCond .eq 5, 3, 18, 0, 0, [])]
theorem kMod_actHere_13 : okb (mth nMod_actHere) 13 bMod_actHere_13 = true := by decide +kernel
def bMod_actHere_16 : List EN := [(16, .iconst 0, 1, 0, 0, 0, []), (17, .ireturn, 1, 0, 0, 0, [])]
theorem kMod_actHere_16 : okb (mth nMod_actHere) 16 bMod_actHere_16 = true := by decide +kernel
def bMod_actHere_18 : List EN := [(18, .aload_n 0, 1, 0, 0, 0, []), (19, .ldc2_w 48, 3, 0, 0, 27, []), (22, .bipush 108, 2, 0, 0, 0, []), (24, .bipush 101, 2, 0, 0, 0, []), (26, .bipush 97, 2, 0, 0, 0, []), (28, .bipush 118, 2, 0, 0, 0, []), (30, .invokestatic 209, 3, nMod_four, 4, 0, [5]), (33, .lmul, 1, 0, 0, 0, []), (34, .ldc2_w 216, 3, 0, 0, 5, []), (37, .ladd, 1, 0, 0, 0, []), (38, .invokevirtual 198, 3, nMod_isWord, 2, 9, [])]
theorem kMod_actHere_18 : okb (mth nMod_actHere) 18 bMod_actHere_18 = true := by decide +kernel
def bMod_actHere_41 : List EN := [(41, .ifCond .eq 5, 3, 46, 0, 0, [])]
theorem kMod_actHere_41 : okb (mth nMod_actHere) 41 bMod_actHere_41 = true := by decide +kernel
def bMod_actHere_44 : List EN := [(44, .iconst 1, 1, 0, 0, 0, []), (45, .ireturn, 1, 0, 0, 0, [])]
theorem kMod_actHere_44 : okb (mth nMod_actHere) 44 bMod_actHere_44 = true := by decide +kernel
def bMod_actHere_46 : List EN := [(46, .aload_n 0, 1, 0, 0, 0, []), (47, .ldc2_w 48, 3, 0, 0, 27, []), (50, .bipush 115, 2, 0, 0, 0, []), (52, .bipush 117, 2, 0, 0, 0, []), (54, .bipush 115, 2, 0, 0, 0, []), (56, .bipush 112, 2, 0, 0, 0, []), (58, .bipush 101, 2, 0, 0, 0, []), (60, .bipush 99, 2, 0, 0, 0, []), (62, .invokestatic 192, 3, nMod_six, 6, 0, [4]), (65, .lmul, 1, 0, 0, 0, []), (66, .ldc2_w 218, 3, 0, 0, 20, []), (69, .ladd, 1, 0, 0, 0, []), (70, .invokevirtual 198, 3, nMod_isWord, 2, 9, [])]
theorem kMod_actHere_46 : okb (mth nMod_actHere) 46 bMod_actHere_46 = true := by decide +kernel
def bMod_actHere_73 : List EN := [(73, .ifCond .eq 5, 3, 78, 0, 0, [])]
theorem kMod_actHere_73 : okb (mth nMod_actHere) 73 bMod_actHere_73 = true := by decide +kernel
def bMod_actHere_76 : List EN := [(76, .iconst 2, 1, 0, 0, 0, []), (77, .ireturn, 1, 0, 0, 0, [])]
theorem kMod_actHere_76 : okb (mth nMod_actHere) 76 bMod_actHere_76 = true := by decide +kernel
def bMod_actHere_78 : List EN := [(78, .aload_n 0, 1, 0, 0, 0, []), (79, .bipush 115, 2, 0, 0, 0, []), (81, .bipush 101, 2, 0, 0, 0, []), (83, .bipush 110, 2, 0, 0, 0, []), (85, .bipush 100, 2, 0, 0, 0, []), (87, .invokestatic 209, 3, nMod_four, 4, 0, [5]), (90, .invokevirtual 198, 3, nMod_isWord, 2, 9, [])]
theorem kMod_actHere_78 : okb (mth nMod_actHere) 78 bMod_actHere_78 = true := by decide +kernel
def bMod_actHere_93 : List EN := [(93, .ifCond .eq 5, 3, 98, 0, 0, [])]
theorem kMod_actHere_93 : okb (mth nMod_actHere) 93 bMod_actHere_93 = true := by decide +kernel
def bMod_actHere_96 : List EN := [(96, .iconst 3, 1, 0, 0, 0, []), (97, .ireturn, 1, 0, 0, 0, [])]
theorem kMod_actHere_96 : okb (mth nMod_actHere) 96 bMod_actHere_96 = true := by decide +kernel
def bMod_actHere_98 : List EN := [(98, .aload_n 0, 1, 0, 0, 0, []), (99, .bipush 108, 2, 0, 0, 0, []), (101, .bipush 111, 2, 0, 0, 0, []), (103, .bipush 115, 2, 0, 0, 0, []), (105, .bipush 101, 2, 0, 0, 0, []), (107, .invokestatic 209, 3, nMod_four, 4, 0, [5]), (110, .invokevirtual 198, 3, nMod_isWord, 2, 9, [])]
theorem kMod_actHere_98 : okb (mth nMod_actHere) 98 bMod_actHere_98 = true := by decide +kernel
def bMod_actHere_113 : List EN := [(113, .ifCond .eq 5, 3, 118, 0, 0, [])]
theorem kMod_actHere_113 : okb (mth nMod_actHere) 113 bMod_actHere_113 = true := by decide +kernel
def bMod_actHere_116 : List EN := [(116, .iconst 4, 1, 0, 0, 0, []), (117, .ireturn, 1, 0, 0, 0, [])]
theorem kMod_actHere_116 : okb (mth nMod_actHere) 116 bMod_actHere_116 = true := by decide +kernel
def bMod_actHere_118 : List EN := [(118, .aload_n 0, 1, 0, 0, 0, []), (119, .bipush 115, 2, 0, 0, 0, []), (121, .bipush 101, 2, 0, 0, 0, []), (123, .bipush 116, 2, 0, 0, 0, []), (125, .bipush 116, 2, 0, 0, 0, []), (127, .bipush 108, 2, 0, 0, 0, []), (129, .bipush 101, 2, 0, 0, 0, []), (131, .invokestatic 192, 3, nMod_six, 6, 0, [4]), (134, .invokevirtual 198, 3, nMod_isWord, 2, 9, [])]
theorem kMod_actHere_118 : okb (mth nMod_actHere) 118 bMod_actHere_118 = true := by decide +kernel
def bMod_actHere_137 : List EN := [(137, .ifCond .eq 7, 3, 144, 0, 0, [])]
theorem kMod_actHere_137 : okb (mth nMod_actHere) 137 bMod_actHere_137 = true := by decide +kernel
def bMod_actHere_140 : List EN := [(140, .iconst 5, 1, 0, 0, 0, []), (141, .goto 4, 3, 145, 0, 0, [])]
theorem kMod_actHere_140 : okb (mth nMod_actHere) 140 bMod_actHere_140 = true := by decide +kernel
def bMod_actHere_144 : List EN := [(144, .iconst (-1), 1, 0, 0, 0, [])]
theorem kMod_actHere_144 : okb (mth nMod_actHere) 144 bMod_actHere_144 = true := by decide +kernel
def bMod_actHere_145 : List EN := [(145, .ireturn, 1, 0, 0, 0, [])]
theorem kMod_actHere_145 : okb (mth nMod_actHere) 145 bMod_actHere_145 = true := by decide +kernel
def bMod_does_0 : List EN := [(0, .iload_n 1, 1, 0, 0, 0, []), (1, .tableswitch 67 0 4 #[35, 41, 47, 53, 60], 35, 68, 0, 0, [36, 42, 48, 54, 61])]
theorem kMod_does_0 : okb (mth nMod_does) 0 bMod_does_0 = true := by decide +kernel
def bMod_does_36 : List EN := [(36, .aload_n 0, 1, 0, 0, 0, []), (37, .iload_n 2, 1, 0, 0, 0, []), (38, .invokevirtual 220, 3, nMod_asks, 2, 9, [])]
theorem kMod_does_36 : okb (mth nMod_does) 36 bMod_does_36 = true := by decide +kernel
def bMod_does_41 : List EN := [(41, .ireturn, 1, 0, 0, 0, [])]
theorem kMod_does_41 : okb (mth nMod_does) 41 bMod_does_41 = true := by decide +kernel
def bMod_does_42 : List EN := [(42, .aload_n 0, 1, 0, 0, 0, []), (43, .iload_n 2, 1, 0, 0, 0, []), (44, .invokevirtual 176, 3, nMod_leavesTo, 2, 9, [])]
theorem kMod_does_42 : okb (mth nMod_does) 42 bMod_does_42 = true := by decide +kernel
def bMod_does_47 : List EN := [(47, .ireturn, 1, 0, 0, 0, [])]
theorem kMod_does_47 : okb (mth nMod_does) 47 bMod_does_47 = true := by decide +kernel
def bMod_does_48 : List EN := [(48, .aload_n 0, 1, 0, 0, 0, []), (49, .iload_n 2, 1, 0, 0, 0, []), (50, .invokevirtual 223, 3, nMod_suspects, 2, 9, [])]
theorem kMod_does_48 : okb (mth nMod_does) 48 bMod_does_48 = true := by decide +kernel
def bMod_does_53 : List EN := [(53, .ireturn, 1, 0, 0, 0, [])]
theorem kMod_does_53 : okb (mth nMod_does) 53 bMod_does_53 = true := by decide +kernel
def bMod_does_54 : List EN := [(54, .aload_n 0, 1, 0, 0, 0, []), (55, .iload_n 2, 1, 0, 0, 0, []), (56, .iload_n 3, 1, 0, 0, 0, []), (57, .invokevirtual 226, 3, nMod_sendsFirst, 3, 9, [])]
theorem kMod_does_54 : okb (mth nMod_does) 54 bMod_does_54 = true := by decide +kernel
def bMod_does_60 : List EN := [(60, .ireturn, 1, 0, 0, 0, [])]
theorem kMod_does_60 : okb (mth nMod_does) 60 bMod_does_60 = true := by decide +kernel
def bMod_does_61 : List EN := [(61, .aload_n 0, 1, 0, 0, 0, []), (62, .iload_n 2, 1, 0, 0, 0, []), (63, .iload_n 3, 1, 0, 0, 0, []), (64, .invokevirtual 229, 3, nMod_losesFirst, 3, 9, [])]
theorem kMod_does_61 : okb (mth nMod_does) 61 bMod_does_61 = true := by decide +kernel
def bMod_does_67 : List EN := [(67, .ireturn, 1, 0, 0, 0, [])]
theorem kMod_does_67 : okb (mth nMod_does) 67 bMod_does_67 = true := by decide +kernel
def bMod_does_68 : List EN := [(68, .aload_n 0, 1, 0, 0, 0, []), (69, .iload_n 2, 1, 0, 0, 0, []), (70, .invokevirtual 232, 3, nMod_settles, 2, 9, [])]
theorem kMod_does_68 : okb (mth nMod_does) 68 bMod_does_68 = true := by decide +kernel
def bMod_does_73 : List EN := [(73, .ireturn, 1, 0, 0, 0, [])]
theorem kMod_does_73 : okb (mth nMod_does) 73 bMod_does_73 = true := by decide +kernel
def bMod_readAct_0 : List EN := [(0, .aload_n 0, 1, 0, 0, 0, []), (1, .invokevirtual 235, 3, nMod_actHere, 1, 9, [])]
theorem kMod_readAct_0 : okb (mth nMod_readAct) 0 bMod_readAct_0 = true := by decide +kernel
def bMod_readAct_4 : List EN := [(4, .istore_n 1, 1, 0, 0, 0, []), (5, .iload_n 1, 1, 0, 0, 0, []), (6, .iconst (-1), 1, 0, 0, 0, []), (7, .if_icmp .ne 9, 3, 16, 0, 0, [])]
theorem kMod_readAct_4 : okb (mth nMod_readAct) 4 bMod_readAct_4 = true := by decide +kernel
def bMod_readAct_10 : List EN := [(10, .aload_n 0, 1, 0, 0, 0, []), (11, .iconst 1, 1, 0, 0, 0, []), (12, .invokevirtual 183, 3, nMod_bad, 2, 9, [])]
theorem kMod_readAct_10 : okb (mth nMod_readAct) 10 bMod_readAct_10 = true := by decide +kernel
def bMod_readAct_15 : List EN := [(15, .ireturn, 1, 0, 0, 1, [])]
theorem kMod_readAct_15 : okb (mth nMod_readAct) 15 bMod_readAct_15 = true := by decide +kernel
def bMod_readAct_16 : List EN := [(16, .aload_n 0, 1, 0, 0, 0, []), (17, .invokevirtual 189, 3, nMod_go, 1, 9, [])]
theorem kMod_readAct_16 : okb (mth nMod_readAct) 16 bMod_readAct_16 = true := by decide +kernel
def bMod_readAct_20 : List EN := [(20, .aload_n 0, 1, 0, 0, 0, []), (21, .iload_n 1, 1, 0, 0, 0, []), (22, .iconst 5, 1, 0, 0, 0, []), (23, .if_icmp .ne 7, 3, 30, 0, 0, [])]
theorem kMod_readAct_20 : okb (mth nMod_readAct) 20 bMod_readAct_20 = true := by decide +kernel
def bMod_readAct_26 : List EN := [(26, .iconst 1, 1, 0, 0, 0, []), (27, .goto 4, 3, 31, 0, 0, [])]
theorem kMod_readAct_26 : okb (mth nMod_readAct) 26 bMod_readAct_26 = true := by decide +kernel
def bMod_readAct_30 : List EN := [(30, .iconst 0, 1, 0, 0, 0, [])]
theorem kMod_readAct_30 : okb (mth nMod_readAct) 30 bMod_readAct_30 = true := by decide +kernel
def bMod_readAct_31 : List EN := [(31, .bipush 99, 2, 0, 0, 0, []), (33, .invokevirtual 202, 3, nMod_told, 3, 9, [])]
theorem kMod_readAct_31 : okb (mth nMod_readAct) 31 bMod_readAct_31 = true := by decide +kernel
def bMod_readAct_36 : List EN := [(36, .ifCond .ne 5, 3, 41, 0, 0, [])]
theorem kMod_readAct_36 : okb (mth nMod_readAct) 36 bMod_readAct_36 = true := by decide +kernel
def bMod_readAct_39 : List EN := [(39, .iconst 0, 1, 0, 0, 0, []), (40, .ireturn, 1, 0, 0, 1, [])]
theorem kMod_readAct_39 : okb (mth nMod_readAct) 39 bMod_readAct_39 = true := by decide +kernel
def bMod_readAct_41 : List EN := [(41, .aload_n 0, 1, 0, 0, 0, []), (42, .getfield 186, 3, 8, 18, 0, []), (45, .istore_n 2, 1, 0, 0, 0, []), (46, .iload_n 1, 1, 0, 0, 0, []), (47, .iconst 3, 1, 0, 0, 0, []), (48, .if_icmp .eq 8, 3, 56, 0, 0, [])]
theorem kMod_readAct_41 : okb (mth nMod_readAct) 41 bMod_readAct_41 = true := by decide +kernel
def bMod_readAct_51 : List EN := [(51, .iload_n 1, 1, 0, 0, 0, []), (52, .iconst 4, 1, 0, 0, 0, []), (53, .if_icmp .ne 15, 3, 68, 0, 0, [])]
theorem kMod_readAct_51 : okb (mth nMod_readAct) 51 bMod_readAct_51 = true := by decide +kernel
def bMod_readAct_56 : List EN := [(56, .aload_n 0, 1, 0, 0, 0, []), (57, .iconst 0, 1, 0, 0, 0, []), (58, .bipush 99, 2, 0, 0, 0, []), (60, .invokevirtual 202, 3, nMod_told, 3, 9, [])]
theorem kMod_readAct_56 : okb (mth nMod_readAct) 56 bMod_readAct_56 = true := by decide +kernel
def bMod_readAct_63 : List EN := [(63, .ifCond .ne 5, 3, 68, 0, 0, [])]
theorem kMod_readAct_63 : okb (mth nMod_readAct) 63 bMod_readAct_63 = true := by decide +kernel
def bMod_readAct_66 : List EN := [(66, .iconst 0, 1, 0, 0, 0, []), (67, .ireturn, 1, 0, 0, 1, [])]
theorem kMod_readAct_66 : okb (mth nMod_readAct) 66 bMod_readAct_66 = true := by decide +kernel
def bMod_readAct_68 : List EN := [(68, .aload_n 0, 1, 0, 0, 0, []), (69, .getfield 27, 3, 8, 6, 0, []), (72, .iconst 4, 1, 0, 0, 0, []), (73, .if_icmp .eq 9, 3, 82, 0, 0, [])]
theorem kMod_readAct_68 : okb (mth nMod_readAct) 68 bMod_readAct_68 = true := by decide +kernel
def bMod_readAct_76 : List EN := [(76, .aload_n 0, 1, 0, 0, 0, []), (77, .iconst 1, 1, 0, 0, 0, []), (78, .invokevirtual 183, 3, nMod_bad, 2, 9, [])]
theorem kMod_readAct_76 : okb (mth nMod_readAct) 76 bMod_readAct_76 = true := by decide +kernel
def bMod_readAct_81 : List EN := [(81, .ireturn, 1, 0, 0, 1, [])]
theorem kMod_readAct_81 : okb (mth nMod_readAct) 81 bMod_readAct_81 = true := by decide +kernel
def bMod_readAct_82 : List EN := [(82, .aload_n 0, 1, 0, 0, 0, []), (83, .iload_n 1, 1, 0, 0, 0, []), (84, .iload_n 2, 1, 0, 0, 0, []), (85, .aload_n 0, 1, 0, 0, 0, []), (86, .getfield 186, 3, 8, 18, 0, []), (89, .invokevirtual 239, 3, nMod_does, 4, 9, [])]
theorem kMod_readAct_82 : okb (mth nMod_readAct) 82 bMod_readAct_82 = true := by decide +kernel
def bMod_readAct_92 : List EN := [(92, .ifCond .ge 9, 3, 101, 0, 0, [])]
theorem kMod_readAct_92 : okb (mth nMod_readAct) 92 bMod_readAct_92 = true := by decide +kernel
def bMod_readAct_95 : List EN := [(95, .aload_n 0, 1, 0, 0, 0, []), (96, .iconst 4, 1, 0, 0, 0, []), (97, .invokevirtual 183, 3, nMod_bad, 2, 9, [])]
theorem kMod_readAct_95 : okb (mth nMod_readAct) 95 bMod_readAct_95 = true := by decide +kernel
def bMod_readAct_100 : List EN := [(100, .ireturn, 1, 0, 0, 1, [])]
theorem kMod_readAct_100 : okb (mth nMod_readAct) 100 bMod_readAct_100 = true := by decide +kernel
def bMod_readAct_101 : List EN := [(101, .aload_n 0, 1, 0, 0, 0, []), (102, .invokevirtual 189, 3, nMod_go, 1, 9, [])]
theorem kMod_readAct_101 : okb (mth nMod_readAct) 101 bMod_readAct_101 = true := by decide +kernel
def bMod_readAct_105 : List EN := [(105, .iconst 1, 1, 0, 0, 0, []), (106, .ireturn, 1, 0, 0, 1, [])]
theorem kMod_readAct_105 : okb (mth nMod_readAct) 105 bMod_readAct_105 = true := by decide +kernel
def bMod_text_0 : List EN := [(0, .aload_n 0, 1, 0, 0, 0, []), (1, .iconst 0, 1, 0, 0, 0, []), (2, .putfield 1, 3, 8, 0, 0, []), (5, .aload_n 0, 1, 0, 0, 0, []), (6, .aload_n 0, 1, 0, 0, 0, []), (7, .getfield 11, 3, 8, 2, 0, []), (10, .putfield 18, 3, 8, 3, 0, []), (13, .aload_n 0, 1, 0, 0, 0, []), (14, .iconst 0, 1, 0, 0, 0, []), (15, .putfield 11, 3, 8, 2, 0, []), (18, .aload_n 0, 1, 0, 0, 0, []), (19, .iconst 0, 1, 0, 0, 0, []), (20, .putfield 58, 3, 8, 8, 0, []), (23, .aload_n 0, 1, 0, 0, 0, []), (24, .iconst 0, 1, 0, 0, 0, []), (25, .putfield 21, 3, 8, 4, 0, []), (28, .aload_n 0, 1, 0, 0, 0, []), (29, .iconst 0, 1, 0, 0, 0, []), (30, .putfield 213, 3, 8, 19, 0, []), (33, .iconst 0, 1, 0, 0, 0, []), (34, .istore_n 1, 1, 0, 0, 0, []), (35, .iconst 0, 1, 0, 0, 0, []), (36, .istore_n 2, 1, 0, 0, 0, [])]
theorem kMod_text_0 : okb (mth nMod_text) 0 bMod_text_0 = true := by decide +kernel
def bMod_text_37 : List EN := [(37, .iload_n 2, 1, 0, 0, 0, []), (38, .sipush 2226, 3, 0, 0, 0, []), (41, .if_icmp .ge 21, 3, 62, 0, 0, [])]
theorem kMod_text_37 : okb (mth nMod_text) 37 bMod_text_37 = true := by decide +kernel
def bMod_text_44 : List EN := [(44, .aload_n 0, 1, 0, 0, 0, []), (45, .getfield 73, 3, 8, 12, 3, []), (48, .iload_n 2, 1, 0, 0, 0, []), (49, .aload_n 0, 1, 0, 0, 0, []), (50, .getfield 70, 3, 8, 11, 3, []), (53, .iload_n 2, 1, 0, 0, 0, []), (54, .iaload, 1, 0, 0, 0, []), (55, .iastore, 1, 0, 0, 0, []), (56, .iinc 2 1, 3, 0, 0, 0, []), (59, .goto (-22), 3, 37, 0, 0, [])]
theorem kMod_text_44 : okb (mth nMod_text) 44 bMod_text_44 = true := by decide +kernel
def bMod_text_62 : List EN := [(62, .aload_n 0, 1, 0, 0, 0, []), (63, .invokevirtual 189, 3, nMod_go, 1, 9, [])]
theorem kMod_text_62 : okb (mth nMod_text) 62 bMod_text_62 = true := by decide +kernel
def bMod_text_66 : List EN := [(66, .aload_n 0, 1, 0, 0, 0, []), (67, .invokevirtual 243, 3, nMod_readMembers, 1, 9, [])]
theorem kMod_text_66 : okb (mth nMod_text) 66 bMod_text_66 = true := by decide +kernel
def bMod_text_70 : List EN := [(70, .istore_n 2, 1, 0, 0, 0, [])]
theorem kMod_text_70 : okb (mth nMod_text) 70 bMod_text_70 = true := by decide +kernel
def bMod_text_71 : List EN := [(71, .iload_n 2, 1, 0, 0, 0, []), (72, .ifCond .eq 18, 3, 90, 0, 0, [])]
theorem kMod_text_71 : okb (mth nMod_text) 71 bMod_text_71 = true := by decide +kernel
def bMod_text_75 : List EN := [(75, .aload_n 0, 1, 0, 0, 0, []), (76, .invokevirtual 246, 3, nMod_isRank, 1, 9, [])]
theorem kMod_text_75 : okb (mth nMod_text) 75 bMod_text_75 = true := by decide +kernel
def bMod_text_79 : List EN := [(79, .ifCond .eq 11, 3, 90, 0, 0, [])]
theorem kMod_text_79 : okb (mth nMod_text) 79 bMod_text_79 = true := by decide +kernel
def bMod_text_82 : List EN := [(82, .aload_n 0, 1, 0, 0, 0, []), (83, .invokevirtual 249, 3, nMod_readRank, 1, 9, [])]
theorem kMod_text_82 : okb (mth nMod_text) 82 bMod_text_82 = true := by decide +kernel
def bMod_text_86 : List EN := [(86, .istore_n 2, 1, 0, 0, 0, []), (87, .goto (-16), 3, 71, 0, 0, [])]
theorem kMod_text_86 : okb (mth nMod_text) 86 bMod_text_86 = true := by decide +kernel
def bMod_text_90 : List EN := [(90, .iload_n 2, 1, 0, 0, 0, []), (91, .ifCond .eq 21, 3, 112, 0, 0, [])]
theorem kMod_text_90 : okb (mth nMod_text) 90 bMod_text_90 = true := by decide +kernel
def bMod_text_94 : List EN := [(94, .aload_n 0, 1, 0, 0, 0, []), (95, .getfield 27, 3, 8, 6, 0, []), (98, .ifCond .eq 14, 3, 112, 0, 0, [])]
theorem kMod_text_94 : okb (mth nMod_text) 94 bMod_text_94 = true := by decide +kernel
def bMod_text_101 : List EN := [(101, .aload_n 0, 1, 0, 0, 0, []), (102, .invokevirtual 252, 3, nMod_readAct, 1, 9, [])]
theorem kMod_text_101 : okb (mth nMod_text) 101 bMod_text_101 = true := by decide +kernel
def bMod_text_105 : List EN := [(105, .istore_n 2, 1, 0, 0, 0, []), (106, .iinc 1 1, 3, 0, 0, 0, []), (109, .goto (-19), 3, 90, 0, 0, [])]
theorem kMod_text_105 : okb (mth nMod_text) 105 bMod_text_105 = true := by decide +kernel
def bMod_text_112 : List EN := [(112, .iload_n 2, 1, 0, 0, 0, []), (113, .ifCond .ne 14, 3, 127, 0, 0, [])]
theorem kMod_text_112 : okb (mth nMod_text) 112 bMod_text_112 = true := by decide +kernel
def bMod_text_116 : List EN := [(116, .aload_n 0, 1, 0, 0, 0, []), (117, .invokevirtual 255, 3, nMod_back, 1, 9, [])]
theorem kMod_text_116 : okb (mth nMod_text) 116 bMod_text_116 = true := by decide +kernel
def bMod_text_120 : List EN := [(120, .iconst (-1), 1, 0, 0, 0, []), (121, .aload_n 0, 1, 0, 0, 0, []), (122, .getfield 61, 3, 8, 9, 0, []), (125, .isub, 1, 0, 0, 0, []), (126, .ireturn, 1, 0, 0, 0, [])]
theorem kMod_text_120 : okb (mth nMod_text) 120 bMod_text_120 = true := by decide +kernel
def bMod_text_127 : List EN := [(127, .aload_n 0, 1, 0, 0, 0, []), (128, .iconst 0, 1, 0, 0, 0, []), (129, .putfield 258, 3, 8, 14, 0, []), (132, .iload_n 1, 1, 0, 0, 0, []), (133, .ireturn, 1, 0, 0, 0, [])]
theorem kMod_text_127 : okb (mth nMod_text) 127 bMod_text_127 = true := by decide +kernel
def bMod_back_0 : List EN := [(0, .iconst 0, 1, 0, 0, 0, []), (1, .istore_n 1, 1, 0, 0, 0, [])]
theorem kMod_back_0 : okb (mth nMod_back) 0 bMod_back_0 = true := by decide +kernel
def bMod_back_2 : List EN := [(2, .iload_n 1, 1, 0, 0, 0, []), (3, .sipush 2226, 3, 0, 0, 0, []), (6, .if_icmp .ge 21, 3, 27, 0, 0, [])]
theorem kMod_back_2 : okb (mth nMod_back) 2 bMod_back_2 = true := by decide +kernel
def bMod_back_9 : List EN := [(9, .aload_n 0, 1, 0, 0, 0, []), (10, .getfield 70, 3, 8, 11, 3, []), (13, .iload_n 1, 1, 0, 0, 0, []), (14, .aload_n 0, 1, 0, 0, 0, []), (15, .getfield 73, 3, 8, 12, 3, []), (18, .iload_n 1, 1, 0, 0, 0, []), (19, .iaload, 1, 0, 0, 0, []), (20, .iastore, 1, 0, 0, 0, []), (21, .iinc 1 1, 3, 0, 0, 0, []), (24, .goto (-22), 3, 2, 0, 0, [])]
theorem kMod_back_9 : okb (mth nMod_back) 9 bMod_back_9 = true := by decide +kernel
def bMod_back_27 : List EN := [(27, .return_, 1, 0, 0, 0, [])]
theorem kMod_back_27 : okb (mth nMod_back) 27 bMod_back_27 = true := by decide +kernel
def bMod_fault_0 : List EN := [(0, .aload_n 0, 1, 0, 0, 0, []), (1, .iconst 0, 1, 0, 0, 0, []), (2, .putfield 1, 3, 8, 0, 0, []), (5, .aload_n 0, 1, 0, 0, 0, []), (6, .getfield 58, 3, 8, 8, 0, []), (9, .ireturn, 1, 0, 0, 0, [])]
theorem kMod_fault_0 : okb (mth nMod_fault) 0 bMod_fault_0 = true := by decide +kernel
def bMod_bitsOf_0 : List EN := [(0, .iconst 0, 1, 0, 0, 0, []), (1, .istore_n 2, 1, 0, 0, 0, []), (2, .iconst 0, 1, 0, 0, 0, []), (3, .istore_n 3, 1, 0, 0, 0, [])]
theorem kMod_bitsOf_0 : okb (mth nMod_bitsOf) 0 bMod_bitsOf_0 = true := by decide +kernel
def bMod_bitsOf_4 : List EN := [(4, .iload_n 3, 1, 0, 0, 0, []), (5, .aload_n 0, 1, 0, 0, 0, []), (6, .getfield 70, 3, 8, 11, 3, []), (9, .iconst 0, 1, 0, 0, 0, []), (10, .iaload, 1, 0, 0, 0, []), (11, .if_icmp .ge 24, 3, 35, 0, 0, [])]
theorem kMod_bitsOf_4 : okb (mth nMod_bitsOf) 4 bMod_bitsOf_4 = true := by decide +kernel
def bMod_bitsOf_14 : List EN := [(14, .aload_n 0, 1, 0, 0, 0, []), (15, .iload_n 3, 1, 0, 0, 0, []), (16, .iload_n 1, 1, 0, 0, 0, []), (17, .invokevirtual 93, 3, nMod_its, 3, 9, [10]), (20, .ifCond .le 9, 3, 29, 0, 0, [])]
theorem kMod_bitsOf_14 : okb (mth nMod_bitsOf) 14 bMod_bitsOf_14 = true := by decide +kernel
def bMod_bitsOf_23 : List EN := [(23, .iload_n 2, 1, 0, 0, 0, []), (24, .iconst 1, 1, 0, 0, 0, []), (25, .iload_n 3, 1, 0, 0, 0, []), (26, .ishl, 1, 0, 0, 0, []), (27, .ior, 1, 0, 0, 0, []), (28, .istore_n 2, 1, 0, 0, 0, [])]
theorem kMod_bitsOf_23 : okb (mth nMod_bitsOf) 23 bMod_bitsOf_23 = true := by decide +kernel
def bMod_bitsOf_29 : List EN := [(29, .iinc 3 1, 3, 0, 0, 0, []), (32, .goto (-28), 3, 4, 0, 0, [])]
theorem kMod_bitsOf_29 : okb (mth nMod_bitsOf) 29 bMod_bitsOf_29 = true := by decide +kernel
def bMod_bitsOf_35 : List EN := [(35, .iload_n 2, 1, 0, 0, 0, []), (36, .ireturn, 1, 0, 0, 0, [])]
theorem kMod_bitsOf_35 : okb (mth nMod_bitsOf) 35 bMod_bitsOf_35 = true := by decide +kernel
def bMod_passes_0 : List EN := [(0, .iconst 0, 1, 0, 0, 0, []), (1, .istore_n 2, 1, 0, 0, 0, []), (2, .iconst 0, 1, 0, 0, 0, []), (3, .istore_n 3, 1, 0, 0, 0, [])]
theorem kMod_passes_0 : okb (mth nMod_passes) 0 bMod_passes_0 = true := by decide +kernel
def bMod_passes_4 : List EN := [(4, .iload_n 3, 1, 0, 0, 0, []), (5, .aload_n 0, 1, 0, 0, 0, []), (6, .getfield 70, 3, 8, 11, 3, []), (9, .iconst 0, 1, 0, 0, 0, []), (10, .iaload, 1, 0, 0, 0, []), (11, .if_icmp .ge 31, 3, 42, 0, 0, [])]
theorem kMod_passes_4 : okb (mth nMod_passes) 4 bMod_passes_4 = true := by decide +kernel
def bMod_passes_14 : List EN := [(14, .aload_n 0, 1, 0, 0, 0, []), (15, .iload_n 3, 1, 0, 0, 0, []), (16, .invokevirtual 129, 3, nMod_has, 2, 9, [12]), (19, .ifCond .eq 17, 3, 36, 0, 0, [])]
theorem kMod_passes_14 : okb (mth nMod_passes) 14 bMod_passes_14 = true := by decide +kernel
def bMod_passes_22 : List EN := [(22, .aload_n 0, 1, 0, 0, 0, []), (23, .iload_n 3, 1, 0, 0, 0, []), (24, .bipush 30, 2, 0, 0, 0, []), (26, .invokevirtual 93, 3, nMod_its, 3, 9, [10]), (29, .iload_n 1, 1, 0, 0, 0, []), (30, .if_icmp .lt 6, 3, 36, 0, 0, [])]
theorem kMod_passes_22 : okb (mth nMod_passes) 22 bMod_passes_22 = true := by decide +kernel
def bMod_passes_33 : List EN := [(33, .iinc 2 1, 3, 0, 0, 0, [])]
theorem kMod_passes_33 : okb (mth nMod_passes) 33 bMod_passes_33 = true := by decide +kernel
def bMod_passes_36 : List EN := [(36, .iinc 3 1, 3, 0, 0, 0, []), (39, .goto (-35), 3, 4, 0, 0, [])]
theorem kMod_passes_36 : okb (mth nMod_passes) 36 bMod_passes_36 = true := by decide +kernel
def bMod_passes_42 : List EN := [(42, .iconst 0, 1, 0, 0, 0, []), (43, .istore_n 3, 1, 0, 0, 0, [])]
theorem kMod_passes_42 : okb (mth nMod_passes) 42 bMod_passes_42 = true := by decide +kernel
def bMod_passes_44 : List EN := [(44, .iload_n 3, 1, 0, 0, 0, []), (45, .aload_n 0, 1, 0, 0, 0, []), (46, .getfield 70, 3, 8, 11, 3, []), (49, .iconst 5, 1, 0, 0, 0, []), (50, .iaload, 1, 0, 0, 0, []), (51, .if_icmp .ge 40, 3, 91, 0, 0, [])]
theorem kMod_passes_44 : okb (mth nMod_passes) 44 bMod_passes_44 = true := by decide +kernel
def bMod_passes_54 : List EN := [(54, .aload_n 0, 1, 0, 0, 0, []), (55, .getfield 70, 3, 8, 11, 3, []), (58, .iload_n 3, 1, 0, 0, 0, []), (59, .iconst 2, 1, 0, 0, 0, []), (60, .invokestatic 96, 3, nMod_sent, 2, 0, [7]), (63, .iaload, 1, 0, 0, 0, []), (64, .iconst 1, 1, 0, 0, 0, []), (65, .if_icmp .ne 20, 3, 85, 0, 0, [])]
theorem kMod_passes_54 : okb (mth nMod_passes) 54 bMod_passes_54 = true := by decide +kernel
def bMod_passes_68 : List EN := [(68, .aload_n 0, 1, 0, 0, 0, []), (69, .getfield 70, 3, 8, 11, 3, []), (72, .iload_n 3, 1, 0, 0, 0, []), (73, .iconst 5, 1, 0, 0, 0, []), (74, .invokestatic 96, 3, nMod_sent, 2, 0, [7]), (77, .iaload, 1, 0, 0, 0, []), (78, .iload_n 1, 1, 0, 0, 0, []), (79, .if_icmp .lt 6, 3, 85, 0, 0, [])]
theorem kMod_passes_68 : okb (mth nMod_passes) 68 bMod_passes_68 = true := by decide +kernel
def bMod_passes_82 : List EN := [(82, .iinc 2 1, 3, 0, 0, 0, [])]
theorem kMod_passes_82 : okb (mth nMod_passes) 82 bMod_passes_82 = true := by decide +kernel
def bMod_passes_85 : List EN := [(85, .iinc 3 1, 3, 0, 0, 0, []), (88, .goto (-44), 3, 44, 0, 0, [])]
theorem kMod_passes_85 : okb (mth nMod_passes) 85 bMod_passes_85 = true := by decide +kernel
def bMod_passes_91 : List EN := [(91, .iload_n 2, 1, 0, 0, 0, []), (92, .ireturn, 1, 0, 0, 0, [])]
theorem kMod_passes_91 : okb (mth nMod_passes) 91 bMod_passes_91 = true := by decide +kernel
def bMod_newest_0 : List EN := [(0, .iconst 0, 1, 0, 0, 0, []), (1, .istore_n 1, 1, 0, 0, 0, []), (2, .iconst 0, 1, 0, 0, 0, []), (3, .istore_n 2, 1, 0, 0, 0, [])]
theorem kMod_newest_0 : okb (mth nMod_newest) 0 bMod_newest_0 = true := by decide +kernel
def bMod_newest_4 : List EN := [(4, .iload_n 2, 1, 0, 0, 0, []), (5, .aload_n 0, 1, 0, 0, 0, []), (6, .getfield 70, 3, 8, 11, 3, []), (9, .iconst 0, 1, 0, 0, 0, []), (10, .iaload, 1, 0, 0, 0, []), (11, .if_icmp .ge 45, 3, 56, 0, 0, [])]
theorem kMod_newest_4 : okb (mth nMod_newest) 4 bMod_newest_4 = true := by decide +kernel
def bMod_newest_14 : List EN := [(14, .aload_n 0, 1, 0, 0, 0, []), (15, .iload_n 2, 1, 0, 0, 0, []), (16, .iconst 1, 1, 0, 0, 0, []), (17, .invokevirtual 93, 3, nMod_its, 3, 9, [10]), (20, .iload_n 1, 1, 0, 0, 0, []), (21, .if_icmp .le 10, 3, 31, 0, 0, [])]
theorem kMod_newest_14 : okb (mth nMod_newest) 14 bMod_newest_14 = true := by decide +kernel
def bMod_newest_24 : List EN := [(24, .aload_n 0, 1, 0, 0, 0, []), (25, .iload_n 2, 1, 0, 0, 0, []), (26, .iconst 1, 1, 0, 0, 0, []), (27, .invokevirtual 93, 3, nMod_its, 3, 9, [10]), (30, .istore_n 1, 1, 0, 0, 0, [])]
theorem kMod_newest_24 : okb (mth nMod_newest) 24 bMod_newest_24 = true := by decide +kernel
def bMod_newest_31 : List EN := [(31, .aload_n 0, 1, 0, 0, 0, []), (32, .iload_n 2, 1, 0, 0, 0, []), (33, .bipush 30, 2, 0, 0, 0, []), (35, .invokevirtual 93, 3, nMod_its, 3, 9, [10]), (38, .iload_n 1, 1, 0, 0, 0, []), (39, .if_icmp .le 11, 3, 50, 0, 0, [])]
theorem kMod_newest_31 : okb (mth nMod_newest) 31 bMod_newest_31 = true := by decide +kernel
def bMod_newest_42 : List EN := [(42, .aload_n 0, 1, 0, 0, 0, []), (43, .iload_n 2, 1, 0, 0, 0, []), (44, .bipush 30, 2, 0, 0, 0, []), (46, .invokevirtual 93, 3, nMod_its, 3, 9, [10]), (49, .istore_n 1, 1, 0, 0, 0, [])]
theorem kMod_newest_42 : okb (mth nMod_newest) 42 bMod_newest_42 = true := by decide +kernel
def bMod_newest_50 : List EN := [(50, .iinc 2 1, 3, 0, 0, 0, []), (53, .goto (-49), 3, 4, 0, 0, [])]
theorem kMod_newest_50 : okb (mth nMod_newest) 50 bMod_newest_50 = true := by decide +kernel
def bMod_newest_56 : List EN := [(56, .iconst 0, 1, 0, 0, 0, []), (57, .istore_n 2, 1, 0, 0, 0, [])]
theorem kMod_newest_56 : okb (mth nMod_newest) 56 bMod_newest_56 = true := by decide +kernel
def bMod_newest_58 : List EN := [(58, .iload_n 2, 1, 0, 0, 0, []), (59, .aload_n 0, 1, 0, 0, 0, []), (60, .getfield 70, 3, 8, 11, 3, []), (63, .iconst 5, 1, 0, 0, 0, []), (64, .iaload, 1, 0, 0, 0, []), (65, .if_icmp .ge 48, 3, 113, 0, 0, [])]
theorem kMod_newest_58 : okb (mth nMod_newest) 58 bMod_newest_58 = true := by decide +kernel
def bMod_newest_68 : List EN := [(68, .aload_n 0, 1, 0, 0, 0, []), (69, .getfield 70, 3, 8, 11, 3, []), (72, .iload_n 2, 1, 0, 0, 0, []), (73, .iconst 2, 1, 0, 0, 0, []), (74, .invokestatic 96, 3, nMod_sent, 2, 0, [7]), (77, .iaload, 1, 0, 0, 0, []), (78, .iconst 1, 1, 0, 0, 0, []), (79, .if_icmp .ne 28, 3, 107, 0, 0, [])]
theorem kMod_newest_68 : okb (mth nMod_newest) 68 bMod_newest_68 = true := by decide +kernel
def bMod_newest_82 : List EN := [(82, .aload_n 0, 1, 0, 0, 0, []), (83, .getfield 70, 3, 8, 11, 3, []), (86, .iload_n 2, 1, 0, 0, 0, []), (87, .iconst 5, 1, 0, 0, 0, []), (88, .invokestatic 96, 3, nMod_sent, 2, 0, [7]), (91, .iaload, 1, 0, 0, 0, []), (92, .iload_n 1, 1, 0, 0, 0, []), (93, .if_icmp .le 14, 3, 107, 0, 0, [])]
theorem kMod_newest_82 : okb (mth nMod_newest) 82 bMod_newest_82 = true := by decide +kernel
def bMod_newest_96 : List EN := [(96, .aload_n 0, 1, 0, 0, 0, []), (97, .getfield 70, 3, 8, 11, 3, []), (100, .iload_n 2, 1, 0, 0, 0, []), (101, .iconst 5, 1, 0, 0, 0, []), (102, .invokestatic 96, 3, nMod_sent, 2, 0, [7]), (105, .iaload, 1, 0, 0, 0, []), (106, .istore_n 1, 1, 0, 0, 0, [])]
theorem kMod_newest_96 : okb (mth nMod_newest) 96 bMod_newest_96 = true := by decide +kernel
def bMod_newest_107 : List EN := [(107, .iinc 2 1, 3, 0, 0, 0, []), (110, .goto (-52), 3, 58, 0, 0, [])]
theorem kMod_newest_107 : okb (mth nMod_newest) 107 bMod_newest_107 = true := by decide +kernel
def bMod_newest_113 : List EN := [(113, .iload_n 1, 1, 0, 0, 0, []), (114, .ireturn, 1, 0, 0, 0, [])]
theorem kMod_newest_113 : okb (mth nMod_newest) 113 bMod_newest_113 = true := by decide +kernel
def bMod_now_0 : List EN := [(0, .aload_n 0, 1, 0, 0, 0, []), (1, .iconst 0, 1, 0, 0, 0, []), (2, .putfield 1, 3, 8, 0, 0, []), (5, .iload_n 1, 1, 0, 0, 0, []), (6, .tableswitch 152 0 12 #[66, 73, 80, 86, 95, 102, 109, 116, 123, 129, 135, 142, 147], 66, 158, 0, 0, [72, 79, 86, 92, 101, 108, 115, 122, 129, 135, 141, 148, 153])]
theorem kMod_now_0 : okb (mth nMod_now) 0 bMod_now_0 = true := by decide +kernel
def bMod_now_72 : List EN := [(72, .aload_n 0, 1, 0, 0, 0, []), (73, .getfield 70, 3, 8, 11, 3, []), (76, .iconst 0, 1, 0, 0, 0, []), (77, .iaload, 1, 0, 0, 0, []), (78, .ireturn, 1, 0, 0, 0, [])]
theorem kMod_now_72 : okb (mth nMod_now) 72 bMod_now_72 = true := by decide +kernel
def bMod_now_79 : List EN := [(79, .aload_n 0, 1, 0, 0, 0, []), (80, .getfield 70, 3, 8, 11, 3, []), (83, .iconst 5, 1, 0, 0, 0, []), (84, .iaload, 1, 0, 0, 0, []), (85, .ireturn, 1, 0, 0, 0, [])]
theorem kMod_now_79 : okb (mth nMod_now) 79 bMod_now_79 = true := by decide +kernel
def bMod_now_86 : List EN := [(86, .aload_n 0, 1, 0, 0, 0, []), (87, .iconst 1, 1, 0, 0, 0, []), (88, .invokevirtual 261, 3, nMod_passes, 2, 9, [])]
theorem kMod_now_86 : okb (mth nMod_now) 86 bMod_now_86 = true := by decide +kernel
def bMod_now_91 : List EN := [(91, .ireturn, 1, 0, 0, 0, [])]
theorem kMod_now_91 : okb (mth nMod_now) 91 bMod_now_91 = true := by decide +kernel
def bMod_now_92 : List EN := [(92, .aload_n 0, 1, 0, 0, 0, []), (93, .aload_n 0, 1, 0, 0, 0, []), (94, .invokevirtual 264, 3, nMod_newest, 1, 9, [])]
theorem kMod_now_92 : okb (mth nMod_now) 92 bMod_now_92 = true := by decide +kernel
def bMod_now_97 : List EN := [(97, .invokevirtual 261, 3, nMod_passes, 2, 9, [])]
theorem kMod_now_97 : okb (mth nMod_now) 97 bMod_now_97 = true := by decide +kernel
def bMod_now_100 : List EN := [(100, .ireturn, 1, 0, 0, 0, [])]
theorem kMod_now_100 : okb (mth nMod_now) 100 bMod_now_100 = true := by decide +kernel
def bMod_now_101 : List EN := [(101, .aload_n 0, 1, 0, 0, 0, []), (102, .getfield 70, 3, 8, 11, 3, []), (105, .iconst 1, 1, 0, 0, 0, []), (106, .iaload, 1, 0, 0, 0, []), (107, .ireturn, 1, 0, 0, 0, [])]
theorem kMod_now_101 : okb (mth nMod_now) 101 bMod_now_101 = true := by decide +kernel
def bMod_now_108 : List EN := [(108, .aload_n 0, 1, 0, 0, 0, []), (109, .getfield 70, 3, 8, 11, 3, []), (112, .iconst 2, 1, 0, 0, 0, []), (113, .iaload, 1, 0, 0, 0, []), (114, .ireturn, 1, 0, 0, 0, [])]
theorem kMod_now_108 : okb (mth nMod_now) 108 bMod_now_108 = true := by decide +kernel
def bMod_now_115 : List EN := [(115, .aload_n 0, 1, 0, 0, 0, []), (116, .getfield 70, 3, 8, 11, 3, []), (119, .iconst 3, 1, 0, 0, 0, []), (120, .iaload, 1, 0, 0, 0, []), (121, .ireturn, 1, 0, 0, 0, [])]
theorem kMod_now_115 : okb (mth nMod_now) 115 bMod_now_115 = true := by decide +kernel
def bMod_now_122 : List EN := [(122, .aload_n 0, 1, 0, 0, 0, []), (123, .getfield 70, 3, 8, 11, 3, []), (126, .iconst 4, 1, 0, 0, 0, []), (127, .iaload, 1, 0, 0, 0, []), (128, .ireturn, 1, 0, 0, 0, [])]
theorem kMod_now_122 : okb (mth nMod_now) 122 bMod_now_122 = true := by decide +kernel
def bMod_now_129 : List EN := [(129, .aload_n 0, 1, 0, 0, 0, []), (130, .iconst 2, 1, 0, 0, 0, []), (131, .invokevirtual 267, 3, nMod_bitsOf, 2, 9, [])]
theorem kMod_now_129 : okb (mth nMod_now) 129 bMod_now_129 = true := by decide +kernel
def bMod_now_134 : List EN := [(134, .ireturn, 1, 0, 0, 0, [])]
theorem kMod_now_134 : okb (mth nMod_now) 134 bMod_now_134 = true := by decide +kernel
def bMod_now_135 : List EN := [(135, .aload_n 0, 1, 0, 0, 0, []), (136, .iconst 3, 1, 0, 0, 0, []), (137, .invokevirtual 267, 3, nMod_bitsOf, 2, 9, [])]
theorem kMod_now_135 : okb (mth nMod_now) 135 bMod_now_135 = true := by decide +kernel
def bMod_now_140 : List EN := [(140, .ireturn, 1, 0, 0, 0, [])]
theorem kMod_now_140 : okb (mth nMod_now) 140 bMod_now_140 = true := by decide +kernel
def bMod_now_141 : List EN := [(141, .aload_n 0, 1, 0, 0, 0, []), (142, .bipush 30, 2, 0, 0, 0, []), (144, .invokevirtual 267, 3, nMod_bitsOf, 2, 9, [])]
theorem kMod_now_141 : okb (mth nMod_now) 141 bMod_now_141 = true := by decide +kernel
def bMod_now_147 : List EN := [(147, .ireturn, 1, 0, 0, 0, [])]
theorem kMod_now_147 : okb (mth nMod_now) 147 bMod_now_147 = true := by decide +kernel
def bMod_now_148 : List EN := [(148, .aload_n 0, 1, 0, 0, 0, []), (149, .getfield 258, 3, 8, 14, 0, []), (152, .ireturn, 1, 0, 0, 0, [])]
theorem kMod_now_148 : okb (mth nMod_now) 148 bMod_now_148 = true := by decide +kernel
def bMod_now_153 : List EN := [(153, .aload_n 0, 1, 0, 0, 0, []), (154, .getfield 11, 3, 8, 2, 0, []), (157, .ireturn, 1, 0, 0, 0, [])]
theorem kMod_now_153 : okb (mth nMod_now) 153 bMod_now_153 = true := by decide +kernel
def bMod_now_158 : List EN := [(158, .iconst (-1), 1, 0, 0, 0, []), (159, .ireturn, 1, 0, 0, 0, [])]
theorem kMod_now_158 : okb (mth nMod_now) 158 bMod_now_158 = true := by decide +kernel
def bMod_member_0 : List EN := [(0, .aload_n 0, 1, 0, 0, 0, []), (1, .iconst 0, 1, 0, 0, 0, []), (2, .putfield 1, 3, 8, 0, 0, []), (5, .iload_n 2, 1, 0, 0, 0, []), (6, .bipush 10, 2, 0, 0, 0, []), (8, .if_icmp .lt 24, 3, 32, 0, 0, [])]
theorem kMod_member_0 : okb (mth nMod_member) 0 bMod_member_0 = true := by decide +kernel
def bMod_member_11 : List EN := [(11, .iload_n 2, 1, 0, 0, 0, []), (12, .bipush 40, 2, 0, 0, 0, []), (14, .if_icmp .ge 18, 3, 32, 0, 0, [])]
theorem kMod_member_11 : okb (mth nMod_member) 11 bMod_member_11 = true := by decide +kernel
def bMod_member_17 : List EN := [(17, .aload_n 0, 1, 0, 0, 0, []), (18, .iload_n 2, 1, 0, 0, 0, []), (19, .bipush 10, 2, 0, 0, 0, []), (21, .irem, 1, 0, 0, 0, []), (22, .invokevirtual 161, 3, nMod_isMember, 2, 9, [11]), (25, .ifCond .eq 7, 3, 32, 0, 0, [])]
theorem kMod_member_17 : okb (mth nMod_member) 17 bMod_member_17 = true := by decide +kernel
def bMod_member_28 : List EN := [(28, .iconst 1, 1, 0, 0, 0, []), (29, .goto 4, 3, 33, 0, 0, [])]
theorem kMod_member_28 : okb (mth nMod_member) 28 bMod_member_28 = true := by decide +kernel
def bMod_member_32 : List EN := [(32, .iconst 0, 1, 0, 0, 0, [])]
theorem kMod_member_32 : okb (mth nMod_member) 32 bMod_member_32 = true := by decide +kernel
def bMod_member_33 : List EN := [(33, .istore_n 3, 1, 0, 0, 0, []), (34, .aload_n 0, 1, 0, 0, 0, []), (35, .iload_n 1, 1, 0, 0, 0, []), (36, .invokevirtual 161, 3, nMod_isMember, 2, 9, [11]), (39, .ifCond .eq 17, 3, 56, 0, 0, [])]
theorem kMod_member_33 : okb (mth nMod_member) 33 bMod_member_33 = true := by decide +kernel
def bMod_member_42 : List EN := [(42, .iload_n 2, 1, 0, 0, 0, []), (43, .iconst 0, 1, 0, 0, 0, []), (44, .bipush 8, 2, 0, 0, 0, []), (46, .invokestatic 89, 3, nMod_isIn, 3, 0, [0]), (49, .ifCond .ne 12, 3, 61, 0, 0, [])]
theorem kMod_member_42 : okb (mth nMod_member) 42 bMod_member_42 = true := by decide +kernel
def bMod_member_52 : List EN := [(52, .iload_n 3, 1, 0, 0, 0, []), (53, .ifCond .ne 8, 3, 61, 0, 0, [])]
theorem kMod_member_52 : okb (mth nMod_member) 52 bMod_member_52 = true := by decide +kernel
def bMod_member_56 : List EN := [(56, .aload_n 0, 1, 0, 0, 0, []), (57, .invokevirtual 270, 3, nMod_refuse, 1, 9, [])]
theorem kMod_member_56 : okb (mth nMod_member) 56 bMod_member_56 = true := by decide +kernel
def bMod_member_60 : List EN := [(60, .ireturn, 1, 0, 0, 0, [])]
theorem kMod_member_60 : okb (mth nMod_member) 60 bMod_member_60 = true := by decide +kernel
def bMod_member_61 : List EN := [(61, .iload_n 2, 1, 0, 0, 0, []), (62, .tableswitch 120 0 8 #[50, 60, 70, 77, 84, 91, 98, 106, 113], 50, 182, 0, 0, [112, 122, 132, 139, 146, 153, 160, 168, 175])]
theorem kMod_member_61 : okb (mth nMod_member) 61 bMod_member_61 = true := by decide +kernel
def bMod_member_112 : List EN := [(112, .aload_n 0, 1, 0, 0, 0, []), (113, .iload_n 1, 1, 0, 0, 0, []), (114, .bipush 12, 2, 0, 0, 0, []), (116, .iload_n 1, 1, 0, 0, 0, []), (117, .iadd, 1, 0, 0, 0, []), (118, .invokevirtual 93, 3, nMod_its, 3, 9, [10]), (121, .ireturn, 1, 0, 0, 0, [])]
theorem kMod_member_112 : okb (mth nMod_member) 112 bMod_member_112 = true := by decide +kernel
def bMod_member_122 : List EN := [(122, .aload_n 0, 1, 0, 0, 0, []), (123, .iload_n 1, 1, 0, 0, 0, []), (124, .bipush 6, 2, 0, 0, 0, []), (126, .iload_n 1, 1, 0, 0, 0, []), (127, .iadd, 1, 0, 0, 0, []), (128, .invokevirtual 93, 3, nMod_its, 3, 9, [10]), (131, .ireturn, 1, 0, 0, 0, [])]
theorem kMod_member_122 : okb (mth nMod_member) 122 bMod_member_122 = true := by decide +kernel
def bMod_member_132 : List EN := [(132, .aload_n 0, 1, 0, 0, 0, []), (133, .iload_n 1, 1, 0, 0, 0, []), (134, .iconst 0, 1, 0, 0, 0, []), (135, .invokevirtual 93, 3, nMod_its, 3, 9, [10]), (138, .ireturn, 1, 0, 0, 0, [])]
theorem kMod_member_132 : okb (mth nMod_member) 132 bMod_member_132 = true := by decide +kernel
def bMod_member_139 : List EN := [(139, .aload_n 0, 1, 0, 0, 0, []), (140, .iload_n 1, 1, 0, 0, 0, []), (141, .iconst 1, 1, 0, 0, 0, []), (142, .invokevirtual 93, 3, nMod_its, 3, 9, [10]), (145, .ireturn, 1, 0, 0, 0, [])]
theorem kMod_member_139 : okb (mth nMod_member) 139 bMod_member_139 = true := by decide +kernel
def bMod_member_146 : List EN := [(146, .aload_n 0, 1, 0, 0, 0, []), (147, .iload_n 1, 1, 0, 0, 0, []), (148, .iconst 2, 1, 0, 0, 0, []), (149, .invokevirtual 93, 3, nMod_its, 3, 9, [10]), (152, .ireturn, 1, 0, 0, 0, [])]
theorem kMod_member_146 : okb (mth nMod_member) 146 bMod_member_146 = true := by decide +kernel
def bMod_member_153 : List EN := [(153, .aload_n 0, 1, 0, 0, 0, []), (154, .iload_n 1, 1, 0, 0, 0, []), (155, .iconst 3, 1, 0, 0, 0, []), (156, .invokevirtual 93, 3, nMod_its, 3, 9, [10]), (159, .ireturn, 1, 0, 0, 0, [])]
theorem kMod_member_153 : okb (mth nMod_member) 153 bMod_member_153 = true := by decide +kernel
def bMod_member_160 : List EN := [(160, .aload_n 0, 1, 0, 0, 0, []), (161, .iload_n 1, 1, 0, 0, 0, []), (162, .bipush 30, 2, 0, 0, 0, []), (164, .invokevirtual 93, 3, nMod_its, 3, 9, [10]), (167, .ireturn, 1, 0, 0, 0, [])]
theorem kMod_member_160 : okb (mth nMod_member) 160 bMod_member_160 = true := by decide +kernel
def bMod_member_168 : List EN := [(168, .aload_n 0, 1, 0, 0, 0, []), (169, .iload_n 1, 1, 0, 0, 0, []), (170, .iconst 4, 1, 0, 0, 0, []), (171, .invokevirtual 93, 3, nMod_its, 3, 9, [10]), (174, .ireturn, 1, 0, 0, 0, [])]
theorem kMod_member_168 : okb (mth nMod_member) 168 bMod_member_168 = true := by decide +kernel
def bMod_member_175 : List EN := [(175, .aload_n 0, 1, 0, 0, 0, []), (176, .iload_n 1, 1, 0, 0, 0, []), (177, .iconst 5, 1, 0, 0, 0, []), (178, .invokevirtual 93, 3, nMod_its, 3, 9, [10]), (181, .ireturn, 1, 0, 0, 0, [])]
theorem kMod_member_175 : okb (mth nMod_member) 175 bMod_member_175 = true := by decide +kernel
def bMod_member_182 : List EN := [(182, .aload_n 0, 1, 0, 0, 0, []), (183, .iload_n 1, 1, 0, 0, 0, []), (184, .iload_n 2, 1, 0, 0, 0, []), (185, .bipush 20, 2, 0, 0, 0, []), (187, .if_icmp .ge 8, 3, 195, 0, 0, [])]
theorem kMod_member_182 : okb (mth nMod_member) 182 bMod_member_182 = true := by decide +kernel
def bMod_member_190 : List EN := [(190, .bipush 6, 2, 0, 0, 0, []), (192, .goto 16, 3, 208, 0, 0, [])]
theorem kMod_member_190 : okb (mth nMod_member) 190 bMod_member_190 = true := by decide +kernel
def bMod_member_195 : List EN := [(195, .iload_n 2, 1, 0, 0, 0, []), (196, .bipush 30, 2, 0, 0, 0, []), (198, .if_icmp .ge 8, 3, 206, 0, 0, [])]
theorem kMod_member_195 : okb (mth nMod_member) 195 bMod_member_195 = true := by decide +kernel
def bMod_member_201 : List EN := [(201, .bipush 12, 2, 0, 0, 0, []), (203, .goto 5, 3, 208, 0, 0, [])]
theorem kMod_member_201 : okb (mth nMod_member) 201 bMod_member_201 = true := by decide +kernel
def bMod_member_206 : List EN := [(206, .bipush 18, 2, 0, 0, 0, [])]
theorem kMod_member_206 : okb (mth nMod_member) 206 bMod_member_206 = true := by decide +kernel
def bMod_member_208 : List EN := [(208, .iload_n 2, 1, 0, 0, 0, []), (209, .bipush 10, 2, 0, 0, 0, []), (211, .irem, 1, 0, 0, 0, []), (212, .iadd, 1, 0, 0, 0, []), (213, .invokevirtual 93, 3, nMod_its, 3, 9, [10]), (216, .ireturn, 1, 0, 0, 0, [])]
theorem kMod_member_208 : okb (mth nMod_member) 208 bMod_member_208 = true := by decide +kernel
def bMod_pass_0 : List EN := [(0, .aload_n 0, 1, 0, 0, 0, []), (1, .iconst 0, 1, 0, 0, 0, []), (2, .putfield 1, 3, 8, 0, 0, []), (5, .aload_n 0, 1, 0, 0, 0, []), (6, .iload_n 1, 1, 0, 0, 0, []), (7, .invokevirtual 161, 3, nMod_isMember, 2, 9, [11]), (10, .ifCond .eq 11, 3, 21, 0, 0, [])]
theorem kMod_pass_0 : okb (mth nMod_pass) 0 bMod_pass_0 = true := by decide +kernel
def bMod_pass_13 : List EN := [(13, .aload_n 0, 1, 0, 0, 0, []), (14, .iload_n 1, 1, 0, 0, 0, []), (15, .invokevirtual 129, 3, nMod_has, 2, 9, [12]), (18, .ifCond .ne 5, 3, 23, 0, 0, [])]
theorem kMod_pass_13 : okb (mth nMod_pass) 13 bMod_pass_13 = true := by decide +kernel
def bMod_pass_21 : List EN := [(21, .iconst (-1), 1, 0, 0, 0, []), (22, .ireturn, 1, 0, 0, 0, [])]
theorem kMod_pass_21 : okb (mth nMod_pass) 21 bMod_pass_21 = true := by decide +kernel
def bMod_pass_23 : List EN := [(23, .iload_n 2, 1, 0, 0, 0, []), (24, .ifCond .ne 11, 3, 35, 0, 0, [])]
theorem kMod_pass_23 : okb (mth nMod_pass) 23 bMod_pass_23 = true := by decide +kernel
def bMod_pass_27 : List EN := [(27, .aload_n 0, 1, 0, 0, 0, []), (28, .iload_n 1, 1, 0, 0, 0, []), (29, .bipush 31, 2, 0, 0, 0, []), (31, .invokevirtual 93, 3, nMod_its, 3, 9, [10]), (34, .ireturn, 1, 0, 0, 0, [])]
theorem kMod_pass_27 : okb (mth nMod_pass) 27 bMod_pass_27 = true := by decide +kernel
def bMod_pass_35 : List EN := [(35, .iload_n 2, 1, 0, 0, 0, []), (36, .bipush 10, 2, 0, 0, 0, []), (38, .bipush 9, 2, 0, 0, 0, []), (40, .aload_n 0, 1, 0, 0, 0, []), (41, .getfield 70, 3, 8, 11, 3, []), (44, .iconst 0, 1, 0, 0, 0, []), (45, .iaload, 1, 0, 0, 0, []), (46, .iadd, 1, 0, 0, 0, []), (47, .invokestatic 89, 3, nMod_isIn, 3, 0, [0]), (50, .ifCond .eq 16, 3, 66, 0, 0, [])]
theorem kMod_pass_35 : okb (mth nMod_pass) 35 bMod_pass_35 = true := by decide +kernel
def bMod_pass_53 : List EN := [(53, .aload_n 0, 1, 0, 0, 0, []), (54, .iload_n 1, 1, 0, 0, 0, []), (55, .bipush 32, 2, 0, 0, 0, []), (57, .iload_n 2, 1, 0, 0, 0, []), (58, .iadd, 1, 0, 0, 0, []), (59, .bipush 10, 2, 0, 0, 0, []), (61, .isub, 1, 0, 0, 0, []), (62, .invokevirtual 93, 3, nMod_its, 3, 9, [10]), (65, .ireturn, 1, 0, 0, 0, [])]
theorem kMod_pass_53 : okb (mth nMod_pass) 53 bMod_pass_53 = true := by decide +kernel
def bMod_pass_66 : List EN := [(66, .iload_n 2, 1, 0, 0, 0, []), (67, .bipush 30, 2, 0, 0, 0, []), (69, .if_icmp .lt 10, 3, 79, 0, 0, [])]
theorem kMod_pass_66 : okb (mth nMod_pass) 66 bMod_pass_66 = true := by decide +kernel
def bMod_pass_72 : List EN := [(72, .iload_n 2, 1, 0, 0, 0, []), (73, .bipush 30, 2, 0, 0, 0, []), (75, .isub, 1, 0, 0, 0, []), (76, .goto 7, 3, 83, 0, 0, [])]
theorem kMod_pass_72 : okb (mth nMod_pass) 72 bMod_pass_72 = true := by decide +kernel
def bMod_pass_79 : List EN := [(79, .iload_n 2, 1, 0, 0, 0, []), (80, .bipush 20, 2, 0, 0, 0, []), (82, .isub, 1, 0, 0, 0, [])]
theorem kMod_pass_79 : okb (mth nMod_pass) 79 bMod_pass_79 = true := by decide +kernel
def bMod_pass_83 : List EN := [(83, .istore_n 3, 1, 0, 0, 0, []), (84, .iload_n 3, 1, 0, 0, 0, []), (85, .iconst 0, 1, 0, 0, 0, []), (86, .aload_n 0, 1, 0, 0, 0, []), (87, .iload_n 1, 1, 0, 0, 0, []), (88, .bipush 31, 2, 0, 0, 0, []), (90, .invokevirtual 93, 3, nMod_its, 3, 9, [10]), (93, .iconst 1, 1, 0, 0, 0, []), (94, .isub, 1, 0, 0, 0, []), (95, .invokestatic 89, 3, nMod_isIn, 3, 0, [0]), (98, .ifCond .ne 5, 3, 103, 0, 0, [])]
theorem kMod_pass_83 : okb (mth nMod_pass) 83 bMod_pass_83 = true := by decide +kernel
def bMod_pass_101 : List EN := [(101, .iconst (-1), 1, 0, 0, 0, []), (102, .ireturn, 1, 0, 0, 0, [])]
theorem kMod_pass_101 : okb (mth nMod_pass) 101 bMod_pass_101 = true := by decide +kernel
def bMod_pass_103 : List EN := [(103, .aload_n 0, 1, 0, 0, 0, []), (104, .iload_n 1, 1, 0, 0, 0, []), (105, .bipush 30, 2, 0, 0, 0, []), (107, .iload_n 2, 1, 0, 0, 0, []), (108, .bipush 30, 2, 0, 0, 0, []), (110, .if_icmp .lt 8, 3, 118, 0, 0, [])]
theorem kMod_pass_103 : okb (mth nMod_pass) 103 bMod_pass_103 = true := by decide +kernel
def bMod_pass_113 : List EN := [(113, .bipush 14, 2, 0, 0, 0, []), (115, .goto 5, 3, 120, 0, 0, [])]
theorem kMod_pass_113 : okb (mth nMod_pass) 113 bMod_pass_113 = true := by decide +kernel
def bMod_pass_118 : List EN := [(118, .bipush 8, 2, 0, 0, 0, [])]
theorem kMod_pass_118 : okb (mth nMod_pass) 118 bMod_pass_118 = true := by decide +kernel
def bMod_pass_120 : List EN := [(120, .iadd, 1, 0, 0, 0, []), (121, .iload_n 3, 1, 0, 0, 0, []), (122, .iadd, 1, 0, 0, 0, []), (123, .invokevirtual 93, 3, nMod_its, 3, 9, [10]), (126, .ireturn, 1, 0, 0, 0, [])]
theorem kMod_pass_120 : okb (mth nMod_pass) 120 bMod_pass_120 = true := by decide +kernel
def bMod_areTwo_0 : List EN := [(0, .aload_n 0, 1, 0, 0, 0, []), (1, .iload_n 1, 1, 0, 0, 0, []), (2, .invokevirtual 161, 3, nMod_isMember, 2, 9, [11]), (5, .ifCond .eq 20, 3, 25, 0, 0, [])]
theorem kMod_areTwo_0 : okb (mth nMod_areTwo) 0 bMod_areTwo_0 = true := by decide +kernel
def bMod_areTwo_8 : List EN := [(8, .aload_n 0, 1, 0, 0, 0, []), (9, .iload_n 2, 1, 0, 0, 0, []), (10, .invokevirtual 161, 3, nMod_isMember, 2, 9, [11]), (13, .ifCond .eq 12, 3, 25, 0, 0, [])]
theorem kMod_areTwo_8 : okb (mth nMod_areTwo) 8 bMod_areTwo_8 = true := by decide +kernel
def bMod_areTwo_16 : List EN := [(16, .iload_n 1, 1, 0, 0, 0, []), (17, .iload_n 2, 1, 0, 0, 0, []), (18, .if_icmp .eq 7, 3, 25, 0, 0, [])]
theorem kMod_areTwo_16 : okb (mth nMod_areTwo) 16 bMod_areTwo_16 = true := by decide +kernel
def bMod_areTwo_21 : List EN := [(21, .iconst 1, 1, 0, 0, 0, []), (22, .goto 4, 3, 26, 0, 0, [])]
theorem kMod_areTwo_21 : okb (mth nMod_areTwo) 21 bMod_areTwo_21 = true := by decide +kernel
def bMod_areTwo_25 : List EN := [(25, .iconst 0, 1, 0, 0, 0, [])]
theorem kMod_areTwo_25 : okb (mth nMod_areTwo) 25 bMod_areTwo_25 = true := by decide +kernel
def bMod_areTwo_26 : List EN := [(26, .ireturn, 1, 0, 0, 1, [])]
theorem kMod_areTwo_26 : okb (mth nMod_areTwo) 26 bMod_areTwo_26 = true := by decide +kernel
def bMod_way_0 : List EN := [(0, .aload_n 0, 1, 0, 0, 0, []), (1, .iconst 0, 1, 0, 0, 0, []), (2, .putfield 1, 3, 8, 0, 0, []), (5, .aload_n 0, 1, 0, 0, 0, []), (6, .iload_n 1, 1, 0, 0, 0, []), (7, .iload_n 2, 1, 0, 0, 0, []), (8, .invokevirtual 273, 3, nMod_areTwo, 3, 9, [])]
theorem kMod_way_0 : okb (mth nMod_way) 0 bMod_way_0 = true := by decide +kernel
def bMod_way_11 : List EN := [(11, .ifCond .ne 5, 3, 16, 0, 0, [])]
theorem kMod_way_11 : okb (mth nMod_way) 11 bMod_way_11 = true := by decide +kernel
def bMod_way_14 : List EN := [(14, .iconst (-1), 1, 0, 0, 0, []), (15, .ireturn, 1, 0, 0, 0, [])]
theorem kMod_way_14 : okb (mth nMod_way) 14 bMod_way_14 = true := by decide +kernel
def bMod_way_16 : List EN := [(16, .iconst 0, 1, 0, 0, 0, []), (17, .istore_n 3, 1, 0, 0, 0, []), (18, .iconst 0, 1, 0, 0, 0, []), (19, .istore 4, 2, 0, 0, 0, [])]
theorem kMod_way_16 : okb (mth nMod_way) 16 bMod_way_16 = true := by decide +kernel
def bMod_way_21 : List EN := [(21, .iload 4, 2, 0, 0, 0, []), (23, .aload_n 0, 1, 0, 0, 0, []), (24, .getfield 70, 3, 8, 11, 3, []), (27, .iconst 5, 1, 0, 0, 0, []), (28, .iaload, 1, 0, 0, 0, []), (29, .if_icmp .ge 42, 3, 71, 0, 0, [])]
theorem kMod_way_21 : okb (mth nMod_way) 21 bMod_way_21 = true := by decide +kernel
def bMod_way_32 : List EN := [(32, .aload_n 0, 1, 0, 0, 0, []), (33, .getfield 70, 3, 8, 11, 3, []), (36, .iload 4, 2, 0, 0, 0, []), (38, .iconst 0, 1, 0, 0, 0, []), (39, .invokestatic 96, 3, nMod_sent, 2, 0, [7]), (42, .iaload, 1, 0, 0, 0, []), (43, .iload_n 1, 1, 0, 0, 0, []), (44, .if_icmp .ne 21, 3, 65, 0, 0, [])]
theorem kMod_way_32 : okb (mth nMod_way) 32 bMod_way_32 = true := by decide +kernel
def bMod_way_47 : List EN := [(47, .aload_n 0, 1, 0, 0, 0, []), (48, .getfield 70, 3, 8, 11, 3, []), (51, .iload 4, 2, 0, 0, 0, []), (53, .iconst 1, 1, 0, 0, 0, []), (54, .invokestatic 96, 3, nMod_sent, 2, 0, [7]), (57, .iaload, 1, 0, 0, 0, []), (58, .iload_n 2, 1, 0, 0, 0, []), (59, .if_icmp .ne 6, 3, 65, 0, 0, [])]
theorem kMod_way_47 : okb (mth nMod_way) 47 bMod_way_47 = true := by decide +kernel
def bMod_way_62 : List EN := [(62, .iinc 3 1, 3, 0, 0, 0, [])]
theorem kMod_way_62 : okb (mth nMod_way) 62 bMod_way_62 = true := by decide +kernel
def bMod_way_65 : List EN := [(65, .iinc 4 1, 3, 0, 0, 0, []), (68, .goto (-47), 3, 21, 0, 0, [])]
theorem kMod_way_65 : okb (mth nMod_way) 65 bMod_way_65 = true := by decide +kernel
def bMod_way_71 : List EN := [(71, .iload_n 3, 1, 0, 0, 0, []), (72, .ireturn, 1, 0, 0, 0, [])]
theorem kMod_way_71 : okb (mth nMod_way) 71 bMod_way_71 = true := by decide +kernel
def bMod_message_0 : List EN := [(0, .aload_n 0, 1, 0, 0, 0, []), (1, .iconst 0, 1, 0, 0, 0, []), (2, .putfield 1, 3, 8, 0, 0, []), (5, .aload_n 0, 1, 0, 0, 0, []), (6, .iload_n 1, 1, 0, 0, 0, []), (7, .iload_n 2, 1, 0, 0, 0, []), (8, .invokevirtual 273, 3, nMod_areTwo, 3, 9, [])]
theorem kMod_message_0 : okb (mth nMod_message) 0 bMod_message_0 = true := by decide +kernel
def bMod_message_11 : List EN := [(11, .ifCond .eq 17, 3, 28, 0, 0, [])]
theorem kMod_message_11 : okb (mth nMod_message) 11 bMod_message_11 = true := by decide +kernel
def bMod_message_14 : List EN := [(14, .iload_n 3, 1, 0, 0, 0, []), (15, .ifCond .lt 13, 3, 28, 0, 0, [])]
theorem kMod_message_14 : okb (mth nMod_message) 14 bMod_message_14 = true := by decide +kernel
def bMod_message_18 : List EN := [(18, .iload 4, 2, 0, 0, 0, []), (20, .iconst 0, 1, 0, 0, 0, []), (21, .iconst 2, 1, 0, 0, 0, []), (22, .invokestatic 89, 3, nMod_isIn, 3, 0, [0]), (25, .ifCond .ne 5, 3, 30, 0, 0, [])]
theorem kMod_message_18 : okb (mth nMod_message) 18 bMod_message_18 = true := by decide +kernel
def bMod_message_28 : List EN := [(28, .iconst (-1), 1, 0, 0, 0, []), (29, .ireturn, 1, 0, 0, 0, [])]
theorem kMod_message_28 : okb (mth nMod_message) 28 bMod_message_28 = true := by decide +kernel
def bMod_message_30 : List EN := [(30, .iload_n 3, 1, 0, 0, 0, []), (31, .istore 5, 2, 0, 0, 0, []), (33, .iconst 0, 1, 0, 0, 0, []), (34, .istore 6, 2, 0, 0, 0, [])]
theorem kMod_message_30 : okb (mth nMod_message) 30 bMod_message_30 = true := by decide +kernel
def bMod_message_36 : List EN := [(36, .iload 6, 2, 0, 0, 0, []), (38, .aload_n 0, 1, 0, 0, 0, []), (39, .getfield 70, 3, 8, 11, 3, []), (42, .iconst 5, 1, 0, 0, 0, []), (43, .iaload, 1, 0, 0, 0, []), (44, .if_icmp .ge 65, 3, 109, 0, 0, [])]
theorem kMod_message_36 : okb (mth nMod_message) 36 bMod_message_36 = true := by decide +kernel
def bMod_message_47 : List EN := [(47, .aload_n 0, 1, 0, 0, 0, []), (48, .getfield 70, 3, 8, 11, 3, []), (51, .iload 6, 2, 0, 0, 0, []), (53, .iconst 0, 1, 0, 0, 0, []), (54, .invokestatic 96, 3, nMod_sent, 2, 0, [7]), (57, .iaload, 1, 0, 0, 0, []), (58, .iload_n 1, 1, 0, 0, 0, []), (59, .if_icmp .ne 44, 3, 103, 0, 0, [])]
theorem kMod_message_47 : okb (mth nMod_message) 47 bMod_message_47 = true := by decide +kernel
def bMod_message_62 : List EN := [(62, .aload_n 0, 1, 0, 0, 0, []), (63, .getfield 70, 3, 8, 11, 3, []), (66, .iload 6, 2, 0, 0, 0, []), (68, .iconst 1, 1, 0, 0, 0, []), (69, .invokestatic 96, 3, nMod_sent, 2, 0, [7]), (72, .iaload, 1, 0, 0, 0, []), (73, .iload_n 2, 1, 0, 0, 0, []), (74, .if_icmp .eq 6, 3, 80, 0, 0, [])]
theorem kMod_message_62 : okb (mth nMod_message) 62 bMod_message_62 = true := by decide +kernel
def bMod_message_77 : List EN := [(77, .goto 26, 3, 103, 0, 0, [])]
theorem kMod_message_77 : okb (mth nMod_message) 77 bMod_message_77 = true := by decide +kernel
def bMod_message_80 : List EN := [(80, .iload 5, 2, 0, 0, 0, []), (82, .ifCond .ne 18, 3, 100, 0, 0, [])]
theorem kMod_message_80 : okb (mth nMod_message) 80 bMod_message_80 = true := by decide +kernel
def bMod_message_85 : List EN := [(85, .aload_n 0, 1, 0, 0, 0, []), (86, .getfield 70, 3, 8, 11, 3, []), (89, .iload 6, 2, 0, 0, 0, []), (91, .iconst 2, 1, 0, 0, 0, []), (92, .iload 4, 2, 0, 0, 0, []), (94, .iadd, 1, 0, 0, 0, []), (95, .invokestatic 96, 3, nMod_sent, 2, 0, [7]), (98, .iaload, 1, 0, 0, 0, []), (99, .ireturn, 1, 0, 0, 0, [])]
theorem kMod_message_85 : okb (mth nMod_message) 85 bMod_message_85 = true := by decide +kernel
def bMod_message_100 : List EN := [(100, .iinc 5 (-1), 3, 0, 0, 0, [])]
theorem kMod_message_100 : okb (mth nMod_message) 100 bMod_message_100 = true := by decide +kernel
def bMod_message_103 : List EN := [(103, .iinc 6 1, 3, 0, 0, 0, []), (106, .goto (-70), 3, 36, 0, 0, [])]
theorem kMod_message_103 : okb (mth nMod_message) 103 bMod_message_103 = true := by decide +kernel
def bMod_message_109 : List EN := [(109, .iconst (-1), 1, 0, 0, 0, []), (110, .ireturn, 1, 0, 0, 0, [])]
theorem kMod_message_109 : okb (mth nMod_message) 109 bMod_message_109 = true := by decide +kernel
def bMod_keeps_0 : List EN := [(0, .iconst 0, 1, 0, 0, 0, []), (1, .istore_n 1, 1, 0, 0, 0, [])]
theorem kMod_keeps_0 : okb (mth nMod_keeps) 0 bMod_keeps_0 = true := by decide +kernel
def bMod_keeps_2 : List EN := [(2, .iload_n 1, 1, 0, 0, 0, []), (3, .sipush 2226, 3, 0, 0, 0, []), (6, .if_icmp .ge 21, 3, 27, 0, 0, [])]
theorem kMod_keeps_2 : okb (mth nMod_keeps) 2 bMod_keeps_2 = true := by decide +kernel
def bMod_keeps_9 : List EN := [(9, .aload_n 0, 1, 0, 0, 0, []), (10, .getfield 73, 3, 8, 12, 3, []), (13, .iload_n 1, 1, 0, 0, 0, []), (14, .aload_n 0, 1, 0, 0, 0, []), (15, .getfield 70, 3, 8, 11, 3, []), (18, .iload_n 1, 1, 0, 0, 0, []), (19, .iaload, 1, 0, 0, 0, []), (20, .iastore, 1, 0, 0, 0, []), (21, .iinc 1 1, 3, 0, 0, 0, []), (24, .goto (-22), 3, 2, 0, 0, [])]
theorem kMod_keeps_9 : okb (mth nMod_keeps) 9 bMod_keeps_9 = true := by decide +kernel
def bMod_keeps_27 : List EN := [(27, .return_, 1, 0, 0, 0, [])]
theorem kMod_keeps_27 : okb (mth nMod_keeps) 27 bMod_keeps_27 = true := by decide +kernel
def bMod_would_0 : List EN := [(0, .aload_n 0, 1, 0, 0, 0, []), (1, .iconst 0, 1, 0, 0, 0, []), (2, .putfield 1, 3, 8, 0, 0, []), (5, .aload_n 0, 1, 0, 0, 0, []), (6, .iload_n 1, 1, 0, 0, 0, []), (7, .iload_n 2, 1, 0, 0, 0, []), (8, .invokevirtual 170, 3, nMod_firstOf, 3, 9, [])]
theorem kMod_would_0 : okb (mth nMod_would) 0 bMod_would_0 = true := by decide +kernel
def bMod_would_11 : List EN := [(11, .istore_n 3, 1, 0, 0, 0, []), (12, .iload_n 3, 1, 0, 0, 0, []), (13, .iconst (-1), 1, 0, 0, 0, []), (14, .if_icmp .ne 5, 3, 19, 0, 0, [])]
theorem kMod_would_11 : okb (mth nMod_would) 11 bMod_would_11 = true := by decide +kernel
def bMod_would_17 : List EN := [(17, .iconst (-1), 1, 0, 0, 0, []), (18, .ireturn, 1, 0, 0, 0, [])]
theorem kMod_would_17 : okb (mth nMod_would) 17 bMod_would_17 = true := by decide +kernel
def bMod_would_19 : List EN := [(19, .aload_n 0, 1, 0, 0, 0, []), (20, .invokevirtual 276, 3, nMod_keeps, 1, 9, [])]
theorem kMod_would_19 : okb (mth nMod_would) 19 bMod_would_19 = true := by decide +kernel
def bMod_would_23 : List EN := [(23, .aload_n 0, 1, 0, 0, 0, []), (24, .iload_n 3, 1, 0, 0, 0, []), (25, .invokevirtual 173, 3, nMod_delivers, 2, 9, [])]
theorem kMod_would_23 : okb (mth nMod_would) 23 bMod_would_23 = true := by decide +kernel
def bMod_would_28 : List EN := [(28, .pop, 1, 0, 0, 0, []), (29, .aload_n 0, 1, 0, 0, 0, []), (30, .getfield 126, 3, 8, 16, 0, []), (33, .iconst (-1), 1, 0, 0, 0, []), (34, .if_icmp .eq 7, 3, 41, 0, 0, [])]
theorem kMod_would_28 : okb (mth nMod_would) 28 bMod_would_28 = true := by decide +kernel
def bMod_would_37 : List EN := [(37, .iconst 1, 1, 0, 0, 0, []), (38, .goto 34, 3, 72, 0, 0, [])]
theorem kMod_would_37 : okb (mth nMod_would) 37 bMod_would_37 = true := by decide +kernel
def bMod_would_41 : List EN := [(41, .aload_n 0, 1, 0, 0, 0, []), (42, .getfield 122, 3, 8, 15, 1, []), (45, .ifCond .eq 7, 3, 52, 0, 0, [])]
theorem kMod_would_41 : okb (mth nMod_would) 41 bMod_would_41 = true := by decide +kernel
def bMod_would_48 : List EN := [(48, .iconst 2, 1, 0, 0, 0, []), (49, .goto 23, 3, 72, 0, 0, [])]
theorem kMod_would_48 : okb (mth nMod_would) 48 bMod_would_48 = true := by decide +kernel
def bMod_would_52 : List EN := [(52, .aload_n 0, 1, 0, 0, 0, []), (53, .getfield 70, 3, 8, 11, 3, []), (56, .iconst 1, 1, 0, 0, 0, []), (57, .iaload, 1, 0, 0, 0, []), (58, .aload_n 0, 1, 0, 0, 0, []), (59, .getfield 73, 3, 8, 12, 3, []), (62, .iconst 1, 1, 0, 0, 0, []), (63, .iaload, 1, 0, 0, 0, []), (64, .if_icmp .le 7, 3, 71, 0, 0, [])]
theorem kMod_would_52 : okb (mth nMod_would) 52 bMod_would_52 = true := by decide +kernel
def bMod_would_67 : List EN := [(67, .iconst 3, 1, 0, 0, 0, []), (68, .goto 4, 3, 72, 0, 0, [])]
theorem kMod_would_67 : okb (mth nMod_would) 67 bMod_would_67 = true := by decide +kernel
def bMod_would_71 : List EN := [(71, .iconst 0, 1, 0, 0, 0, [])]
theorem kMod_would_71 : okb (mth nMod_would) 71 bMod_would_71 = true := by decide +kernel
def bMod_would_72 : List EN := [(72, .istore 4, 2, 0, 0, 0, []), (74, .aload_n 0, 1, 0, 0, 0, []), (75, .invokevirtual 255, 3, nMod_back, 1, 9, [])]
theorem kMod_would_72 : okb (mth nMod_would) 72 bMod_would_72 = true := by decide +kernel
def bMod_would_78 : List EN := [(78, .iload 4, 2, 0, 0, 0, []), (80, .ireturn, 1, 0, 0, 0, [])]
theorem kMod_would_78 : okb (mth nMod_would) 78 bMod_would_78 = true := by decide +kernel
def bMod_soon_0 : List EN := [(0, .aload_n 0, 1, 0, 0, 0, []), (1, .iconst 0, 1, 0, 0, 0, []), (2, .putfield 1, 3, 8, 0, 0, []), (5, .aload_n 0, 1, 0, 0, 0, []), (6, .iload_n 1, 1, 0, 0, 0, []), (7, .invokevirtual 161, 3, nMod_isMember, 2, 9, [11]), (10, .ifCond .ne 5, 3, 15, 0, 0, [])]
theorem kMod_soon_0 : okb (mth nMod_soon) 0 bMod_soon_0 = true := by decide +kernel
def bMod_soon_13 : List EN := [(13, .iconst (-1), 1, 0, 0, 0, []), (14, .ireturn, 1, 0, 0, 0, [])]
theorem kMod_soon_13 : okb (mth nMod_soon) 13 bMod_soon_13 = true := by decide +kernel
def bMod_soon_15 : List EN := [(15, .aload_n 0, 1, 0, 0, 0, []), (16, .invokevirtual 276, 3, nMod_keeps, 1, 9, [])]
theorem kMod_soon_15 : okb (mth nMod_soon) 15 bMod_soon_15 = true := by decide +kernel
def bMod_soon_19 : List EN := [(19, .iconst 0, 1, 0, 0, 0, []), (20, .istore_n 2, 1, 0, 0, 0, [])]
theorem kMod_soon_19 : okb (mth nMod_soon) 19 bMod_soon_19 = true := by decide +kernel
def bMod_soon_21 : List EN := [(21, .aload_n 0, 1, 0, 0, 0, []), (22, .iload_n 1, 1, 0, 0, 0, []), (23, .iconst 3, 1, 0, 0, 0, []), (24, .invokevirtual 93, 3, nMod_its, 3, 9, [10]), (27, .ifCond .ne 23, 3, 50, 0, 0, [])]
theorem kMod_soon_21 : okb (mth nMod_soon) 21 bMod_soon_21 = true := by decide +kernel
def bMod_soon_30 : List EN := [(30, .iload_n 2, 1, 0, 0, 0, []), (31, .sipush 200, 3, 0, 0, 0, []), (34, .if_icmp .ge 16, 3, 50, 0, 0, [])]
theorem kMod_soon_30 : okb (mth nMod_soon) 30 bMod_soon_30 = true := by decide +kernel
def bMod_soon_37 : List EN := [(37, .aload_n 0, 1, 0, 0, 0, []), (38, .invokevirtual 179, 3, nMod_settlesOnce, 1, 9, [])]
theorem kMod_soon_37 : okb (mth nMod_soon) 37 bMod_soon_37 = true := by decide +kernel
def bMod_soon_41 : List EN := [(41, .ifCond .eq 9, 3, 50, 0, 0, [])]
theorem kMod_soon_41 : okb (mth nMod_soon) 41 bMod_soon_41 = true := by decide +kernel
def bMod_soon_44 : List EN := [(44, .iinc 2 1, 3, 0, 0, 0, []), (47, .goto (-26), 3, 21, 0, 0, [])]
theorem kMod_soon_44 : okb (mth nMod_soon) 44 bMod_soon_44 = true := by decide +kernel
def bMod_soon_50 : List EN := [(50, .aload_n 0, 1, 0, 0, 0, []), (51, .iload_n 1, 1, 0, 0, 0, []), (52, .iconst 3, 1, 0, 0, 0, []), (53, .invokevirtual 93, 3, nMod_its, 3, 9, [10]), (56, .iconst 1, 1, 0, 0, 0, []), (57, .if_icmp .ne 7, 3, 64, 0, 0, [])]
theorem kMod_soon_50 : okb (mth nMod_soon) 50 bMod_soon_50 = true := by decide +kernel
def bMod_soon_60 : List EN := [(60, .iload_n 2, 1, 0, 0, 0, []), (61, .goto 5, 3, 66, 0, 0, [])]
theorem kMod_soon_60 : okb (mth nMod_soon) 60 bMod_soon_60 = true := by decide +kernel
def bMod_soon_64 : List EN := [(64, .bipush (-2), 2, 0, 0, 0, [])]
theorem kMod_soon_64 : okb (mth nMod_soon) 64 bMod_soon_64 = true := by decide +kernel
def bMod_soon_66 : List EN := [(66, .istore_n 3, 1, 0, 0, 0, []), (67, .aload_n 0, 1, 0, 0, 0, []), (68, .invokevirtual 255, 3, nMod_back, 1, 9, [])]
theorem kMod_soon_66 : okb (mth nMod_soon) 66 bMod_soon_66 = true := by decide +kernel
def bMod_soon_71 : List EN := [(71, .iload_n 3, 1, 0, 0, 0, []), (72, .ireturn, 1, 0, 0, 0, [])]
theorem kMod_soon_71 : okb (mth nMod_soon) 71 bMod_soon_71 = true := by decide +kernel
def bMod_order_0 : List EN := [(0, .aload_n 0, 1, 0, 0, 0, []), (1, .iconst 0, 1, 0, 0, 0, []), (2, .putfield 1, 3, 8, 0, 0, []), (5, .iload_n 1, 1, 0, 0, 0, []), (6, .iconst 0, 1, 0, 0, 0, []), (7, .bipush 19, 2, 0, 0, 0, []), (9, .invokestatic 89, 3, nMod_isIn, 3, 0, [0]), (12, .ifCond .ne 5, 3, 17, 0, 0, [])]
theorem kMod_order_0 : okb (mth nMod_order) 0 bMod_order_0 = true := by decide +kernel
def bMod_order_15 : List EN := [(15, .iconst (-1), 1, 0, 0, 0, []), (16, .ireturn, 1, 0, 0, 0, [])]
theorem kMod_order_15 : okb (mth nMod_order) 15 bMod_order_15 = true := by decide +kernel
def bMod_order_17 : List EN := [(17, .aload_n 0, 1, 0, 0, 0, []), (18, .invokevirtual 276, 3, nMod_keeps, 1, 9, [])]
theorem kMod_order_17 : okb (mth nMod_order) 17 bMod_order_17 = true := by decide +kernel
def bMod_order_21 : List EN := [(21, .iload_n 1, 1, 0, 0, 0, []), (22, .istore_n 2, 1, 0, 0, 0, []), (23, .iconst (-1), 1, 0, 0, 0, []), (24, .istore_n 3, 1, 0, 0, 0, []), (25, .iconst 0, 1, 0, 0, 0, []), (26, .istore 4, 2, 0, 0, 0, [])]
theorem kMod_order_21 : okb (mth nMod_order) 21 bMod_order_21 = true := by decide +kernel
def bMod_order_28 : List EN := [(28, .iload 4, 2, 0, 0, 0, []), (30, .sipush 200, 3, 0, 0, 0, []), (33, .if_icmp .ge 44, 3, 77, 0, 0, [])]
theorem kMod_order_28 : okb (mth nMod_order) 28 bMod_order_28 = true := by decide +kernel
def bMod_order_36 : List EN := [(36, .iload_n 3, 1, 0, 0, 0, []), (37, .iconst (-1), 1, 0, 0, 0, []), (38, .if_icmp .ne 39, 3, 77, 0, 0, [])]
theorem kMod_order_36 : okb (mth nMod_order) 36 bMod_order_36 = true := by decide +kernel
def bMod_order_41 : List EN := [(41, .aload_n 0, 1, 0, 0, 0, []), (42, .invokevirtual 179, 3, nMod_settlesOnce, 1, 9, [])]
theorem kMod_order_41 : okb (mth nMod_order) 41 bMod_order_41 = true := by decide +kernel
def bMod_order_45 : List EN := [(45, .ifCond .eq 32, 3, 77, 0, 0, [])]
theorem kMod_order_45 : okb (mth nMod_order) 45 bMod_order_45 = true := by decide +kernel
def bMod_order_48 : List EN := [(48, .aload_n 0, 1, 0, 0, 0, []), (49, .getfield 126, 3, 8, 16, 0, []), (52, .iconst (-1), 1, 0, 0, 0, []), (53, .if_icmp .ne 6, 3, 59, 0, 0, [])]
theorem kMod_order_48 : okb (mth nMod_order) 48 bMod_order_48 = true := by decide +kernel
def bMod_order_56 : List EN := [(56, .goto 15, 3, 71, 0, 0, [])]
theorem kMod_order_56 : okb (mth nMod_order) 56 bMod_order_56 = true := by decide +kernel
def bMod_order_59 : List EN := [(59, .iload_n 2, 1, 0, 0, 0, []), (60, .ifCond .ne 8, 3, 68, 0, 0, [])]
theorem kMod_order_59 : okb (mth nMod_order) 59 bMod_order_59 = true := by decide +kernel
def bMod_order_63 : List EN := [(63, .aload_n 0, 1, 0, 0, 0, []), (64, .getfield 126, 3, 8, 16, 0, []), (67, .istore_n 3, 1, 0, 0, 0, [])]
theorem kMod_order_63 : okb (mth nMod_order) 63 bMod_order_63 = true := by decide +kernel
def bMod_order_68 : List EN := [(68, .iinc 2 (-1), 3, 0, 0, 0, [])]
theorem kMod_order_68 : okb (mth nMod_order) 68 bMod_order_68 = true := by decide +kernel
def bMod_order_71 : List EN := [(71, .iinc 4 1, 3, 0, 0, 0, []), (74, .goto (-46), 3, 28, 0, 0, [])]
theorem kMod_order_71 : okb (mth nMod_order) 71 bMod_order_71 = true := by decide +kernel
def bMod_order_77 : List EN := [(77, .aload_n 0, 1, 0, 0, 0, []), (78, .invokevirtual 255, 3, nMod_back, 1, 9, [])]
theorem kMod_order_77 : okb (mth nMod_order) 77 bMod_order_77 = true := by decide +kernel
def bMod_order_81 : List EN := [(81, .iload_n 3, 1, 0, 0, 0, []), (82, .ireturn, 1, 0, 0, 0, [])]
theorem kMod_order_81 : okb (mth nMod_order) 81 bMod_order_81 = true := by decide +kernel
def bMod_snap_0 : List EN := [(0, .aload_n 0, 1, 0, 0, 0, []), (1, .getfield 258, 3, 8, 14, 0, []), (4, .bipush 10, 2, 0, 0, 0, []), (6, .if_icmp .ne 44, 3, 50, 0, 0, [])]
theorem kMod_snap_0 : okb (mth nMod_snap) 0 bMod_snap_0 = true := by decide +kernel
def bMod_snap_9 : List EN := [(9, .iconst 0, 1, 0, 0, 0, []), (10, .istore_n 1, 1, 0, 0, 0, [])]
theorem kMod_snap_9 : okb (mth nMod_snap) 9 bMod_snap_9 = true := by decide +kernel
def bMod_snap_11 : List EN := [(11, .iload_n 1, 1, 0, 0, 0, []), (12, .sipush 20034, 3, 0, 0, 0, []), (15, .if_icmp .ge 25, 3, 40, 0, 0, [])]
theorem kMod_snap_11 : okb (mth nMod_snap) 11 bMod_snap_11 = true := by decide +kernel
def bMod_snap_18 : List EN := [(18, .aload_n 0, 1, 0, 0, 0, []), (19, .getfield 76, 3, 8, 13, 3, []), (22, .iload_n 1, 1, 0, 0, 0, []), (23, .aload_n 0, 1, 0, 0, 0, []), (24, .getfield 76, 3, 8, 13, 3, []), (27, .iload_n 1, 1, 0, 0, 0, []), (28, .sipush 2226, 3, 0, 0, 0, []), (31, .iadd, 1, 0, 0, 0, []), (32, .iaload, 1, 0, 0, 0, []), (33, .iastore, 1, 0, 0, 0, []), (34, .iinc 1 1, 3, 0, 0, 0, []), (37, .goto (-26), 3, 11, 0, 0, [])]
theorem kMod_snap_18 : okb (mth nMod_snap) 18 bMod_snap_18 = true := by decide +kernel
def bMod_snap_40 : List EN := [(40, .aload_n 0, 1, 0, 0, 0, []), (41, .dup, 1, 0, 0, 0, []), (42, .getfield 258, 3, 8, 14, 0, []), (45, .iconst 1, 1, 0, 0, 0, []), (46, .isub, 1, 0, 0, 0, []), (47, .putfield 258, 3, 8, 14, 0, [])]
theorem kMod_snap_40 : okb (mth nMod_snap) 40 bMod_snap_40 = true := by decide +kernel
def bMod_snap_50 : List EN := [(50, .iconst 0, 1, 0, 0, 0, []), (51, .istore_n 1, 1, 0, 0, 0, [])]
theorem kMod_snap_50 : okb (mth nMod_snap) 50 bMod_snap_50 = true := by decide +kernel
def bMod_snap_52 : List EN := [(52, .iload_n 1, 1, 0, 0, 0, []), (53, .sipush 2226, 3, 0, 0, 0, []), (56, .if_icmp .ge 30, 3, 86, 0, 0, [])]
theorem kMod_snap_52 : okb (mth nMod_snap) 52 bMod_snap_52 = true := by decide +kernel
def bMod_snap_59 : List EN := [(59, .aload_n 0, 1, 0, 0, 0, []), (60, .getfield 76, 3, 8, 13, 3, []), (63, .sipush 2226, 3, 0, 0, 0, []), (66, .aload_n 0, 1, 0, 0, 0, []), (67, .getfield 258, 3, 8, 14, 0, []), (70, .imul, 1, 0, 0, 0, []), (71, .iload_n 1, 1, 0, 0, 0, []), (72, .iadd, 1, 0, 0, 0, []), (73, .aload_n 0, 1, 0, 0, 0, []), (74, .getfield 73, 3, 8, 12, 3, []), (77, .iload_n 1, 1, 0, 0, 0, []), (78, .iaload, 1, 0, 0, 0, []), (79, .iastore, 1, 0, 0, 0, []), (80, .iinc 1 1, 3, 0, 0, 0, []), (83, .goto (-31), 3, 52, 0, 0, [])]
theorem kMod_snap_59 : okb (mth nMod_snap) 59 bMod_snap_59 = true := by decide +kernel
def bMod_snap_86 : List EN := [(86, .aload_n 0, 1, 0, 0, 0, []), (87, .dup, 1, 0, 0, 0, []), (88, .getfield 258, 3, 8, 14, 0, []), (91, .iconst 1, 1, 0, 0, 0, []), (92, .iadd, 1, 0, 0, 0, []), (93, .putfield 258, 3, 8, 14, 0, []), (96, .return_, 1, 0, 0, 0, [])]
theorem kMod_snap_86 : okb (mth nMod_snap) 86 bMod_snap_86 = true := by decide +kernel
def bMod_byHand_0 : List EN := [(0, .aload_n 0, 1, 0, 0, 0, []), (1, .iconst 0, 1, 0, 0, 0, []), (2, .putfield 1, 3, 8, 0, 0, []), (5, .aload_n 0, 1, 0, 0, 0, []), (6, .invokevirtual 276, 3, nMod_keeps, 1, 9, [])]
theorem kMod_byHand_0 : okb (mth nMod_byHand) 0 bMod_byHand_0 = true := by decide +kernel
def bMod_byHand_9 : List EN := [(9, .aload_n 0, 1, 0, 0, 0, []), (10, .iload_n 1, 1, 0, 0, 0, []), (11, .iload_n 2, 1, 0, 0, 0, []), (12, .iload_n 3, 1, 0, 0, 0, []), (13, .invokevirtual 239, 3, nMod_does, 4, 9, [])]
theorem kMod_byHand_9 : okb (mth nMod_byHand) 9 bMod_byHand_9 = true := by decide +kernel
def bMod_byHand_16 : List EN := [(16, .istore 4, 2, 0, 0, 0, []), (18, .iload 4, 2, 0, 0, 0, []), (20, .ifCond .lt 7, 3, 27, 0, 0, [])]
theorem kMod_byHand_16 : okb (mth nMod_byHand) 16 bMod_byHand_16 = true := by decide +kernel
def bMod_byHand_23 : List EN := [(23, .aload_n 0, 1, 0, 0, 0, []), (24, .invokevirtual 279, 3, nMod_snap, 1, 9, [])]
theorem kMod_byHand_23 : okb (mth nMod_byHand) 23 bMod_byHand_23 = true := by decide +kernel
def bMod_byHand_27 : List EN := [(27, .iload 4, 2, 0, 0, 0, []), (29, .ireturn, 1, 0, 0, 0, [])]
theorem kMod_byHand_27 : okb (mth nMod_byHand) 27 bMod_byHand_27 = true := by decide +kernel
def bMod_ask_0 : List EN := [(0, .aload_n 0, 1, 0, 0, 0, []), (1, .iconst 0, 1, 0, 0, 0, []), (2, .iload_n 1, 1, 0, 0, 0, []), (3, .iconst 0, 1, 0, 0, 0, []), (4, .invokevirtual 282, 3, nMod_byHand, 4, 9, [])]
theorem kMod_ask_0 : okb (mth nMod_ask) 0 bMod_ask_0 = true := by decide +kernel
def bMod_ask_7 : List EN := [(7, .ireturn, 1, 0, 0, 0, [])]
theorem kMod_ask_7 : okb (mth nMod_ask) 7 bMod_ask_7 = true := by decide +kernel
def bMod_leave_0 : List EN := [(0, .aload_n 0, 1, 0, 0, 0, []), (1, .iconst 1, 1, 0, 0, 0, []), (2, .iload_n 1, 1, 0, 0, 0, []), (3, .iconst 0, 1, 0, 0, 0, []), (4, .invokevirtual 282, 3, nMod_byHand, 4, 9, [])]
theorem kMod_leave_0 : okb (mth nMod_leave) 0 bMod_leave_0 = true := by decide +kernel
def bMod_leave_7 : List EN := [(7, .ireturn, 1, 0, 0, 0, [])]
theorem kMod_leave_7 : okb (mth nMod_leave) 7 bMod_leave_7 = true := by decide +kernel
def bMod_suspect_0 : List EN := [(0, .aload_n 0, 1, 0, 0, 0, []), (1, .iconst 2, 1, 0, 0, 0, []), (2, .iload_n 1, 1, 0, 0, 0, []), (3, .iconst 0, 1, 0, 0, 0, []), (4, .invokevirtual 282, 3, nMod_byHand, 4, 9, [])]
theorem kMod_suspect_0 : okb (mth nMod_suspect) 0 bMod_suspect_0 = true := by decide +kernel
def bMod_suspect_7 : List EN := [(7, .ireturn, 1, 0, 0, 0, [])]
theorem kMod_suspect_7 : okb (mth nMod_suspect) 7 bMod_suspect_7 = true := by decide +kernel
def bMod_send_0 : List EN := [(0, .aload_n 0, 1, 0, 0, 0, []), (1, .iconst 3, 1, 0, 0, 0, []), (2, .iload_n 1, 1, 0, 0, 0, []), (3, .iload_n 2, 1, 0, 0, 0, []), (4, .invokevirtual 282, 3, nMod_byHand, 4, 9, [])]
theorem kMod_send_0 : okb (mth nMod_send) 0 bMod_send_0 = true := by decide +kernel
def bMod_send_7 : List EN := [(7, .ireturn, 1, 0, 0, 0, [])]
theorem kMod_send_7 : okb (mth nMod_send) 7 bMod_send_7 = true := by decide +kernel
def bMod_lose_0 : List EN := [(0, .aload_n 0, 1, 0, 0, 0, []), (1, .iconst 4, 1, 0, 0, 0, []), (2, .iload_n 1, 1, 0, 0, 0, []), (3, .iload_n 2, 1, 0, 0, 0, []), (4, .invokevirtual 282, 3, nMod_byHand, 4, 9, [])]
theorem kMod_lose_0 : okb (mth nMod_lose) 0 bMod_lose_0 = true := by decide +kernel
def bMod_lose_7 : List EN := [(7, .ireturn, 1, 0, 0, 0, [])]
theorem kMod_lose_7 : okb (mth nMod_lose) 7 bMod_lose_7 = true := by decide +kernel
def bMod_settle_0 : List EN := [(0, .aload_n 0, 1, 0, 0, 0, []), (1, .iconst 0, 1, 0, 0, 0, []), (2, .putfield 1, 3, 8, 0, 0, []), (5, .iload_n 1, 1, 0, 0, 0, []), (6, .iconst 1, 1, 0, 0, 0, []), (7, .bipush 99, 2, 0, 0, 0, []), (9, .invokestatic 89, 3, nMod_isIn, 3, 0, [0]), (12, .ifCond .eq 13, 3, 25, 0, 0, [])]
theorem kMod_settle_0 : okb (mth nMod_settle) 0 bMod_settle_0 = true := by decide +kernel
def bMod_settle_15 : List EN := [(15, .aload_n 0, 1, 0, 0, 0, []), (16, .iconst 5, 1, 0, 0, 0, []), (17, .iload_n 1, 1, 0, 0, 0, []), (18, .iconst 0, 1, 0, 0, 0, []), (19, .invokevirtual 282, 3, nMod_byHand, 4, 9, [])]
theorem kMod_settle_15 : okb (mth nMod_settle) 15 bMod_settle_15 = true := by decide +kernel
def bMod_settle_22 : List EN := [(22, .goto 4, 3, 26, 0, 0, [])]
theorem kMod_settle_22 : okb (mth nMod_settle) 22 bMod_settle_22 = true := by decide +kernel
def bMod_settle_25 : List EN := [(25, .iconst (-1), 1, 0, 0, 0, [])]
theorem kMod_settle_25 : okb (mth nMod_settle) 25 bMod_settle_25 = true := by decide +kernel
def bMod_settle_26 : List EN := [(26, .ireturn, 1, 0, 0, 0, [])]
theorem kMod_settle_26 : okb (mth nMod_settle) 26 bMod_settle_26 = true := by decide +kernel
def bMod_undo_0 : List EN := [(0, .aload_n 0, 1, 0, 0, 0, []), (1, .iconst 0, 1, 0, 0, 0, []), (2, .putfield 1, 3, 8, 0, 0, []), (5, .aload_n 0, 1, 0, 0, 0, []), (6, .getfield 258, 3, 8, 14, 0, []), (9, .ifCond .ne 5, 3, 14, 0, 0, [])]
theorem kMod_undo_0 : okb (mth nMod_undo) 0 bMod_undo_0 = true := by decide +kernel
def bMod_undo_12 : List EN := [(12, .iconst (-1), 1, 0, 0, 0, []), (13, .ireturn, 1, 0, 0, 0, [])]
theorem kMod_undo_12 : okb (mth nMod_undo) 12 bMod_undo_12 = true := by decide +kernel
def bMod_undo_14 : List EN := [(14, .aload_n 0, 1, 0, 0, 0, []), (15, .dup, 1, 0, 0, 0, []), (16, .getfield 258, 3, 8, 14, 0, []), (19, .iconst 1, 1, 0, 0, 0, []), (20, .isub, 1, 0, 0, 0, []), (21, .putfield 258, 3, 8, 14, 0, []), (24, .iconst 0, 1, 0, 0, 0, []), (25, .istore_n 1, 1, 0, 0, 0, [])]
theorem kMod_undo_14 : okb (mth nMod_undo) 14 bMod_undo_14 = true := by decide +kernel
def bMod_undo_26 : List EN := [(26, .iload_n 1, 1, 0, 0, 0, []), (27, .sipush 2226, 3, 0, 0, 0, []), (30, .if_icmp .ge 30, 3, 60, 0, 0, [])]
theorem kMod_undo_26 : okb (mth nMod_undo) 26 bMod_undo_26 = true := by decide +kernel
def bMod_undo_33 : List EN := [(33, .aload_n 0, 1, 0, 0, 0, []), (34, .getfield 70, 3, 8, 11, 3, []), (37, .iload_n 1, 1, 0, 0, 0, []), (38, .aload_n 0, 1, 0, 0, 0, []), (39, .getfield 76, 3, 8, 13, 3, []), (42, .sipush 2226, 3, 0, 0, 0, []), (45, .aload_n 0, 1, 0, 0, 0, []), (46, .getfield 258, 3, 8, 14, 0, []), (49, .imul, 1, 0, 0, 0, []), (50, .iload_n 1, 1, 0, 0, 0, []), (51, .iadd, 1, 0, 0, 0, []), (52, .iaload, 1, 0, 0, 0, []), (53, .iastore, 1, 0, 0, 0, []), (54, .iinc 1 1, 3, 0, 0, 0, []), (57, .goto (-31), 3, 26, 0, 0, [])]
theorem kMod_undo_33 : okb (mth nMod_undo) 33 bMod_undo_33 = true := by decide +kernel
def bMod_undo_60 : List EN := [(60, .aload_n 0, 1, 0, 0, 0, []), (61, .getfield 258, 3, 8, 14, 0, []), (64, .ireturn, 1, 0, 0, 0, [])]
theorem kMod_undo_60 : okb (mth nMod_undo) 60 bMod_undo_60 = true := by decide +kernel
