def bNet_init_0 : List EN := [(0, .aload_n 0, 1, 0, 0, 0, []), (1, .invokespecial 3, 3, 0, 1, -1, []), (4, .aload_n 0, 1, 0, 0, 0, []), (5, .bipush 6, 2, 0, 0, 0, []), (7, .anewarray 9, 3, 13, 0, 0, [291, 1775]), (10, .putfield 11, 3, 3, 0, 3, []), (13, .aload_n 0, 1, 0, 0, 0, []), (14, .bipush 46, 2, 0, 0, 0, []), (16, .anewarray 17, 3, 14, 0, 0, [291, 1775]), (19, .putfield 19, 3, 3, 1, 3, []), (22, .aload_n 0, 1, 0, 0, 0, []), (23, .new 17, 3, 2, 6, 0, [291, 1775]), (26, .dup, 1, 0, 0, 0, []), (27, .invokespecial 23, 3, nMess_init, 1, 3, [4, 23, 291, 1775])]
theorem kNet_init_0 : okb (mth nNet_init) 0 bNet_init_0 = true := by decide +kernel
def bNet_init_30 : List EN := [(30, .putfield 24, 3, 3, 2, 3, []), (33, .aload_n 0, 1, 0, 0, 0, []), (34, .iconst 2, 1, 0, 0, 0, []), (35, .putfield 28, 3, 3, 3, 0, []), (38, .aload_n 0, 1, 0, 0, 0, []), (39, .iconst 0, 1, 0, 0, 0, []), (40, .putfield 32, 3, 3, 4, 0, []), (43, .aload_n 0, 1, 0, 0, 0, []), (44, .iconst 0, 1, 0, 0, 0, []), (45, .putfield 35, 3, 3, 5, 0, []), (48, .aload_n 0, 1, 0, 0, 0, []), (49, .iconst 0, 1, 0, 0, 0, []), (50, .putfield 38, 3, 3, 6, 0, []), (53, .aload_n 0, 1, 0, 0, 0, []), (54, .iconst 0, 1, 0, 0, 0, []), (55, .putfield 41, 3, 3, 7, 0, []), (58, .aload_n 0, 1, 0, 0, 0, []), (59, .iconst 0, 1, 0, 0, 0, []), (60, .putfield 44, 3, 3, 8, 0, []), (63, .aload_n 0, 1, 0, 0, 0, []), (64, .iconst 0, 1, 0, 0, 0, []), (65, .putfield 47, 3, 3, 9, 0, []), (68, .aload_n 0, 1, 0, 0, 0, []), (69, .iconst (-1), 1, 0, 0, 0, []), (70, .putfield 50, 3, 3, 10, 0, []), (73, .iconst 0, 1, 0, 0, 0, []), (74, .istore_n 1, 1, 0, 0, 0, [])]
theorem kNet_init_30 : okb (mth nNet_init) 30 bNet_init_30 = true := by decide +kernel
def bNet_init_75 : List EN := [(75, .iload_n 1, 1, 0, 0, 0, []), (76, .bipush 6, 2, 0, 0, 0, []), (78, .if_icmp .ge 22, 3, 100, 0, 0, [])]
theorem kNet_init_75 : okb (mth nNet_init) 75 bNet_init_75 = true := by decide +kernel
def bNet_init_81 : List EN := [(81, .aload_n 0, 1, 0, 0, 0, []), (82, .getfield 11, 3, 3, 0, 3, []), (85, .iload_n 1, 1, 0, 0, 0, []), (86, .new 9, 3, 1, 13, 0, [291, 1775]), (89, .dup, 1, 0, 0, 0, []), (90, .invokespecial 53, 3, nMemb_init, 1, 2, [8, 47, 291, 1775])]
theorem kNet_init_81 : okb (mth nNet_init) 81 bNet_init_81 = true := by decide +kernel
def bNet_init_93 : List EN := [(93, .aastore, 1, 0, 0, 0, []), (94, .iinc 1 1, 3, 0, 0, 0, []), (97, .goto (-22), 3, 75, 0, 0, [])]
theorem kNet_init_93 : okb (mth nNet_init) 93 bNet_init_93 = true := by decide +kernel
def bNet_init_100 : List EN := [(100, .iconst 0, 1, 0, 0, 0, []), (101, .istore_n 1, 1, 0, 0, 0, [])]
theorem kNet_init_100 : okb (mth nNet_init) 100 bNet_init_100 = true := by decide +kernel
def bNet_init_102 : List EN := [(102, .iload_n 1, 1, 0, 0, 0, []), (103, .bipush 46, 2, 0, 0, 0, []), (105, .if_icmp .ge 22, 3, 127, 0, 0, [])]
theorem kNet_init_102 : okb (mth nNet_init) 102 bNet_init_102 = true := by decide +kernel
def bNet_init_108 : List EN := [(108, .aload_n 0, 1, 0, 0, 0, []), (109, .getfield 19, 3, 3, 1, 3, []), (112, .iload_n 1, 1, 0, 0, 0, []), (113, .new 17, 3, 2, 6, 0, [291, 1775]), (116, .dup, 1, 0, 0, 0, []), (117, .invokespecial 23, 3, nMess_init, 1, 3, [4, 23, 291, 1775])]
theorem kNet_init_108 : okb (mth nNet_init) 108 bNet_init_108 = true := by decide +kernel
def bNet_init_120 : List EN := [(120, .aastore, 1, 0, 0, 0, []), (121, .iinc 1 1, 3, 0, 0, 0, []), (124, .goto (-22), 3, 102, 0, 0, [])]
theorem kNet_init_120 : okb (mth nNet_init) 120 bNet_init_120 = true := by decide +kernel
def bNet_init_127 : List EN := [(127, .aload_n 0, 1, 0, 0, 0, []), (128, .getfield 11, 3, 3, 0, 3, []), (131, .iconst 0, 1, 0, 0, 0, []), (132, .aaload, 1, 0, 0, 0, []), (133, .iconst 1, 1, 0, 0, 0, []), (134, .putfield 54, 3, 1, 12, 1, []), (137, .aload_n 0, 1, 0, 0, 0, []), (138, .getfield 11, 3, 3, 0, 3, []), (141, .iconst 0, 1, 0, 0, 0, []), (142, .aaload, 1, 0, 0, 0, []), (143, .getfield 58, 3, 1, 4, 3, []), (146, .iconst 1, 1, 0, 0, 0, []), (147, .putfield 62, 3, 4, 3, 0, []), (150, .return_, 1, 0, 0, 0, [])]
theorem kNet_init_127 : okb (mth nNet_init) 127 bNet_init_127 = true := by decide +kernel
def bNet_begin_0 : List EN := [(0, .aload_n 0, 1, 0, 0, 0, []), (1, .iload_n 1, 1, 0, 0, 0, []), (2, .putfield 28, 3, 3, 3, 0, []), (5, .aload_n 0, 1, 0, 0, 0, []), (6, .iconst 0, 1, 0, 0, 0, []), (7, .putfield 32, 3, 3, 4, 0, []), (10, .aload_n 0, 1, 0, 0, 0, []), (11, .iconst 0, 1, 0, 0, 0, []), (12, .putfield 35, 3, 3, 5, 0, []), (15, .aload_n 0, 1, 0, 0, 0, []), (16, .iconst 0, 1, 0, 0, 0, []), (17, .putfield 38, 3, 3, 6, 0, []), (20, .aload_n 0, 1, 0, 0, 0, []), (21, .iconst 0, 1, 0, 0, 0, []), (22, .putfield 41, 3, 3, 7, 0, []), (25, .aload_n 0, 1, 0, 0, 0, []), (26, .iconst 0, 1, 0, 0, 0, []), (27, .putfield 44, 3, 3, 8, 0, []), (30, .aload_n 0, 1, 0, 0, 0, []), (31, .iconst 0, 1, 0, 0, 0, []), (32, .putfield 47, 3, 3, 9, 0, []), (35, .aload_n 0, 1, 0, 0, 0, []), (36, .iconst (-1), 1, 0, 0, 0, []), (37, .putfield 50, 3, 3, 10, 0, []), (40, .iconst 0, 1, 0, 0, 0, []), (41, .istore_n 3, 1, 0, 0, 0, [])]
theorem kNet_begin_0 : okb (mth nNet_begin) 0 bNet_begin_0 = true := by decide +kernel
def bNet_begin_42 : List EN := [(42, .iload_n 3, 1, 0, 0, 0, []), (43, .bipush 6, 2, 0, 0, 0, []), (45, .if_icmp .ge 19, 3, 64, 0, 0, [])]
theorem kNet_begin_42 : okb (mth nNet_begin) 42 bNet_begin_42 = true := by decide +kernel
def bNet_begin_48 : List EN := [(48, .aload_n 0, 1, 0, 0, 0, []), (49, .getfield 11, 3, 3, 0, 3, []), (52, .iload_n 3, 1, 0, 0, 0, []), (53, .aaload, 1, 0, 0, 0, []), (54, .aload_n 2, 1, 0, 0, 0, []), (55, .invokevirtual 67, 3, nMemb_begin, 2, 2, [])]
theorem kNet_begin_48 : okb (mth nNet_begin) 48 bNet_begin_48 = true := by decide +kernel
def bNet_begin_58 : List EN := [(58, .iinc 3 1, 3, 0, 0, 0, []), (61, .goto (-19), 3, 42, 0, 0, [])]
theorem kNet_begin_58 : okb (mth nNet_begin) 58 bNet_begin_58 = true := by decide +kernel
def bNet_begin_64 : List EN := [(64, .aload_n 0, 1, 0, 0, 0, []), (65, .getfield 11, 3, 3, 0, 3, []), (68, .iconst 0, 1, 0, 0, 0, []), (69, .aaload, 1, 0, 0, 0, []), (70, .iconst 1, 1, 0, 0, 0, []), (71, .putfield 54, 3, 1, 12, 1, []), (74, .aload_n 0, 1, 0, 0, 0, []), (75, .getfield 11, 3, 3, 0, 3, []), (78, .iconst 0, 1, 0, 0, 0, []), (79, .aaload, 1, 0, 0, 0, []), (80, .getfield 58, 3, 1, 4, 3, []), (83, .iconst 1, 1, 0, 0, 0, []), (84, .invokevirtual 71, 3, nPass_begin, 2, 5, [])]
theorem kNet_begin_64 : okb (mth nNet_begin) 64 bNet_begin_64 = true := by decide +kernel
def bNet_begin_87 : List EN := [(87, .return_, 1, 0, 0, 0, [])]
theorem kNet_begin_87 : okb (mth nNet_begin) 87 bNet_begin_87 = true := by decide +kernel
def bNet_copyFrom_0 : List EN := [(0, .aload_n 0, 1, 0, 0, 0, []), (1, .aload_n 1, 1, 0, 0, 0, []), (2, .getfield 28, 3, 3, 3, 0, []), (5, .putfield 28, 3, 3, 3, 0, []), (8, .aload_n 0, 1, 0, 0, 0, []), (9, .aload_n 1, 1, 0, 0, 0, []), (10, .getfield 32, 3, 3, 4, 0, []), (13, .putfield 32, 3, 3, 4, 0, []), (16, .aload_n 0, 1, 0, 0, 0, []), (17, .aload_n 1, 1, 0, 0, 0, []), (18, .getfield 35, 3, 3, 5, 0, []), (21, .putfield 35, 3, 3, 5, 0, []), (24, .aload_n 0, 1, 0, 0, 0, []), (25, .aload_n 1, 1, 0, 0, 0, []), (26, .getfield 38, 3, 3, 6, 0, []), (29, .putfield 38, 3, 3, 6, 0, []), (32, .aload_n 0, 1, 0, 0, 0, []), (33, .aload_n 1, 1, 0, 0, 0, []), (34, .getfield 41, 3, 3, 7, 0, []), (37, .putfield 41, 3, 3, 7, 0, []), (40, .aload_n 0, 1, 0, 0, 0, []), (41, .aload_n 1, 1, 0, 0, 0, []), (42, .getfield 44, 3, 3, 8, 0, []), (45, .putfield 44, 3, 3, 8, 0, []), (48, .aload_n 0, 1, 0, 0, 0, []), (49, .aload_n 1, 1, 0, 0, 0, []), (50, .getfield 47, 3, 3, 9, 0, []), (53, .putfield 47, 3, 3, 9, 0, []), (56, .aload_n 0, 1, 0, 0, 0, []), (57, .aload_n 1, 1, 0, 0, 0, []), (58, .getfield 50, 3, 3, 10, 0, []), (61, .putfield 50, 3, 3, 10, 0, []), (64, .iconst 0, 1, 0, 0, 0, []), (65, .istore_n 2, 1, 0, 0, 0, [])]
theorem kNet_copyFrom_0 : okb (mth nNet_copyFrom) 0 bNet_copyFrom_0 = true := by decide +kernel
def bNet_copyFrom_66 : List EN := [(66, .iload_n 2, 1, 0, 0, 0, []), (67, .bipush 6, 2, 0, 0, 0, []), (69, .if_icmp .ge 24, 3, 93, 0, 0, [])]
theorem kNet_copyFrom_66 : okb (mth nNet_copyFrom) 66 bNet_copyFrom_66 = true := by decide +kernel
def bNet_copyFrom_72 : List EN := [(72, .aload_n 0, 1, 0, 0, 0, []), (73, .getfield 11, 3, 3, 0, 3, []), (76, .iload_n 2, 1, 0, 0, 0, []), (77, .aaload, 1, 0, 0, 0, []), (78, .aload_n 1, 1, 0, 0, 0, []), (79, .getfield 11, 3, 3, 0, 3, []), (82, .iload_n 2, 1, 0, 0, 0, []), (83, .aaload, 1, 0, 0, 0, []), (84, .invokevirtual 74, 3, nMemb_copyFrom, 2, 2, [])]
theorem kNet_copyFrom_72 : okb (mth nNet_copyFrom) 72 bNet_copyFrom_72 = true := by decide +kernel
def bNet_copyFrom_87 : List EN := [(87, .iinc 2 1, 3, 0, 0, 0, []), (90, .goto (-24), 3, 66, 0, 0, [])]
theorem kNet_copyFrom_87 : okb (mth nNet_copyFrom) 87 bNet_copyFrom_87 = true := by decide +kernel
def bNet_copyFrom_93 : List EN := [(93, .iconst 0, 1, 0, 0, 0, []), (94, .istore_n 2, 1, 0, 0, 0, [])]
theorem kNet_copyFrom_93 : okb (mth nNet_copyFrom) 93 bNet_copyFrom_93 = true := by decide +kernel
def bNet_copyFrom_95 : List EN := [(95, .iload_n 2, 1, 0, 0, 0, []), (96, .aload_n 0, 1, 0, 0, 0, []), (97, .getfield 32, 3, 3, 4, 0, []), (100, .if_icmp .ge 30, 3, 130, 0, 0, [])]
theorem kNet_copyFrom_95 : okb (mth nNet_copyFrom) 95 bNet_copyFrom_95 = true := by decide +kernel
def bNet_copyFrom_103 : List EN := [(103, .iload_n 2, 1, 0, 0, 0, []), (104, .bipush 46, 2, 0, 0, 0, []), (106, .if_icmp .ge 24, 3, 130, 0, 0, [])]
theorem kNet_copyFrom_103 : okb (mth nNet_copyFrom) 103 bNet_copyFrom_103 = true := by decide +kernel
def bNet_copyFrom_109 : List EN := [(109, .aload_n 0, 1, 0, 0, 0, []), (110, .getfield 19, 3, 3, 1, 3, []), (113, .iload_n 2, 1, 0, 0, 0, []), (114, .aaload, 1, 0, 0, 0, []), (115, .aload_n 1, 1, 0, 0, 0, []), (116, .getfield 19, 3, 3, 1, 3, []), (119, .iload_n 2, 1, 0, 0, 0, []), (120, .aaload, 1, 0, 0, 0, []), (121, .invokevirtual 78, 3, nMess_copyFrom, 2, 3, [])]
theorem kNet_copyFrom_109 : okb (mth nNet_copyFrom) 109 bNet_copyFrom_109 = true := by decide +kernel
def bNet_copyFrom_124 : List EN := [(124, .iinc 2 1, 3, 0, 0, 0, []), (127, .goto (-32), 3, 95, 0, 0, [])]
theorem kNet_copyFrom_124 : okb (mth nNet_copyFrom) 124 bNet_copyFrom_124 = true := by decide +kernel
def bNet_copyFrom_130 : List EN := [(130, .return_, 1, 0, 0, 0, [])]
theorem kNet_copyFrom_130 : okb (mth nNet_copyFrom) 130 bNet_copyFrom_130 = true := by decide +kernel
def bNet_isMember_0 : List EN := [(0, .iload_n 1, 1, 0, 0, 0, []), (1, .ifCond .lt 15, 3, 16, 0, 0, [])]
theorem kNet_isMember_0 : okb (mth nNet_isMember) 0 bNet_isMember_0 = true := by decide +kernel
def bNet_isMember_4 : List EN := [(4, .iload_n 1, 1, 0, 0, 0, []), (5, .aload_n 0, 1, 0, 0, 0, []), (6, .getfield 28, 3, 3, 3, 0, []), (9, .if_icmp .ge 7, 3, 16, 0, 0, [])]
theorem kNet_isMember_4 : okb (mth nNet_isMember) 4 bNet_isMember_4 = true := by decide +kernel
def bNet_isMember_12 : List EN := [(12, .iconst 1, 1, 0, 0, 0, []), (13, .goto 4, 3, 17, 0, 0, [])]
theorem kNet_isMember_12 : okb (mth nNet_isMember) 12 bNet_isMember_12 = true := by decide +kernel
def bNet_isMember_16 : List EN := [(16, .iconst 0, 1, 0, 0, 0, [])]
theorem kNet_isMember_16 : okb (mth nNet_isMember) 16 bNet_isMember_16 = true := by decide +kernel
def bNet_isMember_17 : List EN := [(17, .ireturn, 1, 0, 0, 1, [])]
theorem kNet_isMember_17 : okb (mth nNet_isMember) 17 bNet_isMember_17 = true := by decide +kernel
def bNet_bitsOf_0 : List EN := [(0, .iconst 0, 1, 0, 0, 0, []), (1, .istore_n 2, 1, 0, 0, 0, []), (2, .iconst 0, 1, 0, 0, 0, []), (3, .istore_n 3, 1, 0, 0, 0, [])]
theorem kNet_bitsOf_0 : okb (mth nNet_bitsOf) 0 bNet_bitsOf_0 = true := by decide +kernel
def bNet_bitsOf_4 : List EN := [(4, .iload_n 3, 1, 0, 0, 0, []), (5, .aload_n 0, 1, 0, 0, 0, []), (6, .getfield 28, 3, 3, 3, 0, []), (9, .if_icmp .ge 28, 3, 37, 0, 0, [])]
theorem kNet_bitsOf_4 : okb (mth nNet_bitsOf) 4 bNet_bitsOf_4 = true := by decide +kernel
def bNet_bitsOf_12 : List EN := [(12, .iload_n 2, 1, 0, 0, 0, []), (13, .aload_n 0, 1, 0, 0, 0, []), (14, .iload_n 3, 1, 0, 0, 0, []), (15, .iload_n 1, 1, 0, 0, 0, []), (16, .invokevirtual 81, 3, nNet_ofMember, 3, 4, [])]
theorem kNet_bitsOf_12 : okb (mth nNet_bitsOf) 12 bNet_bitsOf_12 = true := by decide +kernel
def bNet_bitsOf_19 : List EN := [(19, .ifCond .ne 7, 3, 26, 0, 0, [])]
theorem kNet_bitsOf_19 : okb (mth nNet_bitsOf) 19 bNet_bitsOf_19 = true := by decide +kernel
def bNet_bitsOf_22 : List EN := [(22, .iconst 0, 1, 0, 0, 0, []), (23, .goto 6, 3, 29, 0, 0, [])]
theorem kNet_bitsOf_22 : okb (mth nNet_bitsOf) 22 bNet_bitsOf_22 = true := by decide +kernel
def bNet_bitsOf_26 : List EN := [(26, .iconst 1, 1, 0, 0, 0, []), (27, .iload_n 3, 1, 0, 0, 0, []), (28, .ishl, 1, 0, 0, 0, [])]
theorem kNet_bitsOf_26 : okb (mth nNet_bitsOf) 26 bNet_bitsOf_26 = true := by decide +kernel
def bNet_bitsOf_29 : List EN := [(29, .ior, 1, 0, 0, 0, []), (30, .istore_n 2, 1, 0, 0, 0, []), (31, .iinc 3 1, 3, 0, 0, 0, []), (34, .goto (-30), 3, 4, 0, 0, [])]
theorem kNet_bitsOf_29 : okb (mth nNet_bitsOf) 29 bNet_bitsOf_29 = true := by decide +kernel
def bNet_bitsOf_37 : List EN := [(37, .iload_n 2, 1, 0, 0, 0, []), (38, .ireturn, 1, 0, 0, 0, [])]
theorem kNet_bitsOf_37 : okb (mth nNet_bitsOf) 37 bNet_bitsOf_37 = true := by decide +kernel
def bNet_greatestMark_0 : List EN := [(0, .iconst 0, 1, 0, 0, 0, []), (1, .istore_n 1, 1, 0, 0, 0, []), (2, .iconst 0, 1, 0, 0, 0, []), (3, .istore_n 2, 1, 0, 0, 0, [])]
theorem kNet_greatestMark_0 : okb (mth nNet_greatestMark) 0 bNet_greatestMark_0 = true := by decide +kernel
def bNet_greatestMark_4 : List EN := [(4, .iload_n 2, 1, 0, 0, 0, []), (5, .aload_n 0, 1, 0, 0, 0, []), (6, .getfield 28, 3, 3, 3, 0, []), (9, .if_icmp .ge 52, 3, 61, 0, 0, [])]
theorem kNet_greatestMark_4 : okb (mth nNet_greatestMark) 4 bNet_greatestMark_4 = true := by decide +kernel
def bNet_greatestMark_12 : List EN := [(12, .iload_n 1, 1, 0, 0, 0, []), (13, .aload_n 0, 1, 0, 0, 0, []), (14, .getfield 11, 3, 3, 0, 3, []), (17, .iload_n 2, 1, 0, 0, 0, []), (18, .aaload, 1, 0, 0, 0, []), (19, .getfield 85, 3, 1, 7, 0, []), (22, .invokestatic 88, 3, nMath_max, 2, 0, [20]), (25, .istore_n 1, 1, 0, 0, 0, []), (26, .aload_n 0, 1, 0, 0, 0, []), (27, .getfield 11, 3, 3, 0, 3, []), (30, .iload_n 2, 1, 0, 0, 0, []), (31, .aaload, 1, 0, 0, 0, []), (32, .getfield 54, 3, 1, 12, 1, []), (35, .ifCond .eq 20, 3, 55, 0, 0, [])]
theorem kNet_greatestMark_12 : okb (mth nNet_greatestMark) 12 bNet_greatestMark_12 = true := by decide +kernel
def bNet_greatestMark_38 : List EN := [(38, .iload_n 1, 1, 0, 0, 0, []), (39, .aload_n 0, 1, 0, 0, 0, []), (40, .getfield 11, 3, 3, 0, 3, []), (43, .iload_n 2, 1, 0, 0, 0, []), (44, .aaload, 1, 0, 0, 0, []), (45, .getfield 58, 3, 1, 4, 3, []), (48, .getfield 62, 3, 4, 3, 0, []), (51, .invokestatic 88, 3, nMath_max, 2, 0, [20]), (54, .istore_n 1, 1, 0, 0, 0, [])]
theorem kNet_greatestMark_38 : okb (mth nNet_greatestMark) 38 bNet_greatestMark_38 = true := by decide +kernel
def bNet_greatestMark_55 : List EN := [(55, .iinc 2 1, 3, 0, 0, 0, []), (58, .goto (-54), 3, 4, 0, 0, [])]
theorem kNet_greatestMark_55 : okb (mth nNet_greatestMark) 55 bNet_greatestMark_55 = true := by decide +kernel
def bNet_greatestMark_61 : List EN := [(61, .iconst 0, 1, 0, 0, 0, []), (62, .istore_n 2, 1, 0, 0, 0, [])]
theorem kNet_greatestMark_61 : okb (mth nNet_greatestMark) 61 bNet_greatestMark_61 = true := by decide +kernel
def bNet_greatestMark_63 : List EN := [(63, .iload_n 2, 1, 0, 0, 0, []), (64, .aload_n 0, 1, 0, 0, 0, []), (65, .getfield 32, 3, 3, 4, 0, []), (68, .if_icmp .ge 39, 3, 107, 0, 0, [])]
theorem kNet_greatestMark_63 : okb (mth nNet_greatestMark) 63 bNet_greatestMark_63 = true := by decide +kernel
def bNet_greatestMark_71 : List EN := [(71, .aload_n 0, 1, 0, 0, 0, []), (72, .getfield 19, 3, 3, 1, 3, []), (75, .iload_n 2, 1, 0, 0, 0, []), (76, .aaload, 1, 0, 0, 0, []), (77, .getfield 93, 3, 2, 3, 0, []), (80, .iconst 1, 1, 0, 0, 0, []), (81, .if_icmp .ne 20, 3, 101, 0, 0, [])]
theorem kNet_greatestMark_71 : okb (mth nNet_greatestMark) 71 bNet_greatestMark_71 = true := by decide +kernel
def bNet_greatestMark_84 : List EN := [(84, .iload_n 1, 1, 0, 0, 0, []), (85, .aload_n 0, 1, 0, 0, 0, []), (86, .getfield 19, 3, 3, 1, 3, []), (89, .iload_n 2, 1, 0, 0, 0, []), (90, .aaload, 1, 0, 0, 0, []), (91, .getfield 96, 3, 2, 0, 3, []), (94, .getfield 62, 3, 4, 3, 0, []), (97, .invokestatic 88, 3, nMath_max, 2, 0, [20]), (100, .istore_n 1, 1, 0, 0, 0, [])]
theorem kNet_greatestMark_84 : okb (mth nNet_greatestMark) 84 bNet_greatestMark_84 = true := by decide +kernel
def bNet_greatestMark_101 : List EN := [(101, .iinc 2 1, 3, 0, 0, 0, []), (104, .goto (-41), 3, 63, 0, 0, [])]
theorem kNet_greatestMark_101 : okb (mth nNet_greatestMark) 101 bNet_greatestMark_101 = true := by decide +kernel
def bNet_greatestMark_107 : List EN := [(107, .iload_n 1, 1, 0, 0, 0, []), (108, .ireturn, 1, 0, 0, 0, [])]
theorem kNet_greatestMark_107 : okb (mth nNet_greatestMark) 107 bNet_greatestMark_107 = true := by decide +kernel
def bNet_passesFrom_0 : List EN := [(0, .iconst 0, 1, 0, 0, 0, []), (1, .istore_n 2, 1, 0, 0, 0, []), (2, .iconst 0, 1, 0, 0, 0, []), (3, .istore_n 3, 1, 0, 0, 0, [])]
theorem kNet_passesFrom_0 : okb (mth nNet_passesFrom) 0 bNet_passesFrom_0 = true := by decide +kernel
def bNet_passesFrom_4 : List EN := [(4, .iload_n 3, 1, 0, 0, 0, []), (5, .aload_n 0, 1, 0, 0, 0, []), (6, .getfield 28, 3, 3, 3, 0, []), (9, .if_icmp .ge 40, 3, 49, 0, 0, [])]
theorem kNet_passesFrom_4 : okb (mth nNet_passesFrom) 4 bNet_passesFrom_4 = true := by decide +kernel
def bNet_passesFrom_12 : List EN := [(12, .aload_n 0, 1, 0, 0, 0, []), (13, .getfield 11, 3, 3, 0, 3, []), (16, .iload_n 3, 1, 0, 0, 0, []), (17, .aaload, 1, 0, 0, 0, []), (18, .getfield 54, 3, 1, 12, 1, []), (21, .ifCond .eq 22, 3, 43, 0, 0, [])]
theorem kNet_passesFrom_12 : okb (mth nNet_passesFrom) 12 bNet_passesFrom_12 = true := by decide +kernel
def bNet_passesFrom_24 : List EN := [(24, .aload_n 0, 1, 0, 0, 0, []), (25, .getfield 11, 3, 3, 0, 3, []), (28, .iload_n 3, 1, 0, 0, 0, []), (29, .aaload, 1, 0, 0, 0, []), (30, .getfield 58, 3, 1, 4, 3, []), (33, .getfield 62, 3, 4, 3, 0, []), (36, .iload_n 1, 1, 0, 0, 0, []), (37, .if_icmp .lt 6, 3, 43, 0, 0, [])]
theorem kNet_passesFrom_24 : okb (mth nNet_passesFrom) 24 bNet_passesFrom_24 = true := by decide +kernel
def bNet_passesFrom_40 : List EN := [(40, .iinc 2 1, 3, 0, 0, 0, [])]
theorem kNet_passesFrom_40 : okb (mth nNet_passesFrom) 40 bNet_passesFrom_40 = true := by decide +kernel
def bNet_passesFrom_43 : List EN := [(43, .iinc 3 1, 3, 0, 0, 0, []), (46, .goto (-42), 3, 4, 0, 0, [])]
theorem kNet_passesFrom_43 : okb (mth nNet_passesFrom) 43 bNet_passesFrom_43 = true := by decide +kernel
def bNet_passesFrom_49 : List EN := [(49, .iconst 0, 1, 0, 0, 0, []), (50, .istore_n 3, 1, 0, 0, 0, [])]
theorem kNet_passesFrom_49 : okb (mth nNet_passesFrom) 49 bNet_passesFrom_49 = true := by decide +kernel
def bNet_passesFrom_51 : List EN := [(51, .iload_n 3, 1, 0, 0, 0, []), (52, .aload_n 0, 1, 0, 0, 0, []), (53, .getfield 32, 3, 3, 4, 0, []), (56, .if_icmp .ge 41, 3, 97, 0, 0, [])]
theorem kNet_passesFrom_51 : okb (mth nNet_passesFrom) 51 bNet_passesFrom_51 = true := by decide +kernel
def bNet_passesFrom_59 : List EN := [(59, .aload_n 0, 1, 0, 0, 0, []), (60, .getfield 19, 3, 3, 1, 3, []), (63, .iload_n 3, 1, 0, 0, 0, []), (64, .aaload, 1, 0, 0, 0, []), (65, .getfield 93, 3, 2, 3, 0, []), (68, .iconst 1, 1, 0, 0, 0, []), (69, .if_icmp .ne 22, 3, 91, 0, 0, [])]
theorem kNet_passesFrom_59 : okb (mth nNet_passesFrom) 59 bNet_passesFrom_59 = true := by decide +kernel
def bNet_passesFrom_72 : List EN := [(72, .aload_n 0, 1, 0, 0, 0, []), (73, .getfield 19, 3, 3, 1, 3, []), (76, .iload_n 3, 1, 0, 0, 0, []), (77, .aaload, 1, 0, 0, 0, []), (78, .getfield 96, 3, 2, 0, 3, []), (81, .getfield 62, 3, 4, 3, 0, []), (84, .iload_n 1, 1, 0, 0, 0, []), (85, .if_icmp .lt 6, 3, 91, 0, 0, [])]
theorem kNet_passesFrom_72 : okb (mth nNet_passesFrom) 72 bNet_passesFrom_72 = true := by decide +kernel
def bNet_passesFrom_88 : List EN := [(88, .iinc 2 1, 3, 0, 0, 0, [])]
theorem kNet_passesFrom_88 : okb (mth nNet_passesFrom) 88 bNet_passesFrom_88 = true := by decide +kernel
def bNet_passesFrom_91 : List EN := [(91, .iinc 3 1, 3, 0, 0, 0, []), (94, .goto (-43), 3, 51, 0, 0, [])]
theorem kNet_passesFrom_91 : okb (mth nNet_passesFrom) 91 bNet_passesFrom_91 = true := by decide +kernel
def bNet_passesFrom_97 : List EN := [(97, .iload_n 2, 1, 0, 0, 0, []), (98, .ireturn, 1, 0, 0, 0, [])]
theorem kNet_passesFrom_97 : okb (mth nNet_passesFrom) 97 bNet_passesFrom_97 = true := by decide +kernel
def bNet_ofMember_0 : List EN := [(0, .aload_n 0, 1, 0, 0, 0, []), (1, .iload_n 1, 1, 0, 0, 0, []), (2, .invokevirtual 97, 3, nNet_isMember, 2, 4, [16]), (5, .ifCond .ne 5, 3, 10, 0, 0, [])]
theorem kNet_ofMember_0 : okb (mth nNet_ofMember) 0 bNet_ofMember_0 = true := by decide +kernel
def bNet_ofMember_8 : List EN := [(8, .iconst (-1), 1, 0, 0, 0, []), (9, .ireturn, 1, 0, 0, 0, [])]
theorem kNet_ofMember_8 : okb (mth nNet_ofMember) 8 bNet_ofMember_8 = true := by decide +kernel
def bNet_ofMember_10 : List EN := [(10, .aload_n 0, 1, 0, 0, 0, []), (11, .getfield 11, 3, 3, 0, 3, []), (14, .iload_n 1, 1, 0, 0, 0, []), (15, .aaload, 1, 0, 0, 0, []), (16, .astore_n 3, 1, 0, 0, 0, []), (17, .iload_n 2, 1, 0, 0, 0, []), (18, .bipush 10, 2, 0, 0, 0, []), (20, .if_icmp .lt 17, 3, 37, 0, 0, [])]
theorem kNet_ofMember_10 : okb (mth nNet_ofMember) 10 bNet_ofMember_10 = true := by decide +kernel
def bNet_ofMember_23 : List EN := [(23, .aload_n 0, 1, 0, 0, 0, []), (24, .aload_n 3, 1, 0, 0, 0, []), (25, .iload_n 2, 1, 0, 0, 0, []), (26, .bipush 10, 2, 0, 0, 0, []), (28, .idiv, 1, 0, 0, 0, []), (29, .iload_n 2, 1, 0, 0, 0, []), (30, .bipush 10, 2, 0, 0, 0, []), (32, .irem, 1, 0, 0, 0, []), (33, .invokevirtual 101, 3, nNet_ofOthers, 4, 4, [])]
theorem kNet_ofMember_23 : okb (mth nNet_ofMember) 23 bNet_ofMember_23 = true := by decide +kernel
def bNet_ofMember_36 : List EN := [(36, .ireturn, 1, 0, 0, 0, [])]
theorem kNet_ofMember_36 : okb (mth nNet_ofMember) 36 bNet_ofMember_36 = true := by decide +kernel
def bNet_ofMember_37 : List EN := [(37, .iload_n 2, 1, 0, 0, 0, []), (38, .tableswitch 127 0 8 #[50, 57, 62, 67, 72, 85, 98, 117, 122], 50, 165, 0, 0, [88, 95, 100, 105, 110, 123, 136, 155, 160])]
theorem kNet_ofMember_37 : okb (mth nNet_ofMember) 37 bNet_ofMember_37 = true := by decide +kernel
def bNet_ofMember_88 : List EN := [(88, .aload_n 3, 1, 0, 0, 0, []), (89, .getfield 105, 3, 1, 1, 3, []), (92, .iload_n 1, 1, 0, 0, 0, []), (93, .iaload, 1, 0, 0, 0, []), (94, .ireturn, 1, 0, 0, 0, [])]
theorem kNet_ofMember_88 : okb (mth nNet_ofMember) 88 bNet_ofMember_88 = true := by decide +kernel
def bNet_ofMember_95 : List EN := [(95, .aload_n 3, 1, 0, 0, 0, []), (96, .getfield 109, 3, 1, 5, 0, []), (99, .ireturn, 1, 0, 0, 0, [])]
theorem kNet_ofMember_95 : okb (mth nNet_ofMember) 95 bNet_ofMember_95 = true := by decide +kernel
def bNet_ofMember_100 : List EN := [(100, .aload_n 3, 1, 0, 0, 0, []), (101, .getfield 112, 3, 1, 6, 0, []), (104, .ireturn, 1, 0, 0, 0, [])]
theorem kNet_ofMember_100 : okb (mth nNet_ofMember) 100 bNet_ofMember_100 = true := by decide +kernel
def bNet_ofMember_105 : List EN := [(105, .aload_n 3, 1, 0, 0, 0, []), (106, .getfield 85, 3, 1, 7, 0, []), (109, .ireturn, 1, 0, 0, 0, [])]
theorem kNet_ofMember_105 : okb (mth nNet_ofMember) 105 bNet_ofMember_105 = true := by decide +kernel
def bNet_ofMember_110 : List EN := [(110, .aload_n 3, 1, 0, 0, 0, []), (111, .getfield 115, 3, 1, 10, 1, []), (114, .ifCond .eq 7, 3, 121, 0, 0, [])]
theorem kNet_ofMember_110 : okb (mth nNet_ofMember) 110 bNet_ofMember_110 = true := by decide +kernel
def bNet_ofMember_117 : List EN := [(117, .iconst 1, 1, 0, 0, 0, []), (118, .goto 4, 3, 122, 0, 0, [])]
theorem kNet_ofMember_117 : okb (mth nNet_ofMember) 117 bNet_ofMember_117 = true := by decide +kernel
def bNet_ofMember_121 : List EN := [(121, .iconst 0, 1, 0, 0, 0, [])]
theorem kNet_ofMember_121 : okb (mth nNet_ofMember) 121 bNet_ofMember_121 = true := by decide +kernel
def bNet_ofMember_122 : List EN := [(122, .ireturn, 1, 0, 0, 0, [])]
theorem kNet_ofMember_122 : okb (mth nNet_ofMember) 122 bNet_ofMember_122 = true := by decide +kernel
def bNet_ofMember_123 : List EN := [(123, .aload_n 3, 1, 0, 0, 0, []), (124, .getfield 118, 3, 1, 11, 1, []), (127, .ifCond .eq 7, 3, 134, 0, 0, [])]
theorem kNet_ofMember_123 : okb (mth nNet_ofMember) 123 bNet_ofMember_123 = true := by decide +kernel
def bNet_ofMember_130 : List EN := [(130, .iconst 1, 1, 0, 0, 0, []), (131, .goto 4, 3, 135, 0, 0, [])]
theorem kNet_ofMember_130 : okb (mth nNet_ofMember) 130 bNet_ofMember_130 = true := by decide +kernel
def bNet_ofMember_134 : List EN := [(134, .iconst 0, 1, 0, 0, 0, [])]
theorem kNet_ofMember_134 : okb (mth nNet_ofMember) 134 bNet_ofMember_134 = true := by decide +kernel
def bNet_ofMember_135 : List EN := [(135, .ireturn, 1, 0, 0, 0, [])]
theorem kNet_ofMember_135 : okb (mth nNet_ofMember) 135 bNet_ofMember_135 = true := by decide +kernel
def bNet_ofMember_136 : List EN := [(136, .aload_n 3, 1, 0, 0, 0, []), (137, .getfield 54, 3, 1, 12, 1, []), (140, .ifCond .eq 13, 3, 153, 0, 0, [])]
theorem kNet_ofMember_136 : okb (mth nNet_ofMember) 136 bNet_ofMember_136 = true := by decide +kernel
def bNet_ofMember_143 : List EN := [(143, .aload_n 3, 1, 0, 0, 0, []), (144, .getfield 58, 3, 1, 4, 3, []), (147, .getfield 62, 3, 4, 3, 0, []), (150, .goto 4, 3, 154, 0, 0, [])]
theorem kNet_ofMember_143 : okb (mth nNet_ofMember) 143 bNet_ofMember_143 = true := by decide +kernel
def bNet_ofMember_153 : List EN := [(153, .iconst 0, 1, 0, 0, 0, [])]
theorem kNet_ofMember_153 : okb (mth nNet_ofMember) 153 bNet_ofMember_153 = true := by decide +kernel
def bNet_ofMember_154 : List EN := [(154, .ireturn, 1, 0, 0, 0, [])]
theorem kNet_ofMember_154 : okb (mth nNet_ofMember) 154 bNet_ofMember_154 = true := by decide +kernel
def bNet_ofMember_155 : List EN := [(155, .aload_n 3, 1, 0, 0, 0, []), (156, .getfield 121, 3, 1, 8, 0, []), (159, .ireturn, 1, 0, 0, 0, [])]
theorem kNet_ofMember_155 : okb (mth nNet_ofMember) 155 bNet_ofMember_155 = true := by decide +kernel
def bNet_ofMember_160 : List EN := [(160, .aload_n 3, 1, 0, 0, 0, []), (161, .getfield 124, 3, 1, 9, 0, []), (164, .ireturn, 1, 0, 0, 0, [])]
theorem kNet_ofMember_160 : okb (mth nNet_ofMember) 160 bNet_ofMember_160 = true := by decide +kernel
def bNet_ofMember_165 : List EN := [(165, .iconst (-1), 1, 0, 0, 0, []), (166, .ireturn, 1, 0, 0, 0, [])]
theorem kNet_ofMember_165 : okb (mth nNet_ofMember) 165 bNet_ofMember_165 = true := by decide +kernel
def bNet_ofOthers_0 : List EN := [(0, .aload_n 0, 1, 0, 0, 0, []), (1, .iload_n 3, 1, 0, 0, 0, []), (2, .invokevirtual 97, 3, nNet_isMember, 2, 4, [16]), (5, .ifCond .ne 5, 3, 10, 0, 0, [])]
theorem kNet_ofOthers_0 : okb (mth nNet_ofOthers) 0 bNet_ofOthers_0 = true := by decide +kernel
def bNet_ofOthers_8 : List EN := [(8, .iconst (-1), 1, 0, 0, 0, []), (9, .ireturn, 1, 0, 0, 0, [])]
theorem kNet_ofOthers_8 : okb (mth nNet_ofOthers) 8 bNet_ofOthers_8 = true := by decide +kernel
def bNet_ofOthers_10 : List EN := [(10, .iload_n 2, 1, 0, 0, 0, []), (11, .tableswitch 46 1 3 #[25, 32, 39], 25, 57, 0, 0, [36, 43, 50])]
theorem kNet_ofOthers_10 : okb (mth nNet_ofOthers) 10 bNet_ofOthers_10 = true := by decide +kernel
def bNet_ofOthers_36 : List EN := [(36, .aload_n 1, 1, 0, 0, 0, []), (37, .getfield 127, 3, 1, 0, 3, []), (40, .iload_n 3, 1, 0, 0, 0, []), (41, .iaload, 1, 0, 0, 0, []), (42, .ireturn, 1, 0, 0, 0, [])]
theorem kNet_ofOthers_36 : okb (mth nNet_ofOthers) 36 bNet_ofOthers_36 = true := by decide +kernel
def bNet_ofOthers_43 : List EN := [(43, .aload_n 1, 1, 0, 0, 0, []), (44, .getfield 105, 3, 1, 1, 3, []), (47, .iload_n 3, 1, 0, 0, 0, []), (48, .iaload, 1, 0, 0, 0, []), (49, .ireturn, 1, 0, 0, 0, [])]
theorem kNet_ofOthers_43 : okb (mth nNet_ofOthers) 43 bNet_ofOthers_43 = true := by decide +kernel
def bNet_ofOthers_50 : List EN := [(50, .aload_n 1, 1, 0, 0, 0, []), (51, .getfield 130, 3, 1, 2, 3, []), (54, .iload_n 3, 1, 0, 0, 0, []), (55, .iaload, 1, 0, 0, 0, []), (56, .ireturn, 1, 0, 0, 0, [])]
theorem kNet_ofOthers_50 : okb (mth nNet_ofOthers) 50 bNet_ofOthers_50 = true := by decide +kernel
def bNet_ofOthers_57 : List EN := [(57, .iconst (-1), 1, 0, 0, 0, []), (58, .ireturn, 1, 0, 0, 0, [])]
theorem kNet_ofOthers_57 : okb (mth nNet_ofOthers) 57 bNet_ofOthers_57 = true := by decide +kernel
def bNet_ofPass_0 : List EN := [(0, .aload_n 0, 1, 0, 0, 0, []), (1, .iload_n 1, 1, 0, 0, 0, []), (2, .invokevirtual 97, 3, nNet_isMember, 2, 4, [16]), (5, .ifCond .eq 19, 3, 24, 0, 0, [])]
theorem kNet_ofPass_0 : okb (mth nNet_ofPass) 0 bNet_ofPass_0 = true := by decide +kernel
def bNet_ofPass_8 : List EN := [(8, .aload_n 0, 1, 0, 0, 0, []), (9, .getfield 11, 3, 3, 0, 3, []), (12, .iload_n 1, 1, 0, 0, 0, []), (13, .aaload, 1, 0, 0, 0, []), (14, .getfield 54, 3, 1, 12, 1, []), (17, .ifCond .eq 7, 3, 24, 0, 0, [])]
theorem kNet_ofPass_8 : okb (mth nNet_ofPass) 8 bNet_ofPass_8 = true := by decide +kernel
def bNet_ofPass_20 : List EN := [(20, .iload_n 2, 1, 0, 0, 0, []), (21, .ifCond .ge 5, 3, 26, 0, 0, [])]
theorem kNet_ofPass_20 : okb (mth nNet_ofPass) 20 bNet_ofPass_20 = true := by decide +kernel
def bNet_ofPass_24 : List EN := [(24, .iconst (-1), 1, 0, 0, 0, []), (25, .ireturn, 1, 0, 0, 0, [])]
theorem kNet_ofPass_24 : okb (mth nNet_ofPass) 24 bNet_ofPass_24 = true := by decide +kernel
def bNet_ofPass_26 : List EN := [(26, .aload_n 0, 1, 0, 0, 0, []), (27, .getfield 11, 3, 3, 0, 3, []), (30, .iload_n 1, 1, 0, 0, 0, []), (31, .aaload, 1, 0, 0, 0, []), (32, .getfield 58, 3, 1, 4, 3, []), (35, .astore_n 3, 1, 0, 0, 0, []), (36, .iload_n 2, 1, 0, 0, 0, []), (37, .bipush 10, 2, 0, 0, 0, []), (39, .irem, 1, 0, 0, 0, []), (40, .istore 4, 2, 0, 0, 0, []), (42, .iload_n 2, 1, 0, 0, 0, []), (43, .bipush 10, 2, 0, 0, 0, []), (45, .idiv, 1, 0, 0, 0, []), (46, .tableswitch 107 0 3 #[30, 44, 65, 86], 30, 153, 0, 0, [76, 90, 111, 132])]
theorem kNet_ofPass_26 : okb (mth nNet_ofPass) 26 bNet_ofPass_26 = true := by decide +kernel
def bNet_ofPass_76 : List EN := [(76, .iload 4, 2, 0, 0, 0, []), (78, .ifCond .ne 10, 3, 88, 0, 0, [])]
theorem kNet_ofPass_76 : okb (mth nNet_ofPass) 76 bNet_ofPass_76 = true := by decide +kernel
def bNet_ofPass_81 : List EN := [(81, .aload_n 3, 1, 0, 0, 0, []), (82, .getfield 133, 3, 4, 4, 0, []), (85, .goto 4, 3, 89, 0, 0, [])]
theorem kNet_ofPass_81 : okb (mth nNet_ofPass) 81 bNet_ofPass_81 = true := by decide +kernel
def bNet_ofPass_88 : List EN := [(88, .iconst (-1), 1, 0, 0, 0, [])]
theorem kNet_ofPass_88 : okb (mth nNet_ofPass) 88 bNet_ofPass_88 = true := by decide +kernel
def bNet_ofPass_89 : List EN := [(89, .ireturn, 1, 0, 0, 0, [])]
theorem kNet_ofPass_89 : okb (mth nNet_ofPass) 89 bNet_ofPass_89 = true := by decide +kernel
def bNet_ofPass_90 : List EN := [(90, .aload_n 0, 1, 0, 0, 0, []), (91, .iload 4, 2, 0, 0, 0, []), (93, .invokevirtual 97, 3, nNet_isMember, 2, 4, [16]), (96, .ifCond .eq 13, 3, 109, 0, 0, [])]
theorem kNet_ofPass_90 : okb (mth nNet_ofPass) 90 bNet_ofPass_90 = true := by decide +kernel
def bNet_ofPass_99 : List EN := [(99, .aload_n 3, 1, 0, 0, 0, []), (100, .getfield 136, 3, 4, 0, 3, []), (103, .iload 4, 2, 0, 0, 0, []), (105, .iaload, 1, 0, 0, 0, []), (106, .goto 4, 3, 110, 0, 0, [])]
theorem kNet_ofPass_99 : okb (mth nNet_ofPass) 99 bNet_ofPass_99 = true := by decide +kernel
def bNet_ofPass_109 : List EN := [(109, .iconst (-1), 1, 0, 0, 0, [])]
theorem kNet_ofPass_109 : okb (mth nNet_ofPass) 109 bNet_ofPass_109 = true := by decide +kernel
def bNet_ofPass_110 : List EN := [(110, .ireturn, 1, 0, 0, 0, [])]
theorem kNet_ofPass_110 : okb (mth nNet_ofPass) 110 bNet_ofPass_110 = true := by decide +kernel
def bNet_ofPass_111 : List EN := [(111, .iload 4, 2, 0, 0, 0, []), (113, .aload_n 3, 1, 0, 0, 0, []), (114, .getfield 133, 3, 4, 4, 0, []), (117, .if_icmp .ge 13, 3, 130, 0, 0, [])]
theorem kNet_ofPass_111 : okb (mth nNet_ofPass) 111 bNet_ofPass_111 = true := by decide +kernel
def bNet_ofPass_120 : List EN := [(120, .aload_n 3, 1, 0, 0, 0, []), (121, .getfield 139, 3, 4, 1, 3, []), (124, .iload 4, 2, 0, 0, 0, []), (126, .iaload, 1, 0, 0, 0, []), (127, .goto 4, 3, 131, 0, 0, [])]
theorem kNet_ofPass_120 : okb (mth nNet_ofPass) 120 bNet_ofPass_120 = true := by decide +kernel
def bNet_ofPass_130 : List EN := [(130, .iconst (-1), 1, 0, 0, 0, [])]
theorem kNet_ofPass_130 : okb (mth nNet_ofPass) 130 bNet_ofPass_130 = true := by decide +kernel
def bNet_ofPass_131 : List EN := [(131, .ireturn, 1, 0, 0, 0, [])]
theorem kNet_ofPass_131 : okb (mth nNet_ofPass) 131 bNet_ofPass_131 = true := by decide +kernel
def bNet_ofPass_132 : List EN := [(132, .iload 4, 2, 0, 0, 0, []), (134, .aload_n 3, 1, 0, 0, 0, []), (135, .getfield 133, 3, 4, 4, 0, []), (138, .if_icmp .ge 13, 3, 151, 0, 0, [])]
theorem kNet_ofPass_132 : okb (mth nNet_ofPass) 132 bNet_ofPass_132 = true := by decide +kernel
def bNet_ofPass_141 : List EN := [(141, .aload_n 3, 1, 0, 0, 0, []), (142, .getfield 142, 3, 4, 2, 3, []), (145, .iload 4, 2, 0, 0, 0, []), (147, .iaload, 1, 0, 0, 0, []), (148, .goto 4, 3, 152, 0, 0, [])]
theorem kNet_ofPass_141 : okb (mth nNet_ofPass) 141 bNet_ofPass_141 = true := by decide +kernel
def bNet_ofPass_151 : List EN := [(151, .iconst (-1), 1, 0, 0, 0, [])]
theorem kNet_ofPass_151 : okb (mth nNet_ofPass) 151 bNet_ofPass_151 = true := by decide +kernel
def bNet_ofPass_152 : List EN := [(152, .ireturn, 1, 0, 0, 0, [])]
theorem kNet_ofPass_152 : okb (mth nNet_ofPass) 152 bNet_ofPass_152 = true := by decide +kernel
def bNet_ofPass_153 : List EN := [(153, .iconst (-1), 1, 0, 0, 0, []), (154, .ireturn, 1, 0, 0, 0, [])]
theorem kNet_ofPass_153 : okb (mth nNet_ofPass) 153 bNet_ofPass_153 = true := by decide +kernel
def bNet_countOnWay_0 : List EN := [(0, .aload_n 0, 1, 0, 0, 0, []), (1, .iload_n 1, 1, 0, 0, 0, []), (2, .invokevirtual 97, 3, nNet_isMember, 2, 4, [16]), (5, .ifCond .eq 16, 3, 21, 0, 0, [])]
theorem kNet_countOnWay_0 : okb (mth nNet_countOnWay) 0 bNet_countOnWay_0 = true := by decide +kernel
def bNet_countOnWay_8 : List EN := [(8, .aload_n 0, 1, 0, 0, 0, []), (9, .iload_n 2, 1, 0, 0, 0, []), (10, .invokevirtual 97, 3, nNet_isMember, 2, 4, [16]), (13, .ifCond .eq 8, 3, 21, 0, 0, [])]
theorem kNet_countOnWay_8 : okb (mth nNet_countOnWay) 8 bNet_countOnWay_8 = true := by decide +kernel
def bNet_countOnWay_16 : List EN := [(16, .iload_n 1, 1, 0, 0, 0, []), (17, .iload_n 2, 1, 0, 0, 0, []), (18, .if_icmp .ne 5, 3, 23, 0, 0, [])]
theorem kNet_countOnWay_16 : okb (mth nNet_countOnWay) 16 bNet_countOnWay_16 = true := by decide +kernel
def bNet_countOnWay_21 : List EN := [(21, .iconst (-1), 1, 0, 0, 0, []), (22, .ireturn, 1, 0, 0, 0, [])]
theorem kNet_countOnWay_21 : okb (mth nNet_countOnWay) 21 bNet_countOnWay_21 = true := by decide +kernel
def bNet_countOnWay_23 : List EN := [(23, .iconst 0, 1, 0, 0, 0, []), (24, .istore_n 3, 1, 0, 0, 0, []), (25, .iconst 0, 1, 0, 0, 0, []), (26, .istore 4, 2, 0, 0, 0, [])]
theorem kNet_countOnWay_23 : okb (mth nNet_countOnWay) 23 bNet_countOnWay_23 = true := by decide +kernel
def bNet_countOnWay_28 : List EN := [(28, .iload 4, 2, 0, 0, 0, []), (30, .aload_n 0, 1, 0, 0, 0, []), (31, .getfield 32, 3, 3, 4, 0, []), (34, .if_icmp .ge 40, 3, 74, 0, 0, [])]
theorem kNet_countOnWay_28 : okb (mth nNet_countOnWay) 28 bNet_countOnWay_28 = true := by decide +kernel
def bNet_countOnWay_37 : List EN := [(37, .aload_n 0, 1, 0, 0, 0, []), (38, .getfield 19, 3, 3, 1, 3, []), (41, .iload 4, 2, 0, 0, 0, []), (43, .aaload, 1, 0, 0, 0, []), (44, .getfield 145, 3, 2, 1, 0, []), (47, .iload_n 1, 1, 0, 0, 0, []), (48, .if_icmp .ne 20, 3, 68, 0, 0, [])]
theorem kNet_countOnWay_37 : okb (mth nNet_countOnWay) 37 bNet_countOnWay_37 = true := by decide +kernel
def bNet_countOnWay_51 : List EN := [(51, .aload_n 0, 1, 0, 0, 0, []), (52, .getfield 19, 3, 3, 1, 3, []), (55, .iload 4, 2, 0, 0, 0, []), (57, .aaload, 1, 0, 0, 0, []), (58, .getfield 148, 3, 2, 2, 0, []), (61, .iload_n 2, 1, 0, 0, 0, []), (62, .if_icmp .ne 6, 3, 68, 0, 0, [])]
theorem kNet_countOnWay_51 : okb (mth nNet_countOnWay) 51 bNet_countOnWay_51 = true := by decide +kernel
def bNet_countOnWay_65 : List EN := [(65, .iinc 3 1, 3, 0, 0, 0, [])]
theorem kNet_countOnWay_65 : okb (mth nNet_countOnWay) 65 bNet_countOnWay_65 = true := by decide +kernel
def bNet_countOnWay_68 : List EN := [(68, .iinc 4 1, 3, 0, 0, 0, []), (71, .goto (-43), 3, 28, 0, 0, [])]
theorem kNet_countOnWay_68 : okb (mth nNet_countOnWay) 68 bNet_countOnWay_68 = true := by decide +kernel
def bNet_countOnWay_74 : List EN := [(74, .iload_n 3, 1, 0, 0, 0, []), (75, .ireturn, 1, 0, 0, 0, [])]
theorem kNet_countOnWay_74 : okb (mth nNet_countOnWay) 74 bNet_countOnWay_74 = true := by decide +kernel
def bNet_find_0 : List EN := [(0, .iconst 0, 1, 0, 0, 0, []), (1, .istore 4, 2, 0, 0, 0, []), (3, .iconst 0, 1, 0, 0, 0, []), (4, .istore 5, 2, 0, 0, 0, [])]
theorem kNet_find_0 : okb (mth nNet_find) 0 bNet_find_0 = true := by decide +kernel
def bNet_find_6 : List EN := [(6, .iload 5, 2, 0, 0, 0, []), (8, .aload_n 0, 1, 0, 0, 0, []), (9, .getfield 32, 3, 3, 4, 0, []), (12, .if_icmp .ge 49, 3, 61, 0, 0, [])]
theorem kNet_find_6 : okb (mth nNet_find) 6 bNet_find_6 = true := by decide +kernel
def bNet_find_15 : List EN := [(15, .aload_n 0, 1, 0, 0, 0, []), (16, .getfield 19, 3, 3, 1, 3, []), (19, .iload 5, 2, 0, 0, 0, []), (21, .aaload, 1, 0, 0, 0, []), (22, .getfield 145, 3, 2, 1, 0, []), (25, .iload_n 1, 1, 0, 0, 0, []), (26, .if_icmp .ne 29, 3, 55, 0, 0, [])]
theorem kNet_find_15 : okb (mth nNet_find) 15 bNet_find_15 = true := by decide +kernel
def bNet_find_29 : List EN := [(29, .aload_n 0, 1, 0, 0, 0, []), (30, .getfield 19, 3, 3, 1, 3, []), (33, .iload 5, 2, 0, 0, 0, []), (35, .aaload, 1, 0, 0, 0, []), (36, .getfield 148, 3, 2, 2, 0, []), (39, .iload_n 2, 1, 0, 0, 0, []), (40, .if_icmp .ne 15, 3, 55, 0, 0, [])]
theorem kNet_find_29 : okb (mth nNet_find) 29 bNet_find_29 = true := by decide +kernel
def bNet_find_43 : List EN := [(43, .iload 4, 2, 0, 0, 0, []), (45, .iload_n 3, 1, 0, 0, 0, []), (46, .if_icmp .ne 6, 3, 52, 0, 0, [])]
theorem kNet_find_43 : okb (mth nNet_find) 43 bNet_find_43 = true := by decide +kernel
def bNet_find_49 : List EN := [(49, .iload 5, 2, 0, 0, 0, []), (51, .ireturn, 1, 0, 0, 0, [])]
theorem kNet_find_49 : okb (mth nNet_find) 49 bNet_find_49 = true := by decide +kernel
def bNet_find_52 : List EN := [(52, .iinc 4 1, 3, 0, 0, 0, [])]
theorem kNet_find_52 : okb (mth nNet_find) 52 bNet_find_52 = true := by decide +kernel
def bNet_find_55 : List EN := [(55, .iinc 5 1, 3, 0, 0, 0, []), (58, .goto (-52), 3, 6, 0, 0, [])]
theorem kNet_find_55 : okb (mth nNet_find) 55 bNet_find_55 = true := by decide +kernel
def bNet_find_61 : List EN := [(61, .iconst (-1), 1, 0, 0, 0, []), (62, .ireturn, 1, 0, 0, 0, [])]
theorem kNet_find_61 : okb (mth nNet_find) 61 bNet_find_61 = true := by decide +kernel
def bNet_act_0 : List EN := [(0, .iload_n 1, 1, 0, 0, 0, []), (1, .tableswitch 77 0 5 #[39, 45, 51, 57, 64, 71], 39, 78, 0, 0, [40, 46, 52, 58, 65, 72])]
theorem kNet_act_0 : okb (mth nNet_act) 0 bNet_act_0 = true := by decide +kernel
def bNet_act_40 : List EN := [(40, .aload_n 0, 1, 0, 0, 0, []), (41, .iload_n 2, 1, 0, 0, 0, []), (42, .invokevirtual 151, 3, nNet_askBy, 2, 4, [])]
theorem kNet_act_40 : okb (mth nNet_act) 40 bNet_act_40 = true := by decide +kernel
def bNet_act_45 : List EN := [(45, .ireturn, 1, 0, 0, 0, [])]
theorem kNet_act_45 : okb (mth nNet_act) 45 bNet_act_45 = true := by decide +kernel
def bNet_act_46 : List EN := [(46, .aload_n 0, 1, 0, 0, 0, []), (47, .iload_n 2, 1, 0, 0, 0, []), (48, .invokevirtual 155, 3, nNet_leaveBy, 2, 4, [])]
theorem kNet_act_46 : okb (mth nNet_act) 46 bNet_act_46 = true := by decide +kernel
def bNet_act_51 : List EN := [(51, .ireturn, 1, 0, 0, 0, [])]
theorem kNet_act_51 : okb (mth nNet_act) 51 bNet_act_51 = true := by decide +kernel
def bNet_act_52 : List EN := [(52, .aload_n 0, 1, 0, 0, 0, []), (53, .iload_n 2, 1, 0, 0, 0, []), (54, .invokevirtual 158, 3, nNet_suspectBy, 2, 4, [])]
theorem kNet_act_52 : okb (mth nNet_act) 52 bNet_act_52 = true := by decide +kernel
def bNet_act_57 : List EN := [(57, .ireturn, 1, 0, 0, 0, [])]
theorem kNet_act_57 : okb (mth nNet_act) 57 bNet_act_57 = true := by decide +kernel
def bNet_act_58 : List EN := [(58, .aload_n 0, 1, 0, 0, 0, []), (59, .iload_n 2, 1, 0, 0, 0, []), (60, .iload_n 3, 1, 0, 0, 0, []), (61, .invokevirtual 161, 3, nNet_deliverOn, 3, 4, [])]
theorem kNet_act_58 : okb (mth nNet_act) 58 bNet_act_58 = true := by decide +kernel
def bNet_act_64 : List EN := [(64, .ireturn, 1, 0, 0, 0, [])]
theorem kNet_act_64 : okb (mth nNet_act) 64 bNet_act_64 = true := by decide +kernel
def bNet_act_65 : List EN := [(65, .aload_n 0, 1, 0, 0, 0, []), (66, .iload_n 2, 1, 0, 0, 0, []), (67, .iload_n 3, 1, 0, 0, 0, []), (68, .invokevirtual 164, 3, nNet_loseOn, 3, 4, [])]
theorem kNet_act_65 : okb (mth nNet_act) 65 bNet_act_65 = true := by decide +kernel
def bNet_act_71 : List EN := [(71, .ireturn, 1, 0, 0, 0, [])]
theorem kNet_act_71 : okb (mth nNet_act) 71 bNet_act_71 = true := by decide +kernel
def bNet_act_72 : List EN := [(72, .aload_n 0, 1, 0, 0, 0, []), (73, .iload_n 2, 1, 0, 0, 0, []), (74, .invokevirtual 167, 3, nNet_settleBy, 2, 4, [])]
theorem kNet_act_72 : okb (mth nNet_act) 72 bNet_act_72 = true := by decide +kernel
def bNet_act_77 : List EN := [(77, .ireturn, 1, 0, 0, 0, [])]
theorem kNet_act_77 : okb (mth nNet_act) 77 bNet_act_77 = true := by decide +kernel
def bNet_act_78 : List EN := [(78, .iconst (-1), 1, 0, 0, 0, []), (79, .ireturn, 1, 0, 0, 0, [])]
theorem kNet_act_78 : okb (mth nNet_act) 78 bNet_act_78 = true := by decide +kernel
def bNet_askBy_0 : List EN := [(0, .aload_n 0, 1, 0, 0, 0, []), (1, .iload_n 1, 1, 0, 0, 0, []), (2, .invokevirtual 97, 3, nNet_isMember, 2, 4, [16]), (5, .ifCond .ne 5, 3, 10, 0, 0, [])]
theorem kNet_askBy_0 : okb (mth nNet_askBy) 0 bNet_askBy_0 = true := by decide +kernel
def bNet_askBy_8 : List EN := [(8, .iconst (-1), 1, 0, 0, 0, []), (9, .ireturn, 1, 0, 0, 0, [])]
theorem kNet_askBy_8 : okb (mth nNet_askBy) 8 bNet_askBy_8 = true := by decide +kernel
def bNet_askBy_10 : List EN := [(10, .aload_n 0, 1, 0, 0, 0, []), (11, .getfield 11, 3, 3, 0, 3, []), (14, .iload_n 1, 1, 0, 0, 0, []), (15, .aaload, 1, 0, 0, 0, []), (16, .astore_n 2, 1, 0, 0, 0, []), (17, .aload_n 2, 1, 0, 0, 0, []), (18, .getfield 115, 3, 1, 10, 1, []), (21, .ifCond .ne 10, 3, 31, 0, 0, [])]
theorem kNet_askBy_10 : okb (mth nNet_askBy) 10 bNet_askBy_10 = true := by decide +kernel
def bNet_askBy_24 : List EN := [(24, .aload_n 2, 1, 0, 0, 0, []), (25, .getfield 118, 3, 1, 11, 1, []), (28, .ifCond .eq 6, 3, 34, 0, 0, [])]
theorem kNet_askBy_24 : okb (mth nNet_askBy) 24 bNet_askBy_24 = true := by decide +kernel
def bNet_askBy_31 : List EN := [(31, .bipush (-2), 2, 0, 0, 0, []), (33, .ireturn, 1, 0, 0, 0, [])]
theorem kNet_askBy_31 : okb (mth nNet_askBy) 31 bNet_askBy_31 = true := by decide +kernel
def bNet_askBy_34 : List EN := [(34, .aload_n 2, 1, 0, 0, 0, []), (35, .getfield 54, 3, 1, 12, 1, []), (38, .ifCond .eq 7, 3, 45, 0, 0, [])]
theorem kNet_askBy_34 : okb (mth nNet_askBy) 34 bNet_askBy_34 = true := by decide +kernel
def bNet_askBy_41 : List EN := [(41, .iconst 0, 1, 0, 0, 0, []), (42, .goto 9, 3, 51, 0, 0, [])]
theorem kNet_askBy_41 : okb (mth nNet_askBy) 41 bNet_askBy_41 = true := by decide +kernel
def bNet_askBy_45 : List EN := [(45, .aload_n 0, 1, 0, 0, 0, []), (46, .getfield 28, 3, 3, 3, 0, []), (49, .iconst 1, 1, 0, 0, 0, []), (50, .isub, 1, 0, 0, 0, [])]
theorem kNet_askBy_45 : okb (mth nNet_askBy) 45 bNet_askBy_45 = true := by decide +kernel
def bNet_askBy_51 : List EN := [(51, .istore_n 3, 1, 0, 0, 0, []), (52, .aload_n 0, 1, 0, 0, 0, []), (53, .getfield 32, 3, 3, 4, 0, []), (56, .iload_n 3, 1, 0, 0, 0, []), (57, .iadd, 1, 0, 0, 0, []), (58, .bipush 40, 2, 0, 0, 0, []), (60, .if_icmp .le 6, 3, 66, 0, 0, [])]
theorem kNet_askBy_51 : okb (mth nNet_askBy) 51 bNet_askBy_51 = true := by decide +kernel
def bNet_askBy_63 : List EN := [(63, .bipush (-3), 2, 0, 0, 0, []), (65, .ireturn, 1, 0, 0, 0, [])]
theorem kNet_askBy_63 : okb (mth nNet_askBy) 63 bNet_askBy_63 = true := by decide +kernel
def bNet_askBy_66 : List EN := [(66, .aload_n 2, 1, 0, 0, 0, []), (67, .dup, 1, 0, 0, 0, []), (68, .getfield 109, 3, 1, 5, 0, []), (71, .iconst 1, 1, 0, 0, 0, []), (72, .iadd, 1, 0, 0, 0, []), (73, .putfield 109, 3, 1, 5, 0, []), (76, .aload_n 2, 1, 0, 0, 0, []), (77, .getfield 127, 3, 1, 0, 3, []), (80, .iload_n 1, 1, 0, 0, 0, []), (81, .aload_n 2, 1, 0, 0, 0, []), (82, .getfield 109, 3, 1, 5, 0, []), (85, .iastore, 1, 0, 0, 0, []), (86, .aload_n 2, 1, 0, 0, 0, []), (87, .getfield 54, 3, 1, 12, 1, []), (90, .ifCond .eq 11, 3, 101, 0, 0, [])]
theorem kNet_askBy_66 : okb (mth nNet_askBy) 66 bNet_askBy_66 = true := by decide +kernel
def bNet_askBy_93 : List EN := [(93, .aload_n 2, 1, 0, 0, 0, []), (94, .iconst 1, 1, 0, 0, 0, []), (95, .putfield 118, 3, 1, 11, 1, []), (98, .goto 24, 3, 122, 0, 0, [])]
theorem kNet_askBy_93 : okb (mth nNet_askBy) 93 bNet_askBy_93 = true := by decide +kernel
def bNet_askBy_101 : List EN := [(101, .aload_n 2, 1, 0, 0, 0, []), (102, .iconst 1, 1, 0, 0, 0, []), (103, .putfield 115, 3, 1, 10, 1, []), (106, .aload_n 0, 1, 0, 0, 0, []), (107, .iload_n 1, 1, 0, 0, 0, []), (108, .iconst 0, 1, 0, 0, 0, []), (109, .aload_n 2, 1, 0, 0, 0, []), (110, .getfield 109, 3, 1, 5, 0, []), (113, .aload_n 2, 1, 0, 0, 0, []), (114, .getfield 105, 3, 1, 1, 3, []), (117, .iload_n 1, 1, 0, 0, 0, []), (118, .iaload, 1, 0, 0, 0, []), (119, .invokevirtual 170, 3, nNet_postToOthers, 5, 4, [])]
theorem kNet_askBy_101 : okb (mth nNet_askBy) 101 bNet_askBy_101 = true := by decide +kernel
def bNet_askBy_122 : List EN := [(122, .aload_n 2, 1, 0, 0, 0, []), (123, .getfield 109, 3, 1, 5, 0, []), (126, .ireturn, 1, 0, 0, 0, [])]
theorem kNet_askBy_122 : okb (mth nNet_askBy) 122 bNet_askBy_122 = true := by decide +kernel
def bNet_leaveBy_0 : List EN := [(0, .aload_n 0, 1, 0, 0, 0, []), (1, .iload_n 1, 1, 0, 0, 0, []), (2, .invokevirtual 97, 3, nNet_isMember, 2, 4, [16]), (5, .ifCond .eq 15, 3, 20, 0, 0, [])]
theorem kNet_leaveBy_0 : okb (mth nNet_leaveBy) 0 bNet_leaveBy_0 = true := by decide +kernel
def bNet_leaveBy_8 : List EN := [(8, .aload_n 0, 1, 0, 0, 0, []), (9, .getfield 11, 3, 3, 0, 3, []), (12, .iload_n 1, 1, 0, 0, 0, []), (13, .aaload, 1, 0, 0, 0, []), (14, .getfield 118, 3, 1, 11, 1, []), (17, .ifCond .ne 5, 3, 22, 0, 0, [])]
theorem kNet_leaveBy_8 : okb (mth nNet_leaveBy) 8 bNet_leaveBy_8 = true := by decide +kernel
def bNet_leaveBy_20 : List EN := [(20, .iconst (-1), 1, 0, 0, 0, []), (21, .ireturn, 1, 0, 0, 0, [])]
theorem kNet_leaveBy_20 : okb (mth nNet_leaveBy) 20 bNet_leaveBy_20 = true := by decide +kernel
def bNet_leaveBy_22 : List EN := [(22, .aload_n 0, 1, 0, 0, 0, []), (23, .getfield 11, 3, 3, 0, 3, []), (26, .iload_n 1, 1, 0, 0, 0, []), (27, .aaload, 1, 0, 0, 0, []), (28, .astore_n 2, 1, 0, 0, 0, []), (29, .aload_n 2, 1, 0, 0, 0, []), (30, .iconst 0, 1, 0, 0, 0, []), (31, .putfield 118, 3, 1, 11, 1, []), (34, .aload_n 2, 1, 0, 0, 0, []), (35, .aload_n 2, 1, 0, 0, 0, []), (36, .getfield 109, 3, 1, 5, 0, []), (39, .putfield 112, 3, 1, 6, 0, []), (42, .aload_n 0, 1, 0, 0, 0, []), (43, .dup, 1, 0, 0, 0, []), (44, .getfield 44, 3, 3, 8, 0, []), (47, .iconst 1, 1, 0, 0, 0, []), (48, .iadd, 1, 0, 0, 0, []), (49, .putfield 44, 3, 3, 8, 0, []), (52, .aload_n 2, 1, 0, 0, 0, []), (53, .getfield 54, 3, 1, 12, 1, []), (56, .ifCond .ne 5, 3, 61, 0, 0, [])]
theorem kNet_leaveBy_22 : okb (mth nNet_leaveBy) 22 bNet_leaveBy_22 = true := by decide +kernel
def bNet_leaveBy_59 : List EN := [(59, .iload_n 1, 1, 0, 0, 0, []), (60, .ireturn, 1, 0, 0, 0, [])]
theorem kNet_leaveBy_59 : okb (mth nNet_leaveBy) 59 bNet_leaveBy_59 = true := by decide +kernel
def bNet_leaveBy_61 : List EN := [(61, .aload_n 2, 1, 0, 0, 0, []), (62, .getfield 58, 3, 1, 4, 3, []), (65, .getfield 136, 3, 4, 0, 3, []), (68, .iload_n 1, 1, 0, 0, 0, []), (69, .aload_n 2, 1, 0, 0, 0, []), (70, .getfield 112, 3, 1, 6, 0, []), (73, .iastore, 1, 0, 0, 0, []), (74, .aload_n 0, 1, 0, 0, 0, []), (75, .iload_n 1, 1, 0, 0, 0, []), (76, .invokevirtual 174, 3, nNet_handOn, 2, 4, [])]
theorem kNet_leaveBy_61 : okb (mth nNet_leaveBy) 61 bNet_leaveBy_61 = true := by decide +kernel
def bNet_leaveBy_79 : List EN := [(79, .ireturn, 1, 0, 0, 0, [])]
theorem kNet_leaveBy_79 : okb (mth nNet_leaveBy) 79 bNet_leaveBy_79 = true := by decide +kernel
def bNet_suspectBy_0 : List EN := [(0, .aload_n 0, 1, 0, 0, 0, []), (1, .iload_n 1, 1, 0, 0, 0, []), (2, .invokevirtual 97, 3, nNet_isMember, 2, 4, [16]), (5, .ifCond .ne 5, 3, 10, 0, 0, [])]
theorem kNet_suspectBy_0 : okb (mth nNet_suspectBy) 0 bNet_suspectBy_0 = true := by decide +kernel
def bNet_suspectBy_8 : List EN := [(8, .iconst (-1), 1, 0, 0, 0, []), (9, .ireturn, 1, 0, 0, 0, [])]
theorem kNet_suspectBy_8 : okb (mth nNet_suspectBy) 8 bNet_suspectBy_8 = true := by decide +kernel
def bNet_suspectBy_10 : List EN := [(10, .aload_n 0, 1, 0, 0, 0, []), (11, .getfield 11, 3, 3, 0, 3, []), (14, .iload_n 1, 1, 0, 0, 0, []), (15, .aaload, 1, 0, 0, 0, []), (16, .astore_n 2, 1, 0, 0, 0, []), (17, .aload_n 2, 1, 0, 0, 0, []), (18, .getfield 115, 3, 1, 10, 1, []), (21, .ifCond .ne 6, 3, 27, 0, 0, [])]
theorem kNet_suspectBy_10 : okb (mth nNet_suspectBy) 10 bNet_suspectBy_10 = true := by decide +kernel
def bNet_suspectBy_24 : List EN := [(24, .bipush (-2), 2, 0, 0, 0, []), (26, .ireturn, 1, 0, 0, 0, [])]
theorem kNet_suspectBy_24 : okb (mth nNet_suspectBy) 24 bNet_suspectBy_24 = true := by decide +kernel
def bNet_suspectBy_27 : List EN := [(27, .aload_n 0, 1, 0, 0, 0, []), (28, .getfield 32, 3, 3, 4, 0, []), (31, .aload_n 0, 1, 0, 0, 0, []), (32, .getfield 28, 3, 3, 3, 0, []), (35, .iadd, 1, 0, 0, 0, []), (36, .iconst 1, 1, 0, 0, 0, []), (37, .isub, 1, 0, 0, 0, []), (38, .bipush 40, 2, 0, 0, 0, []), (40, .if_icmp .le 6, 3, 46, 0, 0, [])]
theorem kNet_suspectBy_27 : okb (mth nNet_suspectBy) 27 bNet_suspectBy_27 = true := by decide +kernel
def bNet_suspectBy_43 : List EN := [(43, .bipush (-3), 2, 0, 0, 0, []), (45, .ireturn, 1, 0, 0, 0, [])]
theorem kNet_suspectBy_43 : okb (mth nNet_suspectBy) 43 bNet_suspectBy_43 = true := by decide +kernel
def bNet_suspectBy_46 : List EN := [(46, .aload_n 2, 1, 0, 0, 0, []), (47, .dup, 1, 0, 0, 0, []), (48, .getfield 85, 3, 1, 7, 0, []), (51, .iconst 1, 1, 0, 0, 0, []), (52, .iadd, 1, 0, 0, 0, []), (53, .putfield 85, 3, 1, 7, 0, []), (56, .aload_n 2, 1, 0, 0, 0, []), (57, .aload_n 2, 1, 0, 0, 0, []), (58, .getfield 85, 3, 1, 7, 0, []), (61, .invokevirtual 177, 3, nMemb_collectFor, 2, 2, [])]
theorem kNet_suspectBy_46 : okb (mth nNet_suspectBy) 46 bNet_suspectBy_46 = true := by decide +kernel
def bNet_suspectBy_64 : List EN := [(64, .aload_n 0, 1, 0, 0, 0, []), (65, .iload_n 1, 1, 0, 0, 0, []), (66, .iconst 2, 1, 0, 0, 0, []), (67, .aload_n 2, 1, 0, 0, 0, []), (68, .getfield 85, 3, 1, 7, 0, []), (71, .iconst 0, 1, 0, 0, 0, []), (72, .invokevirtual 170, 3, nNet_postToOthers, 5, 4, [])]
theorem kNet_suspectBy_64 : okb (mth nNet_suspectBy) 64 bNet_suspectBy_64 = true := by decide +kernel
def bNet_suspectBy_75 : List EN := [(75, .aload_n 2, 1, 0, 0, 0, []), (76, .getfield 85, 3, 1, 7, 0, []), (79, .ireturn, 1, 0, 0, 0, [])]
theorem kNet_suspectBy_75 : okb (mth nNet_suspectBy) 75 bNet_suspectBy_75 = true := by decide +kernel
def bNet_deliverOn_0 : List EN := [(0, .aload_n 0, 1, 0, 0, 0, []), (1, .aload_n 0, 1, 0, 0, 0, []), (2, .iload_n 1, 1, 0, 0, 0, []), (3, .iload_n 2, 1, 0, 0, 0, []), (4, .iconst 0, 1, 0, 0, 0, []), (5, .invokevirtual 180, 3, nNet_find, 4, 4, [])]
theorem kNet_deliverOn_0 : okb (mth nNet_deliverOn) 0 bNet_deliverOn_0 = true := by decide +kernel
def bNet_deliverOn_8 : List EN := [(8, .invokevirtual 184, 3, nNet_deliver, 2, 4, [])]
theorem kNet_deliverOn_8 : okb (mth nNet_deliverOn) 8 bNet_deliverOn_8 = true := by decide +kernel
def bNet_deliverOn_11 : List EN := [(11, .ireturn, 1, 0, 0, 0, [])]
theorem kNet_deliverOn_11 : okb (mth nNet_deliverOn) 11 bNet_deliverOn_11 = true := by decide +kernel
def bNet_loseOn_0 : List EN := [(0, .aload_n 0, 1, 0, 0, 0, []), (1, .iload_n 1, 1, 0, 0, 0, []), (2, .iload_n 2, 1, 0, 0, 0, []), (3, .iconst 0, 1, 0, 0, 0, []), (4, .invokevirtual 180, 3, nNet_find, 4, 4, [])]
theorem kNet_loseOn_0 : okb (mth nNet_loseOn) 0 bNet_loseOn_0 = true := by decide +kernel
def bNet_loseOn_7 : List EN := [(7, .istore_n 3, 1, 0, 0, 0, []), (8, .iload_n 3, 1, 0, 0, 0, []), (9, .iconst (-1), 1, 0, 0, 0, []), (10, .if_icmp .ne 5, 3, 15, 0, 0, [])]
theorem kNet_loseOn_7 : okb (mth nNet_loseOn) 7 bNet_loseOn_7 = true := by decide +kernel
def bNet_loseOn_13 : List EN := [(13, .iconst (-1), 1, 0, 0, 0, []), (14, .ireturn, 1, 0, 0, 0, [])]
theorem kNet_loseOn_13 : okb (mth nNet_loseOn) 13 bNet_loseOn_13 = true := by decide +kernel
def bNet_loseOn_15 : List EN := [(15, .aload_n 0, 1, 0, 0, 0, []), (16, .dup, 1, 0, 0, 0, []), (17, .getfield 41, 3, 3, 7, 0, []), (20, .iconst 1, 1, 0, 0, 0, []), (21, .iadd, 1, 0, 0, 0, []), (22, .putfield 41, 3, 3, 7, 0, []), (25, .aload_n 0, 1, 0, 0, 0, []), (26, .iload_n 3, 1, 0, 0, 0, []), (27, .invokevirtual 187, 3, nNet_take, 2, 4, [])]
theorem kNet_loseOn_15 : okb (mth nNet_loseOn) 15 bNet_loseOn_15 = true := by decide +kernel
def bNet_loseOn_30 : List EN := [(30, .aload_n 0, 1, 0, 0, 0, []), (31, .getfield 24, 3, 3, 2, 3, []), (34, .getfield 93, 3, 2, 3, 0, []), (37, .ireturn, 1, 0, 0, 0, [])]
theorem kNet_loseOn_30 : okb (mth nNet_loseOn) 30 bNet_loseOn_30 = true := by decide +kernel
def bNet_settleBy_0 : List EN := [(0, .iconst 0, 1, 0, 0, 0, []), (1, .istore_n 2, 1, 0, 0, 0, [])]
theorem kNet_settleBy_0 : okb (mth nNet_settleBy) 0 bNet_settleBy_0 = true := by decide +kernel
def bNet_settleBy_2 : List EN := [(2, .iload_n 2, 1, 0, 0, 0, []), (3, .iload_n 1, 1, 0, 0, 0, []), (4, .if_icmp .ge 46, 3, 50, 0, 0, [])]
theorem kNet_settleBy_2 : okb (mth nNet_settleBy) 2 bNet_settleBy_2 = true := by decide +kernel
def bNet_settleBy_7 : List EN := [(7, .iconst 0, 1, 0, 0, 0, []), (8, .istore_n 3, 1, 0, 0, 0, [])]
theorem kNet_settleBy_7 : okb (mth nNet_settleBy) 7 bNet_settleBy_7 = true := by decide +kernel
def bNet_settleBy_9 : List EN := [(9, .iload_n 3, 1, 0, 0, 0, []), (10, .aload_n 0, 1, 0, 0, 0, []), (11, .getfield 28, 3, 3, 3, 0, []), (14, .if_icmp .ge 15, 3, 29, 0, 0, [])]
theorem kNet_settleBy_9 : okb (mth nNet_settleBy) 9 bNet_settleBy_9 = true := by decide +kernel
def bNet_settleBy_17 : List EN := [(17, .aload_n 0, 1, 0, 0, 0, []), (18, .iload_n 3, 1, 0, 0, 0, []), (19, .invokevirtual 155, 3, nNet_leaveBy, 2, 4, [])]
theorem kNet_settleBy_17 : okb (mth nNet_settleBy) 17 bNet_settleBy_17 = true := by decide +kernel
def bNet_settleBy_22 : List EN := [(22, .pop, 1, 0, 0, 0, []), (23, .iinc 3 1, 3, 0, 0, 0, []), (26, .goto (-17), 3, 9, 0, 0, [])]
theorem kNet_settleBy_22 : okb (mth nNet_settleBy) 22 bNet_settleBy_22 = true := by decide +kernel
def bNet_settleBy_29 : List EN := [(29, .aload_n 0, 1, 0, 0, 0, []), (30, .getfield 32, 3, 3, 4, 0, []), (33, .ifCond .ne 5, 3, 38, 0, 0, [])]
theorem kNet_settleBy_29 : okb (mth nNet_settleBy) 29 bNet_settleBy_29 = true := by decide +kernel
def bNet_settleBy_36 : List EN := [(36, .iload_n 2, 1, 0, 0, 0, []), (37, .ireturn, 1, 0, 0, 0, [])]
theorem kNet_settleBy_36 : okb (mth nNet_settleBy) 36 bNet_settleBy_36 = true := by decide +kernel
def bNet_settleBy_38 : List EN := [(38, .aload_n 0, 1, 0, 0, 0, []), (39, .iconst 0, 1, 0, 0, 0, []), (40, .invokevirtual 184, 3, nNet_deliver, 2, 4, [])]
theorem kNet_settleBy_38 : okb (mth nNet_settleBy) 38 bNet_settleBy_38 = true := by decide +kernel
def bNet_settleBy_43 : List EN := [(43, .pop, 1, 0, 0, 0, []), (44, .iinc 2 1, 3, 0, 0, 0, []), (47, .goto (-45), 3, 2, 0, 0, [])]
theorem kNet_settleBy_43 : okb (mth nNet_settleBy) 43 bNet_settleBy_43 = true := by decide +kernel
def bNet_settleBy_50 : List EN := [(50, .iload_n 1, 1, 0, 0, 0, []), (51, .ireturn, 1, 0, 0, 0, [])]
theorem kNet_settleBy_50 : okb (mth nNet_settleBy) 50 bNet_settleBy_50 = true := by decide +kernel
def bNet_deliver_0 : List EN := [(0, .iload_n 1, 1, 0, 0, 0, []), (1, .ifCond .lt 11, 3, 12, 0, 0, [])]
theorem kNet_deliver_0 : okb (mth nNet_deliver) 0 bNet_deliver_0 = true := by decide +kernel
def bNet_deliver_4 : List EN := [(4, .iload_n 1, 1, 0, 0, 0, []), (5, .aload_n 0, 1, 0, 0, 0, []), (6, .getfield 32, 3, 3, 4, 0, []), (9, .if_icmp .lt 5, 3, 14, 0, 0, [])]
theorem kNet_deliver_4 : okb (mth nNet_deliver) 4 bNet_deliver_4 = true := by decide +kernel
def bNet_deliver_12 : List EN := [(12, .iconst (-1), 1, 0, 0, 0, []), (13, .ireturn, 1, 0, 0, 0, [])]
theorem kNet_deliver_12 : okb (mth nNet_deliver) 12 bNet_deliver_12 = true := by decide +kernel
def bNet_deliver_14 : List EN := [(14, .aload_n 0, 1, 0, 0, 0, []), (15, .iconst (-1), 1, 0, 0, 0, []), (16, .putfield 50, 3, 3, 10, 0, []), (19, .aload_n 0, 1, 0, 0, 0, []), (20, .iload_n 1, 1, 0, 0, 0, []), (21, .invokevirtual 187, 3, nNet_take, 2, 4, [])]
theorem kNet_deliver_14 : okb (mth nNet_deliver) 14 bNet_deliver_14 = true := by decide +kernel
def bNet_deliver_24 : List EN := [(24, .aload_n 0, 1, 0, 0, 0, []), (25, .getfield 11, 3, 3, 0, 3, []), (28, .aload_n 0, 1, 0, 0, 0, []), (29, .getfield 24, 3, 3, 2, 3, []), (32, .getfield 148, 3, 2, 2, 0, []), (35, .aaload, 1, 0, 0, 0, []), (36, .astore_n 2, 1, 0, 0, 0, []), (37, .aload_n 0, 1, 0, 0, 0, []), (38, .getfield 24, 3, 3, 2, 3, []), (41, .getfield 93, 3, 2, 3, 0, []), (44, .tableswitch 64 0 3 #[32, 40, 48, 56], 32, 108, 0, 0, [76, 84, 92, 100])]
theorem kNet_deliver_24 : okb (mth nNet_deliver) 24 bNet_deliver_24 = true := by decide +kernel
def bNet_deliver_76 : List EN := [(76, .aload_n 0, 1, 0, 0, 0, []), (77, .aload_n 2, 1, 0, 0, 0, []), (78, .invokevirtual 190, 3, nNet_takeRequest, 2, 4, [])]
theorem kNet_deliver_76 : okb (mth nNet_deliver) 76 bNet_deliver_76 = true := by decide +kernel
def bNet_deliver_81 : List EN := [(81, .goto 32, 3, 113, 0, 0, [])]
theorem kNet_deliver_81 : okb (mth nNet_deliver) 81 bNet_deliver_81 = true := by decide +kernel
def bNet_deliver_84 : List EN := [(84, .aload_n 0, 1, 0, 0, 0, []), (85, .aload_n 2, 1, 0, 0, 0, []), (86, .invokevirtual 193, 3, nNet_takePass, 2, 4, [])]
theorem kNet_deliver_84 : okb (mth nNet_deliver) 84 bNet_deliver_84 = true := by decide +kernel
def bNet_deliver_89 : List EN := [(89, .goto 24, 3, 113, 0, 0, [])]
theorem kNet_deliver_89 : okb (mth nNet_deliver) 89 bNet_deliver_89 = true := by decide +kernel
def bNet_deliver_92 : List EN := [(92, .aload_n 0, 1, 0, 0, 0, []), (93, .aload_n 2, 1, 0, 0, 0, []), (94, .invokevirtual 196, 3, nNet_takeDoubt, 2, 4, [])]
theorem kNet_deliver_92 : okb (mth nNet_deliver) 92 bNet_deliver_92 = true := by decide +kernel
def bNet_deliver_97 : List EN := [(97, .goto 16, 3, 113, 0, 0, [])]
theorem kNet_deliver_97 : okb (mth nNet_deliver) 97 bNet_deliver_97 = true := by decide +kernel
def bNet_deliver_100 : List EN := [(100, .aload_n 0, 1, 0, 0, 0, []), (101, .aload_n 2, 1, 0, 0, 0, []), (102, .invokevirtual 199, 3, nNet_takeHave, 2, 4, [])]
theorem kNet_deliver_100 : okb (mth nNet_deliver) 100 bNet_deliver_100 = true := by decide +kernel
def bNet_deliver_105 : List EN := [(105, .goto 8, 3, 113, 0, 0, [])]
theorem kNet_deliver_105 : okb (mth nNet_deliver) 105 bNet_deliver_105 = true := by decide +kernel
def bNet_deliver_108 : List EN := [(108, .aload_n 0, 1, 0, 0, 0, []), (109, .aload_n 2, 1, 0, 0, 0, []), (110, .invokevirtual 202, 3, nNet_takeVote, 2, 4, [])]
theorem kNet_deliver_108 : okb (mth nNet_deliver) 108 bNet_deliver_108 = true := by decide +kernel
def bNet_deliver_113 : List EN := [(113, .aload_n 0, 1, 0, 0, 0, []), (114, .getfield 24, 3, 3, 2, 3, []), (117, .getfield 93, 3, 2, 3, 0, []), (120, .ireturn, 1, 0, 0, 0, [])]
theorem kNet_deliver_113 : okb (mth nNet_deliver) 113 bNet_deliver_113 = true := by decide +kernel
def bNet_takeRequest_0 : List EN := [(0, .aload_n 1, 1, 0, 0, 0, []), (1, .getfield 127, 3, 1, 0, 3, []), (4, .aload_n 0, 1, 0, 0, 0, []), (5, .getfield 24, 3, 3, 2, 3, []), (8, .getfield 145, 3, 2, 1, 0, []), (11, .aload_n 1, 1, 0, 0, 0, []), (12, .getfield 127, 3, 1, 0, 3, []), (15, .aload_n 0, 1, 0, 0, 0, []), (16, .getfield 24, 3, 3, 2, 3, []), (19, .getfield 145, 3, 2, 1, 0, []), (22, .iaload, 1, 0, 0, 0, []), (23, .aload_n 0, 1, 0, 0, 0, []), (24, .getfield 24, 3, 3, 2, 3, []), (27, .getfield 205, 3, 2, 4, 0, []), (30, .invokestatic 88, 3, nMath_max, 2, 0, [20]), (33, .iastore, 1, 0, 0, 0, []), (34, .aload_n 1, 1, 0, 0, 0, []), (35, .getfield 105, 3, 1, 1, 3, []), (38, .aload_n 0, 1, 0, 0, 0, []), (39, .getfield 24, 3, 3, 2, 3, []), (42, .getfield 145, 3, 2, 1, 0, []), (45, .aload_n 0, 1, 0, 0, 0, []), (46, .getfield 24, 3, 3, 2, 3, []), (49, .getfield 208, 3, 2, 5, 0, []), (52, .iastore, 1, 0, 0, 0, []), (53, .aload_n 1, 1, 0, 0, 0, []), (54, .getfield 54, 3, 1, 12, 1, []), (57, .ifCond .eq 22, 3, 79, 0, 0, [])]
theorem kNet_takeRequest_0 : okb (mth nNet_takeRequest) 0 bNet_takeRequest_0 = true := by decide +kernel
def bNet_takeRequest_60 : List EN := [(60, .aload_n 1, 1, 0, 0, 0, []), (61, .getfield 118, 3, 1, 11, 1, []), (64, .ifCond .ne 15, 3, 79, 0, 0, [])]
theorem kNet_takeRequest_60 : okb (mth nNet_takeRequest) 60 bNet_takeRequest_60 = true := by decide +kernel
def bNet_takeRequest_67 : List EN := [(67, .aload_n 0, 1, 0, 0, 0, []), (68, .aload_n 0, 1, 0, 0, 0, []), (69, .getfield 24, 3, 3, 2, 3, []), (72, .getfield 148, 3, 2, 2, 0, []), (75, .invokevirtual 174, 3, nNet_handOn, 2, 4, [])]
theorem kNet_takeRequest_67 : okb (mth nNet_takeRequest) 67 bNet_takeRequest_67 = true := by decide +kernel
def bNet_takeRequest_78 : List EN := [(78, .pop, 1, 0, 0, 0, [])]
theorem kNet_takeRequest_78 : okb (mth nNet_takeRequest) 78 bNet_takeRequest_78 = true := by decide +kernel
def bNet_takeRequest_79 : List EN := [(79, .return_, 1, 0, 0, 0, [])]
theorem kNet_takeRequest_79 : okb (mth nNet_takeRequest) 79 bNet_takeRequest_79 = true := by decide +kernel
def bNet_takePass_0 : List EN := [(0, .aload_n 0, 1, 0, 0, 0, []), (1, .getfield 24, 3, 3, 2, 3, []), (4, .getfield 96, 3, 2, 0, 3, []), (7, .getfield 62, 3, 4, 3, 0, []), (10, .aload_n 1, 1, 0, 0, 0, []), (11, .getfield 85, 3, 1, 7, 0, []), (14, .if_icmp .ge 14, 3, 28, 0, 0, [])]
theorem kNet_takePass_0 : okb (mth nNet_takePass) 0 bNet_takePass_0 = true := by decide +kernel
def bNet_takePass_17 : List EN := [(17, .aload_n 0, 1, 0, 0, 0, []), (18, .dup, 1, 0, 0, 0, []), (19, .getfield 35, 3, 3, 5, 0, []), (22, .iconst 1, 1, 0, 0, 0, []), (23, .iadd, 1, 0, 0, 0, []), (24, .putfield 35, 3, 3, 5, 0, []), (27, .return_, 1, 0, 0, 0, [])]
theorem kNet_takePass_17 : okb (mth nNet_takePass) 17 bNet_takePass_17 = true := by decide +kernel
def bNet_takePass_28 : List EN := [(28, .aload_n 1, 1, 0, 0, 0, []), (29, .getfield 54, 3, 1, 12, 1, []), (32, .ifCond .eq 13, 3, 45, 0, 0, [])]
theorem kNet_takePass_28 : okb (mth nNet_takePass) 28 bNet_takePass_28 = true := by decide +kernel
def bNet_takePass_35 : List EN := [(35, .aload_n 0, 1, 0, 0, 0, []), (36, .dup, 1, 0, 0, 0, []), (37, .getfield 35, 3, 3, 5, 0, []), (40, .iconst 1, 1, 0, 0, 0, []), (41, .iadd, 1, 0, 0, 0, []), (42, .putfield 35, 3, 3, 5, 0, [])]
theorem kNet_takePass_35 : okb (mth nNet_takePass) 35 bNet_takePass_35 = true := by decide +kernel
def bNet_takePass_45 : List EN := [(45, .aload_n 1, 1, 0, 0, 0, []), (46, .iconst 1, 1, 0, 0, 0, []), (47, .putfield 54, 3, 1, 12, 1, []), (50, .aload_n 1, 1, 0, 0, 0, []), (51, .getfield 58, 3, 1, 4, 3, []), (54, .aload_n 0, 1, 0, 0, 0, []), (55, .getfield 24, 3, 3, 2, 3, []), (58, .getfield 96, 3, 2, 0, 3, []), (61, .invokevirtual 211, 3, nPass_copyFrom, 2, 5, [])]
theorem kNet_takePass_45 : okb (mth nNet_takePass) 45 bNet_takePass_45 = true := by decide +kernel
def bNet_takePass_64 : List EN := [(64, .aload_n 1, 1, 0, 0, 0, []), (65, .aload_n 0, 1, 0, 0, 0, []), (66, .getfield 24, 3, 3, 2, 3, []), (69, .getfield 96, 3, 2, 0, 3, []), (72, .getfield 62, 3, 4, 3, 0, []), (75, .putfield 85, 3, 1, 7, 0, []), (78, .aload_n 1, 1, 0, 0, 0, []), (79, .iconst 0, 1, 0, 0, 0, []), (80, .invokevirtual 177, 3, nMemb_collectFor, 2, 2, [])]
theorem kNet_takePass_64 : okb (mth nNet_takePass) 64 bNet_takePass_64 = true := by decide +kernel
def bNet_takePass_83 : List EN := [(83, .aload_n 1, 1, 0, 0, 0, []), (84, .getfield 58, 3, 1, 4, 3, []), (87, .getfield 136, 3, 4, 0, 3, []), (90, .aload_n 0, 1, 0, 0, 0, []), (91, .getfield 24, 3, 3, 2, 3, []), (94, .getfield 148, 3, 2, 2, 0, []), (97, .aload_n 1, 1, 0, 0, 0, []), (98, .getfield 58, 3, 1, 4, 3, []), (101, .getfield 136, 3, 4, 0, 3, []), (104, .aload_n 0, 1, 0, 0, 0, []), (105, .getfield 24, 3, 3, 2, 3, []), (108, .getfield 148, 3, 2, 2, 0, []), (111, .iaload, 1, 0, 0, 0, []), (112, .aload_n 1, 1, 0, 0, 0, []), (113, .getfield 112, 3, 1, 6, 0, []), (116, .invokestatic 88, 3, nMath_max, 2, 0, [20]), (119, .iastore, 1, 0, 0, 0, []), (120, .aload_n 1, 1, 0, 0, 0, []), (121, .invokevirtual 214, 3, nMemb_writeRow, 1, 2, [])]
theorem kNet_takePass_83 : okb (mth nNet_takePass) 83 bNet_takePass_83 = true := by decide +kernel
def bNet_takePass_124 : List EN := [(124, .aload_n 1, 1, 0, 0, 0, []), (125, .getfield 115, 3, 1, 10, 1, []), (128, .ifCond .eq 17, 3, 145, 0, 0, [])]
theorem kNet_takePass_124 : okb (mth nNet_takePass) 124 bNet_takePass_124 = true := by decide +kernel
def bNet_takePass_131 : List EN := [(131, .aload_n 0, 1, 0, 0, 0, []), (132, .aload_n 0, 1, 0, 0, 0, []), (133, .getfield 24, 3, 3, 2, 3, []), (136, .getfield 148, 3, 2, 2, 0, []), (139, .invokevirtual 217, 3, nNet_comeIn, 2, 4, [])]
theorem kNet_takePass_131 : okb (mth nNet_takePass) 131 bNet_takePass_131 = true := by decide +kernel
def bNet_takePass_142 : List EN := [(142, .goto 22, 3, 164, 0, 0, [])]
theorem kNet_takePass_142 : okb (mth nNet_takePass) 142 bNet_takePass_142 = true := by decide +kernel
def bNet_takePass_145 : List EN := [(145, .aload_n 1, 1, 0, 0, 0, []), (146, .getfield 118, 3, 1, 11, 1, []), (149, .ifCond .ne 15, 3, 164, 0, 0, [])]
theorem kNet_takePass_145 : okb (mth nNet_takePass) 145 bNet_takePass_145 = true := by decide +kernel
def bNet_takePass_152 : List EN := [(152, .aload_n 0, 1, 0, 0, 0, []), (153, .aload_n 0, 1, 0, 0, 0, []), (154, .getfield 24, 3, 3, 2, 3, []), (157, .getfield 148, 3, 2, 2, 0, []), (160, .invokevirtual 174, 3, nNet_handOn, 2, 4, [])]
theorem kNet_takePass_152 : okb (mth nNet_takePass) 152 bNet_takePass_152 = true := by decide +kernel
def bNet_takePass_163 : List EN := [(163, .pop, 1, 0, 0, 0, [])]
theorem kNet_takePass_163 : okb (mth nNet_takePass) 163 bNet_takePass_163 = true := by decide +kernel
def bNet_takePass_164 : List EN := [(164, .return_, 1, 0, 0, 0, [])]
theorem kNet_takePass_164 : okb (mth nNet_takePass) 164 bNet_takePass_164 = true := by decide +kernel
def bNet_takeDoubt_0 : List EN := [(0, .aload_n 0, 1, 0, 0, 0, []), (1, .getfield 24, 3, 3, 2, 3, []), (4, .getfield 205, 3, 2, 4, 0, []), (7, .istore_n 2, 1, 0, 0, 0, []), (8, .aload_n 1, 1, 0, 0, 0, []), (9, .getfield 54, 3, 1, 12, 1, []), (12, .ifCond .eq 70, 3, 82, 0, 0, [])]
theorem kNet_takeDoubt_0 : okb (mth nNet_takeDoubt) 0 bNet_takeDoubt_0 = true := by decide +kernel
def bNet_takeDoubt_15 : List EN := [(15, .aload_n 1, 1, 0, 0, 0, []), (16, .getfield 58, 3, 1, 4, 3, []), (19, .getfield 62, 3, 4, 3, 0, []), (22, .iload_n 2, 1, 0, 0, 0, []), (23, .iconst 1, 1, 0, 0, 0, []), (24, .isub, 1, 0, 0, 0, []), (25, .if_icmp .lt 57, 3, 82, 0, 0, [])]
theorem kNet_takeDoubt_15 : okb (mth nNet_takeDoubt) 15 bNet_takeDoubt_15 = true := by decide +kernel
def bNet_takeDoubt_28 : List EN := [(28, .aload_n 1, 1, 0, 0, 0, []), (29, .getfield 58, 3, 1, 4, 3, []), (32, .aload_n 1, 1, 0, 0, 0, []), (33, .getfield 58, 3, 1, 4, 3, []), (36, .getfield 62, 3, 4, 3, 0, []), (39, .iload_n 2, 1, 0, 0, 0, []), (40, .invokestatic 88, 3, nMath_max, 2, 0, [20]), (43, .putfield 62, 3, 4, 3, 0, []), (46, .aload_n 1, 1, 0, 0, 0, []), (47, .aload_n 1, 1, 0, 0, 0, []), (48, .getfield 85, 3, 1, 7, 0, []), (51, .iload_n 2, 1, 0, 0, 0, []), (52, .invokestatic 88, 3, nMath_max, 2, 0, [20]), (55, .putfield 85, 3, 1, 7, 0, []), (58, .aload_n 0, 1, 0, 0, 0, []), (59, .aload_n 0, 1, 0, 0, 0, []), (60, .getfield 24, 3, 3, 2, 3, []), (63, .getfield 148, 3, 2, 2, 0, []), (66, .aload_n 0, 1, 0, 0, 0, []), (67, .getfield 24, 3, 3, 2, 3, []), (70, .getfield 145, 3, 2, 1, 0, []), (73, .iconst 3, 1, 0, 0, 0, []), (74, .iload_n 2, 1, 0, 0, 0, []), (75, .iconst 0, 1, 0, 0, 0, []), (76, .invokevirtual 220, 3, nNet_post, 6, 4, [])]
theorem kNet_takeDoubt_28 : okb (mth nNet_takeDoubt) 28 bNet_takeDoubt_28 = true := by decide +kernel
def bNet_takeDoubt_79 : List EN := [(79, .goto 67, 3, 146, 0, 0, [])]
theorem kNet_takeDoubt_79 : okb (mth nNet_takeDoubt) 79 bNet_takeDoubt_79 = true := by decide +kernel
def bNet_takeDoubt_82 : List EN := [(82, .aload_n 1, 1, 0, 0, 0, []), (83, .getfield 85, 3, 1, 7, 0, []), (86, .iload_n 2, 1, 0, 0, 0, []), (87, .if_icmp .ge 59, 3, 146, 0, 0, [])]
theorem kNet_takeDoubt_82 : okb (mth nNet_takeDoubt) 82 bNet_takeDoubt_82 = true := by decide +kernel
def bNet_takeDoubt_90 : List EN := [(90, .aload_n 1, 1, 0, 0, 0, []), (91, .iload_n 2, 1, 0, 0, 0, []), (92, .putfield 85, 3, 1, 7, 0, []), (95, .aload_n 1, 1, 0, 0, 0, []), (96, .getfield 54, 3, 1, 12, 1, []), (99, .ifCond .eq 18, 3, 117, 0, 0, [])]
theorem kNet_takeDoubt_90 : okb (mth nNet_takeDoubt) 90 bNet_takeDoubt_90 = true := by decide +kernel
def bNet_takeDoubt_102 : List EN := [(102, .aload_n 1, 1, 0, 0, 0, []), (103, .iconst 0, 1, 0, 0, 0, []), (104, .putfield 54, 3, 1, 12, 1, []), (107, .aload_n 0, 1, 0, 0, 0, []), (108, .dup, 1, 0, 0, 0, []), (109, .getfield 35, 3, 3, 5, 0, []), (112, .iconst 1, 1, 0, 0, 0, []), (113, .iadd, 1, 0, 0, 0, []), (114, .putfield 35, 3, 3, 5, 0, [])]
theorem kNet_takeDoubt_102 : okb (mth nNet_takeDoubt) 102 bNet_takeDoubt_102 = true := by decide +kernel
def bNet_takeDoubt_117 : List EN := [(117, .aload_n 1, 1, 0, 0, 0, []), (118, .iconst 0, 1, 0, 0, 0, []), (119, .invokevirtual 177, 3, nMemb_collectFor, 2, 2, [])]
theorem kNet_takeDoubt_117 : okb (mth nNet_takeDoubt) 117 bNet_takeDoubt_117 = true := by decide +kernel
def bNet_takeDoubt_122 : List EN := [(122, .aload_n 0, 1, 0, 0, 0, []), (123, .aload_n 0, 1, 0, 0, 0, []), (124, .getfield 24, 3, 3, 2, 3, []), (127, .getfield 148, 3, 2, 2, 0, []), (130, .aload_n 0, 1, 0, 0, 0, []), (131, .getfield 24, 3, 3, 2, 3, []), (134, .getfield 145, 3, 2, 1, 0, []), (137, .iconst 4, 1, 0, 0, 0, []), (138, .iload_n 2, 1, 0, 0, 0, []), (139, .aload_n 1, 1, 0, 0, 0, []), (140, .getfield 112, 3, 1, 6, 0, []), (143, .invokevirtual 220, 3, nNet_post, 6, 4, [])]
theorem kNet_takeDoubt_122 : okb (mth nNet_takeDoubt) 122 bNet_takeDoubt_122 = true := by decide +kernel
def bNet_takeDoubt_146 : List EN := [(146, .return_, 1, 0, 0, 0, [])]
theorem kNet_takeDoubt_146 : okb (mth nNet_takeDoubt) 146 bNet_takeDoubt_146 = true := by decide +kernel
def bNet_takeHave_0 : List EN := [(0, .aload_n 1, 1, 0, 0, 0, []), (1, .getfield 121, 3, 1, 8, 0, []), (4, .aload_n 0, 1, 0, 0, 0, []), (5, .getfield 24, 3, 3, 2, 3, []), (8, .getfield 205, 3, 2, 4, 0, []), (11, .if_icmp .ne 8, 3, 19, 0, 0, [])]
theorem kNet_takeHave_0 : okb (mth nNet_takeHave) 0 bNet_takeHave_0 = true := by decide +kernel
def bNet_takeHave_14 : List EN := [(14, .aload_n 1, 1, 0, 0, 0, []), (15, .iconst 0, 1, 0, 0, 0, []), (16, .invokevirtual 177, 3, nMemb_collectFor, 2, 2, [])]
theorem kNet_takeHave_14 : okb (mth nNet_takeHave) 14 bNet_takeHave_14 = true := by decide +kernel
def bNet_takeHave_19 : List EN := [(19, .return_, 1, 0, 0, 0, [])]
theorem kNet_takeHave_19 : okb (mth nNet_takeHave) 19 bNet_takeHave_19 = true := by decide +kernel
def bNet_takeVote_0 : List EN := [(0, .aload_n 0, 1, 0, 0, 0, []), (1, .getfield 24, 3, 3, 2, 3, []), (4, .getfield 205, 3, 2, 4, 0, []), (7, .istore_n 2, 1, 0, 0, 0, []), (8, .aload_n 1, 1, 0, 0, 0, []), (9, .getfield 121, 3, 1, 8, 0, []), (12, .iload_n 2, 1, 0, 0, 0, []), (13, .if_icmp .ne 11, 3, 24, 0, 0, [])]
theorem kNet_takeVote_0 : okb (mth nNet_takeVote) 0 bNet_takeVote_0 = true := by decide +kernel
def bNet_takeVote_16 : List EN := [(16, .aload_n 1, 1, 0, 0, 0, []), (17, .getfield 85, 3, 1, 7, 0, []), (20, .iload_n 2, 1, 0, 0, 0, []), (21, .if_icmp .eq 4, 3, 25, 0, 0, [])]
theorem kNet_takeVote_16 : okb (mth nNet_takeVote) 16 bNet_takeVote_16 = true := by decide +kernel
def bNet_takeVote_24 : List EN := [(24, .return_, 1, 0, 0, 0, [])]
theorem kNet_takeVote_24 : okb (mth nNet_takeVote) 24 bNet_takeVote_24 = true := by decide +kernel
def bNet_takeVote_25 : List EN := [(25, .aload_n 1, 1, 0, 0, 0, []), (26, .dup, 1, 0, 0, 0, []), (27, .getfield 124, 3, 1, 9, 0, []), (30, .iconst 1, 1, 0, 0, 0, []), (31, .aload_n 0, 1, 0, 0, 0, []), (32, .getfield 24, 3, 3, 2, 3, []), (35, .getfield 145, 3, 2, 1, 0, []), (38, .ishl, 1, 0, 0, 0, []), (39, .ior, 1, 0, 0, 0, []), (40, .putfield 124, 3, 1, 9, 0, []), (43, .aload_n 1, 1, 0, 0, 0, []), (44, .getfield 224, 3, 1, 3, 3, []), (47, .aload_n 0, 1, 0, 0, 0, []), (48, .getfield 24, 3, 3, 2, 3, []), (51, .getfield 145, 3, 2, 1, 0, []), (54, .aload_n 0, 1, 0, 0, 0, []), (55, .getfield 24, 3, 3, 2, 3, []), (58, .getfield 208, 3, 2, 5, 0, []), (61, .iastore, 1, 0, 0, 0, []), (62, .aload_n 1, 1, 0, 0, 0, []), (63, .getfield 124, 3, 1, 9, 0, []), (66, .invokestatic 227, 3, nInt_bitCount, 1, 0, [])]
theorem kNet_takeVote_25 : okb (mth nNet_takeVote) 25 bNet_takeVote_25 = true := by decide +kernel
def bNet_takeVote_69 : List EN := [(69, .aload_n 0, 1, 0, 0, 0, []), (70, .getfield 28, 3, 3, 3, 0, []), (73, .iconst 1, 1, 0, 0, 0, []), (74, .isub, 1, 0, 0, 0, []), (75, .if_icmp .ge 4, 3, 79, 0, 0, [])]
theorem kNet_takeVote_69 : okb (mth nNet_takeVote) 69 bNet_takeVote_69 = true := by decide +kernel
def bNet_takeVote_78 : List EN := [(78, .return_, 1, 0, 0, 0, [])]
theorem kNet_takeVote_78 : okb (mth nNet_takeVote) 78 bNet_takeVote_78 = true := by decide +kernel
def bNet_takeVote_79 : List EN := [(79, .aload_n 1, 1, 0, 0, 0, []), (80, .getfield 58, 3, 1, 4, 3, []), (83, .iload_n 2, 1, 0, 0, 0, []), (84, .invokevirtual 71, 3, nPass_begin, 2, 5, [])]
theorem kNet_takeVote_79 : okb (mth nNet_takeVote) 79 bNet_takeVote_79 = true := by decide +kernel
def bNet_takeVote_87 : List EN := [(87, .iconst 0, 1, 0, 0, 0, []), (88, .istore_n 3, 1, 0, 0, 0, [])]
theorem kNet_takeVote_87 : okb (mth nNet_takeVote) 87 bNet_takeVote_87 = true := by decide +kernel
def bNet_takeVote_89 : List EN := [(89, .iload_n 3, 1, 0, 0, 0, []), (90, .aload_n 0, 1, 0, 0, 0, []), (91, .getfield 28, 3, 3, 3, 0, []), (94, .if_icmp .ge 42, 3, 136, 0, 0, [])]
theorem kNet_takeVote_89 : okb (mth nNet_takeVote) 89 bNet_takeVote_89 = true := by decide +kernel
def bNet_takeVote_97 : List EN := [(97, .aload_n 1, 1, 0, 0, 0, []), (98, .getfield 58, 3, 1, 4, 3, []), (101, .getfield 136, 3, 4, 0, 3, []), (104, .iload_n 3, 1, 0, 0, 0, []), (105, .iload_n 3, 1, 0, 0, 0, []), (106, .aload_n 0, 1, 0, 0, 0, []), (107, .getfield 24, 3, 3, 2, 3, []), (110, .getfield 148, 3, 2, 2, 0, []), (113, .if_icmp .ne 10, 3, 123, 0, 0, [])]
theorem kNet_takeVote_97 : okb (mth nNet_takeVote) 97 bNet_takeVote_97 = true := by decide +kernel
def bNet_takeVote_116 : List EN := [(116, .aload_n 1, 1, 0, 0, 0, []), (117, .getfield 112, 3, 1, 6, 0, []), (120, .goto 9, 3, 129, 0, 0, [])]
theorem kNet_takeVote_116 : okb (mth nNet_takeVote) 116 bNet_takeVote_116 = true := by decide +kernel
def bNet_takeVote_123 : List EN := [(123, .aload_n 1, 1, 0, 0, 0, []), (124, .getfield 224, 3, 1, 3, 3, []), (127, .iload_n 3, 1, 0, 0, 0, []), (128, .iaload, 1, 0, 0, 0, [])]
theorem kNet_takeVote_123 : okb (mth nNet_takeVote) 123 bNet_takeVote_123 = true := by decide +kernel
def bNet_takeVote_129 : List EN := [(129, .iastore, 1, 0, 0, 0, []), (130, .iinc 3 1, 3, 0, 0, 0, []), (133, .goto (-44), 3, 89, 0, 0, [])]
theorem kNet_takeVote_129 : okb (mth nNet_takeVote) 129 bNet_takeVote_129 = true := by decide +kernel
def bNet_takeVote_136 : List EN := [(136, .aload_n 1, 1, 0, 0, 0, []), (137, .iconst 1, 1, 0, 0, 0, []), (138, .putfield 54, 3, 1, 12, 1, []), (141, .aload_n 1, 1, 0, 0, 0, []), (142, .invokevirtual 214, 3, nMemb_writeRow, 1, 2, [])]
theorem kNet_takeVote_136 : okb (mth nNet_takeVote) 136 bNet_takeVote_136 = true := by decide +kernel
def bNet_takeVote_145 : List EN := [(145, .aload_n 1, 1, 0, 0, 0, []), (146, .iconst 0, 1, 0, 0, 0, []), (147, .invokevirtual 177, 3, nMemb_collectFor, 2, 2, [])]
theorem kNet_takeVote_145 : okb (mth nNet_takeVote) 145 bNet_takeVote_145 = true := by decide +kernel
def bNet_takeVote_150 : List EN := [(150, .aload_n 0, 1, 0, 0, 0, []), (151, .dup, 1, 0, 0, 0, []), (152, .getfield 38, 3, 3, 6, 0, []), (155, .iconst 1, 1, 0, 0, 0, []), (156, .iadd, 1, 0, 0, 0, []), (157, .putfield 38, 3, 3, 6, 0, []), (160, .aload_n 0, 1, 0, 0, 0, []), (161, .aload_n 0, 1, 0, 0, 0, []), (162, .getfield 24, 3, 3, 2, 3, []), (165, .getfield 148, 3, 2, 2, 0, []), (168, .invokevirtual 217, 3, nNet_comeIn, 2, 4, [])]
theorem kNet_takeVote_150 : okb (mth nNet_takeVote) 150 bNet_takeVote_150 = true := by decide +kernel
def bNet_takeVote_171 : List EN := [(171, .return_, 1, 0, 0, 0, [])]
theorem kNet_takeVote_171 : okb (mth nNet_takeVote) 171 bNet_takeVote_171 = true := by decide +kernel
def bNet_comeIn_0 : List EN := [(0, .aload_n 0, 1, 0, 0, 0, []), (1, .getfield 11, 3, 3, 0, 3, []), (4, .iload_n 1, 1, 0, 0, 0, []), (5, .aaload, 1, 0, 0, 0, []), (6, .iconst 0, 1, 0, 0, 0, []), (7, .putfield 115, 3, 1, 10, 1, []), (10, .aload_n 0, 1, 0, 0, 0, []), (11, .getfield 11, 3, 3, 0, 3, []), (14, .iload_n 1, 1, 0, 0, 0, []), (15, .aaload, 1, 0, 0, 0, []), (16, .iconst 1, 1, 0, 0, 0, []), (17, .putfield 118, 3, 1, 11, 1, []), (20, .aload_n 0, 1, 0, 0, 0, []), (21, .iload_n 1, 1, 0, 0, 0, []), (22, .putfield 50, 3, 3, 10, 0, []), (25, .return_, 1, 0, 0, 0, [])]
theorem kNet_comeIn_0 : okb (mth nNet_comeIn) 0 bNet_comeIn_0 = true := by decide +kernel
def bNet_handOn_0 : List EN := [(0, .aload_n 0, 1, 0, 0, 0, []), (1, .getfield 11, 3, 3, 0, 3, []), (4, .iload_n 1, 1, 0, 0, 0, []), (5, .aaload, 1, 0, 0, 0, []), (6, .astore_n 2, 1, 0, 0, 0, []), (7, .aload_n 2, 1, 0, 0, 0, []), (8, .getfield 58, 3, 1, 4, 3, []), (11, .astore_n 3, 1, 0, 0, 0, []), (12, .aload_n 3, 1, 0, 0, 0, []), (13, .aload_n 3, 1, 0, 0, 0, []), (14, .iload_n 1, 1, 0, 0, 0, []), (15, .invokevirtual 232, 3, nPass_placeInQueue, 2, 5, [])]
theorem kNet_handOn_0 : okb (mth nNet_handOn) 0 bNet_handOn_0 = true := by decide +kernel
def bNet_handOn_18 : List EN := [(18, .invokevirtual 235, 3, nPass_takeOut, 2, 5, [])]
theorem kNet_handOn_18 : okb (mth nNet_handOn) 18 bNet_handOn_18 = true := by decide +kernel
def bNet_handOn_21 : List EN := [(21, .iconst 0, 1, 0, 0, 0, []), (22, .istore 4, 2, 0, 0, 0, [])]
theorem kNet_handOn_21 : okb (mth nNet_handOn) 21 bNet_handOn_21 = true := by decide +kernel
def bNet_handOn_24 : List EN := [(24, .iload 4, 2, 0, 0, 0, []), (26, .aload_n 0, 1, 0, 0, 0, []), (27, .getfield 28, 3, 3, 3, 0, []), (30, .if_icmp .ge 48, 3, 78, 0, 0, [])]
theorem kNet_handOn_24 : okb (mth nNet_handOn) 24 bNet_handOn_24 = true := by decide +kernel
def bNet_handOn_33 : List EN := [(33, .iload 4, 2, 0, 0, 0, []), (35, .iload_n 1, 1, 0, 0, 0, []), (36, .if_icmp .eq 36, 3, 72, 0, 0, [])]
theorem kNet_handOn_33 : okb (mth nNet_handOn) 33 bNet_handOn_33 = true := by decide +kernel
def bNet_handOn_39 : List EN := [(39, .aload_n 2, 1, 0, 0, 0, []), (40, .getfield 127, 3, 1, 0, 3, []), (43, .iload 4, 2, 0, 0, 0, []), (45, .iaload, 1, 0, 0, 0, []), (46, .aload_n 3, 1, 0, 0, 0, []), (47, .getfield 136, 3, 4, 0, 3, []), (50, .iload 4, 2, 0, 0, 0, []), (52, .iaload, 1, 0, 0, 0, []), (53, .if_icmp .le 19, 3, 72, 0, 0, [])]
theorem kNet_handOn_39 : okb (mth nNet_handOn) 39 bNet_handOn_39 = true := by decide +kernel
def bNet_handOn_56 : List EN := [(56, .aload_n 3, 1, 0, 0, 0, []), (57, .iload 4, 2, 0, 0, 0, []), (59, .invokevirtual 232, 3, nPass_placeInQueue, 2, 5, [])]
theorem kNet_handOn_56 : okb (mth nNet_handOn) 56 bNet_handOn_56 = true := by decide +kernel
def bNet_handOn_62 : List EN := [(62, .iconst (-1), 1, 0, 0, 0, []), (63, .if_icmp .ne 9, 3, 72, 0, 0, [])]
theorem kNet_handOn_62 : okb (mth nNet_handOn) 62 bNet_handOn_62 = true := by decide +kernel
def bNet_handOn_66 : List EN := [(66, .aload_n 3, 1, 0, 0, 0, []), (67, .iload 4, 2, 0, 0, 0, []), (69, .invokevirtual 238, 3, nPass_putBehind, 2, 5, [])]
theorem kNet_handOn_66 : okb (mth nNet_handOn) 66 bNet_handOn_66 = true := by decide +kernel
def bNet_handOn_72 : List EN := [(72, .iinc 4 1, 3, 0, 0, 0, []), (75, .goto (-51), 3, 24, 0, 0, [])]
theorem kNet_handOn_72 : okb (mth nNet_handOn) 72 bNet_handOn_72 = true := by decide +kernel
def bNet_handOn_78 : List EN := [(78, .aload_n 3, 1, 0, 0, 0, []), (79, .aload_n 2, 1, 0, 0, 0, []), (80, .getfield 105, 3, 1, 1, 3, []), (83, .invokevirtual 241, 3, nPass_placeOfNext, 2, 5, [])]
theorem kNet_handOn_78 : okb (mth nNet_handOn) 78 bNet_handOn_78 = true := by decide +kernel
def bNet_handOn_86 : List EN := [(86, .istore 4, 2, 0, 0, 0, []), (88, .iload 4, 2, 0, 0, 0, []), (90, .iconst (-1), 1, 0, 0, 0, []), (91, .if_icmp .ne 5, 3, 96, 0, 0, [])]
theorem kNet_handOn_86 : okb (mth nNet_handOn) 86 bNet_handOn_86 = true := by decide +kernel
def bNet_handOn_94 : List EN := [(94, .iload_n 1, 1, 0, 0, 0, []), (95, .ireturn, 1, 0, 0, 0, [])]
theorem kNet_handOn_94 : okb (mth nNet_handOn) 94 bNet_handOn_94 = true := by decide +kernel
def bNet_handOn_96 : List EN := [(96, .aload_n 3, 1, 0, 0, 0, []), (97, .getfield 139, 3, 4, 1, 3, []), (100, .iload 4, 2, 0, 0, 0, []), (102, .iaload, 1, 0, 0, 0, []), (103, .istore 5, 2, 0, 0, 0, []), (105, .aload_n 3, 1, 0, 0, 0, []), (106, .iload 4, 2, 0, 0, 0, []), (108, .invokevirtual 235, 3, nPass_takeOut, 2, 5, [])]
theorem kNet_handOn_96 : okb (mth nNet_handOn) 96 bNet_handOn_96 = true := by decide +kernel
def bNet_handOn_111 : List EN := [(111, .aload_n 3, 1, 0, 0, 0, []), (112, .invokevirtual 245, 3, nPass_waitOnce, 1, 5, [])]
theorem kNet_handOn_111 : okb (mth nNet_handOn) 111 bNet_handOn_111 = true := by decide +kernel
def bNet_handOn_115 : List EN := [(115, .aload_n 2, 1, 0, 0, 0, []), (116, .invokevirtual 214, 3, nMemb_writeRow, 1, 2, [])]
theorem kNet_handOn_115 : okb (mth nNet_handOn) 115 bNet_handOn_115 = true := by decide +kernel
def bNet_handOn_119 : List EN := [(119, .aload_n 2, 1, 0, 0, 0, []), (120, .iconst 0, 1, 0, 0, 0, []), (121, .putfield 54, 3, 1, 12, 1, []), (124, .aload_n 0, 1, 0, 0, 0, []), (125, .dup, 1, 0, 0, 0, []), (126, .getfield 47, 3, 3, 9, 0, []), (129, .iconst 1, 1, 0, 0, 0, []), (130, .iadd, 1, 0, 0, 0, []), (131, .putfield 47, 3, 3, 9, 0, []), (134, .aload_n 0, 1, 0, 0, 0, []), (135, .getfield 32, 3, 3, 4, 0, []), (138, .bipush 46, 2, 0, 0, 0, []), (140, .if_icmp .ge 19, 3, 159, 0, 0, [])]
theorem kNet_handOn_119 : okb (mth nNet_handOn) 119 bNet_handOn_119 = true := by decide +kernel
def bNet_handOn_143 : List EN := [(143, .aload_n 0, 1, 0, 0, 0, []), (144, .getfield 19, 3, 3, 1, 3, []), (147, .aload_n 0, 1, 0, 0, 0, []), (148, .getfield 32, 3, 3, 4, 0, []), (151, .aaload, 1, 0, 0, 0, []), (152, .getfield 96, 3, 2, 0, 3, []), (155, .aload_n 3, 1, 0, 0, 0, []), (156, .invokevirtual 211, 3, nPass_copyFrom, 2, 5, [])]
theorem kNet_handOn_143 : okb (mth nNet_handOn) 143 bNet_handOn_143 = true := by decide +kernel
def bNet_handOn_159 : List EN := [(159, .aload_n 0, 1, 0, 0, 0, []), (160, .iload_n 1, 1, 0, 0, 0, []), (161, .iload 5, 2, 0, 0, 0, []), (163, .iconst 1, 1, 0, 0, 0, []), (164, .aload_n 3, 1, 0, 0, 0, []), (165, .getfield 62, 3, 4, 3, 0, []), (168, .aload_n 3, 1, 0, 0, 0, []), (169, .getfield 133, 3, 4, 4, 0, []), (172, .invokevirtual 220, 3, nNet_post, 6, 4, [])]
theorem kNet_handOn_159 : okb (mth nNet_handOn) 159 bNet_handOn_159 = true := by decide +kernel
def bNet_handOn_175 : List EN := [(175, .iload 5, 2, 0, 0, 0, []), (177, .ireturn, 1, 0, 0, 0, [])]
theorem kNet_handOn_175 : okb (mth nNet_handOn) 175 bNet_handOn_175 = true := by decide +kernel
def bNet_postToOthers_0 : List EN := [(0, .iconst 0, 1, 0, 0, 0, []), (1, .istore 5, 2, 0, 0, 0, [])]
theorem kNet_postToOthers_0 : okb (mth nNet_postToOthers) 0 bNet_postToOthers_0 = true := by decide +kernel
def bNet_postToOthers_3 : List EN := [(3, .iload 5, 2, 0, 0, 0, []), (5, .aload_n 0, 1, 0, 0, 0, []), (6, .getfield 28, 3, 3, 3, 0, []), (9, .if_icmp .ge 26, 3, 35, 0, 0, [])]
theorem kNet_postToOthers_3 : okb (mth nNet_postToOthers) 3 bNet_postToOthers_3 = true := by decide +kernel
def bNet_postToOthers_12 : List EN := [(12, .iload 5, 2, 0, 0, 0, []), (14, .iload_n 1, 1, 0, 0, 0, []), (15, .if_icmp .eq 14, 3, 29, 0, 0, [])]
theorem kNet_postToOthers_12 : okb (mth nNet_postToOthers) 12 bNet_postToOthers_12 = true := by decide +kernel
def bNet_postToOthers_18 : List EN := [(18, .aload_n 0, 1, 0, 0, 0, []), (19, .iload_n 1, 1, 0, 0, 0, []), (20, .iload 5, 2, 0, 0, 0, []), (22, .iload_n 2, 1, 0, 0, 0, []), (23, .iload_n 3, 1, 0, 0, 0, []), (24, .iload 4, 2, 0, 0, 0, []), (26, .invokevirtual 220, 3, nNet_post, 6, 4, [])]
theorem kNet_postToOthers_18 : okb (mth nNet_postToOthers) 18 bNet_postToOthers_18 = true := by decide +kernel
def bNet_postToOthers_29 : List EN := [(29, .iinc 5 1, 3, 0, 0, 0, []), (32, .goto (-29), 3, 3, 0, 0, [])]
theorem kNet_postToOthers_29 : okb (mth nNet_postToOthers) 29 bNet_postToOthers_29 = true := by decide +kernel
def bNet_postToOthers_35 : List EN := [(35, .return_, 1, 0, 0, 0, [])]
theorem kNet_postToOthers_35 : okb (mth nNet_postToOthers) 35 bNet_postToOthers_35 = true := by decide +kernel
def bNet_post_0 : List EN := [(0, .aload_n 0, 1, 0, 0, 0, []), (1, .getfield 32, 3, 3, 4, 0, []), (4, .bipush 46, 2, 0, 0, 0, []), (6, .if_icmp .lt 4, 3, 10, 0, 0, [])]
theorem kNet_post_0 : okb (mth nNet_post) 0 bNet_post_0 = true := by decide +kernel
def bNet_post_9 : List EN := [(9, .return_, 1, 0, 0, 0, [])]
theorem kNet_post_9 : okb (mth nNet_post) 9 bNet_post_9 = true := by decide +kernel
def bNet_post_10 : List EN := [(10, .aload_n 0, 1, 0, 0, 0, []), (11, .getfield 19, 3, 3, 1, 3, []), (14, .aload_n 0, 1, 0, 0, 0, []), (15, .getfield 32, 3, 3, 4, 0, []), (18, .aaload, 1, 0, 0, 0, []), (19, .astore 6, 2, 0, 0, 0, []), (21, .aload 6, 2, 0, 0, 0, []), (23, .iload_n 1, 1, 0, 0, 0, []), (24, .putfield 145, 3, 2, 1, 0, []), (27, .aload 6, 2, 0, 0, 0, []), (29, .iload_n 2, 1, 0, 0, 0, []), (30, .putfield 148, 3, 2, 2, 0, []), (33, .aload 6, 2, 0, 0, 0, []), (35, .iload_n 3, 1, 0, 0, 0, []), (36, .putfield 93, 3, 2, 3, 0, []), (39, .aload 6, 2, 0, 0, 0, []), (41, .iload 4, 2, 0, 0, 0, []), (43, .putfield 205, 3, 2, 4, 0, []), (46, .aload 6, 2, 0, 0, 0, []), (48, .iload 5, 2, 0, 0, 0, []), (50, .putfield 208, 3, 2, 5, 0, []), (53, .aload_n 0, 1, 0, 0, 0, []), (54, .dup, 1, 0, 0, 0, []), (55, .getfield 32, 3, 3, 4, 0, []), (58, .iconst 1, 1, 0, 0, 0, []), (59, .iadd, 1, 0, 0, 0, []), (60, .putfield 32, 3, 3, 4, 0, []), (63, .return_, 1, 0, 0, 0, [])]
theorem kNet_post_10 : okb (mth nNet_post) 10 bNet_post_10 = true := by decide +kernel
def bNet_take_0 : List EN := [(0, .aload_n 0, 1, 0, 0, 0, []), (1, .getfield 24, 3, 3, 2, 3, []), (4, .astore_n 2, 1, 0, 0, 0, []), (5, .aload_n 0, 1, 0, 0, 0, []), (6, .aload_n 0, 1, 0, 0, 0, []), (7, .getfield 19, 3, 3, 1, 3, []), (10, .iload_n 1, 1, 0, 0, 0, []), (11, .aaload, 1, 0, 0, 0, []), (12, .putfield 24, 3, 3, 2, 3, []), (15, .aload_n 0, 1, 0, 0, 0, []), (16, .dup, 1, 0, 0, 0, []), (17, .getfield 32, 3, 3, 4, 0, []), (20, .iconst 1, 1, 0, 0, 0, []), (21, .isub, 1, 0, 0, 0, []), (22, .putfield 32, 3, 3, 4, 0, []), (25, .iload_n 1, 1, 0, 0, 0, []), (26, .istore_n 3, 1, 0, 0, 0, [])]
theorem kNet_take_0 : okb (mth nNet_take) 0 bNet_take_0 = true := by decide +kernel
def bNet_take_27 : List EN := [(27, .iload_n 3, 1, 0, 0, 0, []), (28, .aload_n 0, 1, 0, 0, 0, []), (29, .getfield 32, 3, 3, 4, 0, []), (32, .if_icmp .ge 23, 3, 55, 0, 0, [])]
theorem kNet_take_27 : okb (mth nNet_take) 27 bNet_take_27 = true := by decide +kernel
def bNet_take_35 : List EN := [(35, .aload_n 0, 1, 0, 0, 0, []), (36, .getfield 19, 3, 3, 1, 3, []), (39, .iload_n 3, 1, 0, 0, 0, []), (40, .aload_n 0, 1, 0, 0, 0, []), (41, .getfield 19, 3, 3, 1, 3, []), (44, .iload_n 3, 1, 0, 0, 0, []), (45, .iconst 1, 1, 0, 0, 0, []), (46, .iadd, 1, 0, 0, 0, []), (47, .aaload, 1, 0, 0, 0, []), (48, .aastore, 1, 0, 0, 0, []), (49, .iinc 3 1, 3, 0, 0, 0, []), (52, .goto (-25), 3, 27, 0, 0, [])]
theorem kNet_take_35 : okb (mth nNet_take) 35 bNet_take_35 = true := by decide +kernel
def bNet_take_55 : List EN := [(55, .aload_n 0, 1, 0, 0, 0, []), (56, .getfield 19, 3, 3, 1, 3, []), (59, .aload_n 0, 1, 0, 0, 0, []), (60, .getfield 32, 3, 3, 4, 0, []), (63, .aload_n 2, 1, 0, 0, 0, []), (64, .aastore, 1, 0, 0, 0, []), (65, .return_, 1, 0, 0, 0, [])]
theorem kNet_take_55 : okb (mth nNet_take) 55 bNet_take_55 = true := by decide +kernel
