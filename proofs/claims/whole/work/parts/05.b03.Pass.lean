def bPass_init_0 : List EN := [(0, .aload_n 0, 1, 0, 0, 0, []), (1, .invokespecial 3, 3, 0, 1, -1, []), (4, .aload_n 0, 1, 0, 0, 0, []), (5, .bipush 6, 2, 0, 0, 0, []), (7, .newarray .int, 2, 10, 0, 0, [3, 18]), (9, .putfield 9, 3, 4, 0, 3, []), (12, .aload_n 0, 1, 0, 0, 0, []), (13, .bipush 6, 2, 0, 0, 0, []), (15, .newarray .int, 2, 10, 0, 0, [3, 18]), (17, .putfield 15, 3, 4, 1, 3, []), (20, .aload_n 0, 1, 0, 0, 0, []), (21, .bipush 6, 2, 0, 0, 0, []), (23, .newarray .int, 2, 10, 0, 0, [3, 18]), (25, .putfield 18, 3, 4, 2, 3, []), (28, .aload_n 0, 1, 0, 0, 0, []), (29, .iconst 0, 1, 0, 0, 0, []), (30, .putfield 21, 3, 4, 3, 0, []), (33, .aload_n 0, 1, 0, 0, 0, []), (34, .iconst 0, 1, 0, 0, 0, []), (35, .putfield 25, 3, 4, 4, 0, []), (38, .return_, 1, 0, 0, 0, [])]
theorem kPass_init_0 : okb (mth nPass_init) 0 bPass_init_0 = true := by decide +kernel
def bPass_begin_0 : List EN := [(0, .aload_n 0, 1, 0, 0, 0, []), (1, .iload_n 1, 1, 0, 0, 0, []), (2, .putfield 21, 3, 4, 3, 0, []), (5, .aload_n 0, 1, 0, 0, 0, []), (6, .iconst 0, 1, 0, 0, 0, []), (7, .putfield 25, 3, 4, 4, 0, []), (10, .iconst 0, 1, 0, 0, 0, []), (11, .istore_n 2, 1, 0, 0, 0, [])]
theorem kPass_begin_0 : okb (mth nPass_begin) 0 bPass_begin_0 = true := by decide +kernel
def bPass_begin_12 : List EN := [(12, .iload_n 2, 1, 0, 0, 0, []), (13, .bipush 6, 2, 0, 0, 0, []), (15, .if_icmp .ge 16, 3, 31, 0, 0, [])]
theorem kPass_begin_12 : okb (mth nPass_begin) 12 bPass_begin_12 = true := by decide +kernel
def bPass_begin_18 : List EN := [(18, .aload_n 0, 1, 0, 0, 0, []), (19, .getfield 9, 3, 4, 0, 3, []), (22, .iload_n 2, 1, 0, 0, 0, []), (23, .iconst 0, 1, 0, 0, 0, []), (24, .iastore, 1, 0, 0, 0, []), (25, .iinc 2 1, 3, 0, 0, 0, []), (28, .goto (-16), 3, 12, 0, 0, [])]
theorem kPass_begin_18 : okb (mth nPass_begin) 18 bPass_begin_18 = true := by decide +kernel
def bPass_begin_31 : List EN := [(31, .return_, 1, 0, 0, 0, [])]
theorem kPass_begin_31 : okb (mth nPass_begin) 31 bPass_begin_31 = true := by decide +kernel
def bPass_copyFrom_0 : List EN := [(0, .aload_n 0, 1, 0, 0, 0, []), (1, .aload_n 1, 1, 0, 0, 0, []), (2, .getfield 21, 3, 4, 3, 0, []), (5, .putfield 21, 3, 4, 3, 0, []), (8, .aload_n 0, 1, 0, 0, 0, []), (9, .aload_n 1, 1, 0, 0, 0, []), (10, .getfield 25, 3, 4, 4, 0, []), (13, .putfield 25, 3, 4, 4, 0, []), (16, .iconst 0, 1, 0, 0, 0, []), (17, .istore_n 2, 1, 0, 0, 0, [])]
theorem kPass_copyFrom_0 : okb (mth nPass_copyFrom) 0 bPass_copyFrom_0 = true := by decide +kernel
def bPass_copyFrom_18 : List EN := [(18, .iload_n 2, 1, 0, 0, 0, []), (19, .bipush 6, 2, 0, 0, 0, []), (21, .if_icmp .ge 45, 3, 66, 0, 0, [])]
theorem kPass_copyFrom_18 : okb (mth nPass_copyFrom) 18 bPass_copyFrom_18 = true := by decide +kernel
def bPass_copyFrom_24 : List EN := [(24, .aload_n 0, 1, 0, 0, 0, []), (25, .getfield 9, 3, 4, 0, 3, []), (28, .iload_n 2, 1, 0, 0, 0, []), (29, .aload_n 1, 1, 0, 0, 0, []), (30, .getfield 9, 3, 4, 0, 3, []), (33, .iload_n 2, 1, 0, 0, 0, []), (34, .iaload, 1, 0, 0, 0, []), (35, .iastore, 1, 0, 0, 0, []), (36, .aload_n 0, 1, 0, 0, 0, []), (37, .getfield 15, 3, 4, 1, 3, []), (40, .iload_n 2, 1, 0, 0, 0, []), (41, .aload_n 1, 1, 0, 0, 0, []), (42, .getfield 15, 3, 4, 1, 3, []), (45, .iload_n 2, 1, 0, 0, 0, []), (46, .iaload, 1, 0, 0, 0, []), (47, .iastore, 1, 0, 0, 0, []), (48, .aload_n 0, 1, 0, 0, 0, []), (49, .getfield 18, 3, 4, 2, 3, []), (52, .iload_n 2, 1, 0, 0, 0, []), (53, .aload_n 1, 1, 0, 0, 0, []), (54, .getfield 18, 3, 4, 2, 3, []), (57, .iload_n 2, 1, 0, 0, 0, []), (58, .iaload, 1, 0, 0, 0, []), (59, .iastore, 1, 0, 0, 0, []), (60, .iinc 2 1, 3, 0, 0, 0, []), (63, .goto (-45), 3, 18, 0, 0, [])]
theorem kPass_copyFrom_24 : okb (mth nPass_copyFrom) 24 bPass_copyFrom_24 = true := by decide +kernel
def bPass_copyFrom_66 : List EN := [(66, .return_, 1, 0, 0, 0, [])]
theorem kPass_copyFrom_66 : okb (mth nPass_copyFrom) 66 bPass_copyFrom_66 = true := by decide +kernel
def bPass_placeInQueue_0 : List EN := [(0, .iconst 0, 1, 0, 0, 0, []), (1, .istore_n 2, 1, 0, 0, 0, [])]
theorem kPass_placeInQueue_0 : okb (mth nPass_placeInQueue) 0 bPass_placeInQueue_0 = true := by decide +kernel
def bPass_placeInQueue_2 : List EN := [(2, .iload_n 2, 1, 0, 0, 0, []), (3, .aload_n 0, 1, 0, 0, 0, []), (4, .getfield 25, 3, 4, 4, 0, []), (7, .if_icmp .ge 21, 3, 28, 0, 0, [])]
theorem kPass_placeInQueue_2 : okb (mth nPass_placeInQueue) 2 bPass_placeInQueue_2 = true := by decide +kernel
def bPass_placeInQueue_10 : List EN := [(10, .aload_n 0, 1, 0, 0, 0, []), (11, .getfield 15, 3, 4, 1, 3, []), (14, .iload_n 2, 1, 0, 0, 0, []), (15, .iaload, 1, 0, 0, 0, []), (16, .iload_n 1, 1, 0, 0, 0, []), (17, .if_icmp .ne 5, 3, 22, 0, 0, [])]
theorem kPass_placeInQueue_10 : okb (mth nPass_placeInQueue) 10 bPass_placeInQueue_10 = true := by decide +kernel
def bPass_placeInQueue_20 : List EN := [(20, .iload_n 2, 1, 0, 0, 0, []), (21, .ireturn, 1, 0, 0, 0, [])]
theorem kPass_placeInQueue_20 : okb (mth nPass_placeInQueue) 20 bPass_placeInQueue_20 = true := by decide +kernel
def bPass_placeInQueue_22 : List EN := [(22, .iinc 2 1, 3, 0, 0, 0, []), (25, .goto (-23), 3, 2, 0, 0, [])]
theorem kPass_placeInQueue_22 : okb (mth nPass_placeInQueue) 22 bPass_placeInQueue_22 = true := by decide +kernel
def bPass_placeInQueue_28 : List EN := [(28, .iconst (-1), 1, 0, 0, 0, []), (29, .ireturn, 1, 0, 0, 0, [])]
theorem kPass_placeInQueue_28 : okb (mth nPass_placeInQueue) 28 bPass_placeInQueue_28 = true := by decide +kernel
def bPass_putBehind_0 : List EN := [(0, .aload_n 0, 1, 0, 0, 0, []), (1, .getfield 25, 3, 4, 4, 0, []), (4, .bipush 6, 2, 0, 0, 0, []), (6, .if_icmp .ge 33, 3, 39, 0, 0, [])]
theorem kPass_putBehind_0 : okb (mth nPass_putBehind) 0 bPass_putBehind_0 = true := by decide +kernel
def bPass_putBehind_9 : List EN := [(9, .aload_n 0, 1, 0, 0, 0, []), (10, .getfield 15, 3, 4, 1, 3, []), (13, .aload_n 0, 1, 0, 0, 0, []), (14, .getfield 25, 3, 4, 4, 0, []), (17, .iload_n 1, 1, 0, 0, 0, []), (18, .iastore, 1, 0, 0, 0, []), (19, .aload_n 0, 1, 0, 0, 0, []), (20, .getfield 18, 3, 4, 2, 3, []), (23, .aload_n 0, 1, 0, 0, 0, []), (24, .getfield 25, 3, 4, 4, 0, []), (27, .iconst 0, 1, 0, 0, 0, []), (28, .iastore, 1, 0, 0, 0, []), (29, .aload_n 0, 1, 0, 0, 0, []), (30, .dup, 1, 0, 0, 0, []), (31, .getfield 25, 3, 4, 4, 0, []), (34, .iconst 1, 1, 0, 0, 0, []), (35, .iadd, 1, 0, 0, 0, []), (36, .putfield 25, 3, 4, 4, 0, [])]
theorem kPass_putBehind_9 : okb (mth nPass_putBehind) 9 bPass_putBehind_9 = true := by decide +kernel
def bPass_putBehind_39 : List EN := [(39, .return_, 1, 0, 0, 0, [])]
theorem kPass_putBehind_39 : okb (mth nPass_putBehind) 39 bPass_putBehind_39 = true := by decide +kernel
def bPass_takeOut_0 : List EN := [(0, .iload_n 1, 1, 0, 0, 0, []), (1, .ifCond .lt 11, 3, 12, 0, 0, [])]
theorem kPass_takeOut_0 : okb (mth nPass_takeOut) 0 bPass_takeOut_0 = true := by decide +kernel
def bPass_takeOut_4 : List EN := [(4, .iload_n 1, 1, 0, 0, 0, []), (5, .aload_n 0, 1, 0, 0, 0, []), (6, .getfield 25, 3, 4, 4, 0, []), (9, .if_icmp .lt 4, 3, 13, 0, 0, [])]
theorem kPass_takeOut_4 : okb (mth nPass_takeOut) 4 bPass_takeOut_4 = true := by decide +kernel
def bPass_takeOut_12 : List EN := [(12, .return_, 1, 0, 0, 0, [])]
theorem kPass_takeOut_12 : okb (mth nPass_takeOut) 12 bPass_takeOut_12 = true := by decide +kernel
def bPass_takeOut_13 : List EN := [(13, .aload_n 0, 1, 0, 0, 0, []), (14, .dup, 1, 0, 0, 0, []), (15, .getfield 25, 3, 4, 4, 0, []), (18, .iconst 1, 1, 0, 0, 0, []), (19, .isub, 1, 0, 0, 0, []), (20, .putfield 25, 3, 4, 4, 0, []), (23, .iload_n 1, 1, 0, 0, 0, []), (24, .istore_n 2, 1, 0, 0, 0, [])]
theorem kPass_takeOut_13 : okb (mth nPass_takeOut) 13 bPass_takeOut_13 = true := by decide +kernel
def bPass_takeOut_25 : List EN := [(25, .iload_n 2, 1, 0, 0, 0, []), (26, .aload_n 0, 1, 0, 0, 0, []), (27, .getfield 25, 3, 4, 4, 0, []), (30, .if_icmp .ge 37, 3, 67, 0, 0, [])]
theorem kPass_takeOut_25 : okb (mth nPass_takeOut) 25 bPass_takeOut_25 = true := by decide +kernel
def bPass_takeOut_33 : List EN := [(33, .aload_n 0, 1, 0, 0, 0, []), (34, .getfield 15, 3, 4, 1, 3, []), (37, .iload_n 2, 1, 0, 0, 0, []), (38, .aload_n 0, 1, 0, 0, 0, []), (39, .getfield 15, 3, 4, 1, 3, []), (42, .iload_n 2, 1, 0, 0, 0, []), (43, .iconst 1, 1, 0, 0, 0, []), (44, .iadd, 1, 0, 0, 0, []), (45, .iaload, 1, 0, 0, 0, []), (46, .iastore, 1, 0, 0, 0, []), (47, .aload_n 0, 1, 0, 0, 0, []), (48, .getfield 18, 3, 4, 2, 3, []), (51, .iload_n 2, 1, 0, 0, 0, []), (52, .aload_n 0, 1, 0, 0, 0, []), (53, .getfield 18, 3, 4, 2, 3, []), (56, .iload_n 2, 1, 0, 0, 0, []), (57, .iconst 1, 1, 0, 0, 0, []), (58, .iadd, 1, 0, 0, 0, []), (59, .iaload, 1, 0, 0, 0, []), (60, .iastore, 1, 0, 0, 0, []), (61, .iinc 2 1, 3, 0, 0, 0, []), (64, .goto (-39), 3, 25, 0, 0, [])]
theorem kPass_takeOut_33 : okb (mth nPass_takeOut) 33 bPass_takeOut_33 = true := by decide +kernel
def bPass_takeOut_67 : List EN := [(67, .return_, 1, 0, 0, 0, [])]
theorem kPass_takeOut_67 : okb (mth nPass_takeOut) 67 bPass_takeOut_67 = true := by decide +kernel
def bPass_placeOfNext_0 : List EN := [(0, .iconst (-1), 1, 0, 0, 0, []), (1, .istore_n 2, 1, 0, 0, 0, []), (2, .iconst (-1), 1, 0, 0, 0, []), (3, .istore_n 3, 1, 0, 0, 0, []), (4, .iconst 0, 1, 0, 0, 0, []), (5, .istore 4, 2, 0, 0, 0, [])]
theorem kPass_placeOfNext_0 : okb (mth nPass_placeOfNext) 0 bPass_placeOfNext_0 = true := by decide +kernel
def bPass_placeOfNext_7 : List EN := [(7, .iload 4, 2, 0, 0, 0, []), (9, .aload_n 0, 1, 0, 0, 0, []), (10, .getfield 25, 3, 4, 4, 0, []), (13, .if_icmp .ge 40, 3, 53, 0, 0, [])]
theorem kPass_placeOfNext_7 : okb (mth nPass_placeOfNext) 7 bPass_placeOfNext_7 = true := by decide +kernel
def bPass_placeOfNext_16 : List EN := [(16, .aload_n 1, 1, 0, 0, 0, []), (17, .aload_n 0, 1, 0, 0, 0, []), (18, .getfield 15, 3, 4, 1, 3, []), (21, .iload 4, 2, 0, 0, 0, []), (23, .iaload, 1, 0, 0, 0, []), (24, .iaload, 1, 0, 0, 0, []), (25, .aload_n 0, 1, 0, 0, 0, []), (26, .getfield 18, 3, 4, 2, 3, []), (29, .iload 4, 2, 0, 0, 0, []), (31, .iaload, 1, 0, 0, 0, []), (32, .iadd, 1, 0, 0, 0, []), (33, .istore 5, 2, 0, 0, 0, []), (35, .iload 5, 2, 0, 0, 0, []), (37, .iload_n 3, 1, 0, 0, 0, []), (38, .if_icmp .le 9, 3, 47, 0, 0, [])]
theorem kPass_placeOfNext_16 : okb (mth nPass_placeOfNext) 16 bPass_placeOfNext_16 = true := by decide +kernel
def bPass_placeOfNext_41 : List EN := [(41, .iload 5, 2, 0, 0, 0, []), (43, .istore_n 3, 1, 0, 0, 0, []), (44, .iload 4, 2, 0, 0, 0, []), (46, .istore_n 2, 1, 0, 0, 0, [])]
theorem kPass_placeOfNext_41 : okb (mth nPass_placeOfNext) 41 bPass_placeOfNext_41 = true := by decide +kernel
def bPass_placeOfNext_47 : List EN := [(47, .iinc 4 1, 3, 0, 0, 0, []), (50, .goto (-43), 3, 7, 0, 0, [])]
theorem kPass_placeOfNext_47 : okb (mth nPass_placeOfNext) 47 bPass_placeOfNext_47 = true := by decide +kernel
def bPass_placeOfNext_53 : List EN := [(53, .iload_n 2, 1, 0, 0, 0, []), (54, .ireturn, 1, 0, 0, 0, [])]
theorem kPass_placeOfNext_53 : okb (mth nPass_placeOfNext) 53 bPass_placeOfNext_53 = true := by decide +kernel
def bPass_waitOnce_0 : List EN := [(0, .iconst 0, 1, 0, 0, 0, []), (1, .istore_n 1, 1, 0, 0, 0, [])]
theorem kPass_waitOnce_0 : okb (mth nPass_waitOnce) 0 bPass_waitOnce_0 = true := by decide +kernel
def bPass_waitOnce_2 : List EN := [(2, .iload_n 1, 1, 0, 0, 0, []), (3, .aload_n 0, 1, 0, 0, 0, []), (4, .getfield 25, 3, 4, 4, 0, []), (7, .if_icmp .ge 19, 3, 26, 0, 0, [])]
theorem kPass_waitOnce_2 : okb (mth nPass_waitOnce) 2 bPass_waitOnce_2 = true := by decide +kernel
def bPass_waitOnce_10 : List EN := [(10, .aload_n 0, 1, 0, 0, 0, []), (11, .getfield 18, 3, 4, 2, 3, []), (14, .iload_n 1, 1, 0, 0, 0, []), (15, .dup2, 1, 0, 0, 0, []), (16, .iaload, 1, 0, 0, 0, []), (17, .iconst 1, 1, 0, 0, 0, []), (18, .iadd, 1, 0, 0, 0, []), (19, .iastore, 1, 0, 0, 0, []), (20, .iinc 1 1, 3, 0, 0, 0, []), (23, .goto (-21), 3, 2, 0, 0, [])]
theorem kPass_waitOnce_10 : okb (mth nPass_waitOnce) 10 bPass_waitOnce_10 = true := by decide +kernel
def bPass_waitOnce_26 : List EN := [(26, .return_, 1, 0, 0, 0, [])]
theorem kPass_waitOnce_26 : okb (mth nPass_waitOnce) 26 bPass_waitOnce_26 = true := by decide +kernel
