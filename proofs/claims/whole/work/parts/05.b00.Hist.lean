def bHist_init_0 : List EN := [(0, .aload_n 0, 1, 0, 0, 0, []), (1, .invokespecial 3, 3, 0, 1, -1, []), (4, .aload_n 0, 1, 0, 0, 0, []), (5, .bipush 10, 2, 0, 0, 0, []), (7, .anewarray 9, 3, 15, 0, 0, [1, 10]), (10, .putfield 11, 3, 0, 0, 3, []), (13, .aload_n 0, 1, 0, 0, 0, []), (14, .iconst 0, 1, 0, 0, 0, []), (15, .putfield 17, 3, 0, 1, 0, []), (18, .return_, 1, 0, 0, 0, [])]
theorem kHist_init_0 : okb (mth nHist_init) 0 bHist_init_0 = true := by decide +kernel
def bHist_keep_0 : List EN := [(0, .aload_n 0, 1, 0, 0, 0, []), (1, .getfield 17, 3, 0, 1, 0, []), (4, .bipush 10, 2, 0, 0, 0, []), (6, .if_icmp .ge 57, 3, 63, 0, 0, [])]
theorem kHist_keep_0 : okb (mth nHist_keep) 0 bHist_keep_0 = true := by decide +kernel
def bHist_keep_9 : List EN := [(9, .aload_n 0, 1, 0, 0, 0, []), (10, .getfield 11, 3, 0, 0, 3, []), (13, .aload_n 0, 1, 0, 0, 0, []), (14, .getfield 17, 3, 0, 1, 0, []), (17, .aaload, 1, 0, 0, 0, []), (18, .ifnonnull 13, 3, 31, 0, 0, [])]
theorem kHist_keep_9 : okb (mth nHist_keep) 9 bHist_keep_9 = true := by decide +kernel
def bHist_keep_21 : List EN := [(21, .new 9, 3, 3, 11, 0, [292, 1786]), (24, .dup, 1, 0, 0, 0, []), (25, .invokespecial 21, 3, nNet_init, 1, 4, [291, 1775, 292, 1786])]
theorem kHist_keep_21 : okb (mth nHist_keep) 21 bHist_keep_21 = true := by decide +kernel
def bHist_keep_28 : List EN := [(28, .goto 12, 3, 40, 0, 0, [])]
theorem kHist_keep_28 : okb (mth nHist_keep) 28 bHist_keep_28 = true := by decide +kernel
def bHist_keep_31 : List EN := [(31, .aload_n 0, 1, 0, 0, 0, []), (32, .getfield 11, 3, 0, 0, 3, []), (35, .aload_n 0, 1, 0, 0, 0, []), (36, .getfield 17, 3, 0, 1, 0, []), (39, .aaload, 1, 0, 0, 0, [])]
theorem kHist_keep_31 : okb (mth nHist_keep) 31 bHist_keep_31 = true := by decide +kernel
def bHist_keep_40 : List EN := [(40, .astore_n 2, 1, 0, 0, 0, []), (41, .aload_n 0, 1, 0, 0, 0, []), (42, .getfield 11, 3, 0, 0, 3, []), (45, .aload_n 0, 1, 0, 0, 0, []), (46, .getfield 17, 3, 0, 1, 0, []), (49, .aload_n 1, 1, 0, 0, 0, []), (50, .aastore, 1, 0, 0, 0, []), (51, .aload_n 0, 1, 0, 0, 0, []), (52, .dup, 1, 0, 0, 0, []), (53, .getfield 17, 3, 0, 1, 0, []), (56, .iconst 1, 1, 0, 0, 0, []), (57, .iadd, 1, 0, 0, 0, []), (58, .putfield 17, 3, 0, 1, 0, []), (61, .aload_n 2, 1, 0, 0, 0, []), (62, .areturn, 1, 0, 0, 0, [])]
theorem kHist_keep_40 : okb (mth nHist_keep) 40 bHist_keep_40 = true := by decide +kernel
def bHist_keep_63 : List EN := [(63, .aload_n 0, 1, 0, 0, 0, []), (64, .getfield 11, 3, 0, 0, 3, []), (67, .iconst 0, 1, 0, 0, 0, []), (68, .aaload, 1, 0, 0, 0, []), (69, .astore_n 2, 1, 0, 0, 0, []), (70, .iconst 1, 1, 0, 0, 0, []), (71, .istore_n 3, 1, 0, 0, 0, [])]
theorem kHist_keep_63 : okb (mth nHist_keep) 63 bHist_keep_63 = true := by decide +kernel
def bHist_keep_72 : List EN := [(72, .iload_n 3, 1, 0, 0, 0, []), (73, .bipush 10, 2, 0, 0, 0, []), (75, .if_icmp .ge 23, 3, 98, 0, 0, [])]
theorem kHist_keep_72 : okb (mth nHist_keep) 72 bHist_keep_72 = true := by decide +kernel
def bHist_keep_78 : List EN := [(78, .aload_n 0, 1, 0, 0, 0, []), (79, .getfield 11, 3, 0, 0, 3, []), (82, .iload_n 3, 1, 0, 0, 0, []), (83, .iconst 1, 1, 0, 0, 0, []), (84, .isub, 1, 0, 0, 0, []), (85, .aload_n 0, 1, 0, 0, 0, []), (86, .getfield 11, 3, 0, 0, 3, []), (89, .iload_n 3, 1, 0, 0, 0, []), (90, .aaload, 1, 0, 0, 0, []), (91, .aastore, 1, 0, 0, 0, []), (92, .iinc 3 1, 3, 0, 0, 0, []), (95, .goto (-23), 3, 72, 0, 0, [])]
theorem kHist_keep_78 : okb (mth nHist_keep) 78 bHist_keep_78 = true := by decide +kernel
def bHist_keep_98 : List EN := [(98, .aload_n 0, 1, 0, 0, 0, []), (99, .getfield 11, 3, 0, 0, 3, []), (102, .bipush 9, 2, 0, 0, 0, []), (104, .aload_n 1, 1, 0, 0, 0, []), (105, .aastore, 1, 0, 0, 0, []), (106, .aload_n 2, 1, 0, 0, 0, []), (107, .areturn, 1, 0, 0, 0, [])]
theorem kHist_keep_98 : okb (mth nHist_keep) 98 bHist_keep_98 = true := by decide +kernel
def bHist_takeBack_0 : List EN := [(0, .aload_n 0, 1, 0, 0, 0, []), (1, .getfield 17, 3, 0, 1, 0, []), (4, .ifCond .ne 5, 3, 9, 0, 0, [])]
theorem kHist_takeBack_0 : okb (mth nHist_takeBack) 0 bHist_takeBack_0 = true := by decide +kernel
def bHist_takeBack_7 : List EN := [(7, .aload_n 1, 1, 0, 0, 0, []), (8, .areturn, 1, 0, 0, 0, [])]
theorem kHist_takeBack_7 : okb (mth nHist_takeBack) 7 bHist_takeBack_7 = true := by decide +kernel
def bHist_takeBack_9 : List EN := [(9, .aload_n 0, 1, 0, 0, 0, []), (10, .dup, 1, 0, 0, 0, []), (11, .getfield 17, 3, 0, 1, 0, []), (14, .iconst 1, 1, 0, 0, 0, []), (15, .isub, 1, 0, 0, 0, []), (16, .putfield 17, 3, 0, 1, 0, []), (19, .aload_n 0, 1, 0, 0, 0, []), (20, .getfield 11, 3, 0, 0, 3, []), (23, .aload_n 0, 1, 0, 0, 0, []), (24, .getfield 17, 3, 0, 1, 0, []), (27, .aaload, 1, 0, 0, 0, []), (28, .astore_n 2, 1, 0, 0, 0, []), (29, .aload_n 0, 1, 0, 0, 0, []), (30, .getfield 11, 3, 0, 0, 3, []), (33, .aload_n 0, 1, 0, 0, 0, []), (34, .getfield 17, 3, 0, 1, 0, []), (37, .aload_n 1, 1, 0, 0, 0, []), (38, .aastore, 1, 0, 0, 0, []), (39, .aload_n 2, 1, 0, 0, 0, []), (40, .areturn, 1, 0, 0, 0, [])]
theorem kHist_takeBack_9 : okb (mth nHist_takeBack) 9 bHist_takeBack_9 = true := by decide +kernel
