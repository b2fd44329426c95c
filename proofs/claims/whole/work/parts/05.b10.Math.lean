def bMath_max_0 : List EN := [(0, .iload_n 0, 1, 0, 0, 0, []), (1, .iload_n 1, 1, 0, 0, 0, []), (2, .if_icmp .lt 7, 3, 9, 0, 0, [])]
theorem kMath_max_0 : okb (mth nMath_max) 0 bMath_max_0 = true := by decide +kernel
def bMath_max_5 : List EN := [(5, .iload_n 0, 1, 0, 0, 0, []), (6, .goto 4, 3, 10, 0, 0, [])]
theorem kMath_max_5 : okb (mth nMath_max) 5 bMath_max_5 = true := by decide +kernel
def bMath_max_9 : List EN := [(9, .iload_n 1, 1, 0, 0, 0, [])]
theorem kMath_max_9 : okb (mth nMath_max) 9 bMath_max_9 = true := by decide +kernel
def bMath_max_10 : List EN := [(10, .ireturn, 1, 0, 0, 0, [])]
theorem kMath_max_10 : okb (mth nMath_max) 10 bMath_max_10 = true := by decide +kernel
def bMath_min_0 : List EN := [(0, .iload_n 0, 1, 0, 0, 0, []), (1, .iload_n 1, 1, 0, 0, 0, []), (2, .if_icmp .gt 7, 3, 9, 0, 0, [])]
theorem kMath_min_0 : okb (mth nMath_min) 0 bMath_min_0 = true := by decide +kernel
def bMath_min_5 : List EN := [(5, .iload_n 0, 1, 0, 0, 0, []), (6, .goto 4, 3, 10, 0, 0, [])]
theorem kMath_min_5 : okb (mth nMath_min) 5 bMath_min_5 = true := by decide +kernel
def bMath_min_9 : List EN := [(9, .iload_n 1, 1, 0, 0, 0, [])]
theorem kMath_min_9 : okb (mth nMath_min) 9 bMath_min_9 = true := by decide +kernel
def bMath_min_10 : List EN := [(10, .ireturn, 1, 0, 0, 0, [])]
theorem kMath_min_10 : okb (mth nMath_min) 10 bMath_min_10 = true := by decide +kernel
