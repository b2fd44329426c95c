def bLaw_law_0 : List EN := [(0, .new 8, 3, 7, 6, 0, [674013, 7074066]), (3, .dup, 1, 0, 0, 0, []), (4, .invokespecial 15, 3, nTok_init, 1, 8, [594, 4645, 674013, 7074066])]
theorem kLaw_law_0 : okb (mth nLaw_law) 0 bLaw_law_0 = true := by decide +kernel
def bLaw_law_7 : List EN := [(7, .astore_n 1, 1, 0, 0, 0, []), (8, .new 16, 3, 8, 20, 0, [674013, 7074066]), (11, .dup, 1, 0, 0, 0, []), (12, .invokespecial 18, 3, nMod_init, 1, 9, [5, 27382, 674013, 7074066])]
theorem kLaw_law_7 : okb (mth nLaw_law) 7 bLaw_law_7 = true := by decide +kernel
def bLaw_law_15 : List EN := [(15, .astore_n 2, 1, 0, 0, 0, []), (16, .iconst 1, 1, 0, 0, 0, []), (17, .newarray .long, 2, 12, 0, 0, [674013, 7074066]), (19, .astore_n 3, 1, 0, 0, 0, []), (20, .iconst 0, 1, 0, 0, 0, []), (21, .istore 4, 2, 0, 0, 0, [])]
theorem kLaw_law_15 : okb (mth nLaw_law) 15 bLaw_law_15 = true := by decide +kernel
def bLaw_law_23 : List EN := [(23, .iload 4, 2, 0, 0, 0, []), (25, .aload_n 0, 1, 0, 0, 0, []), (26, .arraylength, 1, 0, 0, 0, []), (27, .bipush 6, 2, 0, 0, 0, []), (29, .isub, 1, 0, 0, 0, []), (30, .if_icmp .gt 734, 3, 764, 0, 0, [])]
theorem kLaw_law_23 : okb (mth nLaw_law) 23 bLaw_law_23 = true := by decide +kernel
def bLaw_law_33 : List EN := [(33, .aload_n 0, 1, 0, 0, 0, []), (34, .iload 4, 2, 0, 0, 0, []), (36, .iaload, 1, 0, 0, 0, []), (37, .bipush 31, 2, 0, 0, 0, []), (39, .iand, 1, 0, 0, 0, []), (40, .tableswitch 718 0 18 #[92, 165, 190, 203, 216, 241, 309, 346, 383, 444, 481, 506, 531, 556, 581, 606, 643, 680, 705], 92, 758, 0, 0, [132, 205, 230, 243, 256, 281, 349, 386, 423, 484, 521, 546, 571, 596, 621, 646, 683, 720, 745])]
theorem kLaw_law_33 : okb (mth nLaw_law) 33 bLaw_law_33 = true := by decide +kernel
def bLaw_law_132 : List EN := [(132, .aload_n 1, 1, 0, 0, 0, []), (133, .aload_n 0, 1, 0, 0, 0, []), (134, .iload 4, 2, 0, 0, 0, []), (136, .iconst 1, 1, 0, 0, 0, []), (137, .iadd, 1, 0, 0, 0, []), (138, .iaload, 1, 0, 0, 0, []), (139, .aload_n 0, 1, 0, 0, 0, []), (140, .iload 4, 2, 0, 0, 0, []), (142, .iconst 2, 1, 0, 0, 0, []), (143, .iadd, 1, 0, 0, 0, []), (144, .iaload, 1, 0, 0, 0, []), (145, .aload_n 0, 1, 0, 0, 0, []), (146, .iload 4, 2, 0, 0, 0, []), (148, .iconst 3, 1, 0, 0, 0, []), (149, .iadd, 1, 0, 0, 0, []), (150, .iaload, 1, 0, 0, 0, []), (151, .aload_n 0, 1, 0, 0, 0, []), (152, .iload 4, 2, 0, 0, 0, []), (154, .iconst 4, 1, 0, 0, 0, []), (155, .iadd, 1, 0, 0, 0, []), (156, .iaload, 1, 0, 0, 0, []), (157, .aload_n 0, 1, 0, 0, 0, []), (158, .iload 4, 2, 0, 0, 0, []), (160, .iconst 5, 1, 0, 0, 0, []), (161, .iadd, 1, 0, 0, 0, []), (162, .iaload, 1, 0, 0, 0, []), (163, .invokevirtual 19, 3, nTok_feed, 6, 8, [])]
theorem kLaw_law_132 : okb (mth nLaw_law) 132 bLaw_law_132 = true := by decide +kernel
def bLaw_law_166 : List EN := [(166, .aload_n 2, 1, 0, 0, 0, []), (167, .aload_n 0, 1, 0, 0, 0, []), (168, .iload 4, 2, 0, 0, 0, []), (170, .iconst 1, 1, 0, 0, 0, []), (171, .iadd, 1, 0, 0, 0, []), (172, .iaload, 1, 0, 0, 0, []), (173, .aload_n 0, 1, 0, 0, 0, []), (174, .iload 4, 2, 0, 0, 0, []), (176, .iconst 2, 1, 0, 0, 0, []), (177, .iadd, 1, 0, 0, 0, []), (178, .iaload, 1, 0, 0, 0, []), (179, .aload_n 0, 1, 0, 0, 0, []), (180, .iload 4, 2, 0, 0, 0, []), (182, .iconst 3, 1, 0, 0, 0, []), (183, .iadd, 1, 0, 0, 0, []), (184, .iaload, 1, 0, 0, 0, []), (185, .aload_n 0, 1, 0, 0, 0, []), (186, .iload 4, 2, 0, 0, 0, []), (188, .iconst 4, 1, 0, 0, 0, []), (189, .iadd, 1, 0, 0, 0, []), (190, .iaload, 1, 0, 0, 0, []), (191, .aload_n 0, 1, 0, 0, 0, []), (192, .iload 4, 2, 0, 0, 0, []), (194, .iconst 5, 1, 0, 0, 0, []), (195, .iadd, 1, 0, 0, 0, []), (196, .iaload, 1, 0, 0, 0, []), (197, .invokevirtual 23, 3, nMod_feed, 6, 9, [])]
theorem kLaw_law_166 : okb (mth nLaw_law) 166 bLaw_law_166 = true := by decide +kernel
def bLaw_law_200 : List EN := [(200, .if_icmp .eq 558, 3, 758, 0, 0, [])]
theorem kLaw_law_200 : okb (mth nLaw_law) 200 bLaw_law_200 = true := by decide +kernel
def bLaw_law_203 : List EN := [(203, .iconst 0, 1, 0, 0, 0, []), (204, .ireturn, 1, 0, 0, 1, [])]
theorem kLaw_law_203 : okb (mth nLaw_law) 203 bLaw_law_203 = true := by decide +kernel
def bLaw_law_205 : List EN := [(205, .aload_n 1, 1, 0, 0, 0, []), (206, .aload_n 0, 1, 0, 0, 0, []), (207, .iload 4, 2, 0, 0, 0, []), (209, .iconst 1, 1, 0, 0, 0, []), (210, .iadd, 1, 0, 0, 0, []), (211, .iaload, 1, 0, 0, 0, []), (212, .invokevirtual 24, 3, nTok_end, 2, 8, [])]
theorem kLaw_law_205 : okb (mth nLaw_law) 205 bLaw_law_205 = true := by decide +kernel
def bLaw_law_215 : List EN := [(215, .aload_n 2, 1, 0, 0, 0, []), (216, .aload_n 0, 1, 0, 0, 0, []), (217, .iload 4, 2, 0, 0, 0, []), (219, .iconst 1, 1, 0, 0, 0, []), (220, .iadd, 1, 0, 0, 0, []), (221, .iaload, 1, 0, 0, 0, []), (222, .invokevirtual 28, 3, nMod_end, 2, 9, [])]
theorem kLaw_law_215 : okb (mth nLaw_law) 215 bLaw_law_215 = true := by decide +kernel
def bLaw_law_225 : List EN := [(225, .if_icmp .eq 533, 3, 758, 0, 0, [])]
theorem kLaw_law_225 : okb (mth nLaw_law) 225 bLaw_law_225 = true := by decide +kernel
def bLaw_law_228 : List EN := [(228, .iconst 0, 1, 0, 0, 0, []), (229, .ireturn, 1, 0, 0, 1, [])]
theorem kLaw_law_228 : okb (mth nLaw_law) 228 bLaw_law_228 = true := by decide +kernel
def bLaw_law_230 : List EN := [(230, .aload_n 1, 1, 0, 0, 0, []), (231, .invokevirtual 29, 3, nTok_text, 1, 8, [])]
theorem kLaw_law_230 : okb (mth nLaw_law) 230 bLaw_law_230 = true := by decide +kernel
def bLaw_law_234 : List EN := [(234, .aload_n 2, 1, 0, 0, 0, []), (235, .invokevirtual 33, 3, nMod_text, 1, 9, [])]
theorem kLaw_law_234 : okb (mth nLaw_law) 234 bLaw_law_234 = true := by decide +kernel
def bLaw_law_238 : List EN := [(238, .if_icmp .eq 520, 3, 758, 0, 0, [])]
theorem kLaw_law_238 : okb (mth nLaw_law) 238 bLaw_law_238 = true := by decide +kernel
def bLaw_law_241 : List EN := [(241, .iconst 0, 1, 0, 0, 0, []), (242, .ireturn, 1, 0, 0, 1, [])]
theorem kLaw_law_241 : okb (mth nLaw_law) 241 bLaw_law_241 = true := by decide +kernel
def bLaw_law_243 : List EN := [(243, .aload_n 1, 1, 0, 0, 0, []), (244, .invokevirtual 34, 3, nTok_fault, 1, 8, [])]
theorem kLaw_law_243 : okb (mth nLaw_law) 243 bLaw_law_243 = true := by decide +kernel
def bLaw_law_247 : List EN := [(247, .aload_n 2, 1, 0, 0, 0, []), (248, .invokevirtual 37, 3, nMod_fault, 1, 9, [])]
theorem kLaw_law_247 : okb (mth nLaw_law) 247 bLaw_law_247 = true := by decide +kernel
def bLaw_law_251 : List EN := [(251, .if_icmp .eq 507, 3, 758, 0, 0, [])]
theorem kLaw_law_251 : okb (mth nLaw_law) 251 bLaw_law_251 = true := by decide +kernel
def bLaw_law_254 : List EN := [(254, .iconst 0, 1, 0, 0, 0, []), (255, .ireturn, 1, 0, 0, 1, [])]
theorem kLaw_law_254 : okb (mth nLaw_law) 254 bLaw_law_254 = true := by decide +kernel
def bLaw_law_256 : List EN := [(256, .aload_n 1, 1, 0, 0, 0, []), (257, .aload_n 0, 1, 0, 0, 0, []), (258, .iload 4, 2, 0, 0, 0, []), (260, .iconst 1, 1, 0, 0, 0, []), (261, .iadd, 1, 0, 0, 0, []), (262, .iaload, 1, 0, 0, 0, []), (263, .invokevirtual 38, 3, nTok_now, 2, 8, [])]
theorem kLaw_law_256 : okb (mth nLaw_law) 256 bLaw_law_256 = true := by decide +kernel
def bLaw_law_266 : List EN := [(266, .aload_n 2, 1, 0, 0, 0, []), (267, .aload_n 0, 1, 0, 0, 0, []), (268, .iload 4, 2, 0, 0, 0, []), (270, .iconst 1, 1, 0, 0, 0, []), (271, .iadd, 1, 0, 0, 0, []), (272, .iaload, 1, 0, 0, 0, []), (273, .invokevirtual 42, 3, nMod_now, 2, 9, [])]
theorem kLaw_law_266 : okb (mth nLaw_law) 266 bLaw_law_266 = true := by decide +kernel
def bLaw_law_276 : List EN := [(276, .if_icmp .eq 482, 3, 758, 0, 0, [])]
theorem kLaw_law_276 : okb (mth nLaw_law) 276 bLaw_law_276 = true := by decide +kernel
def bLaw_law_279 : List EN := [(279, .iconst 0, 1, 0, 0, 0, []), (280, .ireturn, 1, 0, 0, 1, [])]
theorem kLaw_law_279 : okb (mth nLaw_law) 279 bLaw_law_279 = true := by decide +kernel
def bLaw_law_298 : List EN := [(298, .istore 5, 2, 0, 0, 0, []), (300, .aload_n 2, 1, 0, 0, 0, []), (301, .aload_n 0, 1, 0, 0, 0, []), (302, .iload 4, 2, 0, 0, 0, []), (304, .iconst 1, 1, 0, 0, 0, []), (305, .iadd, 1, 0, 0, 0, []), (306, .iaload, 1, 0, 0, 0, []), (307, .aload_n 0, 1, 0, 0, 0, []), (308, .iload 4, 2, 0, 0, 0, []), (310, .iconst 2, 1, 0, 0, 0, []), (311, .iadd, 1, 0, 0, 0, []), (312, .iaload, 1, 0, 0, 0, []), (313, .invokevirtual 48, 3, nMod_member, 3, 9, [])]
theorem kLaw_law_298 : okb (mth nLaw_law) 298 bLaw_law_298 = true := by decide +kernel
def bLaw_law_316 : List EN := [(316, .istore 6, 2, 0, 0, 0, []), (318, .aload_n 2, 1, 0, 0, 0, []), (319, .invokevirtual 49, 3, nMod_thrown, 1, 9, [])]
theorem kLaw_law_316 : okb (mth nLaw_law) 316 bLaw_law_316 = true := by decide +kernel
def bLaw_law_322 : List EN := [(322, .iload 5, 2, 0, 0, 0, []), (324, .if_icmp .eq 5, 3, 329, 0, 0, [])]
theorem kLaw_law_322 : okb (mth nLaw_law) 322 bLaw_law_322 = true := by decide +kernel
def bLaw_law_327 : List EN := [(327, .iconst 0, 1, 0, 0, 0, []), (328, .ireturn, 1, 0, 0, 1, [])]
theorem kLaw_law_327 : okb (mth nLaw_law) 327 bLaw_law_327 = true := by decide +kernel
def bLaw_law_329 : List EN := [(329, .iload 5, 2, 0, 0, 0, []), (331, .ifCond .ne 15, 3, 346, 0, 0, [])]
theorem kLaw_law_329 : okb (mth nLaw_law) 329 bLaw_law_329 = true := by decide +kernel
def bLaw_law_334 : List EN := [(334, .aload_n 3, 1, 0, 0, 0, []), (335, .iconst 0, 1, 0, 0, 0, []), (336, .laload, 1, 0, 0, 0, []), (337, .iload 6, 2, 0, 0, 0, []), (339, .i2l, 1, 0, 0, 0, []), (340, .lcmp, 1, 0, 0, 0, []), (341, .ifCond .eq 5, 3, 346, 0, 0, [])]
theorem kLaw_law_334 : okb (mth nLaw_law) 334 bLaw_law_334 = true := by decide +kernel
def bLaw_law_344 : List EN := [(344, .iconst 0, 1, 0, 0, 0, []), (345, .ireturn, 1, 0, 0, 1, [])]
theorem kLaw_law_344 : okb (mth nLaw_law) 344 bLaw_law_344 = true := by decide +kernel
def bLaw_law_346 : List EN := [(346, .goto 412, 3, 758, 0, 0, [])]
theorem kLaw_law_346 : okb (mth nLaw_law) 346 bLaw_law_346 = true := by decide +kernel
def bLaw_law_349 : List EN := [(349, .aload_n 1, 1, 0, 0, 0, []), (350, .aload_n 0, 1, 0, 0, 0, []), (351, .iload 4, 2, 0, 0, 0, []), (353, .iconst 1, 1, 0, 0, 0, []), (354, .iadd, 1, 0, 0, 0, []), (355, .iaload, 1, 0, 0, 0, []), (356, .aload_n 0, 1, 0, 0, 0, []), (357, .iload 4, 2, 0, 0, 0, []), (359, .iconst 2, 1, 0, 0, 0, []), (360, .iadd, 1, 0, 0, 0, []), (361, .iaload, 1, 0, 0, 0, []), (362, .invokevirtual 52, 3, nTok_pass, 3, 8, [])]
theorem kLaw_law_349 : okb (mth nLaw_law) 349 bLaw_law_349 = true := by decide +kernel
def bLaw_law_365 : List EN := [(365, .aload_n 2, 1, 0, 0, 0, []), (366, .aload_n 0, 1, 0, 0, 0, []), (367, .iload 4, 2, 0, 0, 0, []), (369, .iconst 1, 1, 0, 0, 0, []), (370, .iadd, 1, 0, 0, 0, []), (371, .iaload, 1, 0, 0, 0, []), (372, .aload_n 0, 1, 0, 0, 0, []), (373, .iload 4, 2, 0, 0, 0, []), (375, .iconst 2, 1, 0, 0, 0, []), (376, .iadd, 1, 0, 0, 0, []), (377, .iaload, 1, 0, 0, 0, []), (378, .invokevirtual 55, 3, nMod_pass, 3, 9, [])]
theorem kLaw_law_365 : okb (mth nLaw_law) 365 bLaw_law_365 = true := by decide +kernel
def bLaw_law_381 : List EN := [(381, .if_icmp .eq 377, 3, 758, 0, 0, [])]
theorem kLaw_law_381 : okb (mth nLaw_law) 381 bLaw_law_381 = true := by decide +kernel
def bLaw_law_384 : List EN := [(384, .iconst 0, 1, 0, 0, 0, []), (385, .ireturn, 1, 0, 0, 1, [])]
theorem kLaw_law_384 : okb (mth nLaw_law) 384 bLaw_law_384 = true := by decide +kernel
def bLaw_law_386 : List EN := [(386, .aload_n 1, 1, 0, 0, 0, []), (387, .aload_n 0, 1, 0, 0, 0, []), (388, .iload 4, 2, 0, 0, 0, []), (390, .iconst 1, 1, 0, 0, 0, []), (391, .iadd, 1, 0, 0, 0, []), (392, .iaload, 1, 0, 0, 0, []), (393, .aload_n 0, 1, 0, 0, 0, []), (394, .iload 4, 2, 0, 0, 0, []), (396, .iconst 2, 1, 0, 0, 0, []), (397, .iadd, 1, 0, 0, 0, []), (398, .iaload, 1, 0, 0, 0, []), (399, .invokevirtual 56, 3, nTok_way, 3, 8, [])]
theorem kLaw_law_386 : okb (mth nLaw_law) 386 bLaw_law_386 = true := by decide +kernel
def bLaw_law_402 : List EN := [(402, .aload_n 2, 1, 0, 0, 0, []), (403, .aload_n 0, 1, 0, 0, 0, []), (404, .iload 4, 2, 0, 0, 0, []), (406, .iconst 1, 1, 0, 0, 0, []), (407, .iadd, 1, 0, 0, 0, []), (408, .iaload, 1, 0, 0, 0, []), (409, .aload_n 0, 1, 0, 0, 0, []), (410, .iload 4, 2, 0, 0, 0, []), (412, .iconst 2, 1, 0, 0, 0, []), (413, .iadd, 1, 0, 0, 0, []), (414, .iaload, 1, 0, 0, 0, []), (415, .invokevirtual 59, 3, nMod_way, 3, 9, [])]
theorem kLaw_law_402 : okb (mth nLaw_law) 402 bLaw_law_402 = true := by decide +kernel
def bLaw_law_418 : List EN := [(418, .if_icmp .eq 340, 3, 758, 0, 0, [])]
theorem kLaw_law_418 : okb (mth nLaw_law) 418 bLaw_law_418 = true := by decide +kernel
def bLaw_law_421 : List EN := [(421, .iconst 0, 1, 0, 0, 0, []), (422, .ireturn, 1, 0, 0, 1, [])]
theorem kLaw_law_421 : okb (mth nLaw_law) 421 bLaw_law_421 = true := by decide +kernel
def bLaw_law_423 : List EN := [(423, .aload_n 1, 1, 0, 0, 0, []), (424, .aload_n 0, 1, 0, 0, 0, []), (425, .iload 4, 2, 0, 0, 0, []), (427, .iconst 1, 1, 0, 0, 0, []), (428, .iadd, 1, 0, 0, 0, []), (429, .iaload, 1, 0, 0, 0, []), (430, .aload_n 0, 1, 0, 0, 0, []), (431, .iload 4, 2, 0, 0, 0, []), (433, .iconst 2, 1, 0, 0, 0, []), (434, .iadd, 1, 0, 0, 0, []), (435, .iaload, 1, 0, 0, 0, []), (436, .aload_n 0, 1, 0, 0, 0, []), (437, .iload 4, 2, 0, 0, 0, []), (439, .iconst 3, 1, 0, 0, 0, []), (440, .iadd, 1, 0, 0, 0, []), (441, .iaload, 1, 0, 0, 0, []), (442, .aload_n 0, 1, 0, 0, 0, []), (443, .iload 4, 2, 0, 0, 0, []), (445, .iconst 4, 1, 0, 0, 0, []), (446, .iadd, 1, 0, 0, 0, []), (447, .iaload, 1, 0, 0, 0, []), (448, .invokevirtual 60, 3, nTok_message, 5, 8, [])]
theorem kLaw_law_423 : okb (mth nLaw_law) 423 bLaw_law_423 = true := by decide +kernel
def bLaw_law_451 : List EN := [(451, .aload_n 2, 1, 0, 0, 0, []), (452, .aload_n 0, 1, 0, 0, 0, []), (453, .iload 4, 2, 0, 0, 0, []), (455, .iconst 1, 1, 0, 0, 0, []), (456, .iadd, 1, 0, 0, 0, []), (457, .iaload, 1, 0, 0, 0, []), (458, .aload_n 0, 1, 0, 0, 0, []), (459, .iload 4, 2, 0, 0, 0, []), (461, .iconst 2, 1, 0, 0, 0, []), (462, .iadd, 1, 0, 0, 0, []), (463, .iaload, 1, 0, 0, 0, []), (464, .aload_n 0, 1, 0, 0, 0, []), (465, .iload 4, 2, 0, 0, 0, []), (467, .iconst 3, 1, 0, 0, 0, []), (468, .iadd, 1, 0, 0, 0, []), (469, .iaload, 1, 0, 0, 0, []), (470, .aload_n 0, 1, 0, 0, 0, []), (471, .iload 4, 2, 0, 0, 0, []), (473, .iconst 4, 1, 0, 0, 0, []), (474, .iadd, 1, 0, 0, 0, []), (475, .iaload, 1, 0, 0, 0, []), (476, .invokevirtual 64, 3, nMod_message, 5, 9, [])]
theorem kLaw_law_451 : okb (mth nLaw_law) 451 bLaw_law_451 = true := by decide +kernel
def bLaw_law_479 : List EN := [(479, .if_icmp .eq 279, 3, 758, 0, 0, [])]
theorem kLaw_law_479 : okb (mth nLaw_law) 479 bLaw_law_479 = true := by decide +kernel
def bLaw_law_482 : List EN := [(482, .iconst 0, 1, 0, 0, 0, []), (483, .ireturn, 1, 0, 0, 1, [])]
theorem kLaw_law_482 : okb (mth nLaw_law) 482 bLaw_law_482 = true := by decide +kernel
def bLaw_law_484 : List EN := [(484, .aload_n 1, 1, 0, 0, 0, []), (485, .aload_n 0, 1, 0, 0, 0, []), (486, .iload 4, 2, 0, 0, 0, []), (488, .iconst 1, 1, 0, 0, 0, []), (489, .iadd, 1, 0, 0, 0, []), (490, .iaload, 1, 0, 0, 0, []), (491, .aload_n 0, 1, 0, 0, 0, []), (492, .iload 4, 2, 0, 0, 0, []), (494, .iconst 2, 1, 0, 0, 0, []), (495, .iadd, 1, 0, 0, 0, []), (496, .iaload, 1, 0, 0, 0, []), (497, .invokevirtual 65, 3, nTok_would, 3, 8, [])]
theorem kLaw_law_484 : okb (mth nLaw_law) 484 bLaw_law_484 = true := by decide +kernel
def bLaw_law_500 : List EN := [(500, .aload_n 2, 1, 0, 0, 0, []), (501, .aload_n 0, 1, 0, 0, 0, []), (502, .iload 4, 2, 0, 0, 0, []), (504, .iconst 1, 1, 0, 0, 0, []), (505, .iadd, 1, 0, 0, 0, []), (506, .iaload, 1, 0, 0, 0, []), (507, .aload_n 0, 1, 0, 0, 0, []), (508, .iload 4, 2, 0, 0, 0, []), (510, .iconst 2, 1, 0, 0, 0, []), (511, .iadd, 1, 0, 0, 0, []), (512, .iaload, 1, 0, 0, 0, []), (513, .invokevirtual 68, 3, nMod_would, 3, 9, [])]
theorem kLaw_law_500 : okb (mth nLaw_law) 500 bLaw_law_500 = true := by decide +kernel
def bLaw_law_516 : List EN := [(516, .if_icmp .eq 242, 3, 758, 0, 0, [])]
theorem kLaw_law_516 : okb (mth nLaw_law) 516 bLaw_law_516 = true := by decide +kernel
def bLaw_law_519 : List EN := [(519, .iconst 0, 1, 0, 0, 0, []), (520, .ireturn, 1, 0, 0, 1, [])]
theorem kLaw_law_519 : okb (mth nLaw_law) 519 bLaw_law_519 = true := by decide +kernel
def bLaw_law_521 : List EN := [(521, .aload_n 1, 1, 0, 0, 0, []), (522, .aload_n 0, 1, 0, 0, 0, []), (523, .iload 4, 2, 0, 0, 0, []), (525, .iconst 1, 1, 0, 0, 0, []), (526, .iadd, 1, 0, 0, 0, []), (527, .iaload, 1, 0, 0, 0, []), (528, .invokevirtual 69, 3, nTok_soon, 2, 8, [])]
theorem kLaw_law_521 : okb (mth nLaw_law) 521 bLaw_law_521 = true := by decide +kernel
def bLaw_law_531 : List EN := [(531, .aload_n 2, 1, 0, 0, 0, []), (532, .aload_n 0, 1, 0, 0, 0, []), (533, .iload 4, 2, 0, 0, 0, []), (535, .iconst 1, 1, 0, 0, 0, []), (536, .iadd, 1, 0, 0, 0, []), (537, .iaload, 1, 0, 0, 0, []), (538, .invokevirtual 72, 3, nMod_soon, 2, 9, [])]
theorem kLaw_law_531 : okb (mth nLaw_law) 531 bLaw_law_531 = true := by decide +kernel
def bLaw_law_541 : List EN := [(541, .if_icmp .eq 217, 3, 758, 0, 0, [])]
theorem kLaw_law_541 : okb (mth nLaw_law) 541 bLaw_law_541 = true := by decide +kernel
def bLaw_law_544 : List EN := [(544, .iconst 0, 1, 0, 0, 0, []), (545, .ireturn, 1, 0, 0, 1, [])]
theorem kLaw_law_544 : okb (mth nLaw_law) 544 bLaw_law_544 = true := by decide +kernel
def bLaw_law_546 : List EN := [(546, .aload_n 1, 1, 0, 0, 0, []), (547, .aload_n 0, 1, 0, 0, 0, []), (548, .iload 4, 2, 0, 0, 0, []), (550, .iconst 1, 1, 0, 0, 0, []), (551, .iadd, 1, 0, 0, 0, []), (552, .iaload, 1, 0, 0, 0, []), (553, .invokevirtual 73, 3, nTok_order, 2, 8, [])]
theorem kLaw_law_546 : okb (mth nLaw_law) 546 bLaw_law_546 = true := by decide +kernel
def bLaw_law_556 : List EN := [(556, .aload_n 2, 1, 0, 0, 0, []), (557, .aload_n 0, 1, 0, 0, 0, []), (558, .iload 4, 2, 0, 0, 0, []), (560, .iconst 1, 1, 0, 0, 0, []), (561, .iadd, 1, 0, 0, 0, []), (562, .iaload, 1, 0, 0, 0, []), (563, .invokevirtual 76, 3, nMod_order, 2, 9, [])]
theorem kLaw_law_556 : okb (mth nLaw_law) 556 bLaw_law_556 = true := by decide +kernel
def bLaw_law_566 : List EN := [(566, .if_icmp .eq 192, 3, 758, 0, 0, [])]
theorem kLaw_law_566 : okb (mth nLaw_law) 566 bLaw_law_566 = true := by decide +kernel
def bLaw_law_569 : List EN := [(569, .iconst 0, 1, 0, 0, 0, []), (570, .ireturn, 1, 0, 0, 1, [])]
theorem kLaw_law_569 : okb (mth nLaw_law) 569 bLaw_law_569 = true := by decide +kernel
def bLaw_law_571 : List EN := [(571, .aload_n 1, 1, 0, 0, 0, []), (572, .aload_n 0, 1, 0, 0, 0, []), (573, .iload 4, 2, 0, 0, 0, []), (575, .iconst 1, 1, 0, 0, 0, []), (576, .iadd, 1, 0, 0, 0, []), (577, .iaload, 1, 0, 0, 0, []), (578, .invokevirtual 77, 3, nTok_ask, 2, 8, [292, 1786, 674013, 7074066])]
theorem kLaw_law_571 : okb (mth nLaw_law) 571 bLaw_law_571 = true := by decide +kernel
def bLaw_law_581 : List EN := [(581, .aload_n 2, 1, 0, 0, 0, []), (582, .aload_n 0, 1, 0, 0, 0, []), (583, .iload 4, 2, 0, 0, 0, []), (585, .iconst 1, 1, 0, 0, 0, []), (586, .iadd, 1, 0, 0, 0, []), (587, .iaload, 1, 0, 0, 0, []), (588, .invokevirtual 80, 3, nMod_ask, 2, 9, [])]
theorem kLaw_law_581 : okb (mth nLaw_law) 581 bLaw_law_581 = true := by decide +kernel
def bLaw_law_591 : List EN := [(591, .if_icmp .eq 167, 3, 758, 0, 0, [])]
theorem kLaw_law_591 : okb (mth nLaw_law) 591 bLaw_law_591 = true := by decide +kernel
def bLaw_law_594 : List EN := [(594, .iconst 0, 1, 0, 0, 0, []), (595, .ireturn, 1, 0, 0, 1, [])]
theorem kLaw_law_594 : okb (mth nLaw_law) 594 bLaw_law_594 = true := by decide +kernel
def bLaw_law_596 : List EN := [(596, .aload_n 1, 1, 0, 0, 0, []), (597, .aload_n 0, 1, 0, 0, 0, []), (598, .iload 4, 2, 0, 0, 0, []), (600, .iconst 1, 1, 0, 0, 0, []), (601, .iadd, 1, 0, 0, 0, []), (602, .iaload, 1, 0, 0, 0, []), (603, .invokevirtual 81, 3, nTok_leave, 2, 8, [292, 1786, 674013, 7074066])]
theorem kLaw_law_596 : okb (mth nLaw_law) 596 bLaw_law_596 = true := by decide +kernel
def bLaw_law_606 : List EN := [(606, .aload_n 2, 1, 0, 0, 0, []), (607, .aload_n 0, 1, 0, 0, 0, []), (608, .iload 4, 2, 0, 0, 0, []), (610, .iconst 1, 1, 0, 0, 0, []), (611, .iadd, 1, 0, 0, 0, []), (612, .iaload, 1, 0, 0, 0, []), (613, .invokevirtual 84, 3, nMod_leave, 2, 9, [])]
theorem kLaw_law_606 : okb (mth nLaw_law) 606 bLaw_law_606 = true := by decide +kernel
def bLaw_law_616 : List EN := [(616, .if_icmp .eq 142, 3, 758, 0, 0, [])]
theorem kLaw_law_616 : okb (mth nLaw_law) 616 bLaw_law_616 = true := by decide +kernel
def bLaw_law_619 : List EN := [(619, .iconst 0, 1, 0, 0, 0, []), (620, .ireturn, 1, 0, 0, 1, [])]
theorem kLaw_law_619 : okb (mth nLaw_law) 619 bLaw_law_619 = true := by decide +kernel
def bLaw_law_621 : List EN := [(621, .aload_n 1, 1, 0, 0, 0, []), (622, .aload_n 0, 1, 0, 0, 0, []), (623, .iload 4, 2, 0, 0, 0, []), (625, .iconst 1, 1, 0, 0, 0, []), (626, .iadd, 1, 0, 0, 0, []), (627, .iaload, 1, 0, 0, 0, []), (628, .invokevirtual 85, 3, nTok_suspect, 2, 8, [292, 1786, 674013, 7074066])]
theorem kLaw_law_621 : okb (mth nLaw_law) 621 bLaw_law_621 = true := by decide +kernel
def bLaw_law_631 : List EN := [(631, .aload_n 2, 1, 0, 0, 0, []), (632, .aload_n 0, 1, 0, 0, 0, []), (633, .iload 4, 2, 0, 0, 0, []), (635, .iconst 1, 1, 0, 0, 0, []), (636, .iadd, 1, 0, 0, 0, []), (637, .iaload, 1, 0, 0, 0, []), (638, .invokevirtual 88, 3, nMod_suspect, 2, 9, [])]
theorem kLaw_law_631 : okb (mth nLaw_law) 631 bLaw_law_631 = true := by decide +kernel
def bLaw_law_641 : List EN := [(641, .if_icmp .eq 117, 3, 758, 0, 0, [])]
theorem kLaw_law_641 : okb (mth nLaw_law) 641 bLaw_law_641 = true := by decide +kernel
def bLaw_law_644 : List EN := [(644, .iconst 0, 1, 0, 0, 0, []), (645, .ireturn, 1, 0, 0, 1, [])]
theorem kLaw_law_644 : okb (mth nLaw_law) 644 bLaw_law_644 = true := by decide +kernel
def bLaw_law_646 : List EN := [(646, .aload_n 1, 1, 0, 0, 0, []), (647, .aload_n 0, 1, 0, 0, 0, []), (648, .iload 4, 2, 0, 0, 0, []), (650, .iconst 1, 1, 0, 0, 0, []), (651, .iadd, 1, 0, 0, 0, []), (652, .iaload, 1, 0, 0, 0, []), (653, .aload_n 0, 1, 0, 0, 0, []), (654, .iload 4, 2, 0, 0, 0, []), (656, .iconst 2, 1, 0, 0, 0, []), (657, .iadd, 1, 0, 0, 0, []), (658, .iaload, 1, 0, 0, 0, []), (659, .invokevirtual 89, 3, nTok_send, 3, 8, [292, 1786, 674013, 7074066])]
theorem kLaw_law_646 : okb (mth nLaw_law) 646 bLaw_law_646 = true := by decide +kernel
def bLaw_law_662 : List EN := [(662, .aload_n 2, 1, 0, 0, 0, []), (663, .aload_n 0, 1, 0, 0, 0, []), (664, .iload 4, 2, 0, 0, 0, []), (666, .iconst 1, 1, 0, 0, 0, []), (667, .iadd, 1, 0, 0, 0, []), (668, .iaload, 1, 0, 0, 0, []), (669, .aload_n 0, 1, 0, 0, 0, []), (670, .iload 4, 2, 0, 0, 0, []), (672, .iconst 2, 1, 0, 0, 0, []), (673, .iadd, 1, 0, 0, 0, []), (674, .iaload, 1, 0, 0, 0, []), (675, .invokevirtual 92, 3, nMod_send, 3, 9, [])]
theorem kLaw_law_662 : okb (mth nLaw_law) 662 bLaw_law_662 = true := by decide +kernel
def bLaw_law_678 : List EN := [(678, .if_icmp .eq 80, 3, 758, 0, 0, [])]
theorem kLaw_law_678 : okb (mth nLaw_law) 678 bLaw_law_678 = true := by decide +kernel
def bLaw_law_681 : List EN := [(681, .iconst 0, 1, 0, 0, 0, []), (682, .ireturn, 1, 0, 0, 1, [])]
theorem kLaw_law_681 : okb (mth nLaw_law) 681 bLaw_law_681 = true := by decide +kernel
def bLaw_law_683 : List EN := [(683, .aload_n 1, 1, 0, 0, 0, []), (684, .aload_n 0, 1, 0, 0, 0, []), (685, .iload 4, 2, 0, 0, 0, []), (687, .iconst 1, 1, 0, 0, 0, []), (688, .iadd, 1, 0, 0, 0, []), (689, .iaload, 1, 0, 0, 0, []), (690, .aload_n 0, 1, 0, 0, 0, []), (691, .iload 4, 2, 0, 0, 0, []), (693, .iconst 2, 1, 0, 0, 0, []), (694, .iadd, 1, 0, 0, 0, []), (695, .iaload, 1, 0, 0, 0, []), (696, .invokevirtual 93, 3, nTok_lose, 3, 8, [292, 1786, 674013, 7074066])]
theorem kLaw_law_683 : okb (mth nLaw_law) 683 bLaw_law_683 = true := by decide +kernel
def bLaw_law_699 : List EN := [(699, .aload_n 2, 1, 0, 0, 0, []), (700, .aload_n 0, 1, 0, 0, 0, []), (701, .iload 4, 2, 0, 0, 0, []), (703, .iconst 1, 1, 0, 0, 0, []), (704, .iadd, 1, 0, 0, 0, []), (705, .iaload, 1, 0, 0, 0, []), (706, .aload_n 0, 1, 0, 0, 0, []), (707, .iload 4, 2, 0, 0, 0, []), (709, .iconst 2, 1, 0, 0, 0, []), (710, .iadd, 1, 0, 0, 0, []), (711, .iaload, 1, 0, 0, 0, []), (712, .invokevirtual 96, 3, nMod_lose, 3, 9, [])]
theorem kLaw_law_699 : okb (mth nLaw_law) 699 bLaw_law_699 = true := by decide +kernel
def bLaw_law_715 : List EN := [(715, .if_icmp .eq 43, 3, 758, 0, 0, [])]
theorem kLaw_law_715 : okb (mth nLaw_law) 715 bLaw_law_715 = true := by decide +kernel
def bLaw_law_718 : List EN := [(718, .iconst 0, 1, 0, 0, 0, []), (719, .ireturn, 1, 0, 0, 1, [])]
theorem kLaw_law_718 : okb (mth nLaw_law) 718 bLaw_law_718 = true := by decide +kernel
def bLaw_law_720 : List EN := [(720, .aload_n 1, 1, 0, 0, 0, []), (721, .aload_n 0, 1, 0, 0, 0, []), (722, .iload 4, 2, 0, 0, 0, []), (724, .iconst 1, 1, 0, 0, 0, []), (725, .iadd, 1, 0, 0, 0, []), (726, .iaload, 1, 0, 0, 0, []), (727, .invokevirtual 97, 3, nTok_settle, 2, 8, [292, 1786, 674013, 7074066])]
theorem kLaw_law_720 : okb (mth nLaw_law) 720 bLaw_law_720 = true := by decide +kernel
def bLaw_law_730 : List EN := [(730, .aload_n 2, 1, 0, 0, 0, []), (731, .aload_n 0, 1, 0, 0, 0, []), (732, .iload 4, 2, 0, 0, 0, []), (734, .iconst 1, 1, 0, 0, 0, []), (735, .iadd, 1, 0, 0, 0, []), (736, .iaload, 1, 0, 0, 0, []), (737, .invokevirtual 100, 3, nMod_settle, 2, 9, [])]
theorem kLaw_law_730 : okb (mth nLaw_law) 730 bLaw_law_730 = true := by decide +kernel
def bLaw_law_740 : List EN := [(740, .if_icmp .eq 18, 3, 758, 0, 0, [])]
theorem kLaw_law_740 : okb (mth nLaw_law) 740 bLaw_law_740 = true := by decide +kernel
def bLaw_law_743 : List EN := [(743, .iconst 0, 1, 0, 0, 0, []), (744, .ireturn, 1, 0, 0, 1, [])]
theorem kLaw_law_743 : okb (mth nLaw_law) 743 bLaw_law_743 = true := by decide +kernel
def bLaw_law_745 : List EN := [(745, .aload_n 1, 1, 0, 0, 0, []), (746, .invokevirtual 101, 3, nTok_undo, 1, 8, [])]
theorem kLaw_law_745 : okb (mth nLaw_law) 745 bLaw_law_745 = true := by decide +kernel
def bLaw_law_749 : List EN := [(749, .aload_n 2, 1, 0, 0, 0, []), (750, .invokevirtual 104, 3, nMod_undo, 1, 9, [])]
theorem kLaw_law_749 : okb (mth nLaw_law) 749 bLaw_law_749 = true := by decide +kernel
def bLaw_law_753 : List EN := [(753, .if_icmp .eq 5, 3, 758, 0, 0, [])]
theorem kLaw_law_753 : okb (mth nLaw_law) 753 bLaw_law_753 = true := by decide +kernel
def bLaw_law_756 : List EN := [(756, .iconst 0, 1, 0, 0, 0, []), (757, .ireturn, 1, 0, 0, 1, [])]
theorem kLaw_law_756 : okb (mth nLaw_law) 756 bLaw_law_756 = true := by decide +kernel
def bLaw_law_758 : List EN := [(758, .iinc 4 6, 3, 0, 0, 0, []), (761, .goto (-738), 3, 23, 0, 0, [])]
theorem kLaw_law_758 : okb (mth nLaw_law) 758 bLaw_law_758 = true := by decide +kernel
def bLaw_law_764 : List EN := [(764, .iconst 1, 1, 0, 0, 0, []), (765, .ireturn, 1, 0, 0, 1, [])]
theorem kLaw_law_764 : okb (mth nLaw_law) 764 bLaw_law_764 = true := by decide +kernel
