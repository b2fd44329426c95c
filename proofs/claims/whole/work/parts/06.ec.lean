theorem g_mem {w : Cond} {i : Nat} (h : tables_1[i]? = some w) (hg : goodWord w = true) : w ∈ lw_g := List.mem_filter.mpr ⟨List.mem_append_right _ (List.mem_of_getElem? h), hg⟩
theorem g_memL {w : Cond} {i : Nat} (h : lw_tbl[i]? = some w) (hg : goodWord w = true) : w ∈ lw_g := List.mem_filter.mpr ⟨List.mem_of_getElem? h, hg⟩
def plX0 : List Nat := [114, 116]
theorem piX0 : ∀ k, k < 2 → tables_1[plX0.getD k 0]? = some (u_lay RX0 TX0 k) ∧ goodWord (u_lay RX0 TX0 k) = true := by decide +kernel
theorem igX0 : ∀ w ∈ u_ws RX0 TX0 2, w ∈ lw_g := by
  intro w hw
  obtain ⟨k, hk, rfl⟩ := List.mem_map.mp hw
  obtain ⟨h1, h2⟩ := piX0 k (List.mem_range.mp hk)
  exact g_mem h1 h2
def plX1 : List Nat := [224, 226, 228, 230, 232, 234, 236, 238, 240, 242, 244, 246, 248]
theorem piX1 : ∀ k, k < 13 → tables_1[plX1.getD k 0]? = some (u_lay RX1 TX1 k) ∧ goodWord (u_lay RX1 TX1 k) = true := by decide +kernel
theorem igX1 : ∀ w ∈ u_ws RX1 TX1 13, w ∈ lw_g := by
  intro w hw
  obtain ⟨k, hk, rfl⟩ := List.mem_map.mp hw
  obtain ⟨h1, h2⟩ := piX1 k (List.mem_range.mp hk)
  exact g_mem h1 h2
def plX2 : List Nat := [177, 179, 181, 183, 185, 187]
theorem piX2 : ∀ k, k < 6 → tables_1[plX2.getD k 0]? = some (u_lay RX2 TX2 k) ∧ goodWord (u_lay RX2 TX2 k) = true := by decide +kernel
theorem igX2 : ∀ w ∈ u_ws RX2 TX2 6, w ∈ lw_g := by
  intro w hw
  obtain ⟨k, hk, rfl⟩ := List.mem_map.mp hw
  obtain ⟨h1, h2⟩ := piX2 k (List.mem_range.mp hk)
  exact g_mem h1 h2
def plX3 : List Nat := [272, 274, 276, 278, 280, 282, 284, 286, 288, 290, 292]
theorem piX3 : ∀ k, k < 11 → tables_1[plX3.getD k 0]? = some (u_lay RX3 TX3 k) ∧ goodWord (u_lay RX3 TX3 k) = true := by decide +kernel
theorem igX3 : ∀ w ∈ u_ws RX3 TX3 11, w ∈ lw_g := by
  intro w hw
  obtain ⟨k, hk, rfl⟩ := List.mem_map.mp hw
  obtain ⟨h1, h2⟩ := piX3 k (List.mem_range.mp hk)
  exact g_mem h1 h2
def plX4 : List Nat := [151, 153, 155, 157, 159]
theorem piX4 : ∀ k, k < 5 → tables_1[plX4.getD k 0]? = some (u_lay RX4 TX4 k) ∧ goodWord (u_lay RX4 TX4 k) = true := by decide +kernel
theorem igX4 : ∀ w ∈ u_ws RX4 TX4 5, w ∈ lw_g := by
  intro w hw
  obtain ⟨k, hk, rfl⟩ := List.mem_map.mp hw
  obtain ⟨h1, h2⟩ := piX4 k (List.mem_range.mp hk)
  exact g_mem h1 h2
def plX5 : List Nat := [83, 85, 87, 89, 91, 93, 95, 97, 99]
theorem piX5 : ∀ k, k < 9 → tables_1[plX5.getD k 0]? = some (u_lay RX5 TX5 k) ∧ goodWord (u_lay RX5 TX5 k) = true := by decide +kernel
theorem igX5 : ∀ w ∈ u_ws RX5 TX5 9, w ∈ lw_g := by
  intro w hw
  obtain ⟨k, hk, rfl⟩ := List.mem_map.mp hw
  obtain ⟨h1, h2⟩ := piX5 k (List.mem_range.mp hk)
  exact g_mem h1 h2
def plX6 : List Nat := [45, 47, 49, 51, 53, 55]
theorem piX6 : ∀ k, k < 6 → tables_1[plX6.getD k 0]? = some (u_lay RX6 TX6 k) ∧ goodWord (u_lay RX6 TX6 k) = true := by decide +kernel
theorem igX6 : ∀ w ∈ u_ws RX6 TX6 6, w ∈ lw_g := by
  intro w hw
  obtain ⟨k, hk, rfl⟩ := List.mem_map.mp hw
  obtain ⟨h1, h2⟩ := piX6 k (List.mem_range.mp hk)
  exact g_mem h1 h2
def plX7 : List Nat := [301, 303, 305, 307, 309, 311]
theorem piX7 : ∀ k, k < 6 → tables_1[plX7.getD k 0]? = some (u_lay RX7 TX7 k) ∧ goodWord (u_lay RX7 TX7 k) = true := by decide +kernel
theorem igX7 : ∀ w ∈ u_ws RX7 TX7 6, w ∈ lw_g := by
  intro w hw
  obtain ⟨k, hk, rfl⟩ := List.mem_map.mp hw
  obtain ⟨h1, h2⟩ := piX7 k (List.mem_range.mp hk)
  exact g_mem h1 h2
def plX8 : List Nat := [822, 824, 826, 828, 830, 832, 834, 836, 838, 840, 842, 844, 846, 848, 850, 852, 854, 856, 858, 860]
theorem piX8 : ∀ k, k < 20 → tables_1[plX8.getD k 0]? = some (u_lay RX8 TX8 k) ∧ goodWord (u_lay RX8 TX8 k) = true := by decide +kernel
theorem igX8 : ∀ w ∈ u_ws RX8 TX8 20, w ∈ lw_g := by
  intro w hw
  obtain ⟨k, hk, rfl⟩ := List.mem_map.mp hw
  obtain ⟨h1, h2⟩ := piX8 k (List.mem_range.mp hk)
  exact g_mem h1 h2
def tyl : List (Nat → FieldType) := [tyX0, tyX1, tyX2, tyX3, tyX4, tyX5, tyX6, tyX7, tyX8]
def tyf (c k : Nat) : FieldType := (tyl.getD c tyX0) k
def ftOf : FieldType → Nat
  | .int => 0
  | .boolean => 1
  | .long => 2
  | .object _ => 3
  | .array _ => 3
  | .byte => 4
  | _ => 9
def fT (c k : Nat) : String × String × String × Bool := (vwCl.getD c (RX0, TX0, 2)).2.1 k
theorem ft_ok : ∀ c, c < 9 → ∀ k, k < nf c → ftOf (tyf c k) = ftc c k ∧ ftc c k < 4 ∧ (fT c k).1 = rnm c := by decide +kernel
/-- of a class, by its number, what the tables say of it -/
def cfp (c : Nat) : Prop := ∃ (C : String) (T : u_T) (N : Nat), vwCl[c]? = some (C, T, N) ∧ C = rnm c ∧ N = nf c ∧ (∀ w ∈ u_ws C T N, w ∈ lw_g) ∧ (∀ k, k < N → parseFieldDescriptor (T k).2.2.1 = some (tyf c k)) ∧ (∀ a, a < N → ∀ b, b < N → a ≠ b → (T a).2.1 ≠ (T b).2.1) ∧ (∀ k, T k = fT c k)
theorem cf_0 : cfp 0 := ⟨RX0, TX0, 2, rfl, rfl, rfl, igX0, tyX0_ok, nmX0, fun _ => rfl⟩
theorem cf_1 : cfp 1 := ⟨RX1, TX1, 13, rfl, rfl, rfl, igX1, tyX1_ok, nmX1, fun _ => rfl⟩
theorem cf_2 : cfp 2 := ⟨RX2, TX2, 6, rfl, rfl, rfl, igX2, tyX2_ok, nmX2, fun _ => rfl⟩
theorem cf_3 : cfp 3 := ⟨RX3, TX3, 11, rfl, rfl, rfl, igX3, tyX3_ok, nmX3, fun _ => rfl⟩
theorem cf_4 : cfp 4 := ⟨RX4, TX4, 5, rfl, rfl, rfl, igX4, tyX4_ok, nmX4, fun _ => rfl⟩
theorem cf_5 : cfp 5 := ⟨RX5, TX5, 9, rfl, rfl, rfl, igX5, tyX5_ok, nmX5, fun _ => rfl⟩
theorem cf_6 : cfp 6 := ⟨RX6, TX6, 6, rfl, rfl, rfl, igX6, tyX6_ok, nmX6, fun _ => rfl⟩
theorem cf_7 : cfp 7 := ⟨RX7, TX7, 6, rfl, rfl, rfl, igX7, tyX7_ok, nmX7, fun _ => rfl⟩
theorem cf_8 : cfp 8 := ⟨RX8, TX8, 20, rfl, rfl, rfl, igX8, tyX8_ok, nmX8, fun _ => rfl⟩
theorem cf_ok : ∀ c, c < 9 → cfp c
  | 0, _ => cf_0
  | 1, _ => cf_1
  | 2, _ => cf_2
  | 3, _ => cf_3
  | 4, _ => cf_4
  | 5, _ => cf_5
  | 6, _ => cf_6
  | 7, _ => cf_7
  | 8, _ => cf_8
  | k + 9, h => absurd h (by omega)
theorem flk_ok : ∀ q ∈ flk, tables_1[q.2.2.2.2]? = some (.fieldLink (rnm q.1) q.2.1 (rnm q.2.2.1) (fT q.2.2.1 q.2.2.2.1).2.1 (fT q.2.2.1 q.2.2.2.1).2.2.1) ∧ goodWord (.fieldLink (rnm q.1) q.2.1 (rnm q.2.2.1) (fT q.2.2.1 q.2.2.2.1).2.1 (fT q.2.2.1 q.2.2.2.1).2.2.1) = true ∧ q.2.2.1 < 9 ∧ q.2.2.2.1 < nf q.2.2.1 := by decide +kernel
theorem nwk_ok : ∀ q ∈ nwk, tables_1[q.2.2.2]? = some (.classLink (rnm q.1) q.2.1 (rnm q.2.2.1)) ∧ goodWord (.classLink (rnm q.1) q.2.1 (rnm q.2.2.1)) = true ∧ q.2.2.1 < 9 := by decide +kernel
def inl_ : List (Nat × Nat) := [(104, 4), (190, 8), (129, 6), (120, 5), (135, 7), (60, 3), (29, 2), (21, 1), (784, 9)]
theorem inl_ok : ∀ c, c < 9 → tables_1[(inl_.getD c (0, 0)).1]? = some (.instantiable (rnm c) (nf c)) ∧ goodWord (.instantiable (rnm c) (nf c)) = true ∧ tables_1[(inl_.getD c (0, 0)).2]? = some (.initialized (rnm c)) ∧ goodWord (.initialized (rnm c)) = true := by decide +kernel
theorem arc_ok : tables_1[102]? = some (.arrayClass .int) ∧ tables_1[58]? = some (.arrayClass .byte) ∧ tables_1[1162]? = some (.arrayClass .long) := by decide +kernel
theorem kok_ok : ∀ q ∈ kok, tables_1[q.2.2.2]? = some (.constant (rnm q.1) q.2.1 (Int32.ofInt q.2.2.1)) ∧ goodWord (.constant (rnm q.1) q.2.1 (Int32.ofInt q.2.2.1)) = true ∧ -2147483648 ≤ q.2.2.1 ∧ q.2.2.1 ≤ 2147483647 := by decide +kernel
theorem lok_ok : ∀ q ∈ lok, tables_1[q.2.2.2]? = some (.constantLong (rnm q.1) q.2.1 (Int64.ofInt q.2.2.1)) ∧ goodWord (.constantLong (rnm q.1) q.2.1 (Int64.ofInt q.2.2.1)) = true ∧ -2147483648 ≤ q.2.2.1 ∧ q.2.2.1 ≤ 2147483647 := by decide +kernel
theorem clk_ok : ∀ q ∈ clk, (q.2.2.2.2.2.1 = 3 ∨ (tables_1[q.2.2.2.2.2.2]? = some (.methodLink (rnm q.1) q.2.1 (mth q.2.2.1).1) ∧ goodWord (.methodLink (rnm q.1) q.2.1 (mth q.2.2.1).1) = true)) ∧ q.2.2.1 < mtl.length ∧ (parseMethodDescriptor (mth q.2.2.1).1.desc).map (fun d => d.parameters.length) = some (if q.2.2.2.2.2.1 = 0 then q.2.2.2.1 else q.2.2.2.1 - 1) := by decide +kernel
theorem clk_ok2 : ∀ q ∈ clk, (q.2.2.2.2.2.1 = 0 → q.2.2.2.2.1 = 0) ∧ (q.2.2.2.2.2.1 ≠ 0 → 1 ≤ q.2.2.2.1 ∧ (q.2.2.2.2.1 = (mth q.2.2.1).2.2.2.2.1 + 1 ∧ (mth q.2.2.1).2.2.2.2.1 < 9 ∨ q.2.2.2.2.1 = 20 ∧ (mth q.2.2.1).2.2.2.2.1 = 12)) ∧ (2 ≤ q.2.2.2.2.2.1 → (mth q.2.2.1).1.name = "<init>" ∧ (mth q.2.2.1).2.2.2.1 = none ∧ q.2.2.2.2.1 ≤ 9) := by decide +kernel
theorem oik_ok : ∀ q ∈ oik, tables_1[q.2.2]? = some (.methodLink (rnm q.1) q.2.1 objectInit) ∧ goodWord (.methodLink (rnm q.1) q.2.1 objectInit) = true := by decide +kernel
theorem obj_ok : tables_1[26]? = some (.instanceMethod objectInit) ∧ goodWord (.instanceMethod objectInit) = true ∧ tables_1[27]? = some (.code objectInit ⟨#[0xb1]⟩ 1 none) ∧ goodWord (.code objectInit ⟨#[0xb1]⟩ 1 none) = true := by decide +kernel
def cwp (n : Nat) : Prop := Cond.code (mth n).1 (mth n).2.1 (mth n).2.2.1 (mth n).2.2.2.1 ∈ lw_g
set_option maxRecDepth 100000 in
theorem cw_0 : cwp 0 := g_mem (i := 107) rfl rfl
set_option maxRecDepth 100000 in
theorem cw_1 : cwp 1 := g_mem (i := 669) rfl rfl
set_option maxRecDepth 100000 in
theorem cw_2 : cwp 2 := g_mem (i := 702) rfl rfl
set_option maxRecDepth 100000 in
theorem cw_3 : cwp 3 := g_mem (i := 193) rfl rfl
set_option maxRecDepth 100000 in
theorem cw_4 : cwp 4 := g_mem (i := 452) rfl rfl
set_option maxRecDepth 100000 in
theorem cw_5 : cwp 5 := g_mem (i := 639) rfl rfl
set_option maxRecDepth 100000 in
theorem cw_6 : cwp 6 := g_mem (i := 456) rfl rfl
set_option maxRecDepth 100000 in
theorem cw_7 : cwp 7 := g_mem (i := 512) rfl rfl
set_option maxRecDepth 100000 in
theorem cw_8 : cwp 8 := g_mem (i := 132) rfl rfl
set_option maxRecDepth 100000 in
theorem cw_9 : cwp 9 := g_mem (i := 644) rfl rfl
set_option maxRecDepth 100000 in
theorem cw_10 : cwp 10 := g_mem (i := 123) rfl rfl
set_option maxRecDepth 100000 in
theorem cw_11 : cwp 11 := g_mem (i := 448) rfl rfl
set_option maxRecDepth 100000 in
theorem cw_12 : cwp 12 := g_mem (i := 635) rfl rfl
set_option maxRecDepth 100000 in
theorem cw_13 : cwp 13 := g_mem (i := 472) rfl rfl
set_option maxRecDepth 100000 in
theorem cw_14 : cwp 14 := g_mem (i := 598) rfl rfl
set_option maxRecDepth 100000 in
theorem cw_15 : cwp 15 := g_mem (i := 594) rfl rfl
set_option maxRecDepth 100000 in
theorem cw_16 : cwp 16 := g_mem (i := 590) rfl rfl
set_option maxRecDepth 100000 in
theorem cw_17 : cwp 17 := g_mem (i := 602) rfl rfl
set_option maxRecDepth 100000 in
theorem cw_18 : cwp 18 := g_mem (i := 606) rfl rfl
set_option maxRecDepth 100000 in
theorem cw_19 : cwp 19 := g_mem (i := 614) rfl rfl
set_option maxRecDepth 100000 in
theorem cw_20 : cwp 20 := g_mem (i := 622) rfl rfl
set_option maxRecDepth 100000 in
theorem cw_21 : cwp 21 := g_mem (i := 529) rfl rfl
set_option maxRecDepth 100000 in
theorem cw_22 : cwp 22 := g_mem (i := 464) rfl rfl
set_option maxRecDepth 100000 in
theorem cw_23 : cwp 23 := g_mem (i := 468) rfl rfl
set_option maxRecDepth 100000 in
theorem cw_24 : cwp 24 := g_mem (i := 484) rfl rfl
set_option maxRecDepth 100000 in
theorem cw_25 : cwp 25 := g_mem (i := 520) rfl rfl
set_option maxRecDepth 100000 in
theorem cw_26 : cwp 26 := g_mem (i := 525) rfl rfl
set_option maxRecDepth 100000 in
theorem cw_27 : cwp 27 := g_mem (i := 574) rfl rfl
set_option maxRecDepth 100000 in
theorem cw_28 : cwp 28 := g_mem (i := 578) rfl rfl
set_option maxRecDepth 100000 in
theorem cw_29 : cwp 29 := g_mem (i := 533) rfl rfl
set_option maxRecDepth 100000 in
theorem cw_30 : cwp 30 := g_mem (i := 541) rfl rfl
set_option maxRecDepth 100000 in
theorem cw_31 : cwp 31 := g_mem (i := 548) rfl rfl
set_option maxRecDepth 100000 in
theorem cw_32 : cwp 32 := g_mem (i := 556) rfl rfl
set_option maxRecDepth 100000 in
theorem cw_33 : cwp 33 := g_mem (i := 560) rfl rfl
set_option maxRecDepth 100000 in
theorem cw_34 : cwp 34 := g_mem (i := 564) rfl rfl
set_option maxRecDepth 100000 in
theorem cw_35 : cwp 35 := g_mem (i := 552) rfl rfl
set_option maxRecDepth 100000 in
theorem cw_36 : cwp 36 := g_mem (i := 488) rfl rfl
set_option maxRecDepth 100000 in
theorem cw_37 : cwp 37 := g_mem (i := 476) rfl rfl
set_option maxRecDepth 100000 in
theorem cw_38 : cwp 38 := g_mem (i := 480) rfl rfl
set_option maxRecDepth 100000 in
theorem cw_39 : cwp 39 := g_mem (i := 537) rfl rfl
set_option maxRecDepth 100000 in
theorem cw_40 : cwp 40 := g_mem (i := 138) rfl rfl
set_option maxRecDepth 100000 in
theorem cw_41 : cwp 41 := g_mem (i := 460) rfl rfl
set_option maxRecDepth 100000 in
theorem cw_42 : cwp 42 := g_mem (i := 516) rfl rfl
set_option maxRecDepth 100000 in
theorem cw_43 : cwp 43 := g_mem (i := 492) rfl rfl
set_option maxRecDepth 100000 in
theorem cw_44 : cwp 44 := g_mem (i := 500) rfl rfl
set_option maxRecDepth 100000 in
theorem cw_45 : cwp 45 := g_mem (i := 496) rfl rfl
set_option maxRecDepth 100000 in
theorem cw_46 : cwp 46 := g_mem (i := 504) rfl rfl
set_option maxRecDepth 100000 in
theorem cw_47 : cwp 47 := g_mem (i := 508) rfl rfl
set_option maxRecDepth 100000 in
theorem cw_48 : cwp 48 := g_mem (i := 63) rfl rfl
set_option maxRecDepth 100000 in
theorem cw_49 : cwp 49 := g_mem (i := 333) rfl rfl
set_option maxRecDepth 100000 in
theorem cw_50 : cwp 50 := g_mem (i := 337) rfl rfl
set_option maxRecDepth 100000 in
theorem cw_51 : cwp 51 := g_mem (i := 426) rfl rfl
set_option maxRecDepth 100000 in
theorem cw_52 : cwp 52 := g_mem (i := 431) rfl rfl
set_option maxRecDepth 100000 in
theorem cw_53 : cwp 53 := g_mem (i := 435) rfl rfl
set_option maxRecDepth 100000 in
theorem cw_54 : cwp 54 := g_mem (i := 438) rfl rfl
set_option maxRecDepth 100000 in
theorem cw_55 : cwp 55 := g_mem (i := 418) rfl rfl
set_option maxRecDepth 100000 in
theorem cw_56 : cwp 56 := g_mem (i := 422) rfl rfl
set_option maxRecDepth 100000 in
theorem cw_57 : cwp 57 := g_mem (i := 414) rfl rfl
set_option maxRecDepth 100000 in
theorem cw_58 : cwp 58 := g_mem (i := 32) rfl rfl
set_option maxRecDepth 100000 in
theorem cw_59 : cwp 59 := g_mem (i := 321) rfl rfl
set_option maxRecDepth 100000 in
theorem cw_60 : cwp 60 := g_mem (i := 341) rfl rfl
set_option maxRecDepth 100000 in
theorem cw_61 : cwp 61 := g_mem (i := 357) rfl rfl
set_option maxRecDepth 100000 in
theorem cw_62 : cwp 62 := g_mem (i := 362) rfl rfl
set_option maxRecDepth 100000 in
theorem cw_63 : cwp 63 := g_mem (i := 344) rfl rfl
set_option maxRecDepth 100000 in
theorem cw_64 : cwp 64 := g_mem (i := 350) rfl rfl
set_option maxRecDepth 100000 in
theorem cw_65 : cwp 65 := g_mem (i := 353) rfl rfl
set_option maxRecDepth 100000 in
theorem cw_66 : cwp 66 := g_mem (i := 24) rfl rfl
set_option maxRecDepth 100000 in
theorem cw_67 : cwp 67 := g_mem (i := 317) rfl rfl
set_option maxRecDepth 100000 in
theorem cw_68 : cwp 68 := g_mem (i := 325) rfl rfl
set_option maxRecDepth 100000 in
theorem cw_69 : cwp 69 := g_mem (i := 329) rfl rfl
set_option maxRecDepth 100000 in
theorem cw_70 : cwp 70 := g_mem (i := 582) rfl rfl
set_option maxRecDepth 100000 in
theorem cw_71 : cwp 71 := g_mem (i := 586) rfl rfl
set_option maxRecDepth 100000 in
theorem cw_72 : cwp 72 := g_mem (i := 610) rfl rfl
set_option maxRecDepth 100000 in
theorem cw_73 : cwp 73 := g_mem (i := 618) rfl rfl
set_option maxRecDepth 100000 in
theorem cw_74 : cwp 74 := g_mem (i := 626) rfl rfl
set_option maxRecDepth 100000 in
theorem cw_75 : cwp 75 := g_mem (i := 631) rfl rfl
set_option maxRecDepth 100000 in
theorem cw_76 : cwp 76 := g_mem (i := 650) rfl rfl
set_option maxRecDepth 100000 in
theorem cw_77 : cwp 77 := g_mem (i := 656) rfl rfl
set_option maxRecDepth 100000 in
theorem cw_78 : cwp 78 := g_mem (i := 660) rfl rfl
set_option maxRecDepth 100000 in
theorem cw_79 : cwp 79 := g_mem (i := 674) rfl rfl
set_option maxRecDepth 100000 in
theorem cw_80 : cwp 80 := g_mem (i := 679) rfl rfl
set_option maxRecDepth 100000 in
theorem cw_81 : cwp 81 := g_mem (i := 684) rfl rfl
set_option maxRecDepth 100000 in
theorem cw_82 : cwp 82 := g_mem (i := 689) rfl rfl
set_option maxRecDepth 100000 in
theorem cw_83 : cwp 83 := g_mem (i := 694) rfl rfl
set_option maxRecDepth 100000 in
theorem cw_84 : cwp 84 := g_mem (i := 698) rfl rfl
set_option maxRecDepth 100000 in
theorem cw_85 : cwp 85 := g_mem (i := 665) rfl rfl
set_option maxRecDepth 100000 in
theorem cw_86 : cwp 86 := g_mem (i := 776) rfl rfl
set_option maxRecDepth 100000 in
theorem cw_87 : cwp 87 := g_mem (i := 1093) rfl rfl
set_option maxRecDepth 100000 in
theorem cw_88 : cwp 88 := g_mem (i := 909) rfl rfl
set_option maxRecDepth 100000 in
theorem cw_89 : cwp 89 := g_mem (i := 785) rfl rfl
set_option maxRecDepth 100000 in
theorem cw_90 : cwp 90 := g_mem (i := 780) rfl rfl
set_option maxRecDepth 100000 in
theorem cw_91 : cwp 91 := g_mem (i := 789) rfl rfl
set_option maxRecDepth 100000 in
theorem cw_92 : cwp 92 := g_mem (i := 880) rfl rfl
set_option maxRecDepth 100000 in
theorem cw_93 : cwp 93 := g_mem (i := 876) rfl rfl
set_option maxRecDepth 100000 in
theorem cw_94 : cwp 94 := g_mem (i := 873) rfl rfl
set_option maxRecDepth 100000 in
theorem cw_95 : cwp 95 := g_mem (i := 870) rfl rfl
set_option maxRecDepth 100000 in
theorem cw_96 : cwp 96 := g_mem (i := 893) rfl rfl
set_option maxRecDepth 100000 in
theorem cw_97 : cwp 97 := g_mem (i := 889) rfl rfl
set_option maxRecDepth 100000 in
theorem cw_98 : cwp 98 := g_mem (i := 920) rfl rfl
set_option maxRecDepth 100000 in
theorem cw_99 : cwp 99 := g_mem (i := 898) rfl rfl
set_option maxRecDepth 100000 in
theorem cw_100 : cwp 100 := g_mem (i := 902) rfl rfl
set_option maxRecDepth 100000 in
theorem cw_101 : cwp 101 := g_mem (i := 793) rfl rfl
set_option maxRecDepth 100000 in
theorem cw_102 : cwp 102 := g_mem (i := 798) rfl rfl
set_option maxRecDepth 100000 in
theorem cw_103 : cwp 103 := g_mem (i := 801) rfl rfl
set_option maxRecDepth 100000 in
theorem cw_104 : cwp 104 := g_mem (i := 950) rfl rfl
set_option maxRecDepth 100000 in
theorem cw_105 : cwp 105 := g_mem (i := 946) rfl rfl
set_option maxRecDepth 100000 in
theorem cw_106 : cwp 106 := g_mem (i := 954) rfl rfl
set_option maxRecDepth 100000 in
theorem cw_107 : cwp 107 := g_mem (i := 969) rfl rfl
set_option maxRecDepth 100000 in
theorem cw_108 : cwp 108 := g_mem (i := 966) rfl rfl
set_option maxRecDepth 100000 in
theorem cw_109 : cwp 109 := g_mem (i := 962) rfl rfl
set_option maxRecDepth 100000 in
theorem cw_110 : cwp 110 := g_mem (i := 985) rfl rfl
set_option maxRecDepth 100000 in
theorem cw_111 : cwp 111 := g_mem (i := 989) rfl rfl
set_option maxRecDepth 100000 in
theorem cw_112 : cwp 112 := g_mem (i := 993) rfl rfl
set_option maxRecDepth 100000 in
theorem cw_113 : cwp 113 := g_mem (i := 1001) rfl rfl
set_option maxRecDepth 100000 in
theorem cw_114 : cwp 114 := g_mem (i := 1005) rfl rfl
set_option maxRecDepth 100000 in
theorem cw_115 : cwp 115 := g_mem (i := 997) rfl rfl
set_option maxRecDepth 100000 in
theorem cw_116 : cwp 116 := g_mem (i := 981) rfl rfl
set_option maxRecDepth 100000 in
theorem cw_117 : cwp 117 := g_mem (i := 958) rfl rfl
set_option maxRecDepth 100000 in
theorem cw_118 : cwp 118 := g_mem (i := 1041) rfl rfl
set_option maxRecDepth 100000 in
theorem cw_119 : cwp 119 := g_mem (i := 1013) rfl rfl
set_option maxRecDepth 100000 in
theorem cw_120 : cwp 120 := g_mem (i := 977) rfl rfl
set_option maxRecDepth 100000 in
theorem cw_121 : cwp 121 := g_mem (i := 1029) rfl rfl
set_option maxRecDepth 100000 in
theorem cw_122 : cwp 122 := g_mem (i := 1021) rfl rfl
set_option maxRecDepth 100000 in
theorem cw_123 : cwp 123 := g_mem (i := 1025) rfl rfl
set_option maxRecDepth 100000 in
theorem cw_124 : cwp 124 := g_mem (i := 1033) rfl rfl
set_option maxRecDepth 100000 in
theorem cw_125 : cwp 125 := g_mem (i := 1037) rfl rfl
set_option maxRecDepth 100000 in
theorem cw_126 : cwp 126 := g_mem (i := 1045) rfl rfl
set_option maxRecDepth 100000 in
theorem cw_127 : cwp 127 := g_mem (i := 1049) rfl rfl
set_option maxRecDepth 100000 in
theorem cw_128 : cwp 128 := g_mem (i := 942) rfl rfl
set_option maxRecDepth 100000 in
theorem cw_129 : cwp 129 := g_mem (i := 973) rfl rfl
set_option maxRecDepth 100000 in
theorem cw_130 : cwp 130 := g_mem (i := 1009) rfl rfl
set_option maxRecDepth 100000 in
theorem cw_131 : cwp 131 := g_mem (i := 1017) rfl rfl
set_option maxRecDepth 100000 in
theorem cw_132 : cwp 132 := g_mem (i := 1053) rfl rfl
set_option maxRecDepth 100000 in
theorem cw_133 : cwp 133 := g_mem (i := 1061) rfl rfl
set_option maxRecDepth 100000 in
theorem cw_134 : cwp 134 := g_mem (i := 1057) rfl rfl
set_option maxRecDepth 100000 in
theorem cw_135 : cwp 135 := g_mem (i := 906) rfl rfl
set_option maxRecDepth 100000 in
theorem cw_136 : cwp 136 := g_mem (i := 913) rfl rfl
set_option maxRecDepth 100000 in
theorem cw_137 : cwp 137 := g_mem (i := 886) rfl rfl
set_option maxRecDepth 100000 in
theorem cw_138 : cwp 138 := g_mem (i := 917) rfl rfl
set_option maxRecDepth 100000 in
theorem cw_139 : cwp 139 := g_mem (i := 924) rfl rfl
set_option maxRecDepth 100000 in
theorem cw_140 : cwp 140 := g_mem (i := 932) rfl rfl
set_option maxRecDepth 100000 in
theorem cw_141 : cwp 141 := g_mem (i := 938) rfl rfl
set_option maxRecDepth 100000 in
theorem cw_142 : cwp 142 := g_mem (i := 928) rfl rfl
set_option maxRecDepth 100000 in
theorem cw_143 : cwp 143 := g_mem (i := 866) rfl rfl
set_option maxRecDepth 100000 in
theorem cw_144 : cwp 144 := g_mem (i := 1065) rfl rfl
set_option maxRecDepth 100000 in
theorem cw_145 : cwp 145 := g_mem (i := 1069) rfl rfl
set_option maxRecDepth 100000 in
theorem cw_146 : cwp 146 := g_mem (i := 1085) rfl rfl
set_option maxRecDepth 100000 in
theorem cw_147 : cwp 147 := g_mem (i := 1077) rfl rfl
set_option maxRecDepth 100000 in
theorem cw_148 : cwp 148 := g_mem (i := 1081) rfl rfl
set_option maxRecDepth 100000 in
theorem cw_149 : cwp 149 := g_mem (i := 1073) rfl rfl
set_option maxRecDepth 100000 in
theorem cw_150 : cwp 150 := g_mem (i := 1089) rfl rfl
set_option maxRecDepth 100000 in
theorem cw_151 : cwp 151 := g_mem (i := 1097) rfl rfl
set_option maxRecDepth 100000 in
theorem cw_152 : cwp 152 := g_mem (i := 1105) rfl rfl
set_option maxRecDepth 100000 in
theorem cw_153 : cwp 153 := g_mem (i := 1101) rfl rfl
set_option maxRecDepth 100000 in
theorem cw_154 : cwp 154 := g_mem (i := 1109) rfl rfl
set_option maxRecDepth 100000 in
theorem cw_155 : cwp 155 := g_mem (i := 1117) rfl rfl
set_option maxRecDepth 100000 in
theorem cw_156 : cwp 156 := g_mem (i := 1113) rfl rfl
set_option maxRecDepth 100000 in
theorem cw_157 : cwp 157 := g_mem (i := 1121) rfl rfl
set_option maxRecDepth 100000 in
theorem cw_158 : cwp 158 := g_mem (i := 1125) rfl rfl
set_option maxRecDepth 100000 in
theorem cw_159 : cwp 159 := g_mem (i := 1137) rfl rfl
set_option maxRecDepth 100000 in
theorem cw_160 : cwp 160 := g_mem (i := 1133) rfl rfl
set_option maxRecDepth 100000 in
theorem cw_161 : cwp 161 := g_mem (i := 1129) rfl rfl
set_option maxRecDepth 100000 in
theorem cw_162 : cwp 162 := g_mem (i := 1141) rfl rfl
set_option maxRecDepth 100000 in
theorem cw_163 : cwp 163 := g_mem (i := 1145) rfl rfl
set_option maxRecDepth 100000 in
theorem cw_164 : cwp 164 := g_mem (i := 1149) rfl rfl
set_option maxRecDepth 100000 in
theorem cw_165 : cwp 165 := g_mem (i := 1153) rfl rfl
set_option maxRecDepth 100000 in
theorem cw_166 : cwp 166 := g_mem (i := 1157) rfl rfl
set_option maxRecDepth 100000 in
theorem cw_167 : cwp 167 := g_mem (i := 1161) rfl rfl
set_option maxRecDepth 100000 in
theorem cw_168 : cwp 168 := g_mem (i := 567) rfl rfl
set_option maxRecDepth 100000 in
theorem cw_169 : cwp 169 := g_mem (i := 544) rfl rfl
set_option maxRecDepth 100000 in
theorem cw_170 : cwp 170 := g_mem (i := 347) rfl rfl
set_option maxRecDepth 100000 in
theorem cw_171 : cwp 171 := g_mem (i := 366) rfl rfl
set_option maxRecDepth 100000 in
theorem cw_172 : cwp 172 := g_mem (i := 376) rfl rfl
def cwl : List Nat := [0, 1, 2, 3, 4, 5, 6, 7, 8, 9, 10, 11, 12, 13, 14, 15, 16, 17, 18, 19, 20, 21, 22, 23, 24, 25, 26, 27, 28, 29, 30, 31, 32, 33, 34, 35, 36, 37, 38, 39, 40, 41, 42, 43, 44, 45, 46, 47, 48, 49, 50, 51, 52, 53, 54, 55, 56, 57, 58, 59, 60, 61, 62, 63, 64, 65, 66, 67, 68, 69, 70, 71, 72, 73, 74, 75, 76, 77, 78, 79, 80, 81, 82, 83, 84, 85, 86, 87, 88, 89, 90, 91, 92, 93, 94, 95, 96, 97, 98, 99, 100, 101, 102, 103, 104, 105, 106, 107, 108, 109, 110, 111, 112, 113, 114, 115, 116, 117, 118, 119, 120, 121, 122, 123, 124, 125, 126, 127, 128, 129, 130, 131, 132, 133, 134, 135, 136, 137, 138, 139, 140, 141, 142, 143, 144, 145, 146, 147, 148, 149, 150, 151, 152, 153, 154, 155, 156, 157, 158, 159, 160, 161, 162, 163, 164, 165, 166, 167, 168, 169, 170, 171, 172]
set_option maxRecDepth 100000 in
theorem cwl_ok : ∀ n ∈ cwl, cwp n := List.forall_mem_cons.mpr ⟨cw_0, List.forall_mem_cons.mpr ⟨cw_1, List.forall_mem_cons.mpr ⟨cw_2, List.forall_mem_cons.mpr ⟨cw_3, List.forall_mem_cons.mpr ⟨cw_4, List.forall_mem_cons.mpr ⟨cw_5, List.forall_mem_cons.mpr ⟨cw_6, List.forall_mem_cons.mpr ⟨cw_7, List.forall_mem_cons.mpr ⟨cw_8, List.forall_mem_cons.mpr ⟨cw_9, List.forall_mem_cons.mpr ⟨cw_10, List.forall_mem_cons.mpr ⟨cw_11, List.forall_mem_cons.mpr ⟨cw_12, List.forall_mem_cons.mpr ⟨cw_13, List.forall_mem_cons.mpr ⟨cw_14, List.forall_mem_cons.mpr ⟨cw_15, List.forall_mem_cons.mpr ⟨cw_16, List.forall_mem_cons.mpr ⟨cw_17, List.forall_mem_cons.mpr ⟨cw_18, List.forall_mem_cons.mpr ⟨cw_19, List.forall_mem_cons.mpr ⟨cw_20, List.forall_mem_cons.mpr ⟨cw_21, List.forall_mem_cons.mpr ⟨cw_22, List.forall_mem_cons.mpr ⟨cw_23, List.forall_mem_cons.mpr ⟨cw_24, List.forall_mem_cons.mpr ⟨cw_25, List.forall_mem_cons.mpr ⟨cw_26, List.forall_mem_cons.mpr ⟨cw_27, List.forall_mem_cons.mpr ⟨cw_28, List.forall_mem_cons.mpr ⟨cw_29, List.forall_mem_cons.mpr ⟨cw_30, List.forall_mem_cons.mpr ⟨cw_31, List.forall_mem_cons.mpr ⟨cw_32, List.forall_mem_cons.mpr ⟨cw_33, List.forall_mem_cons.mpr ⟨cw_34, List.forall_mem_cons.mpr ⟨cw_35, List.forall_mem_cons.mpr ⟨cw_36, List.forall_mem_cons.mpr ⟨cw_37, List.forall_mem_cons.mpr ⟨cw_38, List.forall_mem_cons.mpr ⟨cw_39, List.forall_mem_cons.mpr ⟨cw_40, List.forall_mem_cons.mpr ⟨cw_41, List.forall_mem_cons.mpr ⟨cw_42, List.forall_mem_cons.mpr ⟨cw_43, List.forall_mem_cons.mpr ⟨cw_44, List.forall_mem_cons.mpr ⟨cw_45, List.forall_mem_cons.mpr ⟨cw_46, List.forall_mem_cons.mpr ⟨cw_47, List.forall_mem_cons.mpr ⟨cw_48, List.forall_mem_cons.mpr ⟨cw_49, List.forall_mem_cons.mpr ⟨cw_50, List.forall_mem_cons.mpr ⟨cw_51, List.forall_mem_cons.mpr ⟨cw_52, List.forall_mem_cons.mpr ⟨cw_53, List.forall_mem_cons.mpr ⟨cw_54, List.forall_mem_cons.mpr ⟨cw_55, List.forall_mem_cons.mpr ⟨cw_56, List.forall_mem_cons.mpr ⟨cw_57, List.forall_mem_cons.mpr ⟨cw_58, List.forall_mem_cons.mpr ⟨cw_59, List.forall_mem_cons.mpr ⟨cw_60, List.forall_mem_cons.mpr ⟨cw_61, List.forall_mem_cons.mpr ⟨cw_62, List.forall_mem_cons.mpr ⟨cw_63, List.forall_mem_cons.mpr ⟨cw_64, List.forall_mem_cons.mpr ⟨cw_65, List.forall_mem_cons.mpr ⟨cw_66, List.forall_mem_cons.mpr ⟨cw_67, List.forall_mem_cons.mpr ⟨cw_68, List.forall_mem_cons.mpr ⟨cw_69, List.forall_mem_cons.mpr ⟨cw_70, List.forall_mem_cons.mpr ⟨cw_71, List.forall_mem_cons.mpr ⟨cw_72, List.forall_mem_cons.mpr ⟨cw_73, List.forall_mem_cons.mpr ⟨cw_74, List.forall_mem_cons.mpr ⟨cw_75, List.forall_mem_cons.mpr ⟨cw_76, List.forall_mem_cons.mpr ⟨cw_77, List.forall_mem_cons.mpr ⟨cw_78, List.forall_mem_cons.mpr ⟨cw_79, List.forall_mem_cons.mpr ⟨cw_80, List.forall_mem_cons.mpr ⟨cw_81, List.forall_mem_cons.mpr ⟨cw_82, List.forall_mem_cons.mpr ⟨cw_83, List.forall_mem_cons.mpr ⟨cw_84, List.forall_mem_cons.mpr ⟨cw_85, List.forall_mem_cons.mpr ⟨cw_86, List.forall_mem_cons.mpr ⟨cw_87, List.forall_mem_cons.mpr ⟨cw_88, List.forall_mem_cons.mpr ⟨cw_89, List.forall_mem_cons.mpr ⟨cw_90, List.forall_mem_cons.mpr ⟨cw_91, List.forall_mem_cons.mpr ⟨cw_92, List.forall_mem_cons.mpr ⟨cw_93, List.forall_mem_cons.mpr ⟨cw_94, List.forall_mem_cons.mpr ⟨cw_95, List.forall_mem_cons.mpr ⟨cw_96, List.forall_mem_cons.mpr ⟨cw_97, List.forall_mem_cons.mpr ⟨cw_98, List.forall_mem_cons.mpr ⟨cw_99, List.forall_mem_cons.mpr ⟨cw_100, List.forall_mem_cons.mpr ⟨cw_101, List.forall_mem_cons.mpr ⟨cw_102, List.forall_mem_cons.mpr ⟨cw_103, List.forall_mem_cons.mpr ⟨cw_104, List.forall_mem_cons.mpr ⟨cw_105, List.forall_mem_cons.mpr ⟨cw_106, List.forall_mem_cons.mpr ⟨cw_107, List.forall_mem_cons.mpr ⟨cw_108, List.forall_mem_cons.mpr ⟨cw_109, List.forall_mem_cons.mpr ⟨cw_110, List.forall_mem_cons.mpr ⟨cw_111, List.forall_mem_cons.mpr ⟨cw_112, List.forall_mem_cons.mpr ⟨cw_113, List.forall_mem_cons.mpr ⟨cw_114, List.forall_mem_cons.mpr ⟨cw_115, List.forall_mem_cons.mpr ⟨cw_116, List.forall_mem_cons.mpr ⟨cw_117, List.forall_mem_cons.mpr ⟨cw_118, List.forall_mem_cons.mpr ⟨cw_119, List.forall_mem_cons.mpr ⟨cw_120, List.forall_mem_cons.mpr ⟨cw_121, List.forall_mem_cons.mpr ⟨cw_122, List.forall_mem_cons.mpr ⟨cw_123, List.forall_mem_cons.mpr ⟨cw_124, List.forall_mem_cons.mpr ⟨cw_125, List.forall_mem_cons.mpr ⟨cw_126, List.forall_mem_cons.mpr ⟨cw_127, List.forall_mem_cons.mpr ⟨cw_128, List.forall_mem_cons.mpr ⟨cw_129, List.forall_mem_cons.mpr ⟨cw_130, List.forall_mem_cons.mpr ⟨cw_131, List.forall_mem_cons.mpr ⟨cw_132, List.forall_mem_cons.mpr ⟨cw_133, List.forall_mem_cons.mpr ⟨cw_134, List.forall_mem_cons.mpr ⟨cw_135, List.forall_mem_cons.mpr ⟨cw_136, List.forall_mem_cons.mpr ⟨cw_137, List.forall_mem_cons.mpr ⟨cw_138, List.forall_mem_cons.mpr ⟨cw_139, List.forall_mem_cons.mpr ⟨cw_140, List.forall_mem_cons.mpr ⟨cw_141, List.forall_mem_cons.mpr ⟨cw_142, List.forall_mem_cons.mpr ⟨cw_143, List.forall_mem_cons.mpr ⟨cw_144, List.forall_mem_cons.mpr ⟨cw_145, List.forall_mem_cons.mpr ⟨cw_146, List.forall_mem_cons.mpr ⟨cw_147, List.forall_mem_cons.mpr ⟨cw_148, List.forall_mem_cons.mpr ⟨cw_149, List.forall_mem_cons.mpr ⟨cw_150, List.forall_mem_cons.mpr ⟨cw_151, List.forall_mem_cons.mpr ⟨cw_152, List.forall_mem_cons.mpr ⟨cw_153, List.forall_mem_cons.mpr ⟨cw_154, List.forall_mem_cons.mpr ⟨cw_155, List.forall_mem_cons.mpr ⟨cw_156, List.forall_mem_cons.mpr ⟨cw_157, List.forall_mem_cons.mpr ⟨cw_158, List.forall_mem_cons.mpr ⟨cw_159, List.forall_mem_cons.mpr ⟨cw_160, List.forall_mem_cons.mpr ⟨cw_161, List.forall_mem_cons.mpr ⟨cw_162, List.forall_mem_cons.mpr ⟨cw_163, List.forall_mem_cons.mpr ⟨cw_164, List.forall_mem_cons.mpr ⟨cw_165, List.forall_mem_cons.mpr ⟨cw_166, List.forall_mem_cons.mpr ⟨cw_167, List.forall_mem_cons.mpr ⟨cw_168, List.forall_mem_cons.mpr ⟨cw_169, List.forall_mem_cons.mpr ⟨cw_170, List.forall_mem_cons.mpr ⟨cw_171, List.forall_mem_cons.mpr ⟨cw_172, fun _ h => absurd h List.not_mem_nil⟩⟩⟩⟩⟩⟩⟩⟩⟩⟩⟩⟩⟩⟩⟩⟩⟩⟩⟩⟩⟩⟩⟩⟩⟩⟩⟩⟩⟩⟩⟩⟩⟩⟩⟩⟩⟩⟩⟩⟩⟩⟩⟩⟩⟩⟩⟩⟩⟩⟩⟩⟩⟩⟩⟩⟩⟩⟩⟩⟩⟩⟩⟩⟩⟩⟩⟩⟩⟩⟩⟩⟩⟩⟩⟩⟩⟩⟩⟩⟩⟩⟩⟩⟩⟩⟩⟩⟩⟩⟩⟩⟩⟩⟩⟩⟩⟩⟩⟩⟩⟩⟩⟩⟩⟩⟩⟩⟩⟩⟩⟩⟩⟩⟩⟩⟩⟩⟩⟩⟩⟩⟩⟩⟩⟩⟩⟩⟩⟩⟩⟩⟩⟩⟩⟩⟩⟩⟩⟩⟩⟩⟩⟩⟩⟩⟩⟩⟩⟩⟩⟩⟩⟩⟩⟩⟩⟩⟩⟩⟩⟩⟩⟩⟩⟩⟩⟩⟩⟩⟩⟩⟩⟩
theorem cwl_in : ∀ n, n < mtl.length → n ≠ 173 → n ∈ cwl := by decide +kernel
theorem cw_ok {n : Nat} (h : n < mtl.length) (h2 : n ≠ 173) : cwp n := cwl_ok n (cwl_in n h h2)
theorem mw_ok : ∀ n, n < mtl.length → tables_1[(mwl.getD n (0, 0, 0, 0)).2.1]? = some (.initialized (mth n).1.cls) ∧ goodWord (.initialized (mth n).1.cls) = true ∧ (mth n).1.cls = rnm (mth n).2.2.2.2.1 ∧ (mth n).2.2.1 ≤ 19 ∧ ((mth n).2.2.2.2.1 < 9 → plainName (mth n).1.cls = true) ∧ (mth n).1.cls ≠ "java/lang/invoke/MethodHandle" ∧ (mth n).1.cls ≠ "java/lang/invoke/VarHandle" := by decide +kernel
theorem mw_st : ∀ q ∈ clk, q.2.2.2.2.2.1 = 0 → tables_1[(mwl.getD q.2.2.1 (0, 0, 0, 0)).2.2.1]? = some (.static (mth q.2.2.1).1) ∧ goodWord (.static (mth q.2.2.1).1) = true := by decide +kernel
theorem mw_in : ∀ q ∈ clk, q.2.2.2.2.2.1 ≠ 0 → tables_1[(mwl.getD q.2.2.1 (0, 0, 0, 0)).2.2.1]? = some (.instanceMethod (mth q.2.2.1).1) ∧ goodWord (.instanceMethod (mth q.2.2.1).1) = true := by decide +kernel
theorem mw_se : ∀ q ∈ clk, q.2.2.2.2.2.1 = 1 → lw_tbl[(mwl.getD q.2.2.1 (0, 0, 0, 0)).2.2.2]? = some (.selects (mth q.2.2.1).1.cls (mth q.2.2.1).1 (mth q.2.2.1).1) ∧ goodWord (.selects (mth q.2.2.1).1.cls (mth q.2.2.1).1 (mth q.2.2.1).1) = true := by decide +kernel
theorem clk_law : ∀ q ∈ clk, q.2.2.1 ≠ 173 := by decide +kernel
