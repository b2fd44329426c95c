/-! THE LAW: call by call -/
section LW
variable {w : WP} {Γ Γ' : GM} {V V' : VH} {Q : QT} {bb Ls x M W W' nn i uc us : Nat}
theorem CI.k8 {Z L n k c : Nat} {T : Nat → Int} {fk : Int} {X : NT} {Y : Nat → NT} (hC : CI w Γ V x Z L T fk n k W X c Y) : Γ.1 x = 8 := by
  obtain ⟨-, -, -, -, ad, tb, hh, -, -, ⟨⟨g8, -⟩, -⟩, -⟩ := hC
  exact g8
theorem JI.mk' {L n k c : Nat} {T F K S H : Nat → Int} {fk : Int} {X : NT} {Y : Nat → NT} (hC : CI w Γ V x (M + 6) L T fk n k W X c Y) (hM : ML Γ M F) (f2 : F 2 = (L : Int)) (f8 : F 8 = fk) (f14 : F 14 = (c : Int)) (hS : SN c S Y) (hb : Γ.1 bb = 16 ∧ Γ.2.1 bb = Ls) (ho : Γ.1 (M + 6) = 12 ∧ Γ.2.1 (M + 6) = 1) (hbx : bb < x) (hxM : x + 595 = M) : JI w Γ (mS V M F T (fl X.1 X.2.1 X.2.2) K S H) bb Ls x M W :=
  ⟨L, T, fk, n, k, X, c, Y, hC.fr (fun b j hb => mS_o (by omega)), MI.new hM f2 f8 f14 hS, hb, ho, hbx, hxM⟩
abbrev lsL (bb x M i : Nat) : LT := [some (.inr (.inl bb)), some (.inr (.inl x)), some (.inr (.inl M)), some (.inr (.inl (M + 6))), some (.inl ((6 * i : Nat) : Int)), none, none]
/-- behind the switch -/
abbrev KN_ (w : WP) (Q : QT) (bb Ls x M W' i uc us : Nat) : Prop := ∀ Γ' V' uc' us', JI w Γ' V' bb Ls x M W' → uc' ≤ uc + 292 → us' ≤ us + 1786 → tG w 13 nLaw_law 758 (lsL bb x M i) [] Γ' V' uc' us' Q
theorem lc_now (hi : 6 * i + 6 ≤ Ls) (hLs : Ls ≤ 3072) (J : JI w Γ V bb Ls x M W) (hW1 : W + 1400 ≤ W') (hW2 : W' + 2800 ≤ 1000000000) (hW3 : 150000 ≤ W') (huc : uc + 292 ≤ 674013) (hus : us + 1786 ≤ 7074066) (kn : KN_ w Q bb Ls x M W' i uc us) : tG w 13 nLaw_law 256 (lsL bb x M i) [] Γ V uc us Q := by
  have hd : 4 ≤ 13 := by omega
  obtain ⟨L, T, fk, n, k, X, c, Y, hC, hMI, ⟨b16, bL0⟩, ⟨g12, l12⟩, hbx, hxM⟩ := id J
  obtain ⟨F, K, S, H, hM, m0, m1, m2, m3, m4, m5, f2, f8, f14, hS⟩ := id hMI
  have bL : (Γ.2.1 bb : Int) = (Ls : Int) := by rw [bL0]
  have g8 := hC.k8
  have g9 := hM.1.1
  have h10 := hC.c10
  have hL6 := hC.ln
  have em := mS_id m0 m1 m2 m3 m4 m5
  refine tG_at hd kLaw_law_256 ?_
  simp (disch := omega) only [bLaw_law_256, rn, sm, lg, lt_, cmpP, tk, pr_, pu, swl, cs, Nat.reduceAdd, Nat.reduceLeDiff, Nat.zero_le, Nat.le_refl, true_and, and_true, Int.toNat_natCast, Int.reduceToNat, Int.reduceEq, false_implies, true_implies, Int.reduceNeg, Int.cast_ofNat_Int, g8, g9, b16, bL, reduceIte, Nat.reduceEqDiff, true_or, or_true, Int.reduceLE, Int.reduceLT, Int.reduceAdd, Int.reduceSub, Int.reduceMul, not_true_eq_false, not_false_eq_true, implies_true, nat_s, wr_id, uR_at, uR_uR, u1_at, u1_ne, uf_at, uf_ne, iltT, iltF, ileT, ieqT, ieqF]
  refine T_now (by omega) hC ?_
  refine tG_at hd kLaw_law_266 ?_
  simp (disch := omega) only [bLaw_law_266, rn, sm, lg, lt_, cmpP, tk, pr_, pu, swl, cs, Nat.reduceAdd, Nat.reduceLeDiff, Nat.zero_le, Nat.le_refl, true_and, and_true, Int.toNat_natCast, Int.reduceToNat, Int.reduceEq, false_implies, true_implies, Int.reduceNeg, Int.cast_ofNat_Int, g8, g9, b16, bL, reduceIte, Nat.reduceEqDiff, true_or, or_true, Int.reduceLE, Int.reduceLT, Int.reduceAdd, Int.reduceSub, Int.reduceMul, not_true_eq_false, not_false_eq_true, implies_true, nat_s, wr_id, uR_at, uR_uR, u1_at, u1_ne, uf_at, uf_ne, iltT, iltF, ileT, ieqT, ieqF]
  rw [← em]
  refine c_now (by omega) hM hC.g f14 f2 ?_
  refine tG_at hd kLaw_law_276 ?_
  simp (disch := omega) only [bLaw_law_276, rn, sm, lg, lt_, cmpP, tk, pr_, pu, swl, cs, Nat.reduceAdd, Nat.reduceLeDiff, Nat.zero_le, Nat.le_refl, true_and, and_true, Int.toNat_natCast, Int.reduceToNat, Int.reduceEq, false_implies, true_implies, Int.reduceNeg, Int.cast_ofNat_Int, g8, g9, b16, bL, reduceIte, Nat.reduceEqDiff, true_or, or_true, Int.reduceLE, Int.reduceLT, Int.reduceAdd, Int.reduceSub, Int.reduceMul, not_true_eq_false, not_false_eq_true, implies_true, nat_s, wr_id, uR_at, uR_uR, u1_at, u1_ne, uf_at, uf_ne, iltT, iltF, ileT, ieqT, ieqF]
  exact kn Γ _ uc us ((JI.mk' hC (hM.uF (by omega)) ((uF_ne (by omega)).trans f2) ((uF_ne (by omega)).trans f8) ((uF_ne (by omega)).trans f14) hS ⟨b16, bL0⟩ ⟨g12, l12⟩ hbx hxM).mono (by omega) (by omega)) (by omega) (by omega)
theorem lc_pass (hi : 6 * i + 6 ≤ Ls) (hLs : Ls ≤ 3072) (J : JI w Γ V bb Ls x M W) (hW1 : W + 1400 ≤ W') (hW2 : W' + 2800 ≤ 1000000000) (hW3 : 150000 ≤ W') (huc : uc + 292 ≤ 674013) (hus : us + 1786 ≤ 7074066) (kn : KN_ w Q bb Ls x M W' i uc us) : tG w 13 nLaw_law 349 (lsL bb x M i) [] Γ V uc us Q := by
  have hd : 4 ≤ 13 := by omega
  obtain ⟨L, T, fk, n, k, X, c, Y, hC, hMI, ⟨b16, bL0⟩, ⟨g12, l12⟩, hbx, hxM⟩ := id J
  obtain ⟨F, K, S, H, hM, m0, m1, m2, m3, m4, m5, f2, f8, f14, hS⟩ := id hMI
  have bL : (Γ.2.1 bb : Int) = (Ls : Int) := by rw [bL0]
  have g8 := hC.k8
  have g9 := hM.1.1
  have h10 := hC.c10
  have hL6 := hC.ln
  have em := mS_id m0 m1 m2 m3 m4 m5
  refine tG_at hd kLaw_law_349 ?_
  simp (disch := omega) only [bLaw_law_349, rn, sm, lg, lt_, cmpP, tk, pr_, pu, swl, cs, Nat.reduceAdd, Nat.reduceLeDiff, Nat.zero_le, Nat.le_refl, true_and, and_true, Int.toNat_natCast, Int.reduceToNat, Int.reduceEq, false_implies, true_implies, Int.reduceNeg, Int.cast_ofNat_Int, g8, g9, b16, bL, reduceIte, Nat.reduceEqDiff, true_or, or_true, Int.reduceLE, Int.reduceLT, Int.reduceAdd, Int.reduceSub, Int.reduceMul, not_true_eq_false, not_false_eq_true, implies_true, nat_s, wr_id, uR_at, uR_uR, u1_at, u1_ne, uf_at, uf_ne, iltT, iltF, ileT, ieqT, ieqF]
  refine T_pass (by omega) hC ?_
  refine tG_at hd kLaw_law_365 ?_
  simp (disch := omega) only [bLaw_law_365, rn, sm, lg, lt_, cmpP, tk, pr_, pu, swl, cs, Nat.reduceAdd, Nat.reduceLeDiff, Nat.zero_le, Nat.le_refl, true_and, and_true, Int.toNat_natCast, Int.reduceToNat, Int.reduceEq, false_implies, true_implies, Int.reduceNeg, Int.cast_ofNat_Int, g8, g9, b16, bL, reduceIte, Nat.reduceEqDiff, true_or, or_true, Int.reduceLE, Int.reduceLT, Int.reduceAdd, Int.reduceSub, Int.reduceMul, not_true_eq_false, not_false_eq_true, implies_true, nat_s, wr_id, uR_at, uR_uR, u1_at, u1_ne, uf_at, uf_ne, iltT, iltF, ileT, ieqT, ieqF]
  rw [← em]
  refine c_pass (by omega) hM hC.g ?_
  refine tG_at hd kLaw_law_381 ?_
  simp (disch := omega) only [bLaw_law_381, rn, sm, lg, lt_, cmpP, tk, pr_, pu, swl, cs, Nat.reduceAdd, Nat.reduceLeDiff, Nat.zero_le, Nat.le_refl, true_and, and_true, Int.toNat_natCast, Int.reduceToNat, Int.reduceEq, false_implies, true_implies, Int.reduceNeg, Int.cast_ofNat_Int, g8, g9, b16, bL, reduceIte, Nat.reduceEqDiff, true_or, or_true, Int.reduceLE, Int.reduceLT, Int.reduceAdd, Int.reduceSub, Int.reduceMul, not_true_eq_false, not_false_eq_true, implies_true, nat_s, wr_id, uR_at, uR_uR, u1_at, u1_ne, uf_at, uf_ne, iltT, iltF, ileT, ieqT, ieqF]
  exact kn Γ _ uc us ((JI.mk' hC (hM.uF (by omega)) ((uF_ne (by omega)).trans f2) ((uF_ne (by omega)).trans f8) ((uF_ne (by omega)).trans f14) hS ⟨b16, bL0⟩ ⟨g12, l12⟩ hbx hxM).mono (by omega) (by omega)) (by omega) (by omega)
theorem lc_way (hi : 6 * i + 6 ≤ Ls) (hLs : Ls ≤ 3072) (J : JI w Γ V bb Ls x M W) (hW1 : W + 1400 ≤ W') (hW2 : W' + 2800 ≤ 1000000000) (hW3 : 150000 ≤ W') (huc : uc + 292 ≤ 674013) (hus : us + 1786 ≤ 7074066) (kn : KN_ w Q bb Ls x M W' i uc us) : tG w 13 nLaw_law 386 (lsL bb x M i) [] Γ V uc us Q := by
  have hd : 4 ≤ 13 := by omega
  obtain ⟨L, T, fk, n, k, X, c, Y, hC, hMI, ⟨b16, bL0⟩, ⟨g12, l12⟩, hbx, hxM⟩ := id J
  obtain ⟨F, K, S, H, hM, m0, m1, m2, m3, m4, m5, f2, f8, f14, hS⟩ := id hMI
  have bL : (Γ.2.1 bb : Int) = (Ls : Int) := by rw [bL0]
  have g8 := hC.k8
  have g9 := hM.1.1
  have h10 := hC.c10
  have hL6 := hC.ln
  have em := mS_id m0 m1 m2 m3 m4 m5
  refine tG_at hd kLaw_law_386 ?_
  simp (disch := omega) only [bLaw_law_386, rn, sm, lg, lt_, cmpP, tk, pr_, pu, swl, cs, Nat.reduceAdd, Nat.reduceLeDiff, Nat.zero_le, Nat.le_refl, true_and, and_true, Int.toNat_natCast, Int.reduceToNat, Int.reduceEq, false_implies, true_implies, Int.reduceNeg, Int.cast_ofNat_Int, g8, g9, b16, bL, reduceIte, Nat.reduceEqDiff, true_or, or_true, Int.reduceLE, Int.reduceLT, Int.reduceAdd, Int.reduceSub, Int.reduceMul, not_true_eq_false, not_false_eq_true, implies_true, nat_s, wr_id, uR_at, uR_uR, u1_at, u1_ne, uf_at, uf_ne, iltT, iltF, ileT, ieqT, ieqF]
  refine T_way (by omega) hC ?_
  refine tG_at hd kLaw_law_402 ?_
  simp (disch := omega) only [bLaw_law_402, rn, sm, lg, lt_, cmpP, tk, pr_, pu, swl, cs, Nat.reduceAdd, Nat.reduceLeDiff, Nat.zero_le, Nat.le_refl, true_and, and_true, Int.toNat_natCast, Int.reduceToNat, Int.reduceEq, false_implies, true_implies, Int.reduceNeg, Int.cast_ofNat_Int, g8, g9, b16, bL, reduceIte, Nat.reduceEqDiff, true_or, or_true, Int.reduceLE, Int.reduceLT, Int.reduceAdd, Int.reduceSub, Int.reduceMul, not_true_eq_false, not_false_eq_true, implies_true, nat_s, wr_id, uR_at, uR_uR, u1_at, u1_ne, uf_at, uf_ne, iltT, iltF, ileT, ieqT, ieqF]
  rw [← em]
  refine c_way (by omega) hM hC.g ?_
  refine tG_at hd kLaw_law_418 ?_
  simp (disch := omega) only [bLaw_law_418, rn, sm, lg, lt_, cmpP, tk, pr_, pu, swl, cs, Nat.reduceAdd, Nat.reduceLeDiff, Nat.zero_le, Nat.le_refl, true_and, and_true, Int.toNat_natCast, Int.reduceToNat, Int.reduceEq, false_implies, true_implies, Int.reduceNeg, Int.cast_ofNat_Int, g8, g9, b16, bL, reduceIte, Nat.reduceEqDiff, true_or, or_true, Int.reduceLE, Int.reduceLT, Int.reduceAdd, Int.reduceSub, Int.reduceMul, not_true_eq_false, not_false_eq_true, implies_true, nat_s, wr_id, uR_at, uR_uR, u1_at, u1_ne, uf_at, uf_ne, iltT, iltF, ileT, ieqT, ieqF]
  exact kn Γ _ uc us ((JI.mk' hC (hM.uF (by omega)) ((uF_ne (by omega)).trans f2) ((uF_ne (by omega)).trans f8) ((uF_ne (by omega)).trans f14) hS ⟨b16, bL0⟩ ⟨g12, l12⟩ hbx hxM).mono (by omega) (by omega)) (by omega) (by omega)
theorem lc_message (hi : 6 * i + 6 ≤ Ls) (hLs : Ls ≤ 3072) (J : JI w Γ V bb Ls x M W) (hW1 : W + 1400 ≤ W') (hW2 : W' + 2800 ≤ 1000000000) (hW3 : 150000 ≤ W') (huc : uc + 292 ≤ 674013) (hus : us + 1786 ≤ 7074066) (kn : KN_ w Q bb Ls x M W' i uc us) : tG w 13 nLaw_law 423 (lsL bb x M i) [] Γ V uc us Q := by
  have hd : 4 ≤ 13 := by omega
  obtain ⟨L, T, fk, n, k, X, c, Y, hC, hMI, ⟨b16, bL0⟩, ⟨g12, l12⟩, hbx, hxM⟩ := id J
  obtain ⟨F, K, S, H, hM, m0, m1, m2, m3, m4, m5, f2, f8, f14, hS⟩ := id hMI
  have bL : (Γ.2.1 bb : Int) = (Ls : Int) := by rw [bL0]
  have g8 := hC.k8
  have g9 := hM.1.1
  have h10 := hC.c10
  have hL6 := hC.ln
  have em := mS_id m0 m1 m2 m3 m4 m5
  refine tG_at hd kLaw_law_423 ?_
  simp (disch := omega) only [bLaw_law_423, rn, sm, lg, lt_, cmpP, tk, pr_, pu, swl, cs, Nat.reduceAdd, Nat.reduceLeDiff, Nat.zero_le, Nat.le_refl, true_and, and_true, Int.toNat_natCast, Int.reduceToNat, Int.reduceEq, false_implies, true_implies, Int.reduceNeg, Int.cast_ofNat_Int, g8, g9, b16, bL, reduceIte, Nat.reduceEqDiff, true_or, or_true, Int.reduceLE, Int.reduceLT, Int.reduceAdd, Int.reduceSub, Int.reduceMul, not_true_eq_false, not_false_eq_true, implies_true, nat_s, wr_id, uR_at, uR_uR, u1_at, u1_ne, uf_at, uf_ne, iltT, iltF, ileT, ieqT, ieqF]
  refine T_message (by omega) hC ?_
  refine tG_at hd kLaw_law_451 ?_
  simp (disch := omega) only [bLaw_law_451, rn, sm, lg, lt_, cmpP, tk, pr_, pu, swl, cs, Nat.reduceAdd, Nat.reduceLeDiff, Nat.zero_le, Nat.le_refl, true_and, and_true, Int.toNat_natCast, Int.reduceToNat, Int.reduceEq, false_implies, true_implies, Int.reduceNeg, Int.cast_ofNat_Int, g8, g9, b16, bL, reduceIte, Nat.reduceEqDiff, true_or, or_true, Int.reduceLE, Int.reduceLT, Int.reduceAdd, Int.reduceSub, Int.reduceMul, not_true_eq_false, not_false_eq_true, implies_true, nat_s, wr_id, uR_at, uR_uR, u1_at, u1_ne, uf_at, uf_ne, iltT, iltF, ileT, ieqT, ieqF]
  rw [← em]
  refine c_message (by omega) hM hC.g ?_
  refine tG_at hd kLaw_law_479 ?_
  simp (disch := omega) only [bLaw_law_479, rn, sm, lg, lt_, cmpP, tk, pr_, pu, swl, cs, Nat.reduceAdd, Nat.reduceLeDiff, Nat.zero_le, Nat.le_refl, true_and, and_true, Int.toNat_natCast, Int.reduceToNat, Int.reduceEq, false_implies, true_implies, Int.reduceNeg, Int.cast_ofNat_Int, g8, g9, b16, bL, reduceIte, Nat.reduceEqDiff, true_or, or_true, Int.reduceLE, Int.reduceLT, Int.reduceAdd, Int.reduceSub, Int.reduceMul, not_true_eq_false, not_false_eq_true, implies_true, nat_s, wr_id, uR_at, uR_uR, u1_at, u1_ne, uf_at, uf_ne, iltT, iltF, ileT, ieqT, ieqF]
  exact kn Γ _ uc us ((JI.mk' hC (hM.uF (by omega)) ((uF_ne (by omega)).trans f2) ((uF_ne (by omega)).trans f8) ((uF_ne (by omega)).trans f14) hS ⟨b16, bL0⟩ ⟨g12, l12⟩ hbx hxM).mono (by omega) (by omega)) (by omega) (by omega)
theorem lc_fault (hi : 6 * i + 6 ≤ Ls) (hLs : Ls ≤ 3072) (J : JI w Γ V bb Ls x M W) (hW1 : W + 1400 ≤ W') (hW2 : W' + 2800 ≤ 1000000000) (hW3 : 150000 ≤ W') (huc : uc + 292 ≤ 674013) (hus : us + 1786 ≤ 7074066) (kn : KN_ w Q bb Ls x M W' i uc us) : tG w 13 nLaw_law 243 (lsL bb x M i) [] Γ V uc us Q := by
  have hd : 4 ≤ 13 := by omega
  obtain ⟨L, T, fk, n, k, X, c, Y, hC, hMI, ⟨b16, bL0⟩, ⟨g12, l12⟩, hbx, hxM⟩ := id J
  obtain ⟨F, K, S, H, hM, m0, m1, m2, m3, m4, m5, f2, f8, f14, hS⟩ := id hMI
  have bL : (Γ.2.1 bb : Int) = (Ls : Int) := by rw [bL0]
  have g8 := hC.k8
  have g9 := hM.1.1
  have h10 := hC.c10
  have hL6 := hC.ln
  have em := mS_id m0 m1 m2 m3 m4 m5
  refine tG_at hd kLaw_law_243 ?_
  simp (disch := omega) only [bLaw_law_243, rn, sm, lg, lt_, cmpP, tk, pr_, pu, swl, cs, Nat.reduceAdd, Nat.reduceLeDiff, Nat.zero_le, Nat.le_refl, true_and, and_true, Int.toNat_natCast, Int.reduceToNat, Int.reduceEq, false_implies, true_implies, Int.reduceNeg, Int.cast_ofNat_Int, g8, g9, b16, bL, reduceIte, Nat.reduceEqDiff, true_or, or_true, Int.reduceLE, Int.reduceLT, Int.reduceAdd, Int.reduceSub, Int.reduceMul, not_true_eq_false, not_false_eq_true, implies_true, nat_s, wr_id, uR_at, uR_uR, u1_at, u1_ne, uf_at, uf_ne, iltT, iltF, ileT, ieqT, ieqF]
  refine T_fault (by omega) hC ?_
  refine tG_at hd kLaw_law_247 ?_
  simp (disch := omega) only [bLaw_law_247, rn, sm, lg, lt_, cmpP, tk, pr_, pu, swl, cs, Nat.reduceAdd, Nat.reduceLeDiff, Nat.zero_le, Nat.le_refl, true_and, and_true, Int.toNat_natCast, Int.reduceToNat, Int.reduceEq, false_implies, true_implies, Int.reduceNeg, Int.cast_ofNat_Int, g8, g9, b16, bL, reduceIte, Nat.reduceEqDiff, true_or, or_true, Int.reduceLE, Int.reduceLT, Int.reduceAdd, Int.reduceSub, Int.reduceMul, not_true_eq_false, not_false_eq_true, implies_true, nat_s, wr_id, uR_at, uR_uR, u1_at, u1_ne, uf_at, uf_ne, iltT, iltF, ileT, ieqT, ieqF]
  rw [← em]
  refine c_fault (by omega) hM ?_
  rw [f8]
  refine tG_at hd kLaw_law_251 ?_
  simp (disch := omega) only [bLaw_law_251, rn, sm, lg, lt_, cmpP, tk, pr_, pu, swl, cs, Nat.reduceAdd, Nat.reduceLeDiff, Nat.zero_le, Nat.le_refl, true_and, and_true, Int.toNat_natCast, Int.reduceToNat, Int.reduceEq, false_implies, true_implies, Int.reduceNeg, Int.cast_ofNat_Int, g8, g9, b16, bL, reduceIte, Nat.reduceEqDiff, true_or, or_true, Int.reduceLE, Int.reduceLT, Int.reduceAdd, Int.reduceSub, Int.reduceMul, not_true_eq_false, not_false_eq_true, implies_true, nat_s, wr_id, uR_at, uR_uR, u1_at, u1_ne, uf_at, uf_ne, iltT, iltF, ileT, ieqT, ieqF]
  exact kn Γ _ uc us ((JI.mk' hC (hM.uF (by omega)) ((uF_ne (by omega)).trans f2) ((uF_ne (by omega)).trans f8) ((uF_ne (by omega)).trans f14) hS ⟨b16, bL0⟩ ⟨g12, l12⟩ hbx hxM).mono (by omega) (by omega)) (by omega) (by omega)
theorem lc_would (hi : 6 * i + 6 ≤ Ls) (hLs : Ls ≤ 3072) (J : JI w Γ V bb Ls x M W) (hW1 : W + 1400 ≤ W') (hW2 : W' + 2800 ≤ 1000000000) (hW3 : 150000 ≤ W') (huc : uc + 292 ≤ 674013) (hus : us + 1786 ≤ 7074066) (kn : KN_ w Q bb Ls x M W' i uc us) : tG w 13 nLaw_law 484 (lsL bb x M i) [] Γ V uc us Q := by
  have hd : 4 ≤ 13 := by omega
  obtain ⟨L, T, fk, n, k, X, c, Y, hC, hMI, ⟨b16, bL0⟩, ⟨g12, l12⟩, hbx, hxM⟩ := id J
  obtain ⟨F, K, S, H, hM, m0, m1, m2, m3, m4, m5, f2, f8, f14, hS⟩ := id hMI
  have bL : (Γ.2.1 bb : Int) = (Ls : Int) := by rw [bL0]
  have g8 := hC.k8
  have g9 := hM.1.1
  have h10 := hC.c10
  have hL6 := hC.ln
  refine tG_at hd kLaw_law_484 ?_
  simp (disch := omega) only [bLaw_law_484, rn, sm, lg, lt_, cmpP, tk, pr_, pu, swl, cs, Nat.reduceAdd, Nat.reduceLeDiff, Nat.zero_le, Nat.le_refl, true_and, and_true, Int.toNat_natCast, Int.reduceToNat, Int.reduceEq, false_implies, true_implies, Int.reduceNeg, Int.cast_ofNat_Int, g8, g9, b16, bL, reduceIte, Nat.reduceEqDiff, true_or, or_true, Int.reduceLE, Int.reduceLT, Int.reduceAdd, Int.reduceSub, Int.reduceMul, not_true_eq_false, not_false_eq_true, implies_true, nat_s, wr_id, uR_at, uR_uR, u1_at, u1_ne, uf_at, uf_ne, iltT, iltF, ileT, ieqT, ieqF]
  refine T_would (by omega) hC (by omega) (fun V1 hC1 fr => ?_)
  have sc : ∀ j, V1 bb j = V bb j := fun j => fr bb j (by omega)
  have em := mS_id (fun j => (fr M j (by omega)).trans (m0 j)) (fun j => (fr (M + 1) j (by omega)).trans (m1 j)) (fun j => (fr (M + 2) j (by omega)).trans (m2 j)) (fun j => (fr (M + 3) j (by omega)).trans (m3 j)) (fun j => (fr (M + 4) j (by omega)).trans (m4 j)) (fun j => (fr (M + 5) j (by omega)).trans (m5 j))
  refine tG_at hd kLaw_law_500 ?_
  simp (disch := omega) only [bLaw_law_500, rn, sm, lg, lt_, cmpP, tk, pr_, pu, swl, cs, Nat.reduceAdd, Nat.reduceLeDiff, Nat.zero_le, Nat.le_refl, true_and, and_true, Int.toNat_natCast, Int.reduceToNat, Int.reduceEq, false_implies, true_implies, Int.reduceNeg, Int.cast_ofNat_Int, g8, g9, b16, bL, reduceIte, Nat.reduceEqDiff, true_or, or_true, Int.reduceLE, Int.reduceLT, Int.reduceAdd, Int.reduceSub, Int.reduceMul, not_true_eq_false, not_false_eq_true, implies_true, nat_s, wr_id, uR_at, uR_uR, u1_at, u1_ne, uf_at, uf_ne, iltT, iltF, ileT, ieqT, ieqF, sc]
  rw [← FF_self (F := F)] at em
  rw [← em]
  refine c_would (by omega) hM hC.g (by omega) (fun h' c' K' H' => ?_)
  refine tG_at hd kLaw_law_516 ?_
  simp (disch := omega) only [bLaw_law_516, rn, sm, lg, lt_, cmpP, tk, pr_, pu, swl, cs, Nat.reduceAdd, Nat.reduceLeDiff, Nat.zero_le, Nat.le_refl, true_and, and_true, Int.toNat_natCast, Int.reduceToNat, Int.reduceEq, false_implies, true_implies, Int.reduceNeg, Int.cast_ofNat_Int, g8, g9, b16, bL, reduceIte, Nat.reduceEqDiff, true_or, or_true, Int.reduceLE, Int.reduceLT, Int.reduceAdd, Int.reduceSub, Int.reduceMul, not_true_eq_false, not_false_eq_true, implies_true, nat_s, wr_id, uR_at, uR_uR, u1_at, u1_ne, uf_at, uf_ne, iltT, iltF, ileT, ieqT, ieqF]
  exact kn Γ _ uc us ((JI.mk' hC1 (hM.uF (by omega)).FF (by rw [FF_ne (by omega) (by omega), uF_ne (by omega)]; exact f2) (by rw [FF_ne (by omega) (by omega), uF_ne (by omega)]; exact f8) (by rw [FF_ne (by omega) (by omega), uF_ne (by omega)]; exact f14) hS ⟨b16, bL0⟩ ⟨g12, l12⟩ hbx hxM).mono (by omega) (by omega)) (by omega) (by omega)
theorem lc_soon (hi : 6 * i + 6 ≤ Ls) (hLs : Ls ≤ 3072) (J : JI w Γ V bb Ls x M W) (hW1 : W + 1400 ≤ W') (hW2 : W' + 2800 ≤ 1000000000) (hW3 : 150000 ≤ W') (huc : uc + 292 ≤ 674013) (hus : us + 1786 ≤ 7074066) (kn : KN_ w Q bb Ls x M W' i uc us) : tG w 13 nLaw_law 521 (lsL bb x M i) [] Γ V uc us Q := by
  have hd : 4 ≤ 13 := by omega
  obtain ⟨L, T, fk, n, k, X, c, Y, hC, hMI, ⟨b16, bL0⟩, ⟨g12, l12⟩, hbx, hxM⟩ := id J
  obtain ⟨F, K, S, H, hM, m0, m1, m2, m3, m4, m5, f2, f8, f14, hS⟩ := id hMI
  have bL : (Γ.2.1 bb : Int) = (Ls : Int) := by rw [bL0]
  have g8 := hC.k8
  have g9 := hM.1.1
  have h10 := hC.c10
  have hL6 := hC.ln
  refine tG_at hd kLaw_law_521 ?_
  simp (disch := omega) only [bLaw_law_521, rn, sm, lg, lt_, cmpP, tk, pr_, pu, swl, cs, Nat.reduceAdd, Nat.reduceLeDiff, Nat.zero_le, Nat.le_refl, true_and, and_true, Int.toNat_natCast, Int.reduceToNat, Int.reduceEq, false_implies, true_implies, Int.reduceNeg, Int.cast_ofNat_Int, g8, g9, b16, bL, reduceIte, Nat.reduceEqDiff, true_or, or_true, Int.reduceLE, Int.reduceLT, Int.reduceAdd, Int.reduceSub, Int.reduceMul, not_true_eq_false, not_false_eq_true, implies_true, nat_s, wr_id, uR_at, uR_uR, u1_at, u1_ne, uf_at, uf_ne, iltT, iltF, ileT, ieqT, ieqF]
  refine T_soon (by omega) hC (by omega) (fun V1 hC1 fr => ?_)
  have sc : ∀ j, V1 bb j = V bb j := fun j => fr bb j (by omega)
  have em := mS_id (fun j => (fr M j (by omega)).trans (m0 j)) (fun j => (fr (M + 1) j (by omega)).trans (m1 j)) (fun j => (fr (M + 2) j (by omega)).trans (m2 j)) (fun j => (fr (M + 3) j (by omega)).trans (m3 j)) (fun j => (fr (M + 4) j (by omega)).trans (m4 j)) (fun j => (fr (M + 5) j (by omega)).trans (m5 j))
  refine tG_at hd kLaw_law_531 ?_
  simp (disch := omega) only [bLaw_law_531, rn, sm, lg, lt_, cmpP, tk, pr_, pu, swl, cs, Nat.reduceAdd, Nat.reduceLeDiff, Nat.zero_le, Nat.le_refl, true_and, and_true, Int.toNat_natCast, Int.reduceToNat, Int.reduceEq, false_implies, true_implies, Int.reduceNeg, Int.cast_ofNat_Int, g8, g9, b16, bL, reduceIte, Nat.reduceEqDiff, true_or, or_true, Int.reduceLE, Int.reduceLT, Int.reduceAdd, Int.reduceSub, Int.reduceMul, not_true_eq_false, not_false_eq_true, implies_true, nat_s, wr_id, uR_at, uR_uR, u1_at, u1_ne, uf_at, uf_ne, iltT, iltF, ileT, ieqT, ieqF, sc]
  rw [← FF_self (F := F)] at em
  rw [← em]
  refine c_soon (by omega) hM hC.g (by omega) (fun h' c' K' H' => ?_)
  refine tG_at hd kLaw_law_541 ?_
  simp (disch := omega) only [bLaw_law_541, rn, sm, lg, lt_, cmpP, tk, pr_, pu, swl, cs, Nat.reduceAdd, Nat.reduceLeDiff, Nat.zero_le, Nat.le_refl, true_and, and_true, Int.toNat_natCast, Int.reduceToNat, Int.reduceEq, false_implies, true_implies, Int.reduceNeg, Int.cast_ofNat_Int, g8, g9, b16, bL, reduceIte, Nat.reduceEqDiff, true_or, or_true, Int.reduceLE, Int.reduceLT, Int.reduceAdd, Int.reduceSub, Int.reduceMul, not_true_eq_false, not_false_eq_true, implies_true, nat_s, wr_id, uR_at, uR_uR, u1_at, u1_ne, uf_at, uf_ne, iltT, iltF, ileT, ieqT, ieqF]
  exact kn Γ _ uc us ((JI.mk' hC1 (hM.uF (by omega)).FF (by rw [FF_ne (by omega) (by omega), uF_ne (by omega)]; exact f2) (by rw [FF_ne (by omega) (by omega), uF_ne (by omega)]; exact f8) (by rw [FF_ne (by omega) (by omega), uF_ne (by omega)]; exact f14) hS ⟨b16, bL0⟩ ⟨g12, l12⟩ hbx hxM).mono (by omega) (by omega)) (by omega) (by omega)
theorem lc_order (hi : 6 * i + 6 ≤ Ls) (hLs : Ls ≤ 3072) (J : JI w Γ V bb Ls x M W) (hW1 : W + 1400 ≤ W') (hW2 : W' + 2800 ≤ 1000000000) (hW3 : 150000 ≤ W') (huc : uc + 292 ≤ 674013) (hus : us + 1786 ≤ 7074066) (kn : KN_ w Q bb Ls x M W' i uc us) : tG w 13 nLaw_law 546 (lsL bb x M i) [] Γ V uc us Q := by
  have hd : 4 ≤ 13 := by omega
  obtain ⟨L, T, fk, n, k, X, c, Y, hC, hMI, ⟨b16, bL0⟩, ⟨g12, l12⟩, hbx, hxM⟩ := id J
  obtain ⟨F, K, S, H, hM, m0, m1, m2, m3, m4, m5, f2, f8, f14, hS⟩ := id hMI
  have bL : (Γ.2.1 bb : Int) = (Ls : Int) := by rw [bL0]
  have g8 := hC.k8
  have g9 := hM.1.1
  have h10 := hC.c10
  have hL6 := hC.ln
  refine tG_at hd kLaw_law_546 ?_
  simp (disch := omega) only [bLaw_law_546, rn, sm, lg, lt_, cmpP, tk, pr_, pu, swl, cs, Nat.reduceAdd, Nat.reduceLeDiff, Nat.zero_le, Nat.le_refl, true_and, and_true, Int.toNat_natCast, Int.reduceToNat, Int.reduceEq, false_implies, true_implies, Int.reduceNeg, Int.cast_ofNat_Int, g8, g9, b16, bL, reduceIte, Nat.reduceEqDiff, true_or, or_true, Int.reduceLE, Int.reduceLT, Int.reduceAdd, Int.reduceSub, Int.reduceMul, not_true_eq_false, not_false_eq_true, implies_true, nat_s, wr_id, uR_at, uR_uR, u1_at, u1_ne, uf_at, uf_ne, iltT, iltF, ileT, ieqT, ieqF]
  refine T_order (by omega) hC (by omega) (fun V1 hC1 fr => ?_)
  have sc : ∀ j, V1 bb j = V bb j := fun j => fr bb j (by omega)
  have em := mS_id (fun j => (fr M j (by omega)).trans (m0 j)) (fun j => (fr (M + 1) j (by omega)).trans (m1 j)) (fun j => (fr (M + 2) j (by omega)).trans (m2 j)) (fun j => (fr (M + 3) j (by omega)).trans (m3 j)) (fun j => (fr (M + 4) j (by omega)).trans (m4 j)) (fun j => (fr (M + 5) j (by omega)).trans (m5 j))
  refine tG_at hd kLaw_law_556 ?_
  simp (disch := omega) only [bLaw_law_556, rn, sm, lg, lt_, cmpP, tk, pr_, pu, swl, cs, Nat.reduceAdd, Nat.reduceLeDiff, Nat.zero_le, Nat.le_refl, true_and, and_true, Int.toNat_natCast, Int.reduceToNat, Int.reduceEq, false_implies, true_implies, Int.reduceNeg, Int.cast_ofNat_Int, g8, g9, b16, bL, reduceIte, Nat.reduceEqDiff, true_or, or_true, Int.reduceLE, Int.reduceLT, Int.reduceAdd, Int.reduceSub, Int.reduceMul, not_true_eq_false, not_false_eq_true, implies_true, nat_s, wr_id, uR_at, uR_uR, u1_at, u1_ne, uf_at, uf_ne, iltT, iltF, ileT, ieqT, ieqF, sc]
  rw [← FF_self (F := F)] at em
  rw [← em]
  refine c_order (by omega) hM hC.g (by omega) (fun h' c' K' H' => ?_)
  refine tG_at hd kLaw_law_566 ?_
  simp (disch := omega) only [bLaw_law_566, rn, sm, lg, lt_, cmpP, tk, pr_, pu, swl, cs, Nat.reduceAdd, Nat.reduceLeDiff, Nat.zero_le, Nat.le_refl, true_and, and_true, Int.toNat_natCast, Int.reduceToNat, Int.reduceEq, false_implies, true_implies, Int.reduceNeg, Int.cast_ofNat_Int, g8, g9, b16, bL, reduceIte, Nat.reduceEqDiff, true_or, or_true, Int.reduceLE, Int.reduceLT, Int.reduceAdd, Int.reduceSub, Int.reduceMul, not_true_eq_false, not_false_eq_true, implies_true, nat_s, wr_id, uR_at, uR_uR, u1_at, u1_ne, uf_at, uf_ne, iltT, iltF, ileT, ieqT, ieqF]
  exact kn Γ _ uc us ((JI.mk' hC1 (hM.uF (by omega)).FF (by rw [FF_ne (by omega) (by omega), uF_ne (by omega)]; exact f2) (by rw [FF_ne (by omega) (by omega), uF_ne (by omega)]; exact f8) (by rw [FF_ne (by omega) (by omega), uF_ne (by omega)]; exact f14) hS ⟨b16, bL0⟩ ⟨g12, l12⟩ hbx hxM).mono (by omega) (by omega)) (by omega) (by omega)
theorem lc_ask (hi : 6 * i + 6 ≤ Ls) (hLs : Ls ≤ 3072) (J : JI w Γ V bb Ls x M W) (hW1 : W + 1400 ≤ W') (hW2 : W' + 2800 ≤ 1000000000) (hW3 : 150000 ≤ W') (huc : uc + 292 ≤ 674013) (hus : us + 1786 ≤ 7074066) (kn : KN_ w Q bb Ls x M W' i uc us) : tG w 13 nLaw_law 571 (lsL bb x M i) [] Γ V uc us Q := by
  have hd : 4 ≤ 13 := by omega
  obtain ⟨L, T, fk, n, k, X, c, Y, hC, hMI, ⟨b16, bL0⟩, ⟨g12, l12⟩, hbx, hxM⟩ := id J
  obtain ⟨F, K, S, H, hM, m0, m1, m2, m3, m4, m5, f2, f8, f14, hS⟩ := id hMI
  have bL : (Γ.2.1 bb : Int) = (Ls : Int) := by rw [bL0]
  have g8 := hC.k8
  have g9 := hM.1.1
  have h10 := hC.c10
  have hL6 := hC.ln
  refine tG_at hd kLaw_law_571 ?_
  simp (disch := omega) only [bLaw_law_571, rn, sm, lg, lt_, cmpP, tk, pr_, pu, swl, cs, Nat.reduceAdd, Nat.reduceLeDiff, Nat.zero_le, Nat.le_refl, true_and, and_true, Int.toNat_natCast, Int.reduceToNat, Int.reduceEq, false_implies, true_implies, Int.reduceNeg, Int.cast_ofNat_Int, g8, g9, b16, bL, reduceIte, Nat.reduceEqDiff, true_or, or_true, Int.reduceLE, Int.reduceLT, Int.reduceAdd, Int.reduceSub, Int.reduceMul, not_true_eq_false, not_false_eq_true, implies_true, nat_s, wr_id, uR_at, uR_uR, u1_at, u1_ne, uf_at, uf_ne, iltT, iltF, ileT, ieqT, ieqF]
  refine ⟨by omega, by omega, ?_⟩
  refine T_ask (by omega) hC (by omega) (fun Γ1 V1 k1 c1 Y1 a1 a2 hC1 gx fr => ?_)
  obtain ⟨nn, hnn, gx⟩ := gx
  have hZ := hC.1.2.1
  have b16' := (gx.2 bb (by omega)).1.trans b16
  have bL0' := (gx.2 bb (by omega)).2.trans bL0
  have g12' := (gx.2 (M + 6) (by omega)).1.trans g12
  have l12' := (gx.2 (M + 6) (by omega)).2.trans l12
  have sc : ∀ j, V1 bb j = V bb j := fun j => fr bb j (by omega)
  have em := mS_id (fun j => (fr M j (by omega)).trans (m0 j)) (fun j => (fr (M + 1) j (by omega)).trans (m1 j)) (fun j => (fr (M + 2) j (by omega)).trans (m2 j)) (fun j => (fr (M + 3) j (by omega)).trans (m3 j)) (fun j => (fr (M + 4) j (by omega)).trans (m4 j)) (fun j => (fr (M + 5) j (by omega)).trans (m5 j))
  rw [← FF_self (F := F)] at em
  have hM1 : ML Γ1 M F := by
    obtain ⟨F2, K2, S2, H2, hM2, z0, -⟩ := hMI.gx gx (by omega)
    have : F2 = F := funext fun j => (z0 j).symm.trans (m0 j)
    rw [this] at hM2
    exact hM2
  have g8 := hC1.k8
  have g9 := hM1.1.1
  have b16 := b16'
  have bL : (Γ1.2.1 bb : Int) = (Ls : Int) := by rw [bL0']
  refine tG_at hd kLaw_law_581 ?_
  simp (disch := omega) only [bLaw_law_581, rn, sm, lg, lt_, cmpP, tk, pr_, pu, swl, cs, Nat.reduceAdd, Nat.reduceLeDiff, Nat.zero_le, Nat.le_refl, true_and, and_true, Int.toNat_natCast, Int.reduceToNat, Int.reduceEq, false_implies, true_implies, Int.reduceNeg, Int.cast_ofNat_Int, g8, g9, b16, bL, reduceIte, Nat.reduceEqDiff, true_or, or_true, Int.reduceLE, Int.reduceLT, Int.reduceAdd, Int.reduceSub, Int.reduceMul, not_true_eq_false, not_false_eq_true, implies_true, nat_s, wr_id, uR_at, uR_uR, u1_at, u1_ne, uf_at, uf_ne, iltT, iltF, ileT, ieqT, ieqF, sc]
  rw [← em]
  refine c_ask (by omega) hM1 hC.g (by omega) h10 f14 hS (fun h' c' K' S' H' q' Y' e1 e2 e3 => ?_)
  have eq_ : c1 = q' ∧ Y1 = Y' := by
    by_cases hr : 0 ≤ (actF n k 0 (V bb (6 * i + 1)) 0 X).1
    · exact ⟨(a1 hr).1.trans (e1 hr).1.symm, (a1 hr).2.trans (e1 hr).2.symm⟩
    · exact ⟨(a2 (by omega)).1.trans (e2 (by omega)).1.symm, (a2 (by omega)).2.trans (e2 (by omega)).2.symm⟩
  obtain ⟨q1, q2⟩ := eq_
  subst q1
  subst q2
  refine tG_at hd kLaw_law_591 ?_
  simp (disch := omega) only [bLaw_law_591, rn, sm, lg, lt_, cmpP, tk, pr_, pu, swl, cs, Nat.reduceAdd, Nat.reduceLeDiff, Nat.zero_le, Nat.le_refl, true_and, and_true, Int.toNat_natCast, Int.reduceToNat, Int.reduceEq, false_implies, true_implies, Int.reduceNeg, Int.cast_ofNat_Int, g8, g9, b16, bL, reduceIte, Nat.reduceEqDiff, true_or, or_true, Int.reduceLE, Int.reduceLT, Int.reduceAdd, Int.reduceSub, Int.reduceMul, not_true_eq_false, not_false_eq_true, implies_true, nat_s, wr_id, uR_at, uR_uR, u1_at, u1_ne, uf_at, uf_ne, iltT, iltF, ileT, ieqT, ieqF]
  exact kn Γ1 _ (uc + 292) (us + 1786) ((JI.mk' hC1 (((hM1.uF (by omega)).uF (by omega)).FF) (by rw [FF_ne (by omega) (by omega), uF_ne (by omega), uF_ne (by omega)]; exact f2) (by rw [FF_ne (by omega) (by omega), uF_ne (by omega), uF_ne (by omega)]; exact f8) (by rw [FF_ne (by omega) (by omega), uF_at]) e3 ⟨b16', bL0'⟩ ⟨g12', l12'⟩ hbx hxM).mono (by omega) (by omega)) (by omega) (by omega)
theorem lc_leave (hi : 6 * i + 6 ≤ Ls) (hLs : Ls ≤ 3072) (J : JI w Γ V bb Ls x M W) (hW1 : W + 1400 ≤ W') (hW2 : W' + 2800 ≤ 1000000000) (hW3 : 150000 ≤ W') (huc : uc + 292 ≤ 674013) (hus : us + 1786 ≤ 7074066) (kn : KN_ w Q bb Ls x M W' i uc us) : tG w 13 nLaw_law 596 (lsL bb x M i) [] Γ V uc us Q := by
  have hd : 4 ≤ 13 := by omega
  obtain ⟨L, T, fk, n, k, X, c, Y, hC, hMI, ⟨b16, bL0⟩, ⟨g12, l12⟩, hbx, hxM⟩ := id J
  obtain ⟨F, K, S, H, hM, m0, m1, m2, m3, m4, m5, f2, f8, f14, hS⟩ := id hMI
  have bL : (Γ.2.1 bb : Int) = (Ls : Int) := by rw [bL0]
  have g8 := hC.k8
  have g9 := hM.1.1
  have h10 := hC.c10
  have hL6 := hC.ln
  refine tG_at hd kLaw_law_596 ?_
  simp (disch := omega) only [bLaw_law_596, rn, sm, lg, lt_, cmpP, tk, pr_, pu, swl, cs, Nat.reduceAdd, Nat.reduceLeDiff, Nat.zero_le, Nat.le_refl, true_and, and_true, Int.toNat_natCast, Int.reduceToNat, Int.reduceEq, false_implies, true_implies, Int.reduceNeg, Int.cast_ofNat_Int, g8, g9, b16, bL, reduceIte, Nat.reduceEqDiff, true_or, or_true, Int.reduceLE, Int.reduceLT, Int.reduceAdd, Int.reduceSub, Int.reduceMul, not_true_eq_false, not_false_eq_true, implies_true, nat_s, wr_id, uR_at, uR_uR, u1_at, u1_ne, uf_at, uf_ne, iltT, iltF, ileT, ieqT, ieqF]
  refine ⟨by omega, by omega, ?_⟩
  refine T_leave (by omega) hC (by omega) (fun Γ1 V1 k1 c1 Y1 a1 a2 hC1 gx fr => ?_)
  obtain ⟨nn, hnn, gx⟩ := gx
  have hZ := hC.1.2.1
  have b16' := (gx.2 bb (by omega)).1.trans b16
  have bL0' := (gx.2 bb (by omega)).2.trans bL0
  have g12' := (gx.2 (M + 6) (by omega)).1.trans g12
  have l12' := (gx.2 (M + 6) (by omega)).2.trans l12
  have sc : ∀ j, V1 bb j = V bb j := fun j => fr bb j (by omega)
  have em := mS_id (fun j => (fr M j (by omega)).trans (m0 j)) (fun j => (fr (M + 1) j (by omega)).trans (m1 j)) (fun j => (fr (M + 2) j (by omega)).trans (m2 j)) (fun j => (fr (M + 3) j (by omega)).trans (m3 j)) (fun j => (fr (M + 4) j (by omega)).trans (m4 j)) (fun j => (fr (M + 5) j (by omega)).trans (m5 j))
  rw [← FF_self (F := F)] at em
  have hM1 : ML Γ1 M F := by
    obtain ⟨F2, K2, S2, H2, hM2, z0, -⟩ := hMI.gx gx (by omega)
    have : F2 = F := funext fun j => (z0 j).symm.trans (m0 j)
    rw [this] at hM2
    exact hM2
  have g8 := hC1.k8
  have g9 := hM1.1.1
  have b16 := b16'
  have bL : (Γ1.2.1 bb : Int) = (Ls : Int) := by rw [bL0']
  refine tG_at hd kLaw_law_606 ?_
  simp (disch := omega) only [bLaw_law_606, rn, sm, lg, lt_, cmpP, tk, pr_, pu, swl, cs, Nat.reduceAdd, Nat.reduceLeDiff, Nat.zero_le, Nat.le_refl, true_and, and_true, Int.toNat_natCast, Int.reduceToNat, Int.reduceEq, false_implies, true_implies, Int.reduceNeg, Int.cast_ofNat_Int, g8, g9, b16, bL, reduceIte, Nat.reduceEqDiff, true_or, or_true, Int.reduceLE, Int.reduceLT, Int.reduceAdd, Int.reduceSub, Int.reduceMul, not_true_eq_false, not_false_eq_true, implies_true, nat_s, wr_id, uR_at, uR_uR, u1_at, u1_ne, uf_at, uf_ne, iltT, iltF, ileT, ieqT, ieqF, sc]
  rw [← em]
  refine c_leave (by omega) hM1 hC.g (by omega) h10 f14 hS (fun h' c' K' S' H' q' Y' e1 e2 e3 => ?_)
  have eq_ : c1 = q' ∧ Y1 = Y' := by
    by_cases hr : 0 ≤ (actF n k 1 (V bb (6 * i + 1)) 0 X).1
    · exact ⟨(a1 hr).1.trans (e1 hr).1.symm, (a1 hr).2.trans (e1 hr).2.symm⟩
    · exact ⟨(a2 (by omega)).1.trans (e2 (by omega)).1.symm, (a2 (by omega)).2.trans (e2 (by omega)).2.symm⟩
  obtain ⟨q1, q2⟩ := eq_
  subst q1
  subst q2
  refine tG_at hd kLaw_law_616 ?_
  simp (disch := omega) only [bLaw_law_616, rn, sm, lg, lt_, cmpP, tk, pr_, pu, swl, cs, Nat.reduceAdd, Nat.reduceLeDiff, Nat.zero_le, Nat.le_refl, true_and, and_true, Int.toNat_natCast, Int.reduceToNat, Int.reduceEq, false_implies, true_implies, Int.reduceNeg, Int.cast_ofNat_Int, g8, g9, b16, bL, reduceIte, Nat.reduceEqDiff, true_or, or_true, Int.reduceLE, Int.reduceLT, Int.reduceAdd, Int.reduceSub, Int.reduceMul, not_true_eq_false, not_false_eq_true, implies_true, nat_s, wr_id, uR_at, uR_uR, u1_at, u1_ne, uf_at, uf_ne, iltT, iltF, ileT, ieqT, ieqF]
  exact kn Γ1 _ (uc + 292) (us + 1786) ((JI.mk' hC1 (((hM1.uF (by omega)).uF (by omega)).FF) (by rw [FF_ne (by omega) (by omega), uF_ne (by omega), uF_ne (by omega)]; exact f2) (by rw [FF_ne (by omega) (by omega), uF_ne (by omega), uF_ne (by omega)]; exact f8) (by rw [FF_ne (by omega) (by omega), uF_at]) e3 ⟨b16', bL0'⟩ ⟨g12', l12'⟩ hbx hxM).mono (by omega) (by omega)) (by omega) (by omega)
theorem lc_suspect (hi : 6 * i + 6 ≤ Ls) (hLs : Ls ≤ 3072) (J : JI w Γ V bb Ls x M W) (hW1 : W + 1400 ≤ W') (hW2 : W' + 2800 ≤ 1000000000) (hW3 : 150000 ≤ W') (huc : uc + 292 ≤ 674013) (hus : us + 1786 ≤ 7074066) (kn : KN_ w Q bb Ls x M W' i uc us) : tG w 13 nLaw_law 621 (lsL bb x M i) [] Γ V uc us Q := by
  have hd : 4 ≤ 13 := by omega
  obtain ⟨L, T, fk, n, k, X, c, Y, hC, hMI, ⟨b16, bL0⟩, ⟨g12, l12⟩, hbx, hxM⟩ := id J
  obtain ⟨F, K, S, H, hM, m0, m1, m2, m3, m4, m5, f2, f8, f14, hS⟩ := id hMI
  have bL : (Γ.2.1 bb : Int) = (Ls : Int) := by rw [bL0]
  have g8 := hC.k8
  have g9 := hM.1.1
  have h10 := hC.c10
  have hL6 := hC.ln
  refine tG_at hd kLaw_law_621 ?_
  simp (disch := omega) only [bLaw_law_621, rn, sm, lg, lt_, cmpP, tk, pr_, pu, swl, cs, Nat.reduceAdd, Nat.reduceLeDiff, Nat.zero_le, Nat.le_refl, true_and, and_true, Int.toNat_natCast, Int.reduceToNat, Int.reduceEq, false_implies, true_implies, Int.reduceNeg, Int.cast_ofNat_Int, g8, g9, b16, bL, reduceIte, Nat.reduceEqDiff, true_or, or_true, Int.reduceLE, Int.reduceLT, Int.reduceAdd, Int.reduceSub, Int.reduceMul, not_true_eq_false, not_false_eq_true, implies_true, nat_s, wr_id, uR_at, uR_uR, u1_at, u1_ne, uf_at, uf_ne, iltT, iltF, ileT, ieqT, ieqF]
  refine ⟨by omega, by omega, ?_⟩
  refine T_suspect (by omega) hC (by omega) (fun Γ1 V1 k1 c1 Y1 a1 a2 hC1 gx fr => ?_)
  obtain ⟨nn, hnn, gx⟩ := gx
  have hZ := hC.1.2.1
  have b16' := (gx.2 bb (by omega)).1.trans b16
  have bL0' := (gx.2 bb (by omega)).2.trans bL0
  have g12' := (gx.2 (M + 6) (by omega)).1.trans g12
  have l12' := (gx.2 (M + 6) (by omega)).2.trans l12
  have sc : ∀ j, V1 bb j = V bb j := fun j => fr bb j (by omega)
  have em := mS_id (fun j => (fr M j (by omega)).trans (m0 j)) (fun j => (fr (M + 1) j (by omega)).trans (m1 j)) (fun j => (fr (M + 2) j (by omega)).trans (m2 j)) (fun j => (fr (M + 3) j (by omega)).trans (m3 j)) (fun j => (fr (M + 4) j (by omega)).trans (m4 j)) (fun j => (fr (M + 5) j (by omega)).trans (m5 j))
  rw [← FF_self (F := F)] at em
  have hM1 : ML Γ1 M F := by
    obtain ⟨F2, K2, S2, H2, hM2, z0, -⟩ := hMI.gx gx (by omega)
    have : F2 = F := funext fun j => (z0 j).symm.trans (m0 j)
    rw [this] at hM2
    exact hM2
  have g8 := hC1.k8
  have g9 := hM1.1.1
  have b16 := b16'
  have bL : (Γ1.2.1 bb : Int) = (Ls : Int) := by rw [bL0']
  refine tG_at hd kLaw_law_631 ?_
  simp (disch := omega) only [bLaw_law_631, rn, sm, lg, lt_, cmpP, tk, pr_, pu, swl, cs, Nat.reduceAdd, Nat.reduceLeDiff, Nat.zero_le, Nat.le_refl, true_and, and_true, Int.toNat_natCast, Int.reduceToNat, Int.reduceEq, false_implies, true_implies, Int.reduceNeg, Int.cast_ofNat_Int, g8, g9, b16, bL, reduceIte, Nat.reduceEqDiff, true_or, or_true, Int.reduceLE, Int.reduceLT, Int.reduceAdd, Int.reduceSub, Int.reduceMul, not_true_eq_false, not_false_eq_true, implies_true, nat_s, wr_id, uR_at, uR_uR, u1_at, u1_ne, uf_at, uf_ne, iltT, iltF, ileT, ieqT, ieqF, sc]
  rw [← em]
  refine c_suspect (by omega) hM1 hC.g (by omega) h10 f14 hS (fun h' c' K' S' H' q' Y' e1 e2 e3 => ?_)
  have eq_ : c1 = q' ∧ Y1 = Y' := by
    by_cases hr : 0 ≤ (actF n k 2 (V bb (6 * i + 1)) 0 X).1
    · exact ⟨(a1 hr).1.trans (e1 hr).1.symm, (a1 hr).2.trans (e1 hr).2.symm⟩
    · exact ⟨(a2 (by omega)).1.trans (e2 (by omega)).1.symm, (a2 (by omega)).2.trans (e2 (by omega)).2.symm⟩
  obtain ⟨q1, q2⟩ := eq_
  subst q1
  subst q2
  refine tG_at hd kLaw_law_641 ?_
  simp (disch := omega) only [bLaw_law_641, rn, sm, lg, lt_, cmpP, tk, pr_, pu, swl, cs, Nat.reduceAdd, Nat.reduceLeDiff, Nat.zero_le, Nat.le_refl, true_and, and_true, Int.toNat_natCast, Int.reduceToNat, Int.reduceEq, false_implies, true_implies, Int.reduceNeg, Int.cast_ofNat_Int, g8, g9, b16, bL, reduceIte, Nat.reduceEqDiff, true_or, or_true, Int.reduceLE, Int.reduceLT, Int.reduceAdd, Int.reduceSub, Int.reduceMul, not_true_eq_false, not_false_eq_true, implies_true, nat_s, wr_id, uR_at, uR_uR, u1_at, u1_ne, uf_at, uf_ne, iltT, iltF, ileT, ieqT, ieqF]
  exact kn Γ1 _ (uc + 292) (us + 1786) ((JI.mk' hC1 (((hM1.uF (by omega)).uF (by omega)).FF) (by rw [FF_ne (by omega) (by omega), uF_ne (by omega), uF_ne (by omega)]; exact f2) (by rw [FF_ne (by omega) (by omega), uF_ne (by omega), uF_ne (by omega)]; exact f8) (by rw [FF_ne (by omega) (by omega), uF_at]) e3 ⟨b16', bL0'⟩ ⟨g12', l12'⟩ hbx hxM).mono (by omega) (by omega)) (by omega) (by omega)
theorem lc_send (hi : 6 * i + 6 ≤ Ls) (hLs : Ls ≤ 3072) (J : JI w Γ V bb Ls x M W) (hW1 : W + 1400 ≤ W') (hW2 : W' + 2800 ≤ 1000000000) (hW3 : 150000 ≤ W') (huc : uc + 292 ≤ 674013) (hus : us + 1786 ≤ 7074066) (kn : KN_ w Q bb Ls x M W' i uc us) : tG w 13 nLaw_law 646 (lsL bb x M i) [] Γ V uc us Q := by
  have hd : 4 ≤ 13 := by omega
  obtain ⟨L, T, fk, n, k, X, c, Y, hC, hMI, ⟨b16, bL0⟩, ⟨g12, l12⟩, hbx, hxM⟩ := id J
  obtain ⟨F, K, S, H, hM, m0, m1, m2, m3, m4, m5, f2, f8, f14, hS⟩ := id hMI
  have bL : (Γ.2.1 bb : Int) = (Ls : Int) := by rw [bL0]
  have g8 := hC.k8
  have g9 := hM.1.1
  have h10 := hC.c10
  have hL6 := hC.ln
  refine tG_at hd kLaw_law_646 ?_
  simp (disch := omega) only [bLaw_law_646, rn, sm, lg, lt_, cmpP, tk, pr_, pu, swl, cs, Nat.reduceAdd, Nat.reduceLeDiff, Nat.zero_le, Nat.le_refl, true_and, and_true, Int.toNat_natCast, Int.reduceToNat, Int.reduceEq, false_implies, true_implies, Int.reduceNeg, Int.cast_ofNat_Int, g8, g9, b16, bL, reduceIte, Nat.reduceEqDiff, true_or, or_true, Int.reduceLE, Int.reduceLT, Int.reduceAdd, Int.reduceSub, Int.reduceMul, not_true_eq_false, not_false_eq_true, implies_true, nat_s, wr_id, uR_at, uR_uR, u1_at, u1_ne, uf_at, uf_ne, iltT, iltF, ileT, ieqT, ieqF]
  refine ⟨by omega, by omega, ?_⟩
  refine T_send (by omega) hC (by omega) (fun Γ1 V1 k1 c1 Y1 a1 a2 hC1 gx fr => ?_)
  obtain ⟨nn, hnn, gx⟩ := gx
  have hZ := hC.1.2.1
  have b16' := (gx.2 bb (by omega)).1.trans b16
  have bL0' := (gx.2 bb (by omega)).2.trans bL0
  have g12' := (gx.2 (M + 6) (by omega)).1.trans g12
  have l12' := (gx.2 (M + 6) (by omega)).2.trans l12
  have sc : ∀ j, V1 bb j = V bb j := fun j => fr bb j (by omega)
  have em := mS_id (fun j => (fr M j (by omega)).trans (m0 j)) (fun j => (fr (M + 1) j (by omega)).trans (m1 j)) (fun j => (fr (M + 2) j (by omega)).trans (m2 j)) (fun j => (fr (M + 3) j (by omega)).trans (m3 j)) (fun j => (fr (M + 4) j (by omega)).trans (m4 j)) (fun j => (fr (M + 5) j (by omega)).trans (m5 j))
  rw [← FF_self (F := F)] at em
  have hM1 : ML Γ1 M F := by
    obtain ⟨F2, K2, S2, H2, hM2, z0, -⟩ := hMI.gx gx (by omega)
    have : F2 = F := funext fun j => (z0 j).symm.trans (m0 j)
    rw [this] at hM2
    exact hM2
  have g8 := hC1.k8
  have g9 := hM1.1.1
  have b16 := b16'
  have bL : (Γ1.2.1 bb : Int) = (Ls : Int) := by rw [bL0']
  refine tG_at hd kLaw_law_662 ?_
  simp (disch := omega) only [bLaw_law_662, rn, sm, lg, lt_, cmpP, tk, pr_, pu, swl, cs, Nat.reduceAdd, Nat.reduceLeDiff, Nat.zero_le, Nat.le_refl, true_and, and_true, Int.toNat_natCast, Int.reduceToNat, Int.reduceEq, false_implies, true_implies, Int.reduceNeg, Int.cast_ofNat_Int, g8, g9, b16, bL, reduceIte, Nat.reduceEqDiff, true_or, or_true, Int.reduceLE, Int.reduceLT, Int.reduceAdd, Int.reduceSub, Int.reduceMul, not_true_eq_false, not_false_eq_true, implies_true, nat_s, wr_id, uR_at, uR_uR, u1_at, u1_ne, uf_at, uf_ne, iltT, iltF, ileT, ieqT, ieqF, sc]
  rw [← em]
  refine c_send (by omega) hM1 hC.g (by omega) h10 f14 hS (fun h' c' K' S' H' q' Y' e1 e2 e3 => ?_)
  have eq_ : c1 = q' ∧ Y1 = Y' := by
    by_cases hr : 0 ≤ (actF n k 3 (V bb (6 * i + 1)) (V bb (((6 * i : Nat) : Int) + 2).toNat) X).1
    · exact ⟨(a1 hr).1.trans (e1 hr).1.symm, (a1 hr).2.trans (e1 hr).2.symm⟩
    · exact ⟨(a2 (by omega)).1.trans (e2 (by omega)).1.symm, (a2 (by omega)).2.trans (e2 (by omega)).2.symm⟩
  obtain ⟨q1, q2⟩ := eq_
  subst q1
  subst q2
  refine tG_at hd kLaw_law_678 ?_
  simp (disch := omega) only [bLaw_law_678, rn, sm, lg, lt_, cmpP, tk, pr_, pu, swl, cs, Nat.reduceAdd, Nat.reduceLeDiff, Nat.zero_le, Nat.le_refl, true_and, and_true, Int.toNat_natCast, Int.reduceToNat, Int.reduceEq, false_implies, true_implies, Int.reduceNeg, Int.cast_ofNat_Int, g8, g9, b16, bL, reduceIte, Nat.reduceEqDiff, true_or, or_true, Int.reduceLE, Int.reduceLT, Int.reduceAdd, Int.reduceSub, Int.reduceMul, not_true_eq_false, not_false_eq_true, implies_true, nat_s, wr_id, uR_at, uR_uR, u1_at, u1_ne, uf_at, uf_ne, iltT, iltF, ileT, ieqT, ieqF]
  exact kn Γ1 _ (uc + 292) (us + 1786) ((JI.mk' hC1 (((hM1.uF (by omega)).uF (by omega)).FF) (by rw [FF_ne (by omega) (by omega), uF_ne (by omega), uF_ne (by omega)]; exact f2) (by rw [FF_ne (by omega) (by omega), uF_ne (by omega), uF_ne (by omega)]; exact f8) (by rw [FF_ne (by omega) (by omega), uF_at]) e3 ⟨b16', bL0'⟩ ⟨g12', l12'⟩ hbx hxM).mono (by omega) (by omega)) (by omega) (by omega)
theorem lc_lose (hi : 6 * i + 6 ≤ Ls) (hLs : Ls ≤ 3072) (J : JI w Γ V bb Ls x M W) (hW1 : W + 1400 ≤ W') (hW2 : W' + 2800 ≤ 1000000000) (hW3 : 150000 ≤ W') (huc : uc + 292 ≤ 674013) (hus : us + 1786 ≤ 7074066) (kn : KN_ w Q bb Ls x M W' i uc us) : tG w 13 nLaw_law 683 (lsL bb x M i) [] Γ V uc us Q := by
  have hd : 4 ≤ 13 := by omega
  obtain ⟨L, T, fk, n, k, X, c, Y, hC, hMI, ⟨b16, bL0⟩, ⟨g12, l12⟩, hbx, hxM⟩ := id J
  obtain ⟨F, K, S, H, hM, m0, m1, m2, m3, m4, m5, f2, f8, f14, hS⟩ := id hMI
  have bL : (Γ.2.1 bb : Int) = (Ls : Int) := by rw [bL0]
  have g8 := hC.k8
  have g9 := hM.1.1
  have h10 := hC.c10
  have hL6 := hC.ln
  refine tG_at hd kLaw_law_683 ?_
  simp (disch := omega) only [bLaw_law_683, rn, sm, lg, lt_, cmpP, tk, pr_, pu, swl, cs, Nat.reduceAdd, Nat.reduceLeDiff, Nat.zero_le, Nat.le_refl, true_and, and_true, Int.toNat_natCast, Int.reduceToNat, Int.reduceEq, false_implies, true_implies, Int.reduceNeg, Int.cast_ofNat_Int, g8, g9, b16, bL, reduceIte, Nat.reduceEqDiff, true_or, or_true, Int.reduceLE, Int.reduceLT, Int.reduceAdd, Int.reduceSub, Int.reduceMul, not_true_eq_false, not_false_eq_true, implies_true, nat_s, wr_id, uR_at, uR_uR, u1_at, u1_ne, uf_at, uf_ne, iltT, iltF, ileT, ieqT, ieqF]
  refine ⟨by omega, by omega, ?_⟩
  refine T_lose (by omega) hC (by omega) (fun Γ1 V1 k1 c1 Y1 a1 a2 hC1 gx fr => ?_)
  obtain ⟨nn, hnn, gx⟩ := gx
  have hZ := hC.1.2.1
  have b16' := (gx.2 bb (by omega)).1.trans b16
  have bL0' := (gx.2 bb (by omega)).2.trans bL0
  have g12' := (gx.2 (M + 6) (by omega)).1.trans g12
  have l12' := (gx.2 (M + 6) (by omega)).2.trans l12
  have sc : ∀ j, V1 bb j = V bb j := fun j => fr bb j (by omega)
  have em := mS_id (fun j => (fr M j (by omega)).trans (m0 j)) (fun j => (fr (M + 1) j (by omega)).trans (m1 j)) (fun j => (fr (M + 2) j (by omega)).trans (m2 j)) (fun j => (fr (M + 3) j (by omega)).trans (m3 j)) (fun j => (fr (M + 4) j (by omega)).trans (m4 j)) (fun j => (fr (M + 5) j (by omega)).trans (m5 j))
  rw [← FF_self (F := F)] at em
  have hM1 : ML Γ1 M F := by
    obtain ⟨F2, K2, S2, H2, hM2, z0, -⟩ := hMI.gx gx (by omega)
    have : F2 = F := funext fun j => (z0 j).symm.trans (m0 j)
    rw [this] at hM2
    exact hM2
  have g8 := hC1.k8
  have g9 := hM1.1.1
  have b16 := b16'
  have bL : (Γ1.2.1 bb : Int) = (Ls : Int) := by rw [bL0']
  refine tG_at hd kLaw_law_699 ?_
  simp (disch := omega) only [bLaw_law_699, rn, sm, lg, lt_, cmpP, tk, pr_, pu, swl, cs, Nat.reduceAdd, Nat.reduceLeDiff, Nat.zero_le, Nat.le_refl, true_and, and_true, Int.toNat_natCast, Int.reduceToNat, Int.reduceEq, false_implies, true_implies, Int.reduceNeg, Int.cast_ofNat_Int, g8, g9, b16, bL, reduceIte, Nat.reduceEqDiff, true_or, or_true, Int.reduceLE, Int.reduceLT, Int.reduceAdd, Int.reduceSub, Int.reduceMul, not_true_eq_false, not_false_eq_true, implies_true, nat_s, wr_id, uR_at, uR_uR, u1_at, u1_ne, uf_at, uf_ne, iltT, iltF, ileT, ieqT, ieqF, sc]
  rw [← em]
  refine c_lose (by omega) hM1 hC.g (by omega) h10 f14 hS (fun h' c' K' S' H' q' Y' e1 e2 e3 => ?_)
  have eq_ : c1 = q' ∧ Y1 = Y' := by
    by_cases hr : 0 ≤ (actF n k 4 (V bb (6 * i + 1)) (V bb (((6 * i : Nat) : Int) + 2).toNat) X).1
    · exact ⟨(a1 hr).1.trans (e1 hr).1.symm, (a1 hr).2.trans (e1 hr).2.symm⟩
    · exact ⟨(a2 (by omega)).1.trans (e2 (by omega)).1.symm, (a2 (by omega)).2.trans (e2 (by omega)).2.symm⟩
  obtain ⟨q1, q2⟩ := eq_
  subst q1
  subst q2
  refine tG_at hd kLaw_law_715 ?_
  simp (disch := omega) only [bLaw_law_715, rn, sm, lg, lt_, cmpP, tk, pr_, pu, swl, cs, Nat.reduceAdd, Nat.reduceLeDiff, Nat.zero_le, Nat.le_refl, true_and, and_true, Int.toNat_natCast, Int.reduceToNat, Int.reduceEq, false_implies, true_implies, Int.reduceNeg, Int.cast_ofNat_Int, g8, g9, b16, bL, reduceIte, Nat.reduceEqDiff, true_or, or_true, Int.reduceLE, Int.reduceLT, Int.reduceAdd, Int.reduceSub, Int.reduceMul, not_true_eq_false, not_false_eq_true, implies_true, nat_s, wr_id, uR_at, uR_uR, u1_at, u1_ne, uf_at, uf_ne, iltT, iltF, ileT, ieqT, ieqF]
  exact kn Γ1 _ (uc + 292) (us + 1786) ((JI.mk' hC1 (((hM1.uF (by omega)).uF (by omega)).FF) (by rw [FF_ne (by omega) (by omega), uF_ne (by omega), uF_ne (by omega)]; exact f2) (by rw [FF_ne (by omega) (by omega), uF_ne (by omega), uF_ne (by omega)]; exact f8) (by rw [FF_ne (by omega) (by omega), uF_at]) e3 ⟨b16', bL0'⟩ ⟨g12', l12'⟩ hbx hxM).mono (by omega) (by omega)) (by omega) (by omega)
end LW
