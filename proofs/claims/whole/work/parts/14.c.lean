/-! THE LAW: feed, end, text, settle, undo -/
section LW
variable {w : WP} {Γ Γ' : GM} {V V' : VH} {Q : QT} {bb Ls x M W W' nn i uc us : Nat}
theorem lc_feed (hi : 6 * i + 6 ≤ Ls) (hLs : Ls ≤ 3072) (J : JI w Γ V bb Ls x M W) (hW1 : W + 1400 ≤ W') (hW2 : W' + 2800 ≤ 1000000000) (hW3 : 150000 ≤ W') (huc : uc + 292 ≤ 674013) (hus : us + 1786 ≤ 7074066) (kn : KN_ w Q bb Ls x M W' i uc us) : tG w 13 nLaw_law 132 (lsL bb x M i) [] Γ V uc us Q := by
  have hd : 4 ≤ 13 := by omega
  obtain ⟨L, T, fk, n, k, X, c, Y, hC, hMI, ⟨b16, bL0⟩, ⟨g12, l12⟩, hbx, hxM⟩ := id J
  obtain ⟨F, K, S, H, hM, m0, m1, m2, m3, m4, m5, f2, f8, f14, hS⟩ := id hMI
  have bL : (Γ.2.1 bb : Int) = (Ls : Int) := by rw [bL0]
  have g8 := hC.k8
  have g9 := hM.1.1
  have h10 := hC.c10
  have hL6 := hC.ln
  have em0 := mS_id m0 m1 m2 m3 m4 m5
  have emf : ∀ V1, FR x (M + 6) V V1 → mS V1 M F T (fl X.1 X.2.1 X.2.2) K S H = V1 := fun V1 fr => mS_id (fun j => (fr M j (by omega)).trans (m0 j)) (fun j => (fr (M + 1) j (by omega)).trans (m1 j)) (fun j => (fr (M + 2) j (by omega)).trans (m2 j)) (fun j => (fr (M + 3) j (by omega)).trans (m3 j)) (fun j => (fr (M + 4) j (by omega)).trans (m4 j)) (fun j => (fr (M + 5) j (by omega)).trans (m5 j))
  have scf : ∀ V1, FR x (M + 6) V V1 → ∀ j, V1 bb j = V bb j := fun V1 fr j => fr bb j (by omega)
  refine tG_at hd kLaw_law_132 ?_
  simp (disch := omega) only [bLaw_law_132, rn, sm, lg, lt_, cmpP, tk, pr_, pu, swl, cs, Nat.reduceAdd, Nat.reduceLeDiff, Nat.zero_le, Nat.le_refl, true_and, and_true, Int.toNat_natCast, Int.reduceToNat, Int.reduceEq, false_implies, true_implies, Int.reduceNeg, Int.cast_ofNat_Int, g8, g9, b16, bL, reduceIte, Nat.reduceEqDiff, true_or, or_true, Int.reduceLE, Int.reduceLT, Int.reduceAdd, Int.reduceSub, Int.reduceMul, not_true_eq_false, not_false_eq_true, implies_true, nat_s, wr_id, uR_at, uR_uR, u1_at, u1_ne, uf_at, uf_ne, iltT, iltF, ileT, ieqT, ieqF]
  refine T_feed (by omega) hC ?_
  by_cases h20 : L + 20 ≤ 640
  · rw [if_pos h20]
    intro V1 hC1 fr
    have em := emf V1 fr
    have sc := scf V1 fr
    refine tG_at hd kLaw_law_166 ?_
    simp (disch := omega) only [bLaw_law_166, rn, sm, lg, lt_, cmpP, tk, pr_, pu, swl, cs, Nat.reduceAdd, Nat.reduceLeDiff, Nat.zero_le, Nat.le_refl, true_and, and_true, Int.toNat_natCast, Int.reduceToNat, Int.reduceEq, false_implies, true_implies, Int.reduceNeg, Int.cast_ofNat_Int, g8, g9, b16, bL, reduceIte, Nat.reduceEqDiff, true_or, or_true, Int.reduceLE, Int.reduceLT, Int.reduceAdd, Int.reduceSub, Int.reduceMul, not_true_eq_false, not_false_eq_true, implies_true, nat_s, wr_id, uR_at, uR_uR, u1_at, u1_ne, uf_at, uf_ne, iltT, iltF, ileT, ieqT, ieqF, sc]
    rw [← em]
    refine c_feed (by omega) hM hL6 f2 ?_
    rw [if_pos h20]
    refine tG_at hd kLaw_law_200 ?_
    simp (disch := omega) only [bLaw_law_200, rn, sm, lg, lt_, cmpP, tk, pr_, pu, swl, cs, Nat.reduceAdd, Nat.reduceLeDiff, Nat.zero_le, Nat.le_refl, true_and, and_true, Int.toNat_natCast, Int.reduceToNat, Int.reduceEq, false_implies, true_implies, Int.reduceNeg, Int.cast_ofNat_Int, g8, g9, b16, bL, reduceIte, Nat.reduceEqDiff, true_or, or_true, Int.reduceLE, Int.reduceLT, Int.reduceAdd, Int.reduceSub, Int.reduceMul, not_true_eq_false, not_false_eq_true, implies_true, nat_s, wr_id, uR_at, uR_uR, u1_at, u1_ne, uf_at, uf_ne, iltT, iltF, ileT, ieqT, ieqF]
    exact kn Γ _ uc us ((JI.mk' hC1 ((hM.uF (by omega)).uF (by omega)) uF_at (by rw [uF_ne (by omega), uF_ne (by omega)]; exact f8) (by rw [uF_ne (by omega), uF_ne (by omega)]; exact f14) hS ⟨b16, bL0⟩ ⟨g12, l12⟩ hbx hxM).mono (by omega) (by omega)) (by omega) (by omega)
  · rw [if_neg h20]
    refine tG_at hd kLaw_law_166 ?_
    simp (disch := omega) only [bLaw_law_166, rn, sm, lg, lt_, cmpP, tk, pr_, pu, swl, cs, Nat.reduceAdd, Nat.reduceLeDiff, Nat.zero_le, Nat.le_refl, true_and, and_true, Int.toNat_natCast, Int.reduceToNat, Int.reduceEq, false_implies, true_implies, Int.reduceNeg, Int.cast_ofNat_Int, g8, g9, b16, bL, reduceIte, Nat.reduceEqDiff, true_or, or_true, Int.reduceLE, Int.reduceLT, Int.reduceAdd, Int.reduceSub, Int.reduceMul, not_true_eq_false, not_false_eq_true, implies_true, nat_s, wr_id, uR_at, uR_uR, u1_at, u1_ne, uf_at, uf_ne, iltT, iltF, ileT, ieqT, ieqF]
    rw [← em0]
    refine c_feed (by omega) hM hL6 f2 ?_
    rw [if_neg h20]
    refine tG_at hd kLaw_law_200 ?_
    simp (disch := omega) only [bLaw_law_200, rn, sm, lg, lt_, cmpP, tk, pr_, pu, swl, cs, Nat.reduceAdd, Nat.reduceLeDiff, Nat.zero_le, Nat.le_refl, true_and, and_true, Int.toNat_natCast, Int.reduceToNat, Int.reduceEq, false_implies, true_implies, Int.reduceNeg, Int.cast_ofNat_Int, g8, g9, b16, bL, reduceIte, Nat.reduceEqDiff, true_or, or_true, Int.reduceLE, Int.reduceLT, Int.reduceAdd, Int.reduceSub, Int.reduceMul, not_true_eq_false, not_false_eq_true, implies_true, nat_s, wr_id, uR_at, uR_uR, u1_at, u1_ne, uf_at, uf_ne, iltT, iltF, ileT, ieqT, ieqF]
    exact kn Γ _ uc us ((JI.mk' hC (hM.uF (by omega)) ((uF_ne (by omega)).trans f2) ((uF_ne (by omega)).trans f8) ((uF_ne (by omega)).trans f14) hS ⟨b16, bL0⟩ ⟨g12, l12⟩ hbx hxM).mono (by omega) (by omega)) (by omega) (by omega)
theorem lc_end (hi : 6 * i + 6 ≤ Ls) (hLs : Ls ≤ 3072) (J : JI w Γ V bb Ls x M W) (hW1 : W + 1400 ≤ W') (hW2 : W' + 2800 ≤ 1000000000) (hW3 : 150000 ≤ W') (huc : uc + 292 ≤ 674013) (hus : us + 1786 ≤ 7074066) (kn : KN_ w Q bb Ls x M W' i uc us) : tG w 13 nLaw_law 205 (lsL bb x M i) [] Γ V uc us Q := by
  have hd : 4 ≤ 13 := by omega
  obtain ⟨L, T, fk, n, k, X, c, Y, hC, hMI, ⟨b16, bL0⟩, ⟨g12, l12⟩, hbx, hxM⟩ := id J
  obtain ⟨F, K, S, H, hM, m0, m1, m2, m3, m4, m5, f2, f8, f14, hS⟩ := id hMI
  have bL : (Γ.2.1 bb : Int) = (Ls : Int) := by rw [bL0]
  have g8 := hC.k8
  have g9 := hM.1.1
  have h10 := hC.c10
  have hL6 := hC.ln
  have em0 := mS_id m0 m1 m2 m3 m4 m5
  have emf : ∀ V1, FR x (M + 6) V V1 → mS V1 M F T (fl X.1 X.2.1 X.2.2) K S H = V1 := fun V1 fr => mS_id (fun j => (fr M j (by omega)).trans (m0 j)) (fun j => (fr (M + 1) j (by omega)).trans (m1 j)) (fun j => (fr (M + 2) j (by omega)).trans (m2 j)) (fun j => (fr (M + 3) j (by omega)).trans (m3 j)) (fun j => (fr (M + 4) j (by omega)).trans (m4 j)) (fun j => (fr (M + 5) j (by omega)).trans (m5 j))
  have scf : ∀ V1, FR x (M + 6) V V1 → ∀ j, V1 bb j = V bb j := fun V1 fr j => fr bb j (by omega)
  refine tG_at hd kLaw_law_205 ?_
  simp (disch := omega) only [bLaw_law_205, rn, sm, lg, lt_, cmpP, tk, pr_, pu, swl, cs, Nat.reduceAdd, Nat.reduceLeDiff, Nat.zero_le, Nat.le_refl, true_and, and_true, Int.toNat_natCast, Int.reduceToNat, Int.reduceEq, false_implies, true_implies, Int.reduceNeg, Int.cast_ofNat_Int, g8, g9, b16, bL, reduceIte, Nat.reduceEqDiff, true_or, or_true, Int.reduceLE, Int.reduceLT, Int.reduceAdd, Int.reduceSub, Int.reduceMul, not_true_eq_false, not_false_eq_true, implies_true, nat_s, wr_id, uR_at, uR_uR, u1_at, u1_ne, uf_at, uf_ne, iltT, iltF, ileT, ieqT, ieqF]
  refine T_end (by omega) hC ?_
  by_cases ha : 0 ≤ V bb (6 * i + 1) ∧ V bb (6 * i + 1) ≤ (L : Int)
  · rw [if_pos ha]
    intro V1 hC1 fr
    have em := emf V1 fr
    have sc := scf V1 fr
    refine tG_at hd kLaw_law_215 ?_
    simp (disch := omega) only [bLaw_law_215, rn, sm, lg, lt_, cmpP, tk, pr_, pu, swl, cs, Nat.reduceAdd, Nat.reduceLeDiff, Nat.zero_le, Nat.le_refl, true_and, and_true, Int.toNat_natCast, Int.reduceToNat, Int.reduceEq, false_implies, true_implies, Int.reduceNeg, Int.cast_ofNat_Int, g8, g9, b16, bL, reduceIte, Nat.reduceEqDiff, true_or, or_true, Int.reduceLE, Int.reduceLT, Int.reduceAdd, Int.reduceSub, Int.reduceMul, not_true_eq_false, not_false_eq_true, implies_true, nat_s, wr_id, uR_at, uR_uR, u1_at, u1_ne, uf_at, uf_ne, iltT, iltF, ileT, ieqT, ieqF, sc]
    rw [← em]
    refine c_end (by omega) hM f2 ?_
    rw [if_pos ha]
    refine tG_at hd kLaw_law_225 ?_
    simp (disch := omega) only [bLaw_law_225, rn, sm, lg, lt_, cmpP, tk, pr_, pu, swl, cs, Nat.reduceAdd, Nat.reduceLeDiff, Nat.zero_le, Nat.le_refl, true_and, and_true, Int.toNat_natCast, Int.reduceToNat, Int.reduceEq, false_implies, true_implies, Int.reduceNeg, Int.cast_ofNat_Int, g8, g9, b16, bL, reduceIte, Nat.reduceEqDiff, true_or, or_true, Int.reduceLE, Int.reduceLT, Int.reduceAdd, Int.reduceSub, Int.reduceMul, not_true_eq_false, not_false_eq_true, implies_true, nat_s, wr_id, uR_at, uR_uR, u1_at, u1_ne, uf_at, uf_ne, iltT, iltF, ileT, ieqT, ieqF]
    exact kn Γ _ uc us ((JI.mk' hC1 ((hM.uF (by omega)).uF (by omega)) (by rw [uF_at]; omega) (by rw [uF_ne (by omega), uF_ne (by omega)]; exact f8) (by rw [uF_ne (by omega), uF_ne (by omega)]; exact f14) hS ⟨b16, bL0⟩ ⟨g12, l12⟩ hbx hxM).mono (by omega) (by omega)) (by omega) (by omega)
  · rw [if_neg ha]
    refine tG_at hd kLaw_law_215 ?_
    simp (disch := omega) only [bLaw_law_215, rn, sm, lg, lt_, cmpP, tk, pr_, pu, swl, cs, Nat.reduceAdd, Nat.reduceLeDiff, Nat.zero_le, Nat.le_refl, true_and, and_true, Int.toNat_natCast, Int.reduceToNat, Int.reduceEq, false_implies, true_implies, Int.reduceNeg, Int.cast_ofNat_Int, g8, g9, b16, bL, reduceIte, Nat.reduceEqDiff, true_or, or_true, Int.reduceLE, Int.reduceLT, Int.reduceAdd, Int.reduceSub, Int.reduceMul, not_true_eq_false, not_false_eq_true, implies_true, nat_s, wr_id, uR_at, uR_uR, u1_at, u1_ne, uf_at, uf_ne, iltT, iltF, ileT, ieqT, ieqF]
    generalize V bb (6 * i + 1) = a at ha ⊢
    rw [← em0]
    refine c_end (by omega) hM f2 ?_
    rw [if_neg ha]
    refine tG_at hd kLaw_law_225 ?_
    simp (disch := omega) only [bLaw_law_225, rn, sm, lg, lt_, cmpP, tk, pr_, pu, swl, cs, Nat.reduceAdd, Nat.reduceLeDiff, Nat.zero_le, Nat.le_refl, true_and, and_true, Int.toNat_natCast, Int.reduceToNat, Int.reduceEq, false_implies, true_implies, Int.reduceNeg, Int.cast_ofNat_Int, g8, g9, b16, bL, reduceIte, Nat.reduceEqDiff, true_or, or_true, Int.reduceLE, Int.reduceLT, Int.reduceAdd, Int.reduceSub, Int.reduceMul, not_true_eq_false, not_false_eq_true, implies_true, nat_s, wr_id, uR_at, uR_uR, u1_at, u1_ne, uf_at, uf_ne, iltT, iltF, ileT, ieqT, ieqF]
    exact kn Γ _ uc us ((JI.mk' hC (hM.uF (by omega)) ((uF_ne (by omega)).trans f2) ((uF_ne (by omega)).trans f8) ((uF_ne (by omega)).trans f14) hS ⟨b16, bL0⟩ ⟨g12, l12⟩ hbx hxM).mono (by omega) (by omega)) (by omega) (by omega)
theorem lc_text (hi : 6 * i + 6 ≤ Ls) (hLs : Ls ≤ 3072) (J : JI w Γ V bb Ls x M W) (hW1 : W + 1400 ≤ W') (hW2 : W' + 2800 ≤ 1000000000) (hW3 : 150000 ≤ W') (huc : uc + 292 ≤ 674013) (hus : us + 1786 ≤ 7074066) (kn : KN_ w Q bb Ls x M W' i uc us) : tG w 13 nLaw_law 230 (lsL bb x M i) [] Γ V uc us Q := by
  have hd : 4 ≤ 13 := by omega
  obtain ⟨L, T, fk, n, k, X, c, Y, hC, hMI, ⟨b16, bL0⟩, ⟨g12, l12⟩, hbx, hxM⟩ := id J
  obtain ⟨F, K, S, H, hM, m0, m1, m2, m3, m4, m5, f2, f8, f14, hS⟩ := id hMI
  have bL : (Γ.2.1 bb : Int) = (Ls : Int) := by rw [bL0]
  have g8 := hC.k8
  have g9 := hM.1.1
  have h10 := hC.c10
  have hL6 := hC.ln
  have em0 := mS_id m0 m1 m2 m3 m4 m5
  have emf : ∀ V1, FR x (M + 6) V V1 → mS V1 M F T (fl X.1 X.2.1 X.2.2) K S H = V1 := fun V1 fr => mS_id (fun j => (fr M j (by omega)).trans (m0 j)) (fun j => (fr (M + 1) j (by omega)).trans (m1 j)) (fun j => (fr (M + 2) j (by omega)).trans (m2 j)) (fun j => (fr (M + 3) j (by omega)).trans (m3 j)) (fun j => (fr (M + 4) j (by omega)).trans (m4 j)) (fun j => (fr (M + 5) j (by omega)).trans (m5 j))
  have scf : ∀ V1, FR x (M + 6) V V1 → ∀ j, V1 bb j = V bb j := fun V1 fr j => fr bb j (by omega)
  refine tG_at hd kLaw_law_230 ?_
  simp (disch := omega) only [bLaw_law_230, rn, sm, lg, lt_, cmpP, tk, pr_, pu, swl, cs, Nat.reduceAdd, Nat.reduceLeDiff, Nat.zero_le, Nat.le_refl, true_and, and_true, Int.toNat_natCast, Int.reduceToNat, Int.reduceEq, false_implies, true_implies, Int.reduceNeg, Int.cast_ofNat_Int, g8, g9, b16, bL, reduceIte, Nat.reduceEqDiff, true_or, or_true, Int.reduceLE, Int.reduceLT, Int.reduceAdd, Int.reduceSub, Int.reduceMul, not_true_eq_false, not_false_eq_true, implies_true, nat_s, wr_id, uR_at, uR_uR, u1_at, u1_ne, uf_at, uf_ne, iltT, iltF, ileT, ieqT, ieqF]
  refine T_text (by omega) hC (fun f pl ht V1 hC1 fr => ?_) (fun cc X' ht V1 n' k' hC1 fr => ?_)
  · have em := emf V1 fr
    refine tG_at hd kLaw_law_234 ?_
    simp (disch := omega) only [bLaw_law_234, rn, sm, lg, lt_, cmpP, tk, pr_, pu, swl, cs, Nat.reduceAdd, Nat.reduceLeDiff, Nat.zero_le, Nat.le_refl, true_and, and_true, Int.toNat_natCast, Int.reduceToNat, Int.reduceEq, false_implies, true_implies, Int.reduceNeg, Int.cast_ofNat_Int, g8, g9, b16, bL, reduceIte, Nat.reduceEqDiff, true_or, or_true, Int.reduceLE, Int.reduceLT, Int.reduceAdd, Int.reduceSub, Int.reduceMul, not_true_eq_false, not_false_eq_true, implies_true, nat_s, wr_id, uR_at, uR_uR, u1_at, u1_ne, uf_at, uf_ne, iltT, iltF, ileT, ieqT, ieqF]
    rw [← em]
    refine c_text (by omega) hM hL6 f2 hC.g (fun f' pl' _ ht' F' K' H' hM' e0 e2 e8 e14 => ?_) (fun cc X' ht' F' K' H' hM' e0 e2 e8 e14 => ?_)
    · rw [ht] at ht'
      cases ht'
      refine tG_at hd kLaw_law_238 ?_
      simp (disch := omega) only [bLaw_law_238, rn, sm, lg, lt_, cmpP, tk, pr_, pu, swl, cs, Nat.reduceAdd, Nat.reduceLeDiff, Nat.zero_le, Nat.le_refl, true_and, and_true, Int.toNat_natCast, Int.reduceToNat, Int.reduceEq, false_implies, true_implies, Int.reduceNeg, Int.cast_ofNat_Int, g8, g9, b16, bL, reduceIte, Nat.reduceEqDiff, true_or, or_true, Int.reduceLE, Int.reduceLT, Int.reduceAdd, Int.reduceSub, Int.reduceMul, not_true_eq_false, not_false_eq_true, implies_true, nat_s, wr_id, uR_at, uR_uR, u1_at, u1_ne, uf_at, uf_ne, iltT, iltF, ileT, ieqT, ieqF]
      exact kn Γ _ uc us ((JI.mk' hC1 hM' e2 e8 (e14.trans f14) hS ⟨b16, bL0⟩ ⟨g12, l12⟩ hbx hxM).mono (by omega) (by omega)) (by omega) (by omega)
    · rw [ht] at ht'
      cases ht'
  · have em := emf V1 fr
    refine tG_at hd kLaw_law_234 ?_
    simp (disch := omega) only [bLaw_law_234, rn, sm, lg, lt_, cmpP, tk, pr_, pu, swl, cs, Nat.reduceAdd, Nat.reduceLeDiff, Nat.zero_le, Nat.le_refl, true_and, and_true, Int.toNat_natCast, Int.reduceToNat, Int.reduceEq, false_implies, true_implies, Int.reduceNeg, Int.cast_ofNat_Int, g8, g9, b16, bL, reduceIte, Nat.reduceEqDiff, true_or, or_true, Int.reduceLE, Int.reduceLT, Int.reduceAdd, Int.reduceSub, Int.reduceMul, not_true_eq_false, not_false_eq_true, implies_true, nat_s, wr_id, uR_at, uR_uR, u1_at, u1_ne, uf_at, uf_ne, iltT, iltF, ileT, ieqT, ieqF]
    rw [← em]
    refine c_text (by omega) hM hL6 f2 hC.g (fun f' pl' _ ht' F' K' H' hM' e0 e2 e8 e14 => ?_) (fun cc X' ht' F' K' H' hM' e0 e2 e8 e14 => ?_)
    · rw [ht] at ht'
      cases ht'
    · rw [ht] at ht'
      cases ht'
      refine tG_at hd kLaw_law_238 ?_
      simp (disch := omega) only [bLaw_law_238, rn, sm, lg, lt_, cmpP, tk, pr_, pu, swl, cs, Nat.reduceAdd, Nat.reduceLeDiff, Nat.zero_le, Nat.le_refl, true_and, and_true, Int.toNat_natCast, Int.reduceToNat, Int.reduceEq, false_implies, true_implies, Int.reduceNeg, Int.cast_ofNat_Int, g8, g9, b16, bL, reduceIte, Nat.reduceEqDiff, true_or, or_true, Int.reduceLE, Int.reduceLT, Int.reduceAdd, Int.reduceSub, Int.reduceMul, not_true_eq_false, not_false_eq_true, implies_true, nat_s, wr_id, uR_at, uR_uR, u1_at, u1_ne, uf_at, uf_ne, iltT, iltF, ileT, ieqT, ieqF]
      exact kn Γ _ uc us ((JI.mk' hC1 hM' e2 e8 e14 (fun i hi => absurd hi (by omega)) ⟨b16, bL0⟩ ⟨g12, l12⟩ hbx hxM).mono (by omega) (by omega)) (by omega) (by omega)
theorem lc_settle (hi : 6 * i + 6 ≤ Ls) (hLs : Ls ≤ 3072) (J : JI w Γ V bb Ls x M W) (hW1 : W + 1400 ≤ W') (hW2 : W' + 2800 ≤ 1000000000) (hW3 : 150000 ≤ W') (huc : uc + 292 ≤ 674013) (hus : us + 1786 ≤ 7074066) (kn : KN_ w Q bb Ls x M W' i uc us) : tG w 13 nLaw_law 720 (lsL bb x M i) [] Γ V uc us Q := by
  have hd : 4 ≤ 13 := by omega
  obtain ⟨L, T, fk, n, k, X, c, Y, hC, hMI, ⟨b16, bL0⟩, ⟨g12, l12⟩, hbx, hxM⟩ := id J
  obtain ⟨F, K, S, H, hM, m0, m1, m2, m3, m4, m5, f2, f8, f14, hS⟩ := id hMI
  have bL : (Γ.2.1 bb : Int) = (Ls : Int) := by rw [bL0]
  have g8 := hC.k8
  have g9 := hM.1.1
  have h10 := hC.c10
  have hL6 := hC.ln
  have em0 := mS_id m0 m1 m2 m3 m4 m5
  have emf : ∀ V1, FR x (M + 6) V V1 → mS V1 M F T (fl X.1 X.2.1 X.2.2) K S H = V1 := fun V1 fr => mS_id (fun j => (fr M j (by omega)).trans (m0 j)) (fun j => (fr (M + 1) j (by omega)).trans (m1 j)) (fun j => (fr (M + 2) j (by omega)).trans (m2 j)) (fun j => (fr (M + 3) j (by omega)).trans (m3 j)) (fun j => (fr (M + 4) j (by omega)).trans (m4 j)) (fun j => (fr (M + 5) j (by omega)).trans (m5 j))
  have scf : ∀ V1, FR x (M + 6) V V1 → ∀ j, V1 bb j = V bb j := fun V1 fr j => fr bb j (by omega)
  refine tG_at hd kLaw_law_720 ?_
  simp (disch := omega) only [bLaw_law_720, rn, sm, lg, lt_, cmpP, tk, pr_, pu, swl, cs, Nat.reduceAdd, Nat.reduceLeDiff, Nat.zero_le, Nat.le_refl, true_and, and_true, Int.toNat_natCast, Int.reduceToNat, Int.reduceEq, false_implies, true_implies, Int.reduceNeg, Int.cast_ofNat_Int, g8, g9, b16, bL, reduceIte, Nat.reduceEqDiff, true_or, or_true, Int.reduceLE, Int.reduceLT, Int.reduceAdd, Int.reduceSub, Int.reduceMul, not_true_eq_false, not_false_eq_true, implies_true, nat_s, wr_id, uR_at, uR_uR, u1_at, u1_ne, uf_at, uf_ne, iltT, iltF, ileT, ieqT, ieqF]
  refine ⟨by omega, by omega, ?_⟩
  refine T_settle (by omega) hC (by omega) (fun h => ?_) (fun hs99 Γ1 V1 k1 c1 Y1 a1 a2 hC1 gx fr => ?_)
  · have em := em0
    refine tG_at hd kLaw_law_730 ?_
    simp (disch := omega) only [bLaw_law_730, rn, sm, lg, lt_, cmpP, tk, pr_, pu, swl, cs, Nat.reduceAdd, Nat.reduceLeDiff, Nat.zero_le, Nat.le_refl, true_and, and_true, Int.toNat_natCast, Int.reduceToNat, Int.reduceEq, false_implies, true_implies, Int.reduceNeg, Int.cast_ofNat_Int, g8, g9, b16, bL, reduceIte, Nat.reduceEqDiff, true_or, or_true, Int.reduceLE, Int.reduceLT, Int.reduceAdd, Int.reduceSub, Int.reduceMul, not_true_eq_false, not_false_eq_true, implies_true, nat_s, wr_id, uR_at, uR_uR, u1_at, u1_ne, uf_at, uf_ne, iltT, iltF, ileT, ieqT, ieqF]
    generalize V bb (6 * i + 1) = a at h ⊢
    rw [← em]
    refine c_settle0 (by omega) hM h ?_
    refine tG_at hd kLaw_law_740 ?_
    simp (disch := omega) only [bLaw_law_740, rn, sm, lg, lt_, cmpP, tk, pr_, pu, swl, cs, Nat.reduceAdd, Nat.reduceLeDiff, Nat.zero_le, Nat.le_refl, true_and, and_true, Int.toNat_natCast, Int.reduceToNat, Int.reduceEq, false_implies, true_implies, Int.reduceNeg, Int.cast_ofNat_Int, g8, g9, b16, bL, reduceIte, Nat.reduceEqDiff, true_or, or_true, Int.reduceLE, Int.reduceLT, Int.reduceAdd, Int.reduceSub, Int.reduceMul, not_true_eq_false, not_false_eq_true, implies_true, nat_s, wr_id, uR_at, uR_uR, u1_at, u1_ne, uf_at, uf_ne, iltT, iltF, ileT, ieqT, ieqF]
    exact kn Γ _ (uc + 292) (us + 1786) ((JI.mk' hC (hM.uF (by omega)) ((uF_ne (by omega)).trans f2) ((uF_ne (by omega)).trans f8) ((uF_ne (by omega)).trans f14) hS ⟨b16, bL0⟩ ⟨g12, l12⟩ hbx hxM).mono (by omega) (by omega)) (by omega) (by omega)
  · obtain ⟨nn, hnn, gx⟩ := gx
    have hZ := hC.1.2.1
    have b16' := (gx.2 bb (by omega)).1.trans b16
    have bL0' := (gx.2 bb (by omega)).2.trans bL0
    have g12' := (gx.2 (M + 6) (by omega)).1.trans g12
    have l12' := (gx.2 (M + 6) (by omega)).2.trans l12
    have sc : ∀ j, V1 bb j = V bb j := fun j => fr bb j (by omega)
    have em := mS_id (fun j => (fr M j (by omega)).trans (m0 j)) (fun j => (fr (M + 1) j (by omega)).trans (m1 j)) (fun j => (fr (M + 2) j (by omega)).trans (m2 j)) (fun j => (fr (M + 3) j (by omega)).trans (m3 j)) (fun j => (fr (M + 4) j (by omega)).trans (m4 j)) (fun j => (fr (M + 5) j (by omega)).trans (m5 j))
    rw [← FF_self (F := F)] at em
    have hM1 : ML Γ1 M F := by
      obtain ⟨F2, K2, S2, H2, hM2, z0, -⟩ := hMI.gx gx (by omega)
      have : F2 = F := funext fun j => (z0 j).symm.trans (m0 j)
      rw [this] at hM2
      exact hM2
    have g8 := hC1.k8
    have g9 := hM1.1.1
    have b16 := b16'
    have bL : (Γ1.2.1 bb : Int) = (Ls : Int) := by rw [bL0']
    refine tG_at hd kLaw_law_730 ?_
    simp (disch := omega) only [bLaw_law_730, rn, sm, lg, lt_, cmpP, tk, pr_, pu, swl, cs, Nat.reduceAdd, Nat.reduceLeDiff, Nat.zero_le, Nat.le_refl, true_and, and_true, Int.toNat_natCast, Int.reduceToNat, Int.reduceEq, false_implies, true_implies, Int.reduceNeg, Int.cast_ofNat_Int, g8, g9, b16, bL, reduceIte, Nat.reduceEqDiff, true_or, or_true, Int.reduceLE, Int.reduceLT, Int.reduceAdd, Int.reduceSub, Int.reduceMul, not_true_eq_false, not_false_eq_true, implies_true, nat_s, wr_id, uR_at, uR_uR, u1_at, u1_ne, uf_at, uf_ne, iltT, iltF, ileT, ieqT, ieqF, sc]
    rw [← em]
    refine c_settle (by omega) hM1 hs99 hC.g (by omega) h10 f14 hS (fun h' c' K' S' H' q' Y' e1 e2 e3 => ?_)
    have eq_ : c1 = q' ∧ Y1 = Y' := by
      by_cases hr : 0 ≤ (actF n k 5 (V bb (6 * i + 1)) 0 X).1
      · exact ⟨(a1 hr).1.trans (e1 hr).1.symm, (a1 hr).2.trans (e1 hr).2.symm⟩
      · exact ⟨(a2 (by omega)).1.trans (e2 (by omega)).1.symm, (a2 (by omega)).2.trans (e2 (by omega)).2.symm⟩
    obtain ⟨q1, q2⟩ := eq_
    subst q1
    subst q2
    refine tG_at hd kLaw_law_740 ?_
    simp (disch := omega) only [bLaw_law_740, rn, sm, lg, lt_, cmpP, tk, pr_, pu, swl, cs, Nat.reduceAdd, Nat.reduceLeDiff, Nat.zero_le, Nat.le_refl, true_and, and_true, Int.toNat_natCast, Int.reduceToNat, Int.reduceEq, false_implies, true_implies, Int.reduceNeg, Int.cast_ofNat_Int, g8, g9, b16, bL, reduceIte, Nat.reduceEqDiff, true_or, or_true, Int.reduceLE, Int.reduceLT, Int.reduceAdd, Int.reduceSub, Int.reduceMul, not_true_eq_false, not_false_eq_true, implies_true, nat_s, wr_id, uR_at, uR_uR, u1_at, u1_ne, uf_at, uf_ne, iltT, iltF, ileT, ieqT, ieqF]
    exact kn Γ1 _ (uc + 292) (us + 1786) ((JI.mk' hC1 (((hM1.uF (by omega)).uF (by omega)).FF) (by rw [FF_ne (by omega) (by omega), uF_ne (by omega), uF_ne (by omega)]; exact f2) (by rw [FF_ne (by omega) (by omega), uF_ne (by omega), uF_ne (by omega)]; exact f8) (by rw [FF_ne (by omega) (by omega), uF_at]) e3 ⟨b16', bL0'⟩ ⟨g12', l12'⟩ hbx hxM).mono (by omega) (by omega)) (by omega) (by omega)
theorem lc_undo (hi : 6 * i + 6 ≤ Ls) (hLs : Ls ≤ 3072) (J : JI w Γ V bb Ls x M W) (hW1 : W + 1400 ≤ W') (hW2 : W' + 2800 ≤ 1000000000) (hW3 : 150000 ≤ W') (huc : uc + 292 ≤ 674013) (hus : us + 1786 ≤ 7074066) (kn : KN_ w Q bb Ls x M W' i uc us) : tG w 13 nLaw_law 745 (lsL bb x M i) [] Γ V uc us Q := by
  have hd : 4 ≤ 13 := by omega
  obtain ⟨L, T, fk, n, k, X, c, Y, hC, hMI, ⟨b16, bL0⟩, ⟨g12, l12⟩, hbx, hxM⟩ := id J
  obtain ⟨F, K, S, H, hM, m0, m1, m2, m3, m4, m5, f2, f8, f14, hS⟩ := id hMI
  have bL : (Γ.2.1 bb : Int) = (Ls : Int) := by rw [bL0]
  have g8 := hC.k8
  have g9 := hM.1.1
  have h10 := hC.c10
  have hL6 := hC.ln
  have em0 := mS_id m0 m1 m2 m3 m4 m5
  have emf : ∀ V1, FR x (M + 6) V V1 → mS V1 M F T (fl X.1 X.2.1 X.2.2) K S H = V1 := fun V1 fr => mS_id (fun j => (fr M j (by omega)).trans (m0 j)) (fun j => (fr (M + 1) j (by omega)).trans (m1 j)) (fun j => (fr (M + 2) j (by omega)).trans (m2 j)) (fun j => (fr (M + 3) j (by omega)).trans (m3 j)) (fun j => (fr (M + 4) j (by omega)).trans (m4 j)) (fun j => (fr (M + 5) j (by omega)).trans (m5 j))
  have scf : ∀ V1, FR x (M + 6) V V1 → ∀ j, V1 bb j = V bb j := fun V1 fr j => fr bb j (by omega)
  cases c with
  | zero =>
    refine tG_at hd kLaw_law_745 ?_
    simp (disch := omega) only [bLaw_law_745, rn, sm, lg, lt_, cmpP, tk, pr_, pu, swl, cs, Nat.reduceAdd, Nat.reduceLeDiff, Nat.zero_le, Nat.le_refl, true_and, and_true, Int.toNat_natCast, Int.reduceToNat, Int.reduceEq, false_implies, true_implies, Int.reduceNeg, Int.cast_ofNat_Int, g8, g9, b16, bL, reduceIte, Nat.reduceEqDiff, true_or, or_true, Int.reduceLE, Int.reduceLT, Int.reduceAdd, Int.reduceSub, Int.reduceMul, not_true_eq_false, not_false_eq_true, implies_true, nat_s, wr_id, uR_at, uR_uR, u1_at, u1_ne, uf_at, uf_ne, iltT, iltF, ileT, ieqT, ieqF]
    refine T_undo0 (by omega) hC ?_
    refine tG_at hd kLaw_law_749 ?_
    simp (disch := omega) only [bLaw_law_749, rn, sm, lg, lt_, cmpP, tk, pr_, pu, swl, cs, Nat.reduceAdd, Nat.reduceLeDiff, Nat.zero_le, Nat.le_refl, true_and, and_true, Int.toNat_natCast, Int.reduceToNat, Int.reduceEq, false_implies, true_implies, Int.reduceNeg, Int.cast_ofNat_Int, g8, g9, b16, bL, reduceIte, Nat.reduceEqDiff, true_or, or_true, Int.reduceLE, Int.reduceLT, Int.reduceAdd, Int.reduceSub, Int.reduceMul, not_true_eq_false, not_false_eq_true, implies_true, nat_s, wr_id, uR_at, uR_uR, u1_at, u1_ne, uf_at, uf_ne, iltT, iltF, ileT, ieqT, ieqF]
    rw [← em0]
    refine c_undo0 (by omega) hM f14 ?_
    refine tG_at hd kLaw_law_753 ?_
    simp (disch := omega) only [bLaw_law_753, rn, sm, lg, lt_, cmpP, tk, pr_, pu, swl, cs, Nat.reduceAdd, Nat.reduceLeDiff, Nat.zero_le, Nat.le_refl, true_and, and_true, Int.toNat_natCast, Int.reduceToNat, Int.reduceEq, false_implies, true_implies, Int.reduceNeg, Int.cast_ofNat_Int, g8, g9, b16, bL, reduceIte, Nat.reduceEqDiff, true_or, or_true, Int.reduceLE, Int.reduceLT, Int.reduceAdd, Int.reduceSub, Int.reduceMul, not_true_eq_false, not_false_eq_true, implies_true, nat_s, wr_id, uR_at, uR_uR, u1_at, u1_ne, uf_at, uf_ne, iltT, iltF, ileT, ieqT, ieqF]
    exact kn Γ _ uc us ((JI.mk' hC (hM.uF (by omega)) ((uF_ne (by omega)).trans f2) ((uF_ne (by omega)).trans f8) ((uF_ne (by omega)).trans f14) hS ⟨b16, bL0⟩ ⟨g12, l12⟩ hbx hxM).mono (by omega) (by omega)) (by omega) (by omega)
  | succ c =>
    refine tG_at hd kLaw_law_745 ?_
    simp (disch := omega) only [bLaw_law_745, rn, sm, lg, lt_, cmpP, tk, pr_, pu, swl, cs, Nat.reduceAdd, Nat.reduceLeDiff, Nat.zero_le, Nat.le_refl, true_and, and_true, Int.toNat_natCast, Int.reduceToNat, Int.reduceEq, false_implies, true_implies, Int.reduceNeg, Int.cast_ofNat_Int, g8, g9, b16, bL, reduceIte, Nat.reduceEqDiff, true_or, or_true, Int.reduceLE, Int.reduceLT, Int.reduceAdd, Int.reduceSub, Int.reduceMul, not_true_eq_false, not_false_eq_true, implies_true, nat_s, wr_id, uR_at, uR_uR, u1_at, u1_ne, uf_at, uf_ne, iltT, iltF, ileT, ieqT, ieqF]
    refine T_undo (by omega) hC (fun V1 n' k' hC1 fr => ?_)
    have em := emf V1 fr
    refine tG_at hd kLaw_law_749 ?_
    simp (disch := omega) only [bLaw_law_749, rn, sm, lg, lt_, cmpP, tk, pr_, pu, swl, cs, Nat.reduceAdd, Nat.reduceLeDiff, Nat.zero_le, Nat.le_refl, true_and, and_true, Int.toNat_natCast, Int.reduceToNat, Int.reduceEq, false_implies, true_implies, Int.reduceNeg, Int.cast_ofNat_Int, g8, g9, b16, bL, reduceIte, Nat.reduceEqDiff, true_or, or_true, Int.reduceLE, Int.reduceLT, Int.reduceAdd, Int.reduceSub, Int.reduceMul, not_true_eq_false, not_false_eq_true, implies_true, nat_s, wr_id, uR_at, uR_uR, u1_at, u1_ne, uf_at, uf_ne, iltT, iltF, ileT, ieqT, ieqF]
    rw [← em]
    refine c_undo (by omega) hM h10 f14 hS ?_ (fun j hj => fl_hi hj)
    refine tG_at hd kLaw_law_753 ?_
    simp (disch := omega) only [bLaw_law_753, rn, sm, lg, lt_, cmpP, tk, pr_, pu, swl, cs, Nat.reduceAdd, Nat.reduceLeDiff, Nat.zero_le, Nat.le_refl, true_and, and_true, Int.toNat_natCast, Int.reduceToNat, Int.reduceEq, false_implies, true_implies, Int.reduceNeg, Int.cast_ofNat_Int, g8, g9, b16, bL, reduceIte, Nat.reduceEqDiff, true_or, or_true, Int.reduceLE, Int.reduceLT, Int.reduceAdd, Int.reduceSub, Int.reduceMul, not_true_eq_false, not_false_eq_true, implies_true, nat_s, wr_id, uR_at, uR_uR, u1_at, u1_ne, uf_at, uf_ne, iltT, iltF, ileT, ieqT, ieqF]
    exact kn Γ _ uc us ((JI.mk' hC1 ((hM.uF (by omega)).uF (by omega)) (by rw [uF_ne (by omega), uF_ne (by omega)]; exact f2) (by rw [uF_ne (by omega), uF_ne (by omega)]; exact f8) uF_at (fun i hi j hj => hS i (by omega) j hj) ⟨b16, bL0⟩ ⟨g12, l12⟩ hbx hxM).mono (by omega) (by omega)) (by omega) (by omega)
end LW
