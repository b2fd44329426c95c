/-! THE CLASS: the next token -/
section TN
variable {w : WP} {d : Nat} {Γ : GM} {V : VH} {Q : QT} {o L p : Nat} {kd st sp v : Int} {T T' : Nat → Int}
theorem k_kindOfRun (hd : 4 ≤ d) (hK : TK Γ o) {s r g : Nat} (hs : s < 640) (hr : r ≤ 640) (hg : g ≤ r)
    (hq : Q (some (.inl (if r = 0 then (if T' s = 59 then 2 else 4) else if g = 0 then 0 else if g = r ∧ g ≤ 2 then 1 else 4))) Γ (tS V o (L : Int) kd (s : Int) sp v T')) :
    tC w d nTape_kindOfRun [.inr (.inl o), .inl (r : Int), .inl (g : Int)] Γ (tS V o (L : Int) kd (s : Int) sp v T') Q := by
  obtain ⟨z0, z1, z2⟩ := hK
  refine tC_enter (nL := 3) (by decide +kernel) (by decide +kernel) rfl (Nat.le_of_ble_eq_true rfl) (fun hok => ?_)
  simp only [ent]
  by_cases h0 : r = 0
  · rw [if_pos h0] at hq
    refine tG_at hd kTape_kindOfRun_0 ?_
    simp (disch := omega) only [bTape_kindOfRun_0, rn, sm, lg, lt_, cmpP, tk, pr_, pu, swl, cs, Nat.reduceAdd, Nat.reduceLeDiff, Nat.zero_le, Nat.le_refl, true_and, and_true, Int.toNat_natCast, Int.reduceToNat, Int.reduceEq, false_implies, true_implies, Int.reduceNeg, Int.cast_ofNat_Int, t_r0, t_r1, t_r2, t_r3, t_r4, t_r5, t_a, t_w1, t_w2, t_w3, t_w4, t_w5, t_wa, z0, z1, z2, reduceIte, Nat.reduceEqDiff, true_or, or_true, Int.reduceLE, Int.reduceLT, Int.reduceAdd, Int.reduceSub, Int.reduceMul, not_true_eq_false, not_false_eq_true, implies_true, nat_s, wr_id, uR_at, uR_uR, u1_at, u1_ne, uf_at, uf_ne, iltT, iltF, ileT, ieqT, ieqF]
    by_cases h59 : T' s = 59
    · rw [if_pos h59] at hq
      refine tG_at hd kTape_kindOfRun_4 ?_
      simp (disch := omega) only [bTape_kindOfRun_4, rn, sm, lg, lt_, cmpP, tk, pr_, pu, swl, cs, Nat.reduceAdd, Nat.reduceLeDiff, Nat.zero_le, Nat.le_refl, true_and, and_true, Int.toNat_natCast, Int.reduceToNat, Int.reduceEq, false_implies, true_implies, Int.reduceNeg, Int.cast_ofNat_Int, t_r0, t_r1, t_r2, t_r3, t_r4, t_r5, t_a, t_w1, t_w2, t_w3, t_w4, t_w5, t_wa, z0, z1, z2, reduceIte, Nat.reduceEqDiff, true_or, or_true, Int.reduceLE, Int.reduceLT, Int.reduceAdd, Int.reduceSub, Int.reduceMul, not_true_eq_false, not_false_eq_true, implies_true, nat_s, wr_id, uR_at, uR_uR, u1_at, u1_ne, uf_at, uf_ne, iltT, iltF, ileT, ieqT, ieqF, h59]
      refine tG_at hd kTape_kindOfRun_18 ?_
      simp (disch := omega) only [bTape_kindOfRun_18, rn, sm, lg, lt_, cmpP, tk, pr_, pu, swl, cs, Nat.reduceAdd, Nat.reduceLeDiff, Nat.zero_le, Nat.le_refl, true_and, and_true, Int.toNat_natCast, Int.reduceToNat, Int.reduceEq, false_implies, true_implies, Int.reduceNeg, Int.cast_ofNat_Int, t_r0, t_r1, t_r2, t_r3, t_r4, t_r5, t_a, t_w1, t_w2, t_w3, t_w4, t_w5, t_wa, z0, z1, z2, reduceIte, Nat.reduceEqDiff, true_or, or_true, Int.reduceLE, Int.reduceLT, Int.reduceAdd, Int.reduceSub, Int.reduceMul, not_true_eq_false, not_false_eq_true, implies_true, nat_s, wr_id, uR_at, uR_uR, u1_at, u1_ne, uf_at, uf_ne, iltT, iltF, ileT, ieqT, ieqF]
      refine tG_at hd kTape_kindOfRun_23 ?_
      simp (disch := omega) only [bTape_kindOfRun_23, rn, sm, lg, lt_, cmpP, tk, pr_, pu, swl, cs, Nat.reduceAdd, Nat.reduceLeDiff, Nat.zero_le, Nat.le_refl, true_and, and_true, Int.toNat_natCast, Int.reduceToNat, Int.reduceEq, false_implies, true_implies, Int.reduceNeg, Int.cast_ofNat_Int, t_r0, t_r1, t_r2, t_r3, t_r4, t_r5, t_a, t_w1, t_w2, t_w3, t_w4, t_w5, t_wa, z0, z1, z2, reduceIte, Nat.reduceEqDiff, true_or, or_true, Int.reduceLE, Int.reduceLT, Int.reduceAdd, Int.reduceSub, Int.reduceMul, not_true_eq_false, not_false_eq_true, implies_true, nat_s, wr_id, uR_at, uR_uR, u1_at, u1_ne, uf_at, uf_ne, iltT, iltF, ileT, ieqT, ieqF]
      exact hq
    · rw [if_neg h59] at hq
      refine tG_at hd kTape_kindOfRun_4 ?_
      simp (disch := omega) only [bTape_kindOfRun_4, rn, sm, lg, lt_, cmpP, tk, pr_, pu, swl, cs, Nat.reduceAdd, Nat.reduceLeDiff, Nat.zero_le, Nat.le_refl, true_and, and_true, Int.toNat_natCast, Int.reduceToNat, Int.reduceEq, false_implies, true_implies, Int.reduceNeg, Int.cast_ofNat_Int, t_r0, t_r1, t_r2, t_r3, t_r4, t_r5, t_a, t_w1, t_w2, t_w3, t_w4, t_w5, t_wa, z0, z1, z2, reduceIte, Nat.reduceEqDiff, true_or, or_true, Int.reduceLE, Int.reduceLT, Int.reduceAdd, Int.reduceSub, Int.reduceMul, not_true_eq_false, not_false_eq_true, implies_true, nat_s, wr_id, uR_at, uR_uR, u1_at, u1_ne, uf_at, uf_ne, iltT, iltF, ileT, ieqT, ieqF, h59]
      refine tG_at hd kTape_kindOfRun_22 ?_
      simp (disch := omega) only [bTape_kindOfRun_22, rn, sm, lg, lt_, cmpP, tk, pr_, pu, swl, cs, Nat.reduceAdd, Nat.reduceLeDiff, Nat.zero_le, Nat.le_refl, true_and, and_true, Int.toNat_natCast, Int.reduceToNat, Int.reduceEq, false_implies, true_implies, Int.reduceNeg, Int.cast_ofNat_Int, t_r0, t_r1, t_r2, t_r3, t_r4, t_r5, t_a, t_w1, t_w2, t_w3, t_w4, t_w5, t_wa, z0, z1, z2, reduceIte, Nat.reduceEqDiff, true_or, or_true, Int.reduceLE, Int.reduceLT, Int.reduceAdd, Int.reduceSub, Int.reduceMul, not_true_eq_false, not_false_eq_true, implies_true, nat_s, wr_id, uR_at, uR_uR, u1_at, u1_ne, uf_at, uf_ne, iltT, iltF, ileT, ieqT, ieqF]
      refine tG_at hd kTape_kindOfRun_23 ?_
      simp (disch := omega) only [bTape_kindOfRun_23, rn, sm, lg, lt_, cmpP, tk, pr_, pu, swl, cs, Nat.reduceAdd, Nat.reduceLeDiff, Nat.zero_le, Nat.le_refl, true_and, and_true, Int.toNat_natCast, Int.reduceToNat, Int.reduceEq, false_implies, true_implies, Int.reduceNeg, Int.cast_ofNat_Int, t_r0, t_r1, t_r2, t_r3, t_r4, t_r5, t_a, t_w1, t_w2, t_w3, t_w4, t_w5, t_wa, z0, z1, z2, reduceIte, Nat.reduceEqDiff, true_or, or_true, Int.reduceLE, Int.reduceLT, Int.reduceAdd, Int.reduceSub, Int.reduceMul, not_true_eq_false, not_false_eq_true, implies_true, nat_s, wr_id, uR_at, uR_uR, u1_at, u1_ne, uf_at, uf_ne, iltT, iltF, ileT, ieqT, ieqF]
      exact hq
  · rw [if_neg h0] at hq
    refine tG_at hd kTape_kindOfRun_0 ?_
    simp (disch := omega) only [bTape_kindOfRun_0, rn, sm, lg, lt_, cmpP, tk, pr_, pu, swl, cs, Nat.reduceAdd, Nat.reduceLeDiff, Nat.zero_le, Nat.le_refl, true_and, and_true, Int.toNat_natCast, Int.reduceToNat, Int.reduceEq, false_implies, true_implies, Int.reduceNeg, Int.cast_ofNat_Int, t_r0, t_r1, t_r2, t_r3, t_r4, t_r5, t_a, t_w1, t_w2, t_w3, t_w4, t_w5, t_wa, z0, z1, z2, reduceIte, Nat.reduceEqDiff, true_or, or_true, Int.reduceLE, Int.reduceLT, Int.reduceAdd, Int.reduceSub, Int.reduceMul, not_true_eq_false, not_false_eq_true, implies_true, nat_s, wr_id, uR_at, uR_uR, u1_at, u1_ne, uf_at, uf_ne, iltT, iltF, ileT, ieqT, ieqF]
    by_cases hg0 : g = 0
    · rw [if_pos hg0] at hq
      refine tG_at hd kTape_kindOfRun_24 ?_
      simp (disch := omega) only [bTape_kindOfRun_24, rn, sm, lg, lt_, cmpP, tk, pr_, pu, swl, cs, Nat.reduceAdd, Nat.reduceLeDiff, Nat.zero_le, Nat.le_refl, true_and, and_true, Int.toNat_natCast, Int.reduceToNat, Int.reduceEq, false_implies, true_implies, Int.reduceNeg, Int.cast_ofNat_Int, t_r0, t_r1, t_r2, t_r3, t_r4, t_r5, t_a, t_w1, t_w2, t_w3, t_w4, t_w5, t_wa, z0, z1, z2, reduceIte, Nat.reduceEqDiff, true_or, or_true, Int.reduceLE, Int.reduceLT, Int.reduceAdd, Int.reduceSub, Int.reduceMul, not_true_eq_false, not_false_eq_true, implies_true, nat_s, wr_id, uR_at, uR_uR, u1_at, u1_ne, uf_at, uf_ne, iltT, iltF, ileT, ieqT, ieqF]
      refine tG_at hd kTape_kindOfRun_28 ?_
      simp (disch := omega) only [bTape_kindOfRun_28, rn, sm, lg, lt_, cmpP, tk, pr_, pu, swl, cs, Nat.reduceAdd, Nat.reduceLeDiff, Nat.zero_le, Nat.le_refl, true_and, and_true, Int.toNat_natCast, Int.reduceToNat, Int.reduceEq, false_implies, true_implies, Int.reduceNeg, Int.cast_ofNat_Int, t_r0, t_r1, t_r2, t_r3, t_r4, t_r5, t_a, t_w1, t_w2, t_w3, t_w4, t_w5, t_wa, z0, z1, z2, reduceIte, Nat.reduceEqDiff, true_or, or_true, Int.reduceLE, Int.reduceLT, Int.reduceAdd, Int.reduceSub, Int.reduceMul, not_true_eq_false, not_false_eq_true, implies_true, nat_s, wr_id, uR_at, uR_uR, u1_at, u1_ne, uf_at, uf_ne, iltT, iltF, ileT, ieqT, ieqF]
      exact hq
    · rw [if_neg hg0] at hq
      refine tG_at hd kTape_kindOfRun_24 ?_
      simp (disch := omega) only [bTape_kindOfRun_24, rn, sm, lg, lt_, cmpP, tk, pr_, pu, swl, cs, Nat.reduceAdd, Nat.reduceLeDiff, Nat.zero_le, Nat.le_refl, true_and, and_true, Int.toNat_natCast, Int.reduceToNat, Int.reduceEq, false_implies, true_implies, Int.reduceNeg, Int.cast_ofNat_Int, t_r0, t_r1, t_r2, t_r3, t_r4, t_r5, t_a, t_w1, t_w2, t_w3, t_w4, t_w5, t_wa, z0, z1, z2, reduceIte, Nat.reduceEqDiff, true_or, or_true, Int.reduceLE, Int.reduceLT, Int.reduceAdd, Int.reduceSub, Int.reduceMul, not_true_eq_false, not_false_eq_true, implies_true, nat_s, wr_id, uR_at, uR_uR, u1_at, u1_ne, uf_at, uf_ne, iltT, iltF, ileT, ieqT, ieqF]
      by_cases hgr : g = r
      · by_cases hg2 : g ≤ 2
        · rw [if_pos ⟨hgr, hg2⟩] at hq
          refine tG_at hd kTape_kindOfRun_30 ?_
          simp (disch := omega) only [bTape_kindOfRun_30, rn, sm, lg, lt_, cmpP, tk, pr_, pu, swl, cs, Nat.reduceAdd, Nat.reduceLeDiff, Nat.zero_le, Nat.le_refl, true_and, and_true, Int.toNat_natCast, Int.reduceToNat, Int.reduceEq, false_implies, true_implies, Int.reduceNeg, Int.cast_ofNat_Int, t_r0, t_r1, t_r2, t_r3, t_r4, t_r5, t_a, t_w1, t_w2, t_w3, t_w4, t_w5, t_wa, z0, z1, z2, reduceIte, Nat.reduceEqDiff, true_or, or_true, Int.reduceLE, Int.reduceLT, Int.reduceAdd, Int.reduceSub, Int.reduceMul, not_true_eq_false, not_false_eq_true, implies_true, nat_s, wr_id, uR_at, uR_uR, u1_at, u1_ne, uf_at, uf_ne, iltT, iltF, ileT, ieqT, ieqF]
          refine tG_at hd kTape_kindOfRun_35 ?_
          simp (disch := omega) only [bTape_kindOfRun_35, rn, sm, lg, lt_, cmpP, tk, pr_, pu, swl, cs, Nat.reduceAdd, Nat.reduceLeDiff, Nat.zero_le, Nat.le_refl, true_and, and_true, Int.toNat_natCast, Int.reduceToNat, Int.reduceEq, false_implies, true_implies, Int.reduceNeg, Int.cast_ofNat_Int, t_r0, t_r1, t_r2, t_r3, t_r4, t_r5, t_a, t_w1, t_w2, t_w3, t_w4, t_w5, t_wa, z0, z1, z2, reduceIte, Nat.reduceEqDiff, true_or, or_true, Int.reduceLE, Int.reduceLT, Int.reduceAdd, Int.reduceSub, Int.reduceMul, not_true_eq_false, not_false_eq_true, implies_true, nat_s, wr_id, uR_at, uR_uR, u1_at, u1_ne, uf_at, uf_ne, iltT, iltF, ileT, ieqT, ieqF]
          refine tG_at hd kTape_kindOfRun_40 ?_
          simp (disch := omega) only [bTape_kindOfRun_40, rn, sm, lg, lt_, cmpP, tk, pr_, pu, swl, cs, Nat.reduceAdd, Nat.reduceLeDiff, Nat.zero_le, Nat.le_refl, true_and, and_true, Int.toNat_natCast, Int.reduceToNat, Int.reduceEq, false_implies, true_implies, Int.reduceNeg, Int.cast_ofNat_Int, t_r0, t_r1, t_r2, t_r3, t_r4, t_r5, t_a, t_w1, t_w2, t_w3, t_w4, t_w5, t_wa, z0, z1, z2, reduceIte, Nat.reduceEqDiff, true_or, or_true, Int.reduceLE, Int.reduceLT, Int.reduceAdd, Int.reduceSub, Int.reduceMul, not_true_eq_false, not_false_eq_true, implies_true, nat_s, wr_id, uR_at, uR_uR, u1_at, u1_ne, uf_at, uf_ne, iltT, iltF, ileT, ieqT, ieqF]
          refine tG_at hd kTape_kindOfRun_45 ?_
          simp (disch := omega) only [bTape_kindOfRun_45, rn, sm, lg, lt_, cmpP, tk, pr_, pu, swl, cs, Nat.reduceAdd, Nat.reduceLeDiff, Nat.zero_le, Nat.le_refl, true_and, and_true, Int.toNat_natCast, Int.reduceToNat, Int.reduceEq, false_implies, true_implies, Int.reduceNeg, Int.cast_ofNat_Int, t_r0, t_r1, t_r2, t_r3, t_r4, t_r5, t_a, t_w1, t_w2, t_w3, t_w4, t_w5, t_wa, z0, z1, z2, reduceIte, Nat.reduceEqDiff, true_or, or_true, Int.reduceLE, Int.reduceLT, Int.reduceAdd, Int.reduceSub, Int.reduceMul, not_true_eq_false, not_false_eq_true, implies_true, nat_s, wr_id, uR_at, uR_uR, u1_at, u1_ne, uf_at, uf_ne, iltT, iltF, ileT, ieqT, ieqF]
          exact hq
        · rw [if_neg (fun h => hg2 h.2)] at hq
          refine tG_at hd kTape_kindOfRun_30 ?_
          simp (disch := omega) only [bTape_kindOfRun_30, rn, sm, lg, lt_, cmpP, tk, pr_, pu, swl, cs, Nat.reduceAdd, Nat.reduceLeDiff, Nat.zero_le, Nat.le_refl, true_and, and_true, Int.toNat_natCast, Int.reduceToNat, Int.reduceEq, false_implies, true_implies, Int.reduceNeg, Int.cast_ofNat_Int, t_r0, t_r1, t_r2, t_r3, t_r4, t_r5, t_a, t_w1, t_w2, t_w3, t_w4, t_w5, t_wa, z0, z1, z2, reduceIte, Nat.reduceEqDiff, true_or, or_true, Int.reduceLE, Int.reduceLT, Int.reduceAdd, Int.reduceSub, Int.reduceMul, not_true_eq_false, not_false_eq_true, implies_true, nat_s, wr_id, uR_at, uR_uR, u1_at, u1_ne, uf_at, uf_ne, iltT, iltF, ileT, ieqT, ieqF]
          refine tG_at hd kTape_kindOfRun_35 ?_
          simp (disch := omega) only [bTape_kindOfRun_35, rn, sm, lg, lt_, cmpP, tk, pr_, pu, swl, cs, Nat.reduceAdd, Nat.reduceLeDiff, Nat.zero_le, Nat.le_refl, true_and, and_true, Int.toNat_natCast, Int.reduceToNat, Int.reduceEq, false_implies, true_implies, Int.reduceNeg, Int.cast_ofNat_Int, t_r0, t_r1, t_r2, t_r3, t_r4, t_r5, t_a, t_w1, t_w2, t_w3, t_w4, t_w5, t_wa, z0, z1, z2, reduceIte, Nat.reduceEqDiff, true_or, or_true, Int.reduceLE, Int.reduceLT, Int.reduceAdd, Int.reduceSub, Int.reduceMul, not_true_eq_false, not_false_eq_true, implies_true, nat_s, wr_id, uR_at, uR_uR, u1_at, u1_ne, uf_at, uf_ne, iltT, iltF, ileT, ieqT, ieqF]
          refine tG_at hd kTape_kindOfRun_44 ?_
          simp (disch := omega) only [bTape_kindOfRun_44, rn, sm, lg, lt_, cmpP, tk, pr_, pu, swl, cs, Nat.reduceAdd, Nat.reduceLeDiff, Nat.zero_le, Nat.le_refl, true_and, and_true, Int.toNat_natCast, Int.reduceToNat, Int.reduceEq, false_implies, true_implies, Int.reduceNeg, Int.cast_ofNat_Int, t_r0, t_r1, t_r2, t_r3, t_r4, t_r5, t_a, t_w1, t_w2, t_w3, t_w4, t_w5, t_wa, z0, z1, z2, reduceIte, Nat.reduceEqDiff, true_or, or_true, Int.reduceLE, Int.reduceLT, Int.reduceAdd, Int.reduceSub, Int.reduceMul, not_true_eq_false, not_false_eq_true, implies_true, nat_s, wr_id, uR_at, uR_uR, u1_at, u1_ne, uf_at, uf_ne, iltT, iltF, ileT, ieqT, ieqF]
          refine tG_at hd kTape_kindOfRun_45 ?_
          simp (disch := omega) only [bTape_kindOfRun_45, rn, sm, lg, lt_, cmpP, tk, pr_, pu, swl, cs, Nat.reduceAdd, Nat.reduceLeDiff, Nat.zero_le, Nat.le_refl, true_and, and_true, Int.toNat_natCast, Int.reduceToNat, Int.reduceEq, false_implies, true_implies, Int.reduceNeg, Int.cast_ofNat_Int, t_r0, t_r1, t_r2, t_r3, t_r4, t_r5, t_a, t_w1, t_w2, t_w3, t_w4, t_w5, t_wa, z0, z1, z2, reduceIte, Nat.reduceEqDiff, true_or, or_true, Int.reduceLE, Int.reduceLT, Int.reduceAdd, Int.reduceSub, Int.reduceMul, not_true_eq_false, not_false_eq_true, implies_true, nat_s, wr_id, uR_at, uR_uR, u1_at, u1_ne, uf_at, uf_ne, iltT, iltF, ileT, ieqT, ieqF]
          exact hq
      · rw [if_neg (fun h => hgr h.1)] at hq
        refine tG_at hd kTape_kindOfRun_30 ?_
        simp (disch := omega) only [bTape_kindOfRun_30, rn, sm, lg, lt_, cmpP, tk, pr_, pu, swl, cs, Nat.reduceAdd, Nat.reduceLeDiff, Nat.zero_le, Nat.le_refl, true_and, and_true, Int.toNat_natCast, Int.reduceToNat, Int.reduceEq, false_implies, true_implies, Int.reduceNeg, Int.cast_ofNat_Int, t_r0, t_r1, t_r2, t_r3, t_r4, t_r5, t_a, t_w1, t_w2, t_w3, t_w4, t_w5, t_wa, z0, z1, z2, reduceIte, Nat.reduceEqDiff, true_or, or_true, Int.reduceLE, Int.reduceLT, Int.reduceAdd, Int.reduceSub, Int.reduceMul, not_true_eq_false, not_false_eq_true, implies_true, nat_s, wr_id, uR_at, uR_uR, u1_at, u1_ne, uf_at, uf_ne, iltT, iltF, ileT, ieqT, ieqF]
        refine tG_at hd kTape_kindOfRun_44 ?_
        simp (disch := omega) only [bTape_kindOfRun_44, rn, sm, lg, lt_, cmpP, tk, pr_, pu, swl, cs, Nat.reduceAdd, Nat.reduceLeDiff, Nat.zero_le, Nat.le_refl, true_and, and_true, Int.toNat_natCast, Int.reduceToNat, Int.reduceEq, false_implies, true_implies, Int.reduceNeg, Int.cast_ofNat_Int, t_r0, t_r1, t_r2, t_r3, t_r4, t_r5, t_a, t_w1, t_w2, t_w3, t_w4, t_w5, t_wa, z0, z1, z2, reduceIte, Nat.reduceEqDiff, true_or, or_true, Int.reduceLE, Int.reduceLT, Int.reduceAdd, Int.reduceSub, Int.reduceMul, not_true_eq_false, not_false_eq_true, implies_true, nat_s, wr_id, uR_at, uR_uR, u1_at, u1_ne, uf_at, uf_ne, iltT, iltF, ileT, ieqT, ieqF]
        refine tG_at hd kTape_kindOfRun_45 ?_
        simp (disch := omega) only [bTape_kindOfRun_45, rn, sm, lg, lt_, cmpP, tk, pr_, pu, swl, cs, Nat.reduceAdd, Nat.reduceLeDiff, Nat.zero_le, Nat.le_refl, true_and, and_true, Int.toNat_natCast, Int.reduceToNat, Int.reduceEq, false_implies, true_implies, Int.reduceNeg, Int.cast_ofNat_Int, t_r0, t_r1, t_r2, t_r3, t_r4, t_r5, t_a, t_w1, t_w2, t_w3, t_w4, t_w5, t_wa, z0, z1, z2, reduceIte, Nat.reduceEqDiff, true_or, or_true, Int.reduceLE, Int.reduceLT, Int.reduceAdd, Int.reduceSub, Int.reduceMul, not_true_eq_false, not_false_eq_true, implies_true, nat_s, wr_id, uR_at, uR_uR, u1_at, u1_ne, uf_at, uf_ne, iltT, iltF, ileT, ieqT, ieqF]
        exact hq
set_option maxHeartbeats 2000000 in
theorem k_next (hd5 : 5 ≤ d) (hK : TK Γ o) (hL : L ≤ 640) (hp : p ≤ L) (hT : TB L T' T)
    (hq : ∀ kd st sp v, TKc T L p kd st sp v → Q none Γ (tS V o (L : Int) kd st sp v T')) :
    tC w d nTape_next [.inr (.inl o)] Γ (tS V o (L : Int) kd st (p : Int) v T') Q := by
  have hd : 4 ≤ d := by omega
  obtain ⟨z0, z1, z2⟩ := id hK
  have hB := tkB_b (T := T) hp
  -- behind the blanks
  have k47 : ∀ sp' : Int, tG w d nTape_next 47 [some (.inr (.inl o)), none] [] Γ (tS V o (L : Int) kd (tkB T L p : Int) sp' v T') 0 0 Q := by
    intro sp'
    have k68 : (600 < L ∧ 600 ≤ tkB T L p) ∨ L ≤ tkB T L p → tG w d nTape_next 68 [some (.inr (.inl o)), none] [] Γ (tS V o (L : Int) kd (tkB T L p : Int) sp' v T') 0 0 Q := by
      intro h
      by_cases h6 : 600 < L
      · have hKk : tkK T L p = 1 := if_pos ⟨h6, by omega⟩
        have hSs : tkS T L p = 600 := if_pos ⟨h6, by omega⟩
        refine tG_at hd kTape_next_68 ?_
        simp (disch := omega) only [bTape_next_68, rn, sm, lg, lt_, cmpP, tk, pr_, pu, swl, cs, Nat.reduceAdd, Nat.reduceLeDiff, Nat.zero_le, Nat.le_refl, true_and, and_true, Int.toNat_natCast, Int.reduceToNat, Int.reduceEq, false_implies, true_implies, Int.reduceNeg, Int.cast_ofNat_Int, t_r0, t_r1, t_r2, t_r3, t_r4, t_r5, t_a, t_w1, t_w2, t_w3, t_w4, t_w5, t_wa, z0, z1, z2, reduceIte, Nat.reduceEqDiff, true_or, or_true, Int.reduceLE, Int.reduceLT, Int.reduceAdd, Int.reduceSub, Int.reduceMul, not_true_eq_false, not_false_eq_true, implies_true, nat_s, wr_id, uR_at, uR_uR, u1_at, u1_ne, uf_at, uf_ne, iltT, iltF, ileT, ieqT, ieqF]
        refine tG_at hd kTape_next_79 ?_
        simp (disch := omega) only [bTape_next_79, rn, sm, lg, lt_, cmpP, tk, pr_, pu, swl, cs, Nat.reduceAdd, Nat.reduceLeDiff, Nat.zero_le, Nat.le_refl, true_and, and_true, Int.toNat_natCast, Int.reduceToNat, Int.reduceEq, false_implies, true_implies, Int.reduceNeg, Int.cast_ofNat_Int, t_r0, t_r1, t_r2, t_r3, t_r4, t_r5, t_a, t_w1, t_w2, t_w3, t_w4, t_w5, t_wa, z0, z1, z2, reduceIte, Nat.reduceEqDiff, true_or, or_true, Int.reduceLE, Int.reduceLT, Int.reduceAdd, Int.reduceSub, Int.reduceMul, not_true_eq_false, not_false_eq_true, implies_true, nat_s, wr_id, uR_at, uR_uR, u1_at, u1_ne, uf_at, uf_ne, iltT, iltF, ileT, ieqT, ieqF]
        refine tG_at hd kTape_next_84 ?_
        simp (disch := omega) only [bTape_next_84, rn, sm, lg, lt_, cmpP, tk, pr_, pu, swl, cs, Nat.reduceAdd, Nat.reduceLeDiff, Nat.zero_le, Nat.le_refl, true_and, and_true, Int.toNat_natCast, Int.reduceToNat, Int.reduceEq, false_implies, true_implies, Int.reduceNeg, Int.cast_ofNat_Int, t_r0, t_r1, t_r2, t_r3, t_r4, t_r5, t_a, t_w1, t_w2, t_w3, t_w4, t_w5, t_wa, z0, z1, z2, reduceIte, Nat.reduceEqDiff, true_or, or_true, Int.reduceLE, Int.reduceLT, Int.reduceAdd, Int.reduceSub, Int.reduceMul, not_true_eq_false, not_false_eq_true, implies_true, nat_s, wr_id, uR_at, uR_uR, u1_at, u1_ne, uf_at, uf_ne, iltT, iltF, ileT, ieqT, ieqF]
        refine hq _ _ _ _ ⟨by rw [hKk]; rfl, by rw [hSs]; first | done | grind, fun h => by omega, fun h => by omega⟩
      · have hKk : tkK T L p = 0 := by
          unfold tkK
          rw [if_neg (by omega), if_pos (by omega)]
        have hSs : tkS T L p = L := by
          unfold tkS
          rw [if_neg (by omega)]
          omega
        refine tG_at hd kTape_next_68 ?_
        simp (disch := omega) only [bTape_next_68, rn, sm, lg, lt_, cmpP, tk, pr_, pu, swl, cs, Nat.reduceAdd, Nat.reduceLeDiff, Nat.zero_le, Nat.le_refl, true_and, and_true, Int.toNat_natCast, Int.reduceToNat, Int.reduceEq, false_implies, true_implies, Int.reduceNeg, Int.cast_ofNat_Int, t_r0, t_r1, t_r2, t_r3, t_r4, t_r5, t_a, t_w1, t_w2, t_w3, t_w4, t_w5, t_wa, z0, z1, z2, reduceIte, Nat.reduceEqDiff, true_or, or_true, Int.reduceLE, Int.reduceLT, Int.reduceAdd, Int.reduceSub, Int.reduceMul, not_true_eq_false, not_false_eq_true, implies_true, nat_s, wr_id, uR_at, uR_uR, u1_at, u1_ne, uf_at, uf_ne, iltT, iltF, ileT, ieqT, ieqF]
        refine tG_at hd kTape_next_83 ?_
        simp (disch := omega) only [bTape_next_83, rn, sm, lg, lt_, cmpP, tk, pr_, pu, swl, cs, Nat.reduceAdd, Nat.reduceLeDiff, Nat.zero_le, Nat.le_refl, true_and, and_true, Int.toNat_natCast, Int.reduceToNat, Int.reduceEq, false_implies, true_implies, Int.reduceNeg, Int.cast_ofNat_Int, t_r0, t_r1, t_r2, t_r3, t_r4, t_r5, t_a, t_w1, t_w2, t_w3, t_w4, t_w5, t_wa, z0, z1, z2, reduceIte, Nat.reduceEqDiff, true_or, or_true, Int.reduceLE, Int.reduceLT, Int.reduceAdd, Int.reduceSub, Int.reduceMul, not_true_eq_false, not_false_eq_true, implies_true, nat_s, wr_id, uR_at, uR_uR, u1_at, u1_ne, uf_at, uf_ne, iltT, iltF, ileT, ieqT, ieqF]
        refine tG_at hd kTape_next_84 ?_
        simp (disch := omega) only [bTape_next_84, rn, sm, lg, lt_, cmpP, tk, pr_, pu, swl, cs, Nat.reduceAdd, Nat.reduceLeDiff, Nat.zero_le, Nat.le_refl, true_and, and_true, Int.toNat_natCast, Int.reduceToNat, Int.reduceEq, false_implies, true_implies, Int.reduceNeg, Int.cast_ofNat_Int, t_r0, t_r1, t_r2, t_r3, t_r4, t_r5, t_a, t_w1, t_w2, t_w3, t_w4, t_w5, t_wa, z0, z1, z2, reduceIte, Nat.reduceEqDiff, true_or, or_true, Int.reduceLE, Int.reduceLT, Int.reduceAdd, Int.reduceSub, Int.reduceMul, not_true_eq_false, not_false_eq_true, implies_true, nat_s, wr_id, uR_at, uR_uR, u1_at, u1_ne, uf_at, uf_ne, iltT, iltF, ileT, ieqT, ieqF]
        refine hq _ _ _ _ ⟨by rw [hKk]; rfl, by rw [hSs]; first | done | grind, fun h => by omega, fun h => by omega⟩
    by_cases h1 : L ≤ tkB T L p
    · refine tG_at hd kTape_next_47 ?_
      simp (disch := omega) only [bTape_next_47, rn, sm, lg, lt_, cmpP, tk, pr_, pu, swl, cs, Nat.reduceAdd, Nat.reduceLeDiff, Nat.zero_le, Nat.le_refl, true_and, and_true, Int.toNat_natCast, Int.reduceToNat, Int.reduceEq, false_implies, true_implies, Int.reduceNeg, Int.cast_ofNat_Int, t_r0, t_r1, t_r2, t_r3, t_r4, t_r5, t_a, t_w1, t_w2, t_w3, t_w4, t_w5, t_wa, z0, z1, z2, reduceIte, Nat.reduceEqDiff, true_or, or_true, Int.reduceLE, Int.reduceLT, Int.reduceAdd, Int.reduceSub, Int.reduceMul, not_true_eq_false, not_false_eq_true, implies_true, nat_s, wr_id, uR_at, uR_uR, u1_at, u1_ne, uf_at, uf_ne, iltT, iltF, ileT, ieqT, ieqF]
      exact k68 (Or.inr h1)
    · refine tG_at hd kTape_next_47 ?_
      simp (disch := omega) only [bTape_next_47, rn, sm, lg, lt_, cmpP, tk, pr_, pu, swl, cs, Nat.reduceAdd, Nat.reduceLeDiff, Nat.zero_le, Nat.le_refl, true_and, and_true, Int.toNat_natCast, Int.reduceToNat, Int.reduceEq, false_implies, true_implies, Int.reduceNeg, Int.cast_ofNat_Int, t_r0, t_r1, t_r2, t_r3, t_r4, t_r5, t_a, t_w1, t_w2, t_w3, t_w4, t_w5, t_wa, z0, z1, z2, reduceIte, Nat.reduceEqDiff, true_or, or_true, Int.reduceLE, Int.reduceLT, Int.reduceAdd, Int.reduceSub, Int.reduceMul, not_true_eq_false, not_false_eq_true, implies_true, nat_s, wr_id, uR_at, uR_uR, u1_at, u1_ne, uf_at, uf_ne, iltT, iltF, ileT, ieqT, ieqF]
      by_cases h6 : 600 ≤ tkB T L p
      · refine tG_at hd kTape_next_58 ?_
        simp (disch := omega) only [bTape_next_58, rn, sm, lg, lt_, cmpP, tk, pr_, pu, swl, cs, Nat.reduceAdd, Nat.reduceLeDiff, Nat.zero_le, Nat.le_refl, true_and, and_true, Int.toNat_natCast, Int.reduceToNat, Int.reduceEq, false_implies, true_implies, Int.reduceNeg, Int.cast_ofNat_Int, t_r0, t_r1, t_r2, t_r3, t_r4, t_r5, t_a, t_w1, t_w2, t_w3, t_w4, t_w5, t_wa, z0, z1, z2, reduceIte, Nat.reduceEqDiff, true_or, or_true, Int.reduceLE, Int.reduceLT, Int.reduceAdd, Int.reduceSub, Int.reduceMul, not_true_eq_false, not_false_eq_true, implies_true, nat_s, wr_id, uR_at, uR_uR, u1_at, u1_ne, uf_at, uf_ne, iltT, iltF, ileT, ieqT, ieqF]
        exact k68 (Or.inl ⟨by omega, h6⟩)
      · refine tG_at hd kTape_next_58 ?_
        simp (disch := omega) only [bTape_next_58, rn, sm, lg, lt_, cmpP, tk, pr_, pu, swl, cs, Nat.reduceAdd, Nat.reduceLeDiff, Nat.zero_le, Nat.le_refl, true_and, and_true, Int.toNat_natCast, Int.reduceToNat, Int.reduceEq, false_implies, true_implies, Int.reduceNeg, Int.cast_ofNat_Int, t_r0, t_r1, t_r2, t_r3, t_r4, t_r5, t_a, t_w1, t_w2, t_w3, t_w4, t_w5, t_wa, z0, z1, z2, reduceIte, Nat.reduceEqDiff, true_or, or_true, Int.reduceLE, Int.reduceLT, Int.reduceAdd, Int.reduceSub, Int.reduceMul, not_true_eq_false, not_false_eq_true, implies_true, nat_s, wr_id, uR_at, uR_uR, u1_at, u1_ne, uf_at, uf_ne, iltT, iltF, ileT, ieqT, ieqF]
        obtain ⟨s, hs⟩ : ∃ s, s = tkB T L p := ⟨_, rfl⟩
        have hR := tkR_b (T := T) (L := L) (p := s) (by omega)
        obtain ⟨e, he⟩ : ∃ e, e = tkR T L s := ⟨_, rfl⟩
        rw [← hs] at h1 h6 hB ⊢
        rw [← he] at hR
        have hin : ∀ j, j < e - s → isLt (T (s + j)) ∨ isDg (T (s + j)) := fun j hj => ru0_in (T := T) (L - s) s (s + j) (by omega) (by rw [he] at hj; unfold tkR at hj; omega)
        have hend : e = L ∨ ¬ (isLt (T e) ∨ isDg (T e)) := by
          rcases ru0_end (T := T) (L - s) s with h | h
          · left
            rw [he]
            unfold tkR
            omega
          · right
            rw [he]
            exact h
        have hSs : tkS T L p = s := by
          unfold tkS
          rw [← hs, if_neg (by omega)]
        refine tG_at hd kTape_next_110 ?_
        simp (disch := omega) only [bTape_next_110, rn, sm, lg, lt_, cmpP, tk, pr_, pu, swl, cs, Nat.reduceAdd, Nat.reduceLeDiff, Nat.zero_le, Nat.le_refl, true_and, and_true, Int.toNat_natCast, Int.reduceToNat, Int.reduceEq, false_implies, true_implies, Int.reduceNeg, Int.cast_ofNat_Int, t_r0, t_r1, t_r2, t_r3, t_r4, t_r5, t_a, t_w1, t_w2, t_w3, t_w4, t_w5, t_wa, z0, z1, z2, reduceIte, Nat.reduceEqDiff, true_or, or_true, Int.reduceLE, Int.reduceLT, Int.reduceAdd, Int.reduceSub, Int.reduceMul, not_true_eq_false, not_false_eq_true, implies_true, nat_s, wr_id, uR_at, uR_uR, u1_at, u1_ne, uf_at, uf_ne, iltT, iltF, ileT, ieqT, ieqF]
        refine tG_loop (fun i => [some (.inr (.inl o)), some (.inl ((dgs T s i : Nat) : Int))]) (fun i V' => V' = tS V o (L : Int) kd (s : Int) ((s + i : Nat) : Int) (vlu T s i) T') (e - s) ?_ ?_ 0 _ (Nat.zero_le _) rfl
        · intro i V' hi hV k1
          subst hV
          have k1 := k1 _ rfl
          have hb := hT (s + i) (by omega)
          have hin1 := hin i hi
          have hdg := dgs_le (T := T) (s := s) i
          have ev : vlu T s (i + 1) = if isDg (T (s + i)) then wr (wr (wr (vlu T s i * 10) + T (s + i)) - 48) else vlu T s i := rfl
          have ed : dgs T s (i + 1) = dgs T s i + if isDg (T (s + i)) then 1 else 0 := rfl
          rw [ev, ed] at k1
          refine tG_at hd kTape_next_125 ?_
          simp (disch := omega) only [bTape_next_125, rn, sm, lg, lt_, cmpP, tk, pr_, pu, swl, cs, Nat.reduceAdd, Nat.reduceLeDiff, Nat.zero_le, Nat.le_refl, true_and, and_true, Int.toNat_natCast, Int.reduceToNat, Int.reduceEq, false_implies, true_implies, Int.reduceNeg, Int.cast_ofNat_Int, t_r0, t_r1, t_r2, t_r3, t_r4, t_r5, t_a, t_w1, t_w2, t_w3, t_w4, t_w5, t_wa, z0, z1, z2, reduceIte, Nat.reduceEqDiff, true_or, or_true, Int.reduceLE, Int.reduceLT, Int.reduceAdd, Int.reduceSub, Int.reduceMul, not_true_eq_false, not_false_eq_true, implies_true, nat_s, wr_id, uR_at, uR_uR, u1_at, u1_ne, uf_at, uf_ne, iltT, iltF, ileT, ieqT, ieqF]
          by_cases hD : isDg (T (s + i))
          · have hDg : isDg (T' (s + i)) := by rw [hb.2, sg_D hb.1]; exact hD
            have hNL : ¬ isLt (T' (s + i)) := by
              unfold isLt
              unfold isDg at hDg
              omega
            have eT : T' (s + i) = T (s + i) := by
              rw [hb.2]
              exact sg_id (by unfold isDg at hD; omega)
            rw [if_pos hD, if_pos hD] at k1
            have hDg2 : 48 ≤ T' (s + i) ∧ T' (s + i) ≤ 57 := hDg
            refine tG_at hd kTape_next_136 ?_
            simp (disch := omega) only [bTape_next_136, rn, sm, lg, lt_, cmpP, tk, pr_, pu, swl, cs, Nat.reduceAdd, Nat.reduceLeDiff, Nat.zero_le, Nat.le_refl, true_and, and_true, Int.toNat_natCast, Int.reduceToNat, Int.reduceEq, false_implies, true_implies, Int.reduceNeg, Int.cast_ofNat_Int, t_r0, t_r1, t_r2, t_r3, t_r4, t_r5, t_a, t_w1, t_w2, t_w3, t_w4, t_w5, t_wa, z0, z1, z2, reduceIte, Nat.reduceEqDiff, true_or, or_true, Int.reduceLE, Int.reduceLT, Int.reduceAdd, Int.reduceSub, Int.reduceMul, not_true_eq_false, not_false_eq_true, implies_true, nat_s, wr_id, uR_at, uR_uR, u1_at, u1_ne, uf_at, uf_ne, iltT, iltF, ileT, ieqT, ieqF, ileF, false_and, and_false, bi_F]
            refine tG_at hd kTape_next_151 ?_
            simp (disch := omega) only [bTape_next_151, rn, sm, lg, lt_, cmpP, tk, pr_, pu, swl, cs, Nat.reduceAdd, Nat.reduceLeDiff, Nat.zero_le, Nat.le_refl, true_and, and_true, Int.toNat_natCast, Int.reduceToNat, Int.reduceEq, false_implies, true_implies, Int.reduceNeg, Int.cast_ofNat_Int, t_r0, t_r1, t_r2, t_r3, t_r4, t_r5, t_a, t_w1, t_w2, t_w3, t_w4, t_w5, t_wa, z0, z1, z2, reduceIte, Nat.reduceEqDiff, true_or, or_true, Int.reduceLE, Int.reduceLT, Int.reduceAdd, Int.reduceSub, Int.reduceMul, not_true_eq_false, not_false_eq_true, implies_true, nat_s, wr_id, uR_at, uR_uR, u1_at, u1_ne, uf_at, uf_ne, iltT, iltF, ileT, ieqT, ieqF, bi_T]
            refine tG_at hd kTape_next_166 ?_
            simp (disch := omega) only [bTape_next_166, rn, sm, lg, lt_, cmpP, tk, pr_, pu, swl, cs, Nat.reduceAdd, Nat.reduceLeDiff, Nat.zero_le, Nat.le_refl, true_and, and_true, Int.toNat_natCast, Int.reduceToNat, Int.reduceEq, false_implies, true_implies, Int.reduceNeg, Int.cast_ofNat_Int, t_r0, t_r1, t_r2, t_r3, t_r4, t_r5, t_a, t_w1, t_w2, t_w3, t_w4, t_w5, t_wa, z0, z1, z2, reduceIte, Nat.reduceEqDiff, true_or, or_true, Int.reduceLE, Int.reduceLT, Int.reduceAdd, Int.reduceSub, Int.reduceMul, not_true_eq_false, not_false_eq_true, implies_true, nat_s, wr_id, uR_at, uR_uR, u1_at, u1_ne, uf_at, uf_ne, iltT, iltF, ileT, ieqT, ieqF, bi_T]
            refine tG_at hd kTape_next_181 ?_
            simp (disch := omega) only [bTape_next_181, rn, sm, lg, lt_, cmpP, tk, pr_, pu, swl, cs, Nat.reduceAdd, Nat.reduceLeDiff, Nat.zero_le, Nat.le_refl, true_and, and_true, Int.toNat_natCast, Int.reduceToNat, Int.reduceEq, false_implies, true_implies, Int.reduceNeg, Int.cast_ofNat_Int, t_r0, t_r1, t_r2, t_r3, t_r4, t_r5, t_a, t_w1, t_w2, t_w3, t_w4, t_w5, t_wa, z0, z1, z2, reduceIte, Nat.reduceEqDiff, true_or, or_true, Int.reduceLE, Int.reduceLT, Int.reduceAdd, Int.reduceSub, Int.reduceMul, not_true_eq_false, not_false_eq_true, implies_true, nat_s, wr_id, uR_at, uR_uR, u1_at, u1_ne, uf_at, uf_ne, iltT, iltF, ileT, ieqT, ieqF, eT]
            refine tG_at hd kTape_next_208 ?_
            simp (disch := omega) only [bTape_next_208, rn, sm, lg, lt_, cmpP, tk, pr_, pu, swl, cs, Nat.reduceAdd, Nat.reduceLeDiff, Nat.zero_le, Nat.le_refl, true_and, and_true, Int.toNat_natCast, Int.reduceToNat, Int.reduceEq, false_implies, true_implies, Int.reduceNeg, Int.cast_ofNat_Int, t_r0, t_r1, t_r2, t_r3, t_r4, t_r5, t_a, t_w1, t_w2, t_w3, t_w4, t_w5, t_wa, z0, z1, z2, reduceIte, Nat.reduceEqDiff, true_or, or_true, Int.reduceLE, Int.reduceLT, Int.reduceAdd, Int.reduceSub, Int.reduceMul, not_true_eq_false, not_false_eq_true, implies_true, nat_s, wr_id, uR_at, uR_uR, u1_at, u1_ne, uf_at, uf_ne, iltT, iltF, ileT, ieqT, ieqF]
            exact k1
          · have hLt : isLt (T' (s + i)) := by
              rw [hb.2, sg_L hb.1]
              exact hin1.elim id (fun h => absurd h hD)
            have hND : ¬ isDg (T' (s + i)) := by rw [hb.2, sg_D hb.1]; exact hD
            rw [if_neg hD, if_neg hD, Nat.add_zero] at k1
            have hLt2 : 97 ≤ T' (s + i) ∧ T' (s + i) ≤ 122 := hLt
            refine tG_at hd kTape_next_136 ?_
            simp (disch := omega) only [bTape_next_136, rn, sm, lg, lt_, cmpP, tk, pr_, pu, swl, cs, Nat.reduceAdd, Nat.reduceLeDiff, Nat.zero_le, Nat.le_refl, true_and, and_true, Int.toNat_natCast, Int.reduceToNat, Int.reduceEq, false_implies, true_implies, Int.reduceNeg, Int.cast_ofNat_Int, t_r0, t_r1, t_r2, t_r3, t_r4, t_r5, t_a, t_w1, t_w2, t_w3, t_w4, t_w5, t_wa, z0, z1, z2, reduceIte, Nat.reduceEqDiff, true_or, or_true, Int.reduceLE, Int.reduceLT, Int.reduceAdd, Int.reduceSub, Int.reduceMul, not_true_eq_false, not_false_eq_true, implies_true, nat_s, wr_id, uR_at, uR_uR, u1_at, u1_ne, uf_at, uf_ne, iltT, iltF, ileT, ieqT, ieqF, bi_T]
            refine tG_at hd kTape_next_166 ?_
            simp (disch := omega) only [bTape_next_166, rn, sm, lg, lt_, cmpP, tk, pr_, pu, swl, cs, Nat.reduceAdd, Nat.reduceLeDiff, Nat.zero_le, Nat.le_refl, true_and, and_true, Int.toNat_natCast, Int.reduceToNat, Int.reduceEq, false_implies, true_implies, Int.reduceNeg, Int.cast_ofNat_Int, t_r0, t_r1, t_r2, t_r3, t_r4, t_r5, t_a, t_w1, t_w2, t_w3, t_w4, t_w5, t_wa, z0, z1, z2, reduceIte, Nat.reduceEqDiff, true_or, or_true, Int.reduceLE, Int.reduceLT, Int.reduceAdd, Int.reduceSub, Int.reduceMul, not_true_eq_false, not_false_eq_true, implies_true, nat_s, wr_id, uR_at, uR_uR, u1_at, u1_ne, uf_at, uf_ne, iltT, iltF, ileT, ieqT, ieqF, ileF, false_and, and_false, bi_F]
            refine tG_at hd kTape_next_208 ?_
            simp (disch := omega) only [bTape_next_208, rn, sm, lg, lt_, cmpP, tk, pr_, pu, swl, cs, Nat.reduceAdd, Nat.reduceLeDiff, Nat.zero_le, Nat.le_refl, true_and, and_true, Int.toNat_natCast, Int.reduceToNat, Int.reduceEq, false_implies, true_implies, Int.reduceNeg, Int.cast_ofNat_Int, t_r0, t_r1, t_r2, t_r3, t_r4, t_r5, t_a, t_w1, t_w2, t_w3, t_w4, t_w5, t_wa, z0, z1, z2, reduceIte, Nat.reduceEqDiff, true_or, or_true, Int.reduceLE, Int.reduceLT, Int.reduceAdd, Int.reduceSub, Int.reduceMul, not_true_eq_false, not_false_eq_true, implies_true, nat_s, wr_id, uR_at, uR_uR, u1_at, u1_ne, uf_at, uf_ne, iltT, iltF, ileT, ieqT, ieqF]
            exact k1
        · intro V' hV
          subst hV
          have hse : s + (e - s) = e := by omega
          rw [hse]
          have hdg := dgs_le (T := T) (s := s) (e - s)
          have fin : tG w d nTape_next 221 [some (.inr (.inl o)), some (.inl ((dgs T s (e - s) : Nat) : Int))] [] Γ (tS V o (L : Int) kd (s : Int) (e : Int) (vlu T s (e - s)) T') 0 0 Q := by
            have ees : (e : Int) - (s : Int) = ((e - s : Nat) : Int) := by omega
            refine tG_at hd kTape_next_221 ?_
            simp (disch := omega) only [bTape_next_221, rn, sm, lg, lt_, cmpP, tk, pr_, pu, swl, cs, Nat.reduceAdd, Nat.reduceLeDiff, Nat.zero_le, Nat.le_refl, true_and, and_true, Int.toNat_natCast, Int.reduceToNat, Int.reduceEq, false_implies, true_implies, Int.reduceNeg, Int.cast_ofNat_Int, t_r0, t_r1, t_r2, t_r3, t_r4, t_r5, t_a, t_w1, t_w2, t_w3, t_w4, t_w5, t_wa, z0, z1, z2, reduceIte, Nat.reduceEqDiff, true_or, or_true, Int.reduceLE, Int.reduceLT, Int.reduceAdd, Int.reduceSub, Int.reduceMul, not_true_eq_false, not_false_eq_true, implies_true, nat_s, wr_id, uR_at, uR_uR, u1_at, u1_ne, uf_at, uf_ne, iltT, iltF, ileT, ieqT, ieqF, ees]
            refine k_kindOfRun (by omega) hK (by omega) (by omega) hdg ?_
            have hb := hT s (by omega)
            by_cases hr0 : e - s = 0
            · have hes : e = s := by omega
              have hnc : ¬ (isLt (T s) ∨ isDg (T s)) := by
                rcases hend with h | h
                · omega
                · rw [hes] at h
                  exact h
              rw [if_pos hr0]
              by_cases h59 : T s = 59
              · have hKk : tkK T L p = 4 := by
                  unfold tkK
                  rw [← hs, if_neg (by omega), if_neg (by omega), if_neg hnc, if_pos h59]
                have hEe : tkE T L p = s + 1 := by
                  unfold tkE
                  rw [← hs, if_neg hnc]
                rw [if_pos (by rw [hb.2, sg_S hb.1]; exact h59)]
                refine tG_at hd kTape_next_236 ?_
                simp (disch := omega) only [bTape_next_236, rn, sm, lg, lt_, cmpP, tk, pr_, pu, swl, cs, Nat.reduceAdd, Nat.reduceLeDiff, Nat.zero_le, Nat.le_refl, true_and, and_true, Int.toNat_natCast, Int.reduceToNat, Int.reduceEq, false_implies, true_implies, Int.reduceNeg, Int.cast_ofNat_Int, t_r0, t_r1, t_r2, t_r3, t_r4, t_r5, t_a, t_w1, t_w2, t_w3, t_w4, t_w5, t_wa, z0, z1, z2, reduceIte, Nat.reduceEqDiff, true_or, or_true, Int.reduceLE, Int.reduceLT, Int.reduceAdd, Int.reduceSub, Int.reduceMul, not_true_eq_false, not_false_eq_true, implies_true, nat_s, wr_id, uR_at, uR_uR, u1_at, u1_ne, uf_at, uf_ne, iltT, iltF, ileT, ieqT, ieqF]
                refine tG_at hd kTape_next_247 ?_
                simp (disch := omega) only [bTape_next_247, rn, sm, lg, lt_, cmpP, tk, pr_, pu, swl, cs, Nat.reduceAdd, Nat.reduceLeDiff, Nat.zero_le, Nat.le_refl, true_and, and_true, Int.toNat_natCast, Int.reduceToNat, Int.reduceEq, false_implies, true_implies, Int.reduceNeg, Int.cast_ofNat_Int, t_r0, t_r1, t_r2, t_r3, t_r4, t_r5, t_a, t_w1, t_w2, t_w3, t_w4, t_w5, t_wa, z0, z1, z2, reduceIte, Nat.reduceEqDiff, true_or, or_true, Int.reduceLE, Int.reduceLT, Int.reduceAdd, Int.reduceSub, Int.reduceMul, not_true_eq_false, not_false_eq_true, implies_true, nat_s, wr_id, uR_at, uR_uR, u1_at, u1_ne, uf_at, uf_ne, iltT, iltF, ileT, ieqT, ieqF]
                refine tG_at hd kTape_next_257 ?_
                simp (disch := omega) only [bTape_next_257, rn, sm, lg, lt_, cmpP, tk, pr_, pu, swl, cs, Nat.reduceAdd, Nat.reduceLeDiff, Nat.zero_le, Nat.le_refl, true_and, and_true, Int.toNat_natCast, Int.reduceToNat, Int.reduceEq, false_implies, true_implies, Int.reduceNeg, Int.cast_ofNat_Int, t_r0, t_r1, t_r2, t_r3, t_r4, t_r5, t_a, t_w1, t_w2, t_w3, t_w4, t_w5, t_wa, z0, z1, z2, reduceIte, Nat.reduceEqDiff, true_or, or_true, Int.reduceLE, Int.reduceLT, Int.reduceAdd, Int.reduceSub, Int.reduceMul, not_true_eq_false, not_false_eq_true, implies_true, nat_s, wr_id, uR_at, uR_uR, u1_at, u1_ne, uf_at, uf_ne, iltT, iltF, ileT, ieqT, ieqF]
                exact hq _ _ _ _ ⟨by rw [hKk]; rfl, by rw [hSs], fun _ => by rw [hEe], fun h => by omega⟩
              · have hKk : tkK T L p = 1 := by
                  unfold tkK
                  rw [← hs, if_neg (by omega), if_neg (by omega), if_neg hnc, if_neg h59]
                rw [if_neg (by rw [hb.2, sg_S hb.1]; exact h59)]
                refine tG_at hd kTape_next_236 ?_
                simp (disch := omega) only [bTape_next_236, rn, sm, lg, lt_, cmpP, tk, pr_, pu, swl, cs, Nat.reduceAdd, Nat.reduceLeDiff, Nat.zero_le, Nat.le_refl, true_and, and_true, Int.toNat_natCast, Int.reduceToNat, Int.reduceEq, false_implies, true_implies, Int.reduceNeg, Int.cast_ofNat_Int, t_r0, t_r1, t_r2, t_r3, t_r4, t_r5, t_a, t_w1, t_w2, t_w3, t_w4, t_w5, t_wa, z0, z1, z2, reduceIte, Nat.reduceEqDiff, true_or, or_true, Int.reduceLE, Int.reduceLT, Int.reduceAdd, Int.reduceSub, Int.reduceMul, not_true_eq_false, not_false_eq_true, implies_true, nat_s, wr_id, uR_at, uR_uR, u1_at, u1_ne, uf_at, uf_ne, iltT, iltF, ileT, ieqT, ieqF]
                refine tG_at hd kTape_next_257 ?_
                simp (disch := omega) only [bTape_next_257, rn, sm, lg, lt_, cmpP, tk, pr_, pu, swl, cs, Nat.reduceAdd, Nat.reduceLeDiff, Nat.zero_le, Nat.le_refl, true_and, and_true, Int.toNat_natCast, Int.reduceToNat, Int.reduceEq, false_implies, true_implies, Int.reduceNeg, Int.cast_ofNat_Int, t_r0, t_r1, t_r2, t_r3, t_r4, t_r5, t_a, t_w1, t_w2, t_w3, t_w4, t_w5, t_wa, z0, z1, z2, reduceIte, Nat.reduceEqDiff, true_or, or_true, Int.reduceLE, Int.reduceLT, Int.reduceAdd, Int.reduceSub, Int.reduceMul, not_true_eq_false, not_false_eq_true, implies_true, nat_s, wr_id, uR_at, uR_uR, u1_at, u1_ne, uf_at, uf_ne, iltT, iltF, ileT, ieqT, ieqF]
                exact hq _ _ _ _ ⟨by rw [hKk]; rfl, by rw [hSs], fun h => by omega, fun h => by omega⟩
            · have hc : isLt (T s) ∨ isDg (T s) := by
                have := hin 0 (by omega)
                rw [Nat.add_zero] at this
                exact this
              have hEe : tkE T L p = e := by
                unfold tkE
                rw [← hs, if_pos hc, he]
              have hNn : tkN T L p = nmb T s (e - s) := by
                unfold tkN
                rw [← hs, ← he]
              rw [if_neg hr0]
              by_cases hg0 : dgs T s (e - s) = 0
              · have haL := (dgs_non (e - s) hin).mp hg0
                have hKk : tkK T L p = 2 := by
                  unfold tkK
                  rw [← hs, if_neg (by omega), if_neg (by omega), if_pos hc, ← he, if_pos haL]
                rw [if_pos hg0]
                refine tG_at hd kTape_next_236 ?_
                simp (disch := omega) only [bTape_next_236, rn, sm, lg, lt_, cmpP, tk, pr_, pu, swl, cs, Nat.reduceAdd, Nat.reduceLeDiff, Nat.zero_le, Nat.le_refl, true_and, and_true, Int.toNat_natCast, Int.reduceToNat, Int.reduceEq, false_implies, true_implies, Int.reduceNeg, Int.cast_ofNat_Int, t_r0, t_r1, t_r2, t_r3, t_r4, t_r5, t_a, t_w1, t_w2, t_w3, t_w4, t_w5, t_wa, z0, z1, z2, reduceIte, Nat.reduceEqDiff, true_or, or_true, Int.reduceLE, Int.reduceLT, Int.reduceAdd, Int.reduceSub, Int.reduceMul, not_true_eq_false, not_false_eq_true, implies_true, nat_s, wr_id, uR_at, uR_uR, u1_at, u1_ne, uf_at, uf_ne, iltT, iltF, ileT, ieqT, ieqF]
                refine tG_at hd kTape_next_257 ?_
                simp (disch := omega) only [bTape_next_257, rn, sm, lg, lt_, cmpP, tk, pr_, pu, swl, cs, Nat.reduceAdd, Nat.reduceLeDiff, Nat.zero_le, Nat.le_refl, true_and, and_true, Int.toNat_natCast, Int.reduceToNat, Int.reduceEq, false_implies, true_implies, Int.reduceNeg, Int.cast_ofNat_Int, t_r0, t_r1, t_r2, t_r3, t_r4, t_r5, t_a, t_w1, t_w2, t_w3, t_w4, t_w5, t_wa, z0, z1, z2, reduceIte, Nat.reduceEqDiff, true_or, or_true, Int.reduceLE, Int.reduceLT, Int.reduceAdd, Int.reduceSub, Int.reduceMul, not_true_eq_false, not_false_eq_true, implies_true, nat_s, wr_id, uR_at, uR_uR, u1_at, u1_ne, uf_at, uf_ne, iltT, iltF, ileT, ieqT, ieqF]
                exact hq _ _ _ _ ⟨by rw [hKk]; rfl, by rw [hSs], fun _ => by rw [hEe], fun h => by omega⟩
              · have haL : ¬ alL T s (e - s) = true := fun h => hg0 ((dgs_non (e - s) hin).mpr h)
                rw [if_neg hg0]
                by_cases hgr : dgs T s (e - s) = e - s ∧ dgs T s (e - s) ≤ 2
                · have haD := (dgs_all (e - s)).mp hgr.1
                  have hKk : tkK T L p = 3 := by
                    unfold tkK
                    rw [← hs, if_neg (by omega), if_neg (by omega), if_pos hc, ← he, if_neg haL, if_pos ⟨haD, by omega⟩]
                  rw [if_pos hgr]
                  refine tG_at hd kTape_next_236 ?_
                  simp (disch := omega) only [bTape_next_236, rn, sm, lg, lt_, cmpP, tk, pr_, pu, swl, cs, Nat.reduceAdd, Nat.reduceLeDiff, Nat.zero_le, Nat.le_refl, true_and, and_true, Int.toNat_natCast, Int.reduceToNat, Int.reduceEq, false_implies, true_implies, Int.reduceNeg, Int.cast_ofNat_Int, t_r0, t_r1, t_r2, t_r3, t_r4, t_r5, t_a, t_w1, t_w2, t_w3, t_w4, t_w5, t_wa, z0, z1, z2, reduceIte, Nat.reduceEqDiff, true_or, or_true, Int.reduceLE, Int.reduceLT, Int.reduceAdd, Int.reduceSub, Int.reduceMul, not_true_eq_false, not_false_eq_true, implies_true, nat_s, wr_id, uR_at, uR_uR, u1_at, u1_ne, uf_at, uf_ne, iltT, iltF, ileT, ieqT, ieqF]
                  refine tG_at hd kTape_next_257 ?_
                  simp (disch := omega) only [bTape_next_257, rn, sm, lg, lt_, cmpP, tk, pr_, pu, swl, cs, Nat.reduceAdd, Nat.reduceLeDiff, Nat.zero_le, Nat.le_refl, true_and, and_true, Int.toNat_natCast, Int.reduceToNat, Int.reduceEq, false_implies, true_implies, Int.reduceNeg, Int.cast_ofNat_Int, t_r0, t_r1, t_r2, t_r3, t_r4, t_r5, t_a, t_w1, t_w2, t_w3, t_w4, t_w5, t_wa, z0, z1, z2, reduceIte, Nat.reduceEqDiff, true_or, or_true, Int.reduceLE, Int.reduceLT, Int.reduceAdd, Int.reduceSub, Int.reduceMul, not_true_eq_false, not_false_eq_true, implies_true, nat_s, wr_id, uR_at, uR_uR, u1_at, u1_ne, uf_at, uf_ne, iltT, iltF, ileT, ieqT, ieqF]
                  exact hq _ _ _ _ ⟨by rw [hKk]; rfl, by rw [hSs], fun _ => by rw [hEe], fun _ => by rw [hNn]; exact vlu_nmb _ (by omega) haD⟩
                · have hKk : tkK T L p = 1 := by
                    unfold tkK
                    rw [← hs, if_neg (by omega), if_neg (by omega), if_pos hc, ← he, if_neg haL, if_neg (fun h => hgr ⟨(dgs_all _).mpr h.1, by rw [(dgs_all _).mpr h.1]; exact h.2⟩)]
                  rw [if_neg hgr]
                  refine tG_at hd kTape_next_236 ?_
                  simp (disch := omega) only [bTape_next_236, rn, sm, lg, lt_, cmpP, tk, pr_, pu, swl, cs, Nat.reduceAdd, Nat.reduceLeDiff, Nat.zero_le, Nat.le_refl, true_and, and_true, Int.toNat_natCast, Int.reduceToNat, Int.reduceEq, false_implies, true_implies, Int.reduceNeg, Int.cast_ofNat_Int, t_r0, t_r1, t_r2, t_r3, t_r4, t_r5, t_a, t_w1, t_w2, t_w3, t_w4, t_w5, t_wa, z0, z1, z2, reduceIte, Nat.reduceEqDiff, true_or, or_true, Int.reduceLE, Int.reduceLT, Int.reduceAdd, Int.reduceSub, Int.reduceMul, not_true_eq_false, not_false_eq_true, implies_true, nat_s, wr_id, uR_at, uR_uR, u1_at, u1_ne, uf_at, uf_ne, iltT, iltF, ileT, ieqT, ieqF]
                  refine tG_at hd kTape_next_257 ?_
                  simp (disch := omega) only [bTape_next_257, rn, sm, lg, lt_, cmpP, tk, pr_, pu, swl, cs, Nat.reduceAdd, Nat.reduceLeDiff, Nat.zero_le, Nat.le_refl, true_and, and_true, Int.toNat_natCast, Int.reduceToNat, Int.reduceEq, false_implies, true_implies, Int.reduceNeg, Int.cast_ofNat_Int, t_r0, t_r1, t_r2, t_r3, t_r4, t_r5, t_a, t_w1, t_w2, t_w3, t_w4, t_w5, t_wa, z0, z1, z2, reduceIte, Nat.reduceEqDiff, true_or, or_true, Int.reduceLE, Int.reduceLT, Int.reduceAdd, Int.reduceSub, Int.reduceMul, not_true_eq_false, not_false_eq_true, implies_true, nat_s, wr_id, uR_at, uR_uR, u1_at, u1_ne, uf_at, uf_ne, iltT, iltF, ileT, ieqT, ieqF]
                  exact hq _ _ _ _ ⟨by rw [hKk]; rfl, by rw [hSs], fun h => by omega, fun h => by omega⟩
          rcases hend with h | h
          · refine tG_at hd kTape_next_125 ?_
            simp (disch := omega) only [bTape_next_125, rn, sm, lg, lt_, cmpP, tk, pr_, pu, swl, cs, Nat.reduceAdd, Nat.reduceLeDiff, Nat.zero_le, Nat.le_refl, true_and, and_true, Int.toNat_natCast, Int.reduceToNat, Int.reduceEq, false_implies, true_implies, Int.reduceNeg, Int.cast_ofNat_Int, t_r0, t_r1, t_r2, t_r3, t_r4, t_r5, t_a, t_w1, t_w2, t_w3, t_w4, t_w5, t_wa, z0, z1, z2, reduceIte, Nat.reduceEqDiff, true_or, or_true, Int.reduceLE, Int.reduceLT, Int.reduceAdd, Int.reduceSub, Int.reduceMul, not_true_eq_false, not_false_eq_true, implies_true, nat_s, wr_id, uR_at, uR_uR, u1_at, u1_ne, uf_at, uf_ne, iltT, iltF, ileT, ieqT, ieqF]
            exact fin
          · by_cases heL : e = L
            · refine tG_at hd kTape_next_125 ?_
              simp (disch := omega) only [bTape_next_125, rn, sm, lg, lt_, cmpP, tk, pr_, pu, swl, cs, Nat.reduceAdd, Nat.reduceLeDiff, Nat.zero_le, Nat.le_refl, true_and, and_true, Int.toNat_natCast, Int.reduceToNat, Int.reduceEq, false_implies, true_implies, Int.reduceNeg, Int.cast_ofNat_Int, t_r0, t_r1, t_r2, t_r3, t_r4, t_r5, t_a, t_w1, t_w2, t_w3, t_w4, t_w5, t_wa, z0, z1, z2, reduceIte, Nat.reduceEqDiff, true_or, or_true, Int.reduceLE, Int.reduceLT, Int.reduceAdd, Int.reduceSub, Int.reduceMul, not_true_eq_false, not_false_eq_true, implies_true, nat_s, wr_id, uR_at, uR_uR, u1_at, u1_ne, uf_at, uf_ne, iltT, iltF, ileT, ieqT, ieqF]
              exact fin
            · have hb := hT e (by omega)
              have hNL : ¬ isLt (T' e) := by rw [hb.2, sg_L hb.1]; exact fun h' => h (Or.inl h')
              have hND : ¬ isDg (T' e) := by rw [hb.2, sg_D hb.1]; exact fun h' => h (Or.inr h')
              refine tG_at hd kTape_next_125 ?_
              simp (disch := omega) only [bTape_next_125, rn, sm, lg, lt_, cmpP, tk, pr_, pu, swl, cs, Nat.reduceAdd, Nat.reduceLeDiff, Nat.zero_le, Nat.le_refl, true_and, and_true, Int.toNat_natCast, Int.reduceToNat, Int.reduceEq, false_implies, true_implies, Int.reduceNeg, Int.cast_ofNat_Int, t_r0, t_r1, t_r2, t_r3, t_r4, t_r5, t_a, t_w1, t_w2, t_w3, t_w4, t_w5, t_wa, z0, z1, z2, reduceIte, Nat.reduceEqDiff, true_or, or_true, Int.reduceLE, Int.reduceLT, Int.reduceAdd, Int.reduceSub, Int.reduceMul, not_true_eq_false, not_false_eq_true, implies_true, nat_s, wr_id, uR_at, uR_uR, u1_at, u1_ne, uf_at, uf_ne, iltT, iltF, ileT, ieqT, ieqF]
              refine tG_at hd kTape_next_136 ?_
              simp (disch := omega) only [bTape_next_136, rn, sm, lg, lt_, cmpP, tk, pr_, pu, swl, cs, Nat.reduceAdd, Nat.reduceLeDiff, Nat.zero_le, Nat.le_refl, true_and, and_true, Int.toNat_natCast, Int.reduceToNat, Int.reduceEq, false_implies, true_implies, Int.reduceNeg, Int.cast_ofNat_Int, t_r0, t_r1, t_r2, t_r3, t_r4, t_r5, t_a, t_w1, t_w2, t_w3, t_w4, t_w5, t_wa, z0, z1, z2, reduceIte, Nat.reduceEqDiff, true_or, or_true, Int.reduceLE, Int.reduceLT, Int.reduceAdd, Int.reduceSub, Int.reduceMul, not_true_eq_false, not_false_eq_true, implies_true, nat_s, wr_id, uR_at, uR_uR, u1_at, u1_ne, uf_at, uf_ne, iltT, iltF, ileT, ieqT, ieqF, bi_0 hNL]
              refine tG_at hd kTape_next_151 ?_
              simp (disch := omega) only [bTape_next_151, rn, sm, lg, lt_, cmpP, tk, pr_, pu, swl, cs, Nat.reduceAdd, Nat.reduceLeDiff, Nat.zero_le, Nat.le_refl, true_and, and_true, Int.toNat_natCast, Int.reduceToNat, Int.reduceEq, false_implies, true_implies, Int.reduceNeg, Int.cast_ofNat_Int, t_r0, t_r1, t_r2, t_r3, t_r4, t_r5, t_a, t_w1, t_w2, t_w3, t_w4, t_w5, t_wa, z0, z1, z2, reduceIte, Nat.reduceEqDiff, true_or, or_true, Int.reduceLE, Int.reduceLT, Int.reduceAdd, Int.reduceSub, Int.reduceMul, not_true_eq_false, not_false_eq_true, implies_true, nat_s, wr_id, uR_at, uR_uR, u1_at, u1_ne, uf_at, uf_ne, iltT, iltF, ileT, ieqT, ieqF, bi_0 hND]
              exact fin
  -- the blanks
  have k8 : ∀ r s : Nat, s + r = L → sk0 T r s = tkB T L p → tG w d nTape_next 8 [some (.inr (.inl o)), none] [] Γ (tS V o (L : Int) kd (s : Int) (p : Int) v T') 0 0 Q := by
    intro r
    induction r with
    | zero =>
      intro s hs e
      have e : s = tkB T L p := e
      refine tG_at hd kTape_next_8 ?_
      simp (disch := omega) only [bTape_next_8, rn, sm, lg, lt_, cmpP, tk, pr_, pu, swl, cs, Nat.reduceAdd, Nat.reduceLeDiff, Nat.zero_le, Nat.le_refl, true_and, and_true, Int.toNat_natCast, Int.reduceToNat, Int.reduceEq, false_implies, true_implies, Int.reduceNeg, Int.cast_ofNat_Int, t_r0, t_r1, t_r2, t_r3, t_r4, t_r5, t_a, t_w1, t_w2, t_w3, t_w4, t_w5, t_wa, z0, z1, z2, reduceIte, Nat.reduceEqDiff, true_or, or_true, Int.reduceLE, Int.reduceLT, Int.reduceAdd, Int.reduceSub, Int.reduceMul, not_true_eq_false, not_false_eq_true, implies_true, nat_s, wr_id, uR_at, uR_uR, u1_at, u1_ne, uf_at, uf_ne, iltT, iltF, ileT, ieqT, ieqF]
      rw [e]
      exact k47 _
    | succ r ih =>
      intro s hs e
      have hb := hT s (by omega)
      unfold sk0 at e
      refine tG_at hd kTape_next_8 ?_
      simp (disch := omega) only [bTape_next_8, rn, sm, lg, lt_, cmpP, tk, pr_, pu, swl, cs, Nat.reduceAdd, Nat.reduceLeDiff, Nat.zero_le, Nat.le_refl, true_and, and_true, Int.toNat_natCast, Int.reduceToNat, Int.reduceEq, false_implies, true_implies, Int.reduceNeg, Int.cast_ofNat_Int, t_r0, t_r1, t_r2, t_r3, t_r4, t_r5, t_a, t_w1, t_w2, t_w3, t_w4, t_w5, t_wa, z0, z1, z2, reduceIte, Nat.reduceEqDiff, true_or, or_true, Int.reduceLE, Int.reduceLT, Int.reduceAdd, Int.reduceSub, Int.reduceMul, not_true_eq_false, not_false_eq_true, implies_true, nat_s, wr_id, uR_at, uR_uR, u1_at, u1_ne, uf_at, uf_ne, iltT, iltF, ileT, ieqT, ieqF]
      by_cases hB : isB (T s)
      · rw [if_pos hB] at e
        refine tG_at hd kTape_next_19 ?_
        simp (disch := omega) only [bTape_next_19, rn, sm, lg, lt_, cmpP, tk, pr_, pu, swl, cs, Nat.reduceAdd, Nat.reduceLeDiff, Nat.zero_le, Nat.le_refl, true_and, and_true, Int.toNat_natCast, Int.reduceToNat, Int.reduceEq, false_implies, true_implies, Int.reduceNeg, Int.cast_ofNat_Int, t_r0, t_r1, t_r2, t_r3, t_r4, t_r5, t_a, t_w1, t_w2, t_w3, t_w4, t_w5, t_wa, z0, z1, z2, reduceIte, Nat.reduceEqDiff, true_or, or_true, Int.reduceLE, Int.reduceLT, Int.reduceAdd, Int.reduceSub, Int.reduceMul, not_true_eq_false, not_false_eq_true, implies_true, nat_s, wr_id, uR_at, uR_uR, u1_at, u1_ne, uf_at, uf_ne, iltT, iltF, ileT, ieqT, ieqF, bi_1 (show isB (T' s) by rw [hb.2, sg_B hb.1]; exact hB)]
        refine tG_at hd kTape_next_34 ?_
        simp (disch := omega) only [bTape_next_34, rn, sm, lg, lt_, cmpP, tk, pr_, pu, swl, cs, Nat.reduceAdd, Nat.reduceLeDiff, Nat.zero_le, Nat.le_refl, true_and, and_true, Int.toNat_natCast, Int.reduceToNat, Int.reduceEq, false_implies, true_implies, Int.reduceNeg, Int.cast_ofNat_Int, t_r0, t_r1, t_r2, t_r3, t_r4, t_r5, t_a, t_w1, t_w2, t_w3, t_w4, t_w5, t_wa, z0, z1, z2, reduceIte, Nat.reduceEqDiff, true_or, or_true, Int.reduceLE, Int.reduceLT, Int.reduceAdd, Int.reduceSub, Int.reduceMul, not_true_eq_false, not_false_eq_true, implies_true, nat_s, wr_id, uR_at, uR_uR, u1_at, u1_ne, uf_at, uf_ne, iltT, iltF, ileT, ieqT, ieqF]
        exact ih (s + 1) (by omega) e
      · rw [if_neg hB] at e
        refine tG_at hd kTape_next_19 ?_
        simp (disch := omega) only [bTape_next_19, rn, sm, lg, lt_, cmpP, tk, pr_, pu, swl, cs, Nat.reduceAdd, Nat.reduceLeDiff, Nat.zero_le, Nat.le_refl, true_and, and_true, Int.toNat_natCast, Int.reduceToNat, Int.reduceEq, false_implies, true_implies, Int.reduceNeg, Int.cast_ofNat_Int, t_r0, t_r1, t_r2, t_r3, t_r4, t_r5, t_a, t_w1, t_w2, t_w3, t_w4, t_w5, t_wa, z0, z1, z2, reduceIte, Nat.reduceEqDiff, true_or, or_true, Int.reduceLE, Int.reduceLT, Int.reduceAdd, Int.reduceSub, Int.reduceMul, not_true_eq_false, not_false_eq_true, implies_true, nat_s, wr_id, uR_at, uR_uR, u1_at, u1_ne, uf_at, uf_ne, iltT, iltF, ileT, ieqT, ieqF, bi_0 (show ¬ isB (T' s) by rw [hb.2, sg_B hb.1]; exact hB)]
        rw [e]
        exact k47 _
  refine tC_enter (nL := 2) (by decide +kernel) (by decide +kernel) rfl (Nat.le_of_ble_eq_true rfl) (fun hok => ?_)
  simp only [ent]
  refine tG_at hd kTape_next_0 ?_
  simp (disch := omega) only [bTape_next_0, rn, sm, lg, lt_, cmpP, tk, pr_, pu, swl, cs, Nat.reduceAdd, Nat.reduceLeDiff, Nat.zero_le, Nat.le_refl, true_and, and_true, Int.toNat_natCast, Int.reduceToNat, Int.reduceEq, false_implies, true_implies, Int.reduceNeg, Int.cast_ofNat_Int, t_r0, t_r1, t_r2, t_r3, t_r4, t_r5, t_a, t_w1, t_w2, t_w3, t_w4, t_w5, t_wa, z0, z1, z2, reduceIte, Nat.reduceEqDiff, true_or, or_true, Int.reduceLE, Int.reduceLT, Int.reduceAdd, Int.reduceSub, Int.reduceMul, not_true_eq_false, not_false_eq_true, implies_true, nat_s, wr_id, uR_at, uR_uR, u1_at, u1_ne, uf_at, uf_ne, iltT, iltF, ileT, ieqT, ieqF]
  exact k8 (L - p) p (by omega) rfl
end TN
