/-! THE CLASS: would, soon, order -/
section CM
variable {w : WP} {d : Nat} {Γ : GM} {V : VH} {Q : QT} {x Z L n k W c hh : Nat} {T : Nat → Int} {fk : Int} {X : NT} {Y : Nat → NT} {ad : Nat → Nat} {tb : Nat → TBL}
set_option maxHeartbeats 1000000 in
theorem T_would (hd8 : 8 ≤ d) (hC : CI w Γ V x Z L T fk n k W X c Y) (hW2 : W + 2 ≤ 1000000000) {a b : Int} (hq : ∀ V', CI w Γ V' x Z L T fk n k W X c Y → FR x Z V V' → Q (some (.inl (wldF n k X a b))) Γ V') : tC w d nTok_would [.inr (.inl x), .inl a, .inl b] Γ V Q := by
  have hd : 4 ≤ d := by omega
  obtain ⟨⟨c1, c2, c3⟩, cs_, ⟨⟨z0, z1, z2⟩, cl, kd, st, sp, v, T', ct0, ct1, ct2⟩, cc, ad, tb, hh, ch, ch10, ⟨⟨g8, g1, g15, g10⟩, ⟨v0, v1, v2, v3, v4, v5⟩, u0, u1, u2⟩, ly, cm⟩ := id hC
  have n0 := (ly.1 0 (by omega)).1.1.1
  have n1 := (ly.1 1 (by omega)).1.1.1
  have cx : CX Γ V x ad fk c hh := ⟨⟨g8, g1, g15, g10⟩, ⟨v0, v1, v2, v3, v4, v5⟩, u0, u1, u2⟩
  have eN := (ly.1 0 (by omega)).2.2.1.eq
  have hN := (ly.1 0 (by omega)).1
  have hN1 := (ly.1 1 (by omega)).1
  have b0 := ly.b c1 (u := 0) (by omega)
  have b1 := ly.b c1 (u := 1) (by omega)
  have dis := ly.2 0 1 (by omega) (by omega) (by omega)
  obtain ⟨rA, rW, rB, rM, rQ, rL⟩ := id cm.1.2.2
  obtain ⟨n0', n5, hn2, hn6, hk41, hW⟩ := cm.1.1.1.A
  have hf := fst_b (C := X.2.2) (a := a) (b := b) k 0
  have f9 : V (ad 0) 9 = (tb 0).1 6 := ly.f (u := 0) (j := 9) (by omega)
  have f5 : V (ad 0) 5 = X.1 1 := (ly.f (u := 0) (j := 5) (by omega)).trans (rA 1 (by omega))
  refine tC_enter (nL := 4) (by decide +kernel) (by decide +kernel) rfl (Nat.le_of_ble_eq_true rfl) (fun hok => ?_)
  simp only [ent]
  refine tG_at hd kTok_would_0 ?_
  simp (disch := omega) only [bTok_would_0, rn, sm, lg, lt_, cmpP, tk, pr_, pu, swl, cs, Nat.reduceAdd, Nat.reduceLeDiff, Nat.zero_le, Nat.le_refl, true_and, and_true, Int.toNat_natCast, Int.reduceToNat, Int.reduceEq, false_implies, true_implies, Int.reduceNeg, Int.cast_ofNat_Int, g8, g1, g15, g10, v0, v1, v2, v3, v4, v5, u0, u1, z0, n0, n1, reduceIte, Nat.reduceEqDiff, true_or, or_true, Int.reduceLE, Int.reduceLT, Int.reduceAdd, Int.reduceSub, Int.reduceMul, not_true_eq_false, not_false_eq_true, implies_true, nat_s, wr_id, uR_at, uR_uR, u1_at, u1_ne, uf_at, uf_ne, iltT, iltF, ileT, ieqT, ieqF]
  rw [← eN]
  refine k_find (by omega) hN cm.1.2.2 n5 (by omega) ?_
  rw [eN, nth_0]
  rcases hf with hf | hf
  · have hF : wldF n k X a b = -1 := if_pos hf
    rw [hF] at hq
    refine tG_at hd kTok_would_10 ?_
    simp (disch := omega) only [bTok_would_10, rn, sm, lg, lt_, cmpP, tk, pr_, pu, swl, cs, Nat.reduceAdd, Nat.reduceLeDiff, Nat.zero_le, Nat.le_refl, true_and, and_true, Int.toNat_natCast, Int.reduceToNat, Int.reduceEq, false_implies, true_implies, Int.reduceNeg, Int.cast_ofNat_Int, g8, g1, g15, g10, v0, v1, v2, v3, v4, v5, u0, u1, z0, n0, n1, reduceIte, Nat.reduceEqDiff, true_or, or_true, Int.reduceLE, Int.reduceLT, Int.reduceAdd, Int.reduceSub, Int.reduceMul, not_true_eq_false, not_false_eq_true, implies_true, nat_s, wr_id, uR_at, uR_uR, u1_at, u1_ne, uf_at, uf_ne, iltT, iltF, ileT, ieqT, ieqF, hf]
    refine tG_at hd kTok_would_16 ?_
    simp (disch := omega) only [bTok_would_16, rn, sm, lg, lt_, cmpP, tk, pr_, pu, swl, cs, Nat.reduceAdd, Nat.reduceLeDiff, Nat.zero_le, Nat.le_refl, true_and, and_true, Int.toNat_natCast, Int.reduceToNat, Int.reduceEq, false_implies, true_implies, Int.reduceNeg, Int.cast_ofNat_Int, g8, g1, g15, g10, v0, v1, v2, v3, v4, v5, u0, u1, z0, n0, n1, reduceIte, Nat.reduceEqDiff, true_or, or_true, Int.reduceLE, Int.reduceLT, Int.reduceAdd, Int.reduceSub, Int.reduceMul, not_true_eq_false, not_false_eq_true, implies_true, nat_s, wr_id, uR_at, uR_uR, u1_at, u1_ne, uf_at, uf_ne, iltT, iltF, ileT, ieqT, ieqF]
    exact hq V hC FR.rf
  · obtain ⟨p, hp⟩ : ∃ p : Nat, fst_ X.2.2 a b 0 k = (p : Int) := ⟨(fst_ X.2.2 a b 0 k).toNat, by omega⟩
    have hF : wldF n k X a b = if (delF n p X).2.2.2 ≠ -1 then 1 else if (delF n p X).2.2.1 ≠ 0 then 2 else if X.1 1 < (delF n p X).2.1.1 1 then 3 else 0 := by
      unfold wldF
      rw [if_neg (by omega), hp, Int.toNat_natCast]
    rw [hF] at hq
    have hdh := delF_h (n := n) (p := p) (X := X)
    refine tG_at hd kTok_would_10 ?_
    simp (disch := omega) only [bTok_would_10, rn, sm, lg, lt_, cmpP, tk, pr_, pu, swl, cs, Nat.reduceAdd, Nat.reduceLeDiff, Nat.zero_le, Nat.le_refl, true_and, and_true, Int.toNat_natCast, Int.reduceToNat, Int.reduceEq, false_implies, true_implies, Int.reduceNeg, Int.cast_ofNat_Int, g8, g1, g15, g10, v0, v1, v2, v3, v4, v5, u0, u1, z0, n0, n1, reduceIte, Nat.reduceEqDiff, true_or, or_true, Int.reduceLE, Int.reduceLT, Int.reduceAdd, Int.reduceSub, Int.reduceMul, not_true_eq_false, not_false_eq_true, implies_true, nat_s, wr_id, uR_at, uR_uR, u1_at, u1_ne, uf_at, uf_ne, iltT, iltF, ileT, ieqT, ieqF, hp]
    refine tG_at hd kTok_would_18 ?_
    simp (disch := omega) only [bTok_would_18, rn, sm, lg, lt_, cmpP, tk, pr_, pu, swl, cs, Nat.reduceAdd, Nat.reduceLeDiff, Nat.zero_le, Nat.le_refl, true_and, and_true, Int.toNat_natCast, Int.reduceToNat, Int.reduceEq, false_implies, true_implies, Int.reduceNeg, Int.cast_ofNat_Int, g8, g1, g15, g10, v0, v1, v2, v3, v4, v5, u0, u1, z0, n0, n1, reduceIte, Nat.reduceEqDiff, true_or, or_true, Int.reduceLE, Int.reduceLT, Int.reduceAdd, Int.reduceSub, Int.reduceMul, not_true_eq_false, not_false_eq_true, implies_true, nat_s, wr_id, uR_at, uR_uR, u1_at, u1_ne, uf_at, uf_ne, iltT, iltF, ileT, ieqT, ieqF]
    refine L_copy (by omega) ly cm.1.1 cm.1.2.2 (fun A' B' S' r1 r6 => ?_)
    refine tG_at hd kTok_would_29 ?_
    simp (disch := omega) only [bTok_would_29, rn, sm, lg, lt_, cmpP, tk, pr_, pu, swl, cs, Nat.reduceAdd, Nat.reduceLeDiff, Nat.zero_le, Nat.le_refl, true_and, and_true, Int.toNat_natCast, Int.reduceToNat, Int.reduceEq, false_implies, true_implies, Int.reduceNeg, Int.cast_ofNat_Int, g8, g1, g15, g10, v0, v1, v2, v3, v4, v5, u0, u1, z0, n0, n1, reduceIte, Nat.reduceEqDiff, true_or, or_true, Int.reduceLE, Int.reduceLT, Int.reduceAdd, Int.reduceSub, Int.reduceMul, not_true_eq_false, not_false_eq_true, implies_true, nat_s, wr_id, uR_at, uR_uR, u1_at, u1_ne, uf_at, uf_ne, iltT, iltF, ileT, ieqT, ieqF, nP_o]
    refine k_deliver (by omega) hN1 cm.1.1 (by omega) r1 hW2 (fun A2 B2 S2 q2 r2 r26 r27 => ?_)
    have fin := hC.paper ch ch10 cx ly cm (A := A2) (B := B2) (S := S2) (q := q2) r2.2.2.2.2.1
    have hq := hq _ fin.1 fin.2
    have r21 : A2 1 = (delF n p X).2.1.1 1 := r2.1 1 (by omega)
    by_cases h1 : (delF n p X).2.2.2 = -1
    · rw [if_neg (by rw [h1]; exact fun h => h rfl)] at hq
      refine tG_at hd kTok_would_37 ?_
      simp (disch := omega) only [bTok_would_37, rn, sm, lg, lt_, cmpP, tk, pr_, pu, swl, cs, Nat.reduceAdd, Nat.reduceLeDiff, Nat.zero_le, Nat.le_refl, true_and, and_true, Int.toNat_natCast, Int.reduceToNat, Int.reduceEq, false_implies, true_implies, Int.reduceNeg, Int.cast_ofNat_Int, g8, g1, g15, g10, v0, v1, v2, v3, v4, v5, u0, u1, z0, n0, n1, reduceIte, Nat.reduceEqDiff, true_or, or_true, Int.reduceLE, Int.reduceLT, Int.reduceAdd, Int.reduceSub, Int.reduceMul, not_true_eq_false, not_false_eq_true, implies_true, nat_s, wr_id, uR_at, uR_uR, u1_at, u1_ne, uf_at, uf_ne, iltT, iltF, ileT, ieqT, ieqF, nP_o, n_r10, r27, h1]
      by_cases h2 : (delF n p X).2.2.1 = 0
      · rw [if_neg (fun h => h h2)] at hq
        refine tG_at hd kTok_would_51 ?_
        simp (disch := omega) only [bTok_would_51, rn, sm, lg, lt_, cmpP, tk, pr_, pu, swl, cs, Nat.reduceAdd, Nat.reduceLeDiff, Nat.zero_le, Nat.le_refl, true_and, and_true, Int.toNat_natCast, Int.reduceToNat, Int.reduceEq, false_implies, true_implies, Int.reduceNeg, Int.cast_ofNat_Int, g8, g1, g15, g10, v0, v1, v2, v3, v4, v5, u0, u1, z0, n0, n1, reduceIte, Nat.reduceEqDiff, true_or, or_true, Int.reduceLE, Int.reduceLT, Int.reduceAdd, Int.reduceSub, Int.reduceMul, not_true_eq_false, not_false_eq_true, implies_true, nat_s, wr_id, uR_at, uR_uR, u1_at, u1_ne, uf_at, uf_ne, iltT, iltF, ileT, ieqT, ieqF, nP_o, n_r9, f9]
        by_cases h3 : X.1 1 < (delF n p X).2.1.1 1
        · rw [if_pos h3] at hq
          refine tG_at hd kTok_would_70 ?_
          simp (disch := omega) only [bTok_would_70, rn, sm, lg, lt_, cmpP, tk, pr_, pu, swl, cs, Nat.reduceAdd, Nat.reduceLeDiff, Nat.zero_le, Nat.le_refl, true_and, and_true, Int.toNat_natCast, Int.reduceToNat, Int.reduceEq, false_implies, true_implies, Int.reduceNeg, Int.cast_ofNat_Int, g8, g1, g15, g10, v0, v1, v2, v3, v4, v5, u0, u1, z0, n0, n1, reduceIte, Nat.reduceEqDiff, true_or, or_true, Int.reduceLE, Int.reduceLT, Int.reduceAdd, Int.reduceSub, Int.reduceMul, not_true_eq_false, not_false_eq_true, implies_true, nat_s, wr_id, uR_at, uR_uR, u1_at, u1_ne, uf_at, uf_ne, iltT, iltF, ileT, ieqT, ieqF, nP_o, n_r5, f5, r21]
          refine tG_at hd kTok_would_87 ?_
          simp (disch := omega) only [bTok_would_87, rn, sm, lg, lt_, cmpP, tk, pr_, pu, swl, cs, Nat.reduceAdd, Nat.reduceLeDiff, Nat.zero_le, Nat.le_refl, true_and, and_true, Int.toNat_natCast, Int.reduceToNat, Int.reduceEq, false_implies, true_implies, Int.reduceNeg, Int.cast_ofNat_Int, g8, g1, g15, g10, v0, v1, v2, v3, v4, v5, u0, u1, z0, n0, n1, reduceIte, Nat.reduceEqDiff, true_or, or_true, Int.reduceLE, Int.reduceLT, Int.reduceAdd, Int.reduceSub, Int.reduceMul, not_true_eq_false, not_false_eq_true, implies_true, nat_s, wr_id, uR_at, uR_uR, u1_at, u1_ne, uf_at, uf_ne, iltT, iltF, ileT, ieqT, ieqF]
          refine tG_at hd kTok_would_92 ?_
          simp (disch := omega) only [bTok_would_92, rn, sm, lg, lt_, cmpP, tk, pr_, pu, swl, cs, Nat.reduceAdd, Nat.reduceLeDiff, Nat.zero_le, Nat.le_refl, true_and, and_true, Int.toNat_natCast, Int.reduceToNat, Int.reduceEq, false_implies, true_implies, Int.reduceNeg, Int.cast_ofNat_Int, g8, g1, g15, g10, v0, v1, v2, v3, v4, v5, u0, u1, z0, n0, n1, reduceIte, Nat.reduceEqDiff, true_or, or_true, Int.reduceLE, Int.reduceLT, Int.reduceAdd, Int.reduceSub, Int.reduceMul, not_true_eq_false, not_false_eq_true, implies_true, nat_s, wr_id, uR_at, uR_uR, u1_at, u1_ne, uf_at, uf_ne, iltT, iltF, ileT, ieqT, ieqF]
          exact hq
        · rw [if_neg h3] at hq
          refine tG_at hd kTok_would_70 ?_
          simp (disch := omega) only [bTok_would_70, rn, sm, lg, lt_, cmpP, tk, pr_, pu, swl, cs, Nat.reduceAdd, Nat.reduceLeDiff, Nat.zero_le, Nat.le_refl, true_and, and_true, Int.toNat_natCast, Int.reduceToNat, Int.reduceEq, false_implies, true_implies, Int.reduceNeg, Int.cast_ofNat_Int, g8, g1, g15, g10, v0, v1, v2, v3, v4, v5, u0, u1, z0, n0, n1, reduceIte, Nat.reduceEqDiff, true_or, or_true, Int.reduceLE, Int.reduceLT, Int.reduceAdd, Int.reduceSub, Int.reduceMul, not_true_eq_false, not_false_eq_true, implies_true, nat_s, wr_id, uR_at, uR_uR, u1_at, u1_ne, uf_at, uf_ne, iltT, iltF, ileT, ieqT, ieqF, nP_o, n_r5, f5, r21]
          refine tG_at hd kTok_would_91 ?_
          simp (disch := omega) only [bTok_would_91, rn, sm, lg, lt_, cmpP, tk, pr_, pu, swl, cs, Nat.reduceAdd, Nat.reduceLeDiff, Nat.zero_le, Nat.le_refl, true_and, and_true, Int.toNat_natCast, Int.reduceToNat, Int.reduceEq, false_implies, true_implies, Int.reduceNeg, Int.cast_ofNat_Int, g8, g1, g15, g10, v0, v1, v2, v3, v4, v5, u0, u1, z0, n0, n1, reduceIte, Nat.reduceEqDiff, true_or, or_true, Int.reduceLE, Int.reduceLT, Int.reduceAdd, Int.reduceSub, Int.reduceMul, not_true_eq_false, not_false_eq_true, implies_true, nat_s, wr_id, uR_at, uR_uR, u1_at, u1_ne, uf_at, uf_ne, iltT, iltF, ileT, ieqT, ieqF]
          refine tG_at hd kTok_would_92 ?_
          simp (disch := omega) only [bTok_would_92, rn, sm, lg, lt_, cmpP, tk, pr_, pu, swl, cs, Nat.reduceAdd, Nat.reduceLeDiff, Nat.zero_le, Nat.le_refl, true_and, and_true, Int.toNat_natCast, Int.reduceToNat, Int.reduceEq, false_implies, true_implies, Int.reduceNeg, Int.cast_ofNat_Int, g8, g1, g15, g10, v0, v1, v2, v3, v4, v5, u0, u1, z0, n0, n1, reduceIte, Nat.reduceEqDiff, true_or, or_true, Int.reduceLE, Int.reduceLT, Int.reduceAdd, Int.reduceSub, Int.reduceMul, not_true_eq_false, not_false_eq_true, implies_true, nat_s, wr_id, uR_at, uR_uR, u1_at, u1_ne, uf_at, uf_ne, iltT, iltF, ileT, ieqT, ieqF]
          exact hq
      · rw [if_pos h2] at hq
        refine tG_at hd kTok_would_51 ?_
        simp (disch := omega) only [bTok_would_51, rn, sm, lg, lt_, cmpP, tk, pr_, pu, swl, cs, Nat.reduceAdd, Nat.reduceLeDiff, Nat.zero_le, Nat.le_refl, true_and, and_true, Int.toNat_natCast, Int.reduceToNat, Int.reduceEq, false_implies, true_implies, Int.reduceNeg, Int.cast_ofNat_Int, g8, g1, g15, g10, v0, v1, v2, v3, v4, v5, u0, u1, z0, n0, n1, reduceIte, Nat.reduceEqDiff, true_or, or_true, Int.reduceLE, Int.reduceLT, Int.reduceAdd, Int.reduceSub, Int.reduceMul, not_true_eq_false, not_false_eq_true, implies_true, nat_s, wr_id, uR_at, uR_uR, u1_at, u1_ne, uf_at, uf_ne, iltT, iltF, ileT, ieqT, ieqF, nP_o, n_r9, f9]
        refine tG_at hd kTok_would_68 ?_
        simp (disch := omega) only [bTok_would_68, rn, sm, lg, lt_, cmpP, tk, pr_, pu, swl, cs, Nat.reduceAdd, Nat.reduceLeDiff, Nat.zero_le, Nat.le_refl, true_and, and_true, Int.toNat_natCast, Int.reduceToNat, Int.reduceEq, false_implies, true_implies, Int.reduceNeg, Int.cast_ofNat_Int, g8, g1, g15, g10, v0, v1, v2, v3, v4, v5, u0, u1, z0, n0, n1, reduceIte, Nat.reduceEqDiff, true_or, or_true, Int.reduceLE, Int.reduceLT, Int.reduceAdd, Int.reduceSub, Int.reduceMul, not_true_eq_false, not_false_eq_true, implies_true, nat_s, wr_id, uR_at, uR_uR, u1_at, u1_ne, uf_at, uf_ne, iltT, iltF, ileT, ieqT, ieqF]
        exact hq
    · rw [if_pos h1] at hq
      refine tG_at hd kTok_would_37 ?_
      simp (disch := omega) only [bTok_would_37, rn, sm, lg, lt_, cmpP, tk, pr_, pu, swl, cs, Nat.reduceAdd, Nat.reduceLeDiff, Nat.zero_le, Nat.le_refl, true_and, and_true, Int.toNat_natCast, Int.reduceToNat, Int.reduceEq, false_implies, true_implies, Int.reduceNeg, Int.cast_ofNat_Int, g8, g1, g15, g10, v0, v1, v2, v3, v4, v5, u0, u1, z0, n0, n1, reduceIte, Nat.reduceEqDiff, true_or, or_true, Int.reduceLE, Int.reduceLT, Int.reduceAdd, Int.reduceSub, Int.reduceMul, not_true_eq_false, not_false_eq_true, implies_true, nat_s, wr_id, uR_at, uR_uR, u1_at, u1_ne, uf_at, uf_ne, iltT, iltF, ileT, ieqT, ieqF, nP_o, n_r10, r27]
      refine tG_at hd kTok_would_49 ?_
      simp (disch := omega) only [bTok_would_49, rn, sm, lg, lt_, cmpP, tk, pr_, pu, swl, cs, Nat.reduceAdd, Nat.reduceLeDiff, Nat.zero_le, Nat.le_refl, true_and, and_true, Int.toNat_natCast, Int.reduceToNat, Int.reduceEq, false_implies, true_implies, Int.reduceNeg, Int.cast_ofNat_Int, g8, g1, g15, g10, v0, v1, v2, v3, v4, v5, u0, u1, z0, n0, n1, reduceIte, Nat.reduceEqDiff, true_or, or_true, Int.reduceLE, Int.reduceLT, Int.reduceAdd, Int.reduceSub, Int.reduceMul, not_true_eq_false, not_false_eq_true, implies_true, nat_s, wr_id, uR_at, uR_uR, u1_at, u1_ne, uf_at, uf_ne, iltT, iltF, ileT, ieqT, ieqF]
      exact hq
theorem setF_1 {n : Nat} {X : NT} : setF n 1 X = ((onceF n X).1, (onceF n X).2.1) := by
  show (if (onceF n X).1 = 0 then (0, (onceF n X).2.1) else ((setF n 0 (onceF n X).2.1).1 + 1, (setF n 0 (onceF n X).2.1).2)) = _
  rcases onceF_01 (n := n) (X := X) with h | h
  · rw [if_pos h, h]
  · rw [if_neg (by omega), h]
    rfl
set_option maxHeartbeats 1000000 in
theorem T_soon (hd9 : 9 ≤ d) (hC : CI w Γ V x Z L T fk n k W X c Y) (hW2 : W + 2800 ≤ 1000000000) {a : Int} (hq : ∀ V', CI w Γ V' x Z L T fk n k W X c Y → FR x Z V V' → Q (some (.inl (if 0 ≤ a ∧ a < n then sooF n a.toNat 200 0 X else -1))) Γ V') : tC w d nTok_soon [.inr (.inl x), .inl a] Γ V Q := by
  have hd : 4 ≤ d := by omega
  obtain ⟨⟨c1, c2, c3⟩, cs_, ⟨⟨z0, z1, z2⟩, cl, kd, st, sp, v, T', ct0, ct1, ct2⟩, cc, ad, tb, hh, ch, ch10, ⟨⟨g8, g1, g15, g10⟩, ⟨v0, v1, v2, v3, v4, v5⟩, u0, u1, u2⟩, ly, cm⟩ := id hC
  have n0 := (ly.1 0 (by omega)).1.1.1
  have n1 := (ly.1 1 (by omega)).1.1.1
  have cx : CX Γ V x ad fk c hh := ⟨⟨g8, g1, g15, g10⟩, ⟨v0, v1, v2, v3, v4, v5⟩, u0, u1, u2⟩
  have pn := (ly.1 0 (by omega)).2.2.1
  have hN := (ly.1 0 (by omega)).1
  have hN1 := (ly.1 1 (by omega)).1
  have b0 := ly.b c1 (u := 0) (by omega)
  have b1 := ly.b c1 (u := 1) (by omega)
  have dis := ly.2 0 1 (by omega) (by omega) (by omega)
  obtain ⟨rA, rW, rB, rM, rQ, rL⟩ := id cm.1.2.2
  obtain ⟨n0', n5, hn2, hn6, hk41, hW⟩ := cm.1.1.1.A
  have f3 : V (ad 0) 3 = (n : Int) := (ly.f (u := 0) (j := 3) (by omega)).trans ((rA 0 (by omega)).trans n0')
  have f0 : V (ad 0) 0 = ((ad 0 + 1 : Nat) : Int) := ly.f (u := 0) (j := 0) (by omega)
  refine tC_enter (nL := 3) (by decide +kernel) (by decide +kernel) rfl (Nat.le_of_ble_eq_true rfl) (fun hok => ?_)
  simp only [ent]
  by_cases ha : 0 ≤ a ∧ a < (n : Int)
  · rw [if_pos ha] at hq
    obtain ⟨m, rfl⟩ : ∃ m : Nat, a = (m : Int) := ⟨a.toNat, by omega⟩
    rw [Int.toNat_natCast] at hq
    have hm : m < n := by omega
    have hm6 : m < 6 := by omega
    have k2 : Γ.1 (ad 0 + (8 + 9 * m)) = 2 := hN.2.2.1.1 m hm6
    have k13 : Γ.1 (ad 0 + 1) = 13 := hN.1.2.1
    have l6 : (Γ.2.1 (ad 0 + 1) : Int) = 6 := hN.2.1.1
    have fa : V (ad 0 + 1) m = ((ad 0 + (8 + 9 * m) : Nat) : Int) := by
      rw [pn 1 m (by omega)]
      exact if_pos hm6
    have f11 : V (ad 0 + (8 + 9 * m)) 11 = X.2.1 m 3 := by
      rw [show ad 0 + (8 + 9 * m) = ad 0 + (8 + 9 * m + 0) by omega, pn _ _ (by omega), nC_e hm6 (by omega)]
      exact (rB m hm).1 3 (by omega)
    refine tG_at hd kTok_soon_0 ?_
    simp (disch := omega) only [bTok_soon_0, rn, sm, lg, lt_, cmpP, tk, pr_, pu, swl, cs, Nat.reduceAdd, Nat.reduceLeDiff, Nat.zero_le, Nat.le_refl, true_and, and_true, Int.toNat_natCast, Int.reduceToNat, Int.reduceEq, false_implies, true_implies, Int.reduceNeg, Int.cast_ofNat_Int, g8, v3, n0, f3, reduceIte, nat_s]
    rw [bi_1 (show (0 : Int) ≤ (m : Int) ∧ (m : Int) < (n : Int) from ha)]
    refine ⟨fun _ => ?_, fun h => absurd (by decide) h⟩
    have r4 := (cm.1.1.1.row hm).2.2.2.1
    rcases r4 with h3 | h3
    · refine tG_at hd kTok_soon_13 ?_
      simp (disch := omega) only [bTok_soon_13, rn, sm, lg, lt_, cmpP, tk, pr_, pu, swl, cs, Nat.reduceAdd, Nat.reduceLeDiff, Nat.zero_le, Nat.le_refl, true_and, and_true, Int.toNat_natCast, Int.reduceToNat, Int.reduceEq, false_implies, true_implies, Int.reduceNeg, Int.cast_ofNat_Int, g8, g1, g15, g10, v0, v1, v2, v3, v4, v5, u0, u1, z0, n0, n1, reduceIte, Nat.reduceEqDiff, true_or, or_true, Int.reduceLE, Int.reduceLT, Int.reduceAdd, Int.reduceSub, Int.reduceMul, not_true_eq_false, not_false_eq_true, implies_true, nat_s, wr_id, uR_at, uR_uR, u1_at, u1_ne, uf_at, uf_ne, iltT, iltF, ileT, ieqT, ieqF, f0, k13, l6, fa, k2, f11, h3]
      refine tG_at hd kTok_soon_30 ?_
      simp (disch := omega) only [bTok_soon_30, rn, sm, lg, lt_, cmpP, tk, pr_, pu, swl, cs, Nat.reduceAdd, Nat.reduceLeDiff, Nat.zero_le, Nat.le_refl, true_and, and_true, Int.toNat_natCast, Int.reduceToNat, Int.reduceEq, false_implies, true_implies, Int.reduceNeg, Int.cast_ofNat_Int, g8, g1, g15, g10, v0, v1, v2, v3, v4, v5, u0, u1, z0, n0, n1, reduceIte, Nat.reduceEqDiff, true_or, or_true, Int.reduceLE, Int.reduceLT, Int.reduceAdd, Int.reduceSub, Int.reduceMul, not_true_eq_false, not_false_eq_true, implies_true, nat_s, wr_id, uR_at, uR_uR, u1_at, u1_ne, uf_at, uf_ne, iltT, iltF, ileT, ieqT, ieqF]
      refine L_copy (by omega) ly cm.1.1 cm.1.2.2 (fun A' B' S' r1 r6 => ?_)
      refine tG_at hd kTok_soon_41 ?_
      simp (disch := omega) only [bTok_soon_41, rn, sm, lg, lt_, cmpP, tk, pr_, pu, swl, cs, Nat.reduceAdd, Nat.reduceLeDiff, Nat.zero_le, Nat.le_refl, true_and, and_true, Int.toNat_natCast, Int.reduceToNat, Int.reduceEq, false_implies, true_implies, Int.reduceNeg, Int.cast_ofNat_Int, g8, g1, g15, g10, v0, v1, v2, v3, v4, v5, u0, u1, z0, n0, n1, reduceIte, Nat.reduceEqDiff, true_or, or_true, Int.reduceLE, Int.reduceLT, Int.reduceAdd, Int.reduceSub, Int.reduceMul, not_true_eq_false, not_false_eq_true, implies_true, nat_s, wr_id, uR_at, uR_uR, u1_at, u1_ne, uf_at, uf_ne, iltT, iltF, ileT, ieqT, ieqF]
      have k2' : Γ.1 (ad 1 + (8 + 9 * m)) = 2 := hN1.2.2.1.1 m hm6
      have k13' : Γ.1 (ad 1 + 1) = 13 := hN1.1.2.1
      have l6' : (Γ.2.1 (ad 1 + 1) : Int) = 6 := hN1.2.1.1
      have key : ∀ (r i k' W' : Nat) (X' : NT) (A : Nat → Int) (B S : Nat → Nat → Int) (q : Nat → Nat), i + r = 200 → GJ n k' W' X' → RN n W' A B S q X' → W' + 14 * r ≤ 1000000000 → X'.2.1 m 3 = 0 → (∀ V', CI w Γ V' x Z L T fk n k W X c Y → FR x Z V V' → Q (some (.inl (sooF n m r i X'))) Γ V') → tG w d nTok_soon 43 [some (.inr (.inl x)), some (.inl (m : Int)), some (.inl ((i + 1 : Nat) : Int))] [] Γ (nP V (ad 1) A B S q) 0 0 Q := by
        intro r
        induction r with
        | zero =>
          intro i k' W' X' A B S q hi g hR hW h3 hq
          have fin := hC.paper ch ch10 cx ly cm (A := A) (B := B) (S := S) (q := q) hR.2.2.2.2.1
          have hq := hq _ fin.1 fin.2
          rw [show sooF n m 0 i X' = -2 from if_pos h3] at hq
          refine tG_at hd kTok_soon_43 ?_
          simp (disch := omega) only [bTok_soon_43, rn, sm, lg, lt_, cmpP, tk, pr_, pu, swl, cs, Nat.reduceAdd, Nat.reduceLeDiff, Nat.zero_le, Nat.le_refl, true_and, and_true, Int.toNat_natCast, Int.reduceToNat, Int.reduceEq, false_implies, true_implies, Int.reduceNeg, Int.cast_ofNat_Int, g8, g1, g15, g10, v0, v1, v2, v3, v4, v5, u0, u1, z0, n0, n1, reduceIte, Nat.reduceEqDiff, true_or, or_true, Int.reduceLE, Int.reduceLT, Int.reduceAdd, Int.reduceSub, Int.reduceMul, not_true_eq_false, not_false_eq_true, implies_true, nat_s, wr_id, uR_at, uR_uR, u1_at, u1_ne, uf_at, uf_ne, iltT, iltF, ileT, ieqT, ieqF]
          refine tG_at hd kTok_soon_87 ?_
          simp (disch := omega) only [bTok_soon_87, rn, sm, lg, lt_, cmpP, tk, pr_, pu, swl, cs, Nat.reduceAdd, Nat.reduceLeDiff, Nat.zero_le, Nat.le_refl, true_and, and_true, Int.toNat_natCast, Int.reduceToNat, Int.reduceEq, false_implies, true_implies, Int.reduceNeg, Int.cast_ofNat_Int, g8, g1, g15, g10, v0, v1, v2, v3, v4, v5, u0, u1, z0, n0, n1, reduceIte, Nat.reduceEqDiff, true_or, or_true, Int.reduceLE, Int.reduceLT, Int.reduceAdd, Int.reduceSub, Int.reduceMul, not_true_eq_false, not_false_eq_true, implies_true, nat_s, wr_id, uR_at, uR_uR, u1_at, u1_ne, uf_at, uf_ne, iltT, iltF, ileT, ieqT, ieqF]
          exact hq
        | succ r ih =>
          intro i k' W' X' A B S q hi g hR hW h3 hq
          have es : sooF n m (r + 1) i X' = if (onceF n X').1 = 0 then -2 else sooF n m r (i + 1) (onceF n X').2.1 := if_pos h3
          rw [es] at hq
          obtain ⟨k2, g2⟩ := g.once (by omega)
          refine tG_at hd kTok_soon_43 ?_
          simp (disch := omega) only [bTok_soon_43, rn, sm, lg, lt_, cmpP, tk, pr_, pu, swl, cs, Nat.reduceAdd, Nat.reduceLeDiff, Nat.zero_le, Nat.le_refl, true_and, and_true, Int.toNat_natCast, Int.reduceToNat, Int.reduceEq, false_implies, true_implies, Int.reduceNeg, Int.cast_ofNat_Int, g8, g1, g15, g10, v0, v1, v2, v3, v4, v5, u0, u1, z0, n0, n1, reduceIte, Nat.reduceEqDiff, true_or, or_true, Int.reduceLE, Int.reduceLT, Int.reduceAdd, Int.reduceSub, Int.reduceMul, not_true_eq_false, not_false_eq_true, implies_true, nat_s, wr_id, uR_at, uR_uR, u1_at, u1_ne, uf_at, uf_ne, iltT, iltF, ileT, ieqT, ieqF]
          refine tG_at hd kTok_soon_50 ?_
          simp (disch := omega) only [bTok_soon_50, rn, sm, lg, lt_, cmpP, tk, pr_, pu, swl, cs, Nat.reduceAdd, Nat.reduceLeDiff, Nat.zero_le, Nat.le_refl, true_and, and_true, Int.toNat_natCast, Int.reduceToNat, Int.reduceEq, false_implies, true_implies, Int.reduceNeg, Int.cast_ofNat_Int, g8, g1, g15, g10, v0, v1, v2, v3, v4, v5, u0, u1, z0, n0, n1, reduceIte, Nat.reduceEqDiff, true_or, or_true, Int.reduceLE, Int.reduceLT, Int.reduceAdd, Int.reduceSub, Int.reduceMul, not_true_eq_false, not_false_eq_true, implies_true, nat_s, wr_id, uR_at, uR_uR, u1_at, u1_ne, uf_at, uf_ne, iltT, iltF, ileT, ieqT, ieqF, nP_o]
          refine k_settleBy (t := 1) (by omega) hN1 g hR (by omega) (by omega) (fun A2 B2 S2 q2 z1 z2 => ?_)
          rw [setF_1] at z1 ⊢
          rcases onceF_01 (n := n) (X := X') with ho | ho
          · have fin := hC.paper ch ch10 cx ly cm (A := A2) (B := B2) (S := S2) (q := q2) z1.2.2.2.2.1
            have hq := hq _ fin.1 fin.2
            rw [if_pos ho] at hq
            refine tG_at hd kTok_soon_58 ?_
            simp (disch := omega) only [bTok_soon_58, rn, sm, lg, lt_, cmpP, tk, pr_, pu, swl, cs, Nat.reduceAdd, Nat.reduceLeDiff, Nat.zero_le, Nat.le_refl, true_and, and_true, Int.toNat_natCast, Int.reduceToNat, Int.reduceEq, false_implies, true_implies, Int.reduceNeg, Int.cast_ofNat_Int, g8, g1, g15, g10, v0, v1, v2, v3, v4, v5, u0, u1, z0, n0, n1, reduceIte, Nat.reduceEqDiff, true_or, or_true, Int.reduceLE, Int.reduceLT, Int.reduceAdd, Int.reduceSub, Int.reduceMul, not_true_eq_false, not_false_eq_true, implies_true, nat_s, wr_id, uR_at, uR_uR, u1_at, u1_ne, uf_at, uf_ne, iltT, iltF, ileT, ieqT, ieqF, ho]
            refine tG_at hd kTok_soon_61 ?_
            simp (disch := omega) only [bTok_soon_61, rn, sm, lg, lt_, cmpP, tk, pr_, pu, swl, cs, Nat.reduceAdd, Nat.reduceLeDiff, Nat.zero_le, Nat.le_refl, true_and, and_true, Int.toNat_natCast, Int.reduceToNat, Int.reduceEq, false_implies, true_implies, Int.reduceNeg, Int.cast_ofNat_Int, g8, g1, g15, g10, v0, v1, v2, v3, v4, v5, u0, u1, z0, n0, n1, reduceIte, Nat.reduceEqDiff, true_or, or_true, Int.reduceLE, Int.reduceLT, Int.reduceAdd, Int.reduceSub, Int.reduceMul, not_true_eq_false, not_false_eq_true, implies_true, nat_s, wr_id, uR_at, uR_uR, u1_at, u1_ne, uf_at, uf_ne, iltT, iltF, ileT, ieqT, ieqF]
            exact hq
          · rw [if_neg (by omega)] at hq
            have z3 : B2 m 3 = (onceF n X').2.1.2.1 m 3 := (z1.2.2.1 m hm).1 3 (by omega)
            have r4 := (g2.1.row hm).2.2.2.1
            refine tG_at hd kTok_soon_58 ?_
            simp (disch := omega) only [bTok_soon_58, rn, sm, lg, lt_, cmpP, tk, pr_, pu, swl, cs, Nat.reduceAdd, Nat.reduceLeDiff, Nat.zero_le, Nat.le_refl, true_and, and_true, Int.toNat_natCast, Int.reduceToNat, Int.reduceEq, false_implies, true_implies, Int.reduceNeg, Int.cast_ofNat_Int, g8, g1, g15, g10, v0, v1, v2, v3, v4, v5, u0, u1, z0, n0, n1, reduceIte, Nat.reduceEqDiff, true_or, or_true, Int.reduceLE, Int.reduceLT, Int.reduceAdd, Int.reduceSub, Int.reduceMul, not_true_eq_false, not_false_eq_true, implies_true, nat_s, wr_id, uR_at, uR_uR, u1_at, u1_ne, uf_at, uf_ne, iltT, iltF, ileT, ieqT, ieqF, ho]
            rcases r4 with h4 | h4
            · refine tG_at hd kTok_soon_64 ?_
              simp (disch := omega) only [bTok_soon_64, rn, sm, lg, lt_, cmpP, tk, pr_, pu, swl, cs, Nat.reduceAdd, Nat.reduceLeDiff, Nat.zero_le, Nat.le_refl, true_and, and_true, Int.toNat_natCast, Int.reduceToNat, Int.reduceEq, false_implies, true_implies, Int.reduceNeg, Int.cast_ofNat_Int, g8, g1, g15, g10, v0, v1, v2, v3, v4, v5, u0, u1, z0, n0, n1, reduceIte, Nat.reduceEqDiff, true_or, or_true, Int.reduceLE, Int.reduceLT, Int.reduceAdd, Int.reduceSub, Int.reduceMul, not_true_eq_false, not_false_eq_true, implies_true, nat_s, wr_id, uR_at, uR_uR, u1_at, u1_ne, uf_at, uf_ne, iltT, iltF, ileT, ieqT, ieqF, nP_o, n_r0, n_all, n_m11, k13', l6', k2', z3, h4]
              refine tG_at hd kTok_soon_81 ?_
              simp (disch := omega) only [bTok_soon_81, rn, sm, lg, lt_, cmpP, tk, pr_, pu, swl, cs, Nat.reduceAdd, Nat.reduceLeDiff, Nat.zero_le, Nat.le_refl, true_and, and_true, Int.toNat_natCast, Int.reduceToNat, Int.reduceEq, false_implies, true_implies, Int.reduceNeg, Int.cast_ofNat_Int, g8, g1, g15, g10, v0, v1, v2, v3, v4, v5, u0, u1, z0, n0, n1, reduceIte, Nat.reduceEqDiff, true_or, or_true, Int.reduceLE, Int.reduceLT, Int.reduceAdd, Int.reduceSub, Int.reduceMul, not_true_eq_false, not_false_eq_true, implies_true, nat_s, wr_id, uR_at, uR_uR, u1_at, u1_ne, uf_at, uf_ne, iltT, iltF, ileT, ieqT, ieqF]
              exact ih (i + 1) k2 (W' + 14) (onceF n X').2.1 A2 B2 S2 q2 (by omega) g2 z1 (by omega) h4 hq
            · have fin := hC.paper ch ch10 cx ly cm (A := A2) (B := B2) (S := S2) (q := q2) z1.2.2.2.2.1
              have hq := hq _ fin.1 fin.2
              have e : sooF n m r (i + 1) (onceF n X').2.1 = ((i + 1 : Nat) : Int) := by
                cases r with
                | zero => exact if_neg (by omega)
                | succ r => exact if_neg (by omega)
              rw [e] at hq
              refine tG_at hd kTok_soon_64 ?_
              simp (disch := omega) only [bTok_soon_64, rn, sm, lg, lt_, cmpP, tk, pr_, pu, swl, cs, Nat.reduceAdd, Nat.reduceLeDiff, Nat.zero_le, Nat.le_refl, true_and, and_true, Int.toNat_natCast, Int.reduceToNat, Int.reduceEq, false_implies, true_implies, Int.reduceNeg, Int.cast_ofNat_Int, g8, g1, g15, g10, v0, v1, v2, v3, v4, v5, u0, u1, z0, n0, n1, reduceIte, Nat.reduceEqDiff, true_or, or_true, Int.reduceLE, Int.reduceLT, Int.reduceAdd, Int.reduceSub, Int.reduceMul, not_true_eq_false, not_false_eq_true, implies_true, nat_s, wr_id, uR_at, uR_uR, u1_at, u1_ne, uf_at, uf_ne, iltT, iltF, ileT, ieqT, ieqF, nP_o, n_r0, n_all, n_m11, k13', l6', k2', z3, h4]
              refine tG_at hd kTok_soon_79 ?_
              simp (disch := omega) only [bTok_soon_79, rn, sm, lg, lt_, cmpP, tk, pr_, pu, swl, cs, Nat.reduceAdd, Nat.reduceLeDiff, Nat.zero_le, Nat.le_refl, true_and, and_true, Int.toNat_natCast, Int.reduceToNat, Int.reduceEq, false_implies, true_implies, Int.reduceNeg, Int.cast_ofNat_Int, g8, g1, g15, g10, v0, v1, v2, v3, v4, v5, u0, u1, z0, n0, n1, reduceIte, Nat.reduceEqDiff, true_or, or_true, Int.reduceLE, Int.reduceLT, Int.reduceAdd, Int.reduceSub, Int.reduceMul, not_true_eq_false, not_false_eq_true, implies_true, nat_s, wr_id, uR_at, uR_uR, u1_at, u1_ne, uf_at, uf_ne, iltT, iltF, ileT, ieqT, ieqF]
              exact hq
      exact key 200 0 k W X A' B' S' _ (by omega) cm.1.1 r1 (by omega) h3 hq
    · refine tG_at hd kTok_soon_13 ?_
      simp (disch := omega) only [bTok_soon_13, rn, sm, lg, lt_, cmpP, tk, pr_, pu, swl, cs, Nat.reduceAdd, Nat.reduceLeDiff, Nat.zero_le, Nat.le_refl, true_and, and_true, Int.toNat_natCast, Int.reduceToNat, Int.reduceEq, false_implies, true_implies, Int.reduceNeg, Int.cast_ofNat_Int, g8, g1, g15, g10, v0, v1, v2, v3, v4, v5, u0, u1, z0, n0, n1, reduceIte, Nat.reduceEqDiff, true_or, or_true, Int.reduceLE, Int.reduceLT, Int.reduceAdd, Int.reduceSub, Int.reduceMul, not_true_eq_false, not_false_eq_true, implies_true, nat_s, wr_id, uR_at, uR_uR, u1_at, u1_ne, uf_at, uf_ne, iltT, iltF, ileT, ieqT, ieqF, f0, k13, l6, fa, k2, f11, h3]
      refine tG_at hd kTok_soon_28 ?_
      simp (disch := omega) only [bTok_soon_28, rn, sm, lg, lt_, cmpP, tk, pr_, pu, swl, cs, Nat.reduceAdd, Nat.reduceLeDiff, Nat.zero_le, Nat.le_refl, true_and, and_true, Int.toNat_natCast, Int.reduceToNat, Int.reduceEq, false_implies, true_implies, Int.reduceNeg, Int.cast_ofNat_Int, g8, g1, g15, g10, v0, v1, v2, v3, v4, v5, u0, u1, z0, n0, n1, reduceIte, Nat.reduceEqDiff, true_or, or_true, Int.reduceLE, Int.reduceLT, Int.reduceAdd, Int.reduceSub, Int.reduceMul, not_true_eq_false, not_false_eq_true, implies_true, nat_s, wr_id, uR_at, uR_uR, u1_at, u1_ne, uf_at, uf_ne, iltT, iltF, ileT, ieqT, ieqF]
      have := hq V hC FR.rf
      rw [show sooF n m 200 0 X = 0 from if_neg (by omega)] at this
      exact this
  · rw [if_neg ha] at hq
    refine tG_at hd kTok_soon_0 ?_
    simp (disch := omega) only [bTok_soon_0, rn, sm, lg, lt_, cmpP, tk, pr_, pu, swl, cs, Nat.reduceAdd, Nat.reduceLeDiff, Nat.zero_le, Nat.le_refl, true_and, and_true, Int.toNat_natCast, Int.reduceToNat, Int.reduceEq, false_implies, true_implies, Int.reduceNeg, Int.cast_ofNat_Int, g8, v3, n0, f3, reduceIte, nat_s]
    rw [bi_0 ha]
    refine ⟨fun h => absurd rfl h, fun _ => ?_⟩
    refine tG_at hd kTok_soon_11 ?_
    simp (disch := omega) only [bTok_soon_11, rn, sm, lg, lt_, cmpP, tk, pr_, pu, swl, cs, Nat.reduceAdd, Nat.reduceLeDiff, Nat.zero_le, Nat.le_refl, true_and, and_true, Int.toNat_natCast, Int.reduceToNat, Int.reduceEq, false_implies, true_implies, Int.reduceNeg, Int.cast_ofNat_Int, g8, g1, g15, g10, v0, v1, v2, v3, v4, v5, u0, u1, z0, n0, n1, reduceIte, Nat.reduceEqDiff, true_or, or_true, Int.reduceLE, Int.reduceLT, Int.reduceAdd, Int.reduceSub, Int.reduceMul, not_true_eq_false, not_false_eq_true, implies_true, nat_s, wr_id, uR_at, uR_uR, u1_at, u1_ne, uf_at, uf_ne, iltT, iltF, ileT, ieqT, ieqF]
    exact hq V hC FR.rf
set_option maxHeartbeats 1000000 in
theorem T_order (hd9 : 9 ≤ d) (hC : CI w Γ V x Z L T fk n k W X c Y) (hW2 : W + 2800 ≤ 1000000000) {a : Int} (hq : ∀ V', CI w Γ V' x Z L T fk n k W X c Y → FR x Z V V' → Q (some (.inl (if 0 ≤ a ∧ a ≤ 19 then ordF n 200 a X else -1))) Γ V') : tC w d nTok_order [.inr (.inl x), .inl a] Γ V Q := by
  have hd : 4 ≤ d := by omega
  obtain ⟨⟨c1, c2, c3⟩, cs_, ⟨⟨z0, z1, z2⟩, cl, kd, st, sp, v, T', ct0, ct1, ct2⟩, cc, ad, tb, hh, ch, ch10, ⟨⟨g8, g1, g15, g10⟩, ⟨v0, v1, v2, v3, v4, v5⟩, u0, u1, u2⟩, ly, cm⟩ := id hC
  have n0 := (ly.1 0 (by omega)).1.1.1
  have n1 := (ly.1 1 (by omega)).1.1.1
  have cx : CX Γ V x ad fk c hh := ⟨⟨g8, g1, g15, g10⟩, ⟨v0, v1, v2, v3, v4, v5⟩, u0, u1, u2⟩
  have hN1 := (ly.1 1 (by omega)).1
  have b0 := ly.b c1 (u := 0) (by omega)
  have b1 := ly.b c1 (u := 1) (by omega)
  refine tC_enter (nL := 4) (by decide +kernel) (by decide +kernel) rfl (Nat.le_of_ble_eq_true rfl) (fun hok => ?_)
  simp only [ent]
  have k10 : ¬ (0 ≤ a ∧ a ≤ 19) → tG w d nTok_order 10 [some (.inr (.inl x)), some (.inl a), none, none] [] Γ V 0 0 Q := by
    intro h
    rw [if_neg h] at hq
    refine tG_at hd kTok_order_10 ?_
    simp (disch := omega) only [bTok_order_10, rn, sm, lg, lt_, cmpP, tk, pr_, pu, swl, cs, Nat.reduceAdd, Nat.reduceLeDiff, Nat.zero_le, Nat.le_refl, true_and, and_true, Int.toNat_natCast, Int.reduceToNat, Int.reduceEq, false_implies, true_implies, Int.reduceNeg, Int.cast_ofNat_Int, g8, g1, g15, g10, v0, v1, v2, v3, v4, v5, u0, u1, z0, n0, n1, reduceIte, Nat.reduceEqDiff, true_or, or_true, Int.reduceLE, Int.reduceLT, Int.reduceAdd, Int.reduceSub, Int.reduceMul, not_true_eq_false, not_false_eq_true, implies_true, nat_s, wr_id, uR_at, uR_uR, u1_at, u1_ne, uf_at, uf_ne, iltT, iltF, ileT, ieqT, ieqF]
    exact hq V hC FR.rf
  by_cases h0 : 0 ≤ a
  · by_cases h19 : a ≤ 19
    · rw [if_pos ⟨h0, h19⟩] at hq
      refine tG_at hd kTok_order_0 ?_
      simp (disch := omega) only [bTok_order_0, rn, sm, lg, lt_, cmpP, tk, pr_, pu, swl, cs, Nat.reduceAdd, Nat.reduceLeDiff, Nat.zero_le, Nat.le_refl, true_and, and_true, Int.toNat_natCast, Int.reduceToNat, Int.reduceEq, false_implies, true_implies, Int.reduceNeg, Int.cast_ofNat_Int, g8, g1, g15, g10, v0, v1, v2, v3, v4, v5, u0, u1, z0, n0, n1, reduceIte, Nat.reduceEqDiff, true_or, or_true, Int.reduceLE, Int.reduceLT, Int.reduceAdd, Int.reduceSub, Int.reduceMul, not_true_eq_false, not_false_eq_true, implies_true, nat_s, wr_id, uR_at, uR_uR, u1_at, u1_ne, uf_at, uf_ne, iltT, iltF, ileT, ieqT, ieqF]
      refine tG_at hd kTok_order_4 ?_
      simp (disch := omega) only [bTok_order_4, rn, sm, lg, lt_, cmpP, tk, pr_, pu, swl, cs, Nat.reduceAdd, Nat.reduceLeDiff, Nat.zero_le, Nat.le_refl, true_and, and_true, Int.toNat_natCast, Int.reduceToNat, Int.reduceEq, false_implies, true_implies, Int.reduceNeg, Int.cast_ofNat_Int, g8, g1, g15, g10, v0, v1, v2, v3, v4, v5, u0, u1, z0, n0, n1, reduceIte, Nat.reduceEqDiff, true_or, or_true, Int.reduceLE, Int.reduceLT, Int.reduceAdd, Int.reduceSub, Int.reduceMul, not_true_eq_false, not_false_eq_true, implies_true, nat_s, wr_id, uR_at, uR_uR, u1_at, u1_ne, uf_at, uf_ne, iltT, iltF, ileT, ieqT, ieqF]
      refine tG_at hd kTok_order_12 ?_
      simp (disch := omega) only [bTok_order_12, rn, sm, lg, lt_, cmpP, tk, pr_, pu, swl, cs, Nat.reduceAdd, Nat.reduceLeDiff, Nat.zero_le, Nat.le_refl, true_and, and_true, Int.toNat_natCast, Int.reduceToNat, Int.reduceEq, false_implies, true_implies, Int.reduceNeg, Int.cast_ofNat_Int, g8, g1, g15, g10, v0, v1, v2, v3, v4, v5, u0, u1, z0, n0, n1, reduceIte, Nat.reduceEqDiff, true_or, or_true, Int.reduceLE, Int.reduceLT, Int.reduceAdd, Int.reduceSub, Int.reduceMul, not_true_eq_false, not_false_eq_true, implies_true, nat_s, wr_id, uR_at, uR_uR, u1_at, u1_ne, uf_at, uf_ne, iltT, iltF, ileT, ieqT, ieqF]
      refine L_copy (by omega) ly cm.1.1 cm.1.2.2 (fun A' B' S' r1 r6 => ?_)
      refine tG_at hd kTok_order_23 ?_
      simp (disch := omega) only [bTok_order_23, rn, sm, lg, lt_, cmpP, tk, pr_, pu, swl, cs, Nat.reduceAdd, Nat.reduceLeDiff, Nat.zero_le, Nat.le_refl, true_and, and_true, Int.toNat_natCast, Int.reduceToNat, Int.reduceEq, false_implies, true_implies, Int.reduceNeg, Int.cast_ofNat_Int, g8, g1, g15, g10, v0, v1, v2, v3, v4, v5, u0, u1, z0, n0, n1, reduceIte, Nat.reduceEqDiff, true_or, or_true, Int.reduceLE, Int.reduceLT, Int.reduceAdd, Int.reduceSub, Int.reduceMul, not_true_eq_false, not_false_eq_true, implies_true, nat_s, wr_id, uR_at, uR_uR, u1_at, u1_ne, uf_at, uf_ne, iltT, iltF, ileT, ieqT, ieqF]
      have key : ∀ (r i t k' W' : Nat) (X' : NT) (A : Nat → Int) (B S : Nat → Nat → Int) (q : Nat → Nat), i + r = 200 → t ≤ i → GJ n k' W' X' → RN n W' A B S q X' → W' + 14 * r ≤ 1000000000 → (∀ V', CI w Γ V' x Z L T fk n k W X c Y → FR x Z V V' → Q (some (.inl (ordF n r (a - (t : Int)) X'))) Γ V') → tG w d nTok_order 27 [some (.inr (.inl x)), some (.inl a), some (.inl (t : Int)), some (.inl ((i + 1 : Nat) : Int))] [] Γ (nP V (ad 1) A B S q) 0 0 Q := by
        intro r
        induction r with
        | zero =>
          intro i t k' W' X' A B S q hi ht g hR hW hq
          have fin := hC.paper ch ch10 cx ly cm (A := A) (B := B) (S := S) (q := q) hR.2.2.2.2.1
          have hq := hq _ fin.1 fin.2
          refine tG_at hd kTok_order_27 ?_
          simp (disch := omega) only [bTok_order_27, rn, sm, lg, lt_, cmpP, tk, pr_, pu, swl, cs, Nat.reduceAdd, Nat.reduceLeDiff, Nat.zero_le, Nat.le_refl, true_and, and_true, Int.toNat_natCast, Int.reduceToNat, Int.reduceEq, false_implies, true_implies, Int.reduceNeg, Int.cast_ofNat_Int, g8, g1, g15, g10, v0, v1, v2, v3, v4, v5, u0, u1, z0, n0, n1, reduceIte, Nat.reduceEqDiff, true_or, or_true, Int.reduceLE, Int.reduceLT, Int.reduceAdd, Int.reduceSub, Int.reduceMul, not_true_eq_false, not_false_eq_true, implies_true, nat_s, wr_id, uR_at, uR_uR, u1_at, u1_ne, uf_at, uf_ne, iltT, iltF, ileT, ieqT, ieqF]
          refine tG_at hd kTok_order_80 ?_
          simp (disch := omega) only [bTok_order_80, rn, sm, lg, lt_, cmpP, tk, pr_, pu, swl, cs, Nat.reduceAdd, Nat.reduceLeDiff, Nat.zero_le, Nat.le_refl, true_and, and_true, Int.toNat_natCast, Int.reduceToNat, Int.reduceEq, false_implies, true_implies, Int.reduceNeg, Int.cast_ofNat_Int, g8, g1, g15, g10, v0, v1, v2, v3, v4, v5, u0, u1, z0, n0, n1, reduceIte, Nat.reduceEqDiff, true_or, or_true, Int.reduceLE, Int.reduceLT, Int.reduceAdd, Int.reduceSub, Int.reduceMul, not_true_eq_false, not_false_eq_true, implies_true, nat_s, wr_id, uR_at, uR_uR, u1_at, u1_ne, uf_at, uf_ne, iltT, iltF, ileT, ieqT, ieqF]
          exact hq
        | succ r ih =>
          intro i t k' W' X' A B S q hi ht g hR hW hq
          have es : ordF n (r + 1) (a - (t : Int)) X' = if (onceF n X').1 = 0 then -1 else if (onceF n X').2.2.2 = -1 then ordF n r (a - (t : Int)) (onceF n X').2.1 else if a - (t : Int) = 0 then (onceF n X').2.2.2 else ordF n r (a - (t : Int) - 1) (onceF n X').2.1 := rfl
          rw [es] at hq
          obtain ⟨k2, g2⟩ := g.once (by omega)
          refine tG_at hd kTok_order_27 ?_
          simp (disch := omega) only [bTok_order_27, rn, sm, lg, lt_, cmpP, tk, pr_, pu, swl, cs, Nat.reduceAdd, Nat.reduceLeDiff, Nat.zero_le, Nat.le_refl, true_and, and_true, Int.toNat_natCast, Int.reduceToNat, Int.reduceEq, false_implies, true_implies, Int.reduceNeg, Int.cast_ofNat_Int, g8, g1, g15, g10, v0, v1, v2, v3, v4, v5, u0, u1, z0, n0, n1, reduceIte, Nat.reduceEqDiff, true_or, or_true, Int.reduceLE, Int.reduceLT, Int.reduceAdd, Int.reduceSub, Int.reduceMul, not_true_eq_false, not_false_eq_true, implies_true, nat_s, wr_id, uR_at, uR_uR, u1_at, u1_ne, uf_at, uf_ne, iltT, iltF, ileT, ieqT, ieqF]
          refine tG_at hd kTok_order_34 ?_
          simp (disch := omega) only [bTok_order_34, rn, sm, lg, lt_, cmpP, tk, pr_, pu, swl, cs, Nat.reduceAdd, Nat.reduceLeDiff, Nat.zero_le, Nat.le_refl, true_and, and_true, Int.toNat_natCast, Int.reduceToNat, Int.reduceEq, false_implies, true_implies, Int.reduceNeg, Int.cast_ofNat_Int, g8, g1, g15, g10, v0, v1, v2, v3, v4, v5, u0, u1, z0, n0, n1, reduceIte, Nat.reduceEqDiff, true_or, or_true, Int.reduceLE, Int.reduceLT, Int.reduceAdd, Int.reduceSub, Int.reduceMul, not_true_eq_false, not_false_eq_true, implies_true, nat_s, wr_id, uR_at, uR_uR, u1_at, u1_ne, uf_at, uf_ne, iltT, iltF, ileT, ieqT, ieqF, nP_o]
          refine k_settleBy (t := 1) (by omega) hN1 g hR (by omega) (by omega) (fun A2 B2 S2 q2 z1 z2 => ?_)
          rw [setF_1] at z1 ⊢
          have fin := hC.paper ch ch10 cx ly cm (A := A2) (B := B2) (S := S2) (q := q2) z1.2.2.2.2.1
          rcases onceF_01 (n := n) (X := X') with ho | ho
          · have hq := hq _ fin.1 fin.2
            rw [if_pos ho] at hq
            refine tG_at hd kTok_order_42 ?_
            simp (disch := omega) only [bTok_order_42, rn, sm, lg, lt_, cmpP, tk, pr_, pu, swl, cs, Nat.reduceAdd, Nat.reduceLeDiff, Nat.zero_le, Nat.le_refl, true_and, and_true, Int.toNat_natCast, Int.reduceToNat, Int.reduceEq, false_implies, true_implies, Int.reduceNeg, Int.cast_ofNat_Int, g8, g1, g15, g10, v0, v1, v2, v3, v4, v5, u0, u1, z0, n0, n1, reduceIte, Nat.reduceEqDiff, true_or, or_true, Int.reduceLE, Int.reduceLT, Int.reduceAdd, Int.reduceSub, Int.reduceMul, not_true_eq_false, not_false_eq_true, implies_true, nat_s, wr_id, uR_at, uR_uR, u1_at, u1_ne, uf_at, uf_ne, iltT, iltF, ileT, ieqT, ieqF, ho]
            refine tG_at hd kTok_order_45 ?_
            simp (disch := omega) only [bTok_order_45, rn, sm, lg, lt_, cmpP, tk, pr_, pu, swl, cs, Nat.reduceAdd, Nat.reduceLeDiff, Nat.zero_le, Nat.le_refl, true_and, and_true, Int.toNat_natCast, Int.reduceToNat, Int.reduceEq, false_implies, true_implies, Int.reduceNeg, Int.cast_ofNat_Int, g8, g1, g15, g10, v0, v1, v2, v3, v4, v5, u0, u1, z0, n0, n1, reduceIte, Nat.reduceEqDiff, true_or, or_true, Int.reduceLE, Int.reduceLT, Int.reduceAdd, Int.reduceSub, Int.reduceMul, not_true_eq_false, not_false_eq_true, implies_true, nat_s, wr_id, uR_at, uR_uR, u1_at, u1_ne, uf_at, uf_ne, iltT, iltF, ileT, ieqT, ieqF]
            exact hq
          · rw [if_neg (by omega)] at hq
            have z7 := z2 rfl (by omega)
            refine tG_at hd kTok_order_42 ?_
            simp (disch := omega) only [bTok_order_42, rn, sm, lg, lt_, cmpP, tk, pr_, pu, swl, cs, Nat.reduceAdd, Nat.reduceLeDiff, Nat.zero_le, Nat.le_refl, true_and, and_true, Int.toNat_natCast, Int.reduceToNat, Int.reduceEq, false_implies, true_implies, Int.reduceNeg, Int.cast_ofNat_Int, g8, g1, g15, g10, v0, v1, v2, v3, v4, v5, u0, u1, z0, n0, n1, reduceIte, Nat.reduceEqDiff, true_or, or_true, Int.reduceLE, Int.reduceLT, Int.reduceAdd, Int.reduceSub, Int.reduceMul, not_true_eq_false, not_false_eq_true, implies_true, nat_s, wr_id, uR_at, uR_uR, u1_at, u1_ne, uf_at, uf_ne, iltT, iltF, ileT, ieqT, ieqF, ho]
            by_cases hcm : (onceF n X').2.2.2 = -1
            · rw [if_pos hcm] at hq
              refine tG_at hd kTok_order_47 ?_
              simp (disch := omega) only [bTok_order_47, rn, sm, lg, lt_, cmpP, tk, pr_, pu, swl, cs, Nat.reduceAdd, Nat.reduceLeDiff, Nat.zero_le, Nat.le_refl, true_and, and_true, Int.toNat_natCast, Int.reduceToNat, Int.reduceEq, false_implies, true_implies, Int.reduceNeg, Int.cast_ofNat_Int, g8, g1, g15, g10, v0, v1, v2, v3, v4, v5, u0, u1, z0, n0, n1, reduceIte, Nat.reduceEqDiff, true_or, or_true, Int.reduceLE, Int.reduceLT, Int.reduceAdd, Int.reduceSub, Int.reduceMul, not_true_eq_false, not_false_eq_true, implies_true, nat_s, wr_id, uR_at, uR_uR, u1_at, u1_ne, uf_at, uf_ne, iltT, iltF, ileT, ieqT, ieqF, nP_o, n_r10, z7, hcm]
              refine tG_at hd kTok_order_74 ?_
              simp (disch := omega) only [bTok_order_74, rn, sm, lg, lt_, cmpP, tk, pr_, pu, swl, cs, Nat.reduceAdd, Nat.reduceLeDiff, Nat.zero_le, Nat.le_refl, true_and, and_true, Int.toNat_natCast, Int.reduceToNat, Int.reduceEq, false_implies, true_implies, Int.reduceNeg, Int.cast_ofNat_Int, g8, g1, g15, g10, v0, v1, v2, v3, v4, v5, u0, u1, z0, n0, n1, reduceIte, Nat.reduceEqDiff, true_or, or_true, Int.reduceLE, Int.reduceLT, Int.reduceAdd, Int.reduceSub, Int.reduceMul, not_true_eq_false, not_false_eq_true, implies_true, nat_s, wr_id, uR_at, uR_uR, u1_at, u1_ne, uf_at, uf_ne, iltT, iltF, ileT, ieqT, ieqF]
              exact ih (i + 1) t k2 (W' + 14) (onceF n X').2.1 A2 B2 S2 q2 (by omega) (by omega) g2 z1 (by omega) hq
            · rw [if_neg hcm] at hq
              refine tG_at hd kTok_order_47 ?_
              simp (disch := omega) only [bTok_order_47, rn, sm, lg, lt_, cmpP, tk, pr_, pu, swl, cs, Nat.reduceAdd, Nat.reduceLeDiff, Nat.zero_le, Nat.le_refl, true_and, and_true, Int.toNat_natCast, Int.reduceToNat, Int.reduceEq, false_implies, true_implies, Int.reduceNeg, Int.cast_ofNat_Int, g8, g1, g15, g10, v0, v1, v2, v3, v4, v5, u0, u1, z0, n0, n1, reduceIte, Nat.reduceEqDiff, true_or, or_true, Int.reduceLE, Int.reduceLT, Int.reduceAdd, Int.reduceSub, Int.reduceMul, not_true_eq_false, not_false_eq_true, implies_true, nat_s, wr_id, uR_at, uR_uR, u1_at, u1_ne, uf_at, uf_ne, iltT, iltF, ileT, ieqT, ieqF, nP_o, n_r10, z7]
              by_cases hta : a - (t : Int) = 0
              · have hq := hq _ fin.1 fin.2
                rw [if_pos hta] at hq
                refine tG_at hd kTok_order_58 ?_
                simp (disch := omega) only [bTok_order_58, rn, sm, lg, lt_, cmpP, tk, pr_, pu, swl, cs, Nat.reduceAdd, Nat.reduceLeDiff, Nat.zero_le, Nat.le_refl, true_and, and_true, Int.toNat_natCast, Int.reduceToNat, Int.reduceEq, false_implies, true_implies, Int.reduceNeg, Int.cast_ofNat_Int, g8, g1, g15, g10, v0, v1, v2, v3, v4, v5, u0, u1, z0, n0, n1, reduceIte, Nat.reduceEqDiff, true_or, or_true, Int.reduceLE, Int.reduceLT, Int.reduceAdd, Int.reduceSub, Int.reduceMul, not_true_eq_false, not_false_eq_true, implies_true, nat_s, wr_id, uR_at, uR_uR, u1_at, u1_ne, uf_at, uf_ne, iltT, iltF, ileT, ieqT, ieqF]
                refine tG_at hd kTok_order_63 ?_
                simp (disch := omega) only [bTok_order_63, rn, sm, lg, lt_, cmpP, tk, pr_, pu, swl, cs, Nat.reduceAdd, Nat.reduceLeDiff, Nat.zero_le, Nat.le_refl, true_and, and_true, Int.toNat_natCast, Int.reduceToNat, Int.reduceEq, false_implies, true_implies, Int.reduceNeg, Int.cast_ofNat_Int, g8, g1, g15, g10, v0, v1, v2, v3, v4, v5, u0, u1, z0, n0, n1, reduceIte, Nat.reduceEqDiff, true_or, or_true, Int.reduceLE, Int.reduceLT, Int.reduceAdd, Int.reduceSub, Int.reduceMul, not_true_eq_false, not_false_eq_true, implies_true, nat_s, wr_id, uR_at, uR_uR, u1_at, u1_ne, uf_at, uf_ne, iltT, iltF, ileT, ieqT, ieqF, nP_o, n_r10, z7]
                exact hq
              · rw [if_neg hta] at hq
                refine tG_at hd kTok_order_58 ?_
                simp (disch := omega) only [bTok_order_58, rn, sm, lg, lt_, cmpP, tk, pr_, pu, swl, cs, Nat.reduceAdd, Nat.reduceLeDiff, Nat.zero_le, Nat.le_refl, true_and, and_true, Int.toNat_natCast, Int.reduceToNat, Int.reduceEq, false_implies, true_implies, Int.reduceNeg, Int.cast_ofNat_Int, g8, g1, g15, g10, v0, v1, v2, v3, v4, v5, u0, u1, z0, n0, n1, reduceIte, Nat.reduceEqDiff, true_or, or_true, Int.reduceLE, Int.reduceLT, Int.reduceAdd, Int.reduceSub, Int.reduceMul, not_true_eq_false, not_false_eq_true, implies_true, nat_s, wr_id, uR_at, uR_uR, u1_at, u1_ne, uf_at, uf_ne, iltT, iltF, ileT, ieqT, ieqF]
                refine tG_at hd kTok_order_71 ?_
                simp (disch := omega) only [bTok_order_71, rn, sm, lg, lt_, cmpP, tk, pr_, pu, swl, cs, Nat.reduceAdd, Nat.reduceLeDiff, Nat.zero_le, Nat.le_refl, true_and, and_true, Int.toNat_natCast, Int.reduceToNat, Int.reduceEq, false_implies, true_implies, Int.reduceNeg, Int.cast_ofNat_Int, g8, g1, g15, g10, v0, v1, v2, v3, v4, v5, u0, u1, z0, n0, n1, reduceIte, Nat.reduceEqDiff, true_or, or_true, Int.reduceLE, Int.reduceLT, Int.reduceAdd, Int.reduceSub, Int.reduceMul, not_true_eq_false, not_false_eq_true, implies_true, nat_s, wr_id, uR_at, uR_uR, u1_at, u1_ne, uf_at, uf_ne, iltT, iltF, ileT, ieqT, ieqF]
                refine tG_at hd kTok_order_74 ?_
                simp (disch := omega) only [bTok_order_74, rn, sm, lg, lt_, cmpP, tk, pr_, pu, swl, cs, Nat.reduceAdd, Nat.reduceLeDiff, Nat.zero_le, Nat.le_refl, true_and, and_true, Int.toNat_natCast, Int.reduceToNat, Int.reduceEq, false_implies, true_implies, Int.reduceNeg, Int.cast_ofNat_Int, g8, g1, g15, g10, v0, v1, v2, v3, v4, v5, u0, u1, z0, n0, n1, reduceIte, Nat.reduceEqDiff, true_or, or_true, Int.reduceLE, Int.reduceLT, Int.reduceAdd, Int.reduceSub, Int.reduceMul, not_true_eq_false, not_false_eq_true, implies_true, nat_s, wr_id, uR_at, uR_uR, u1_at, u1_ne, uf_at, uf_ne, iltT, iltF, ileT, ieqT, ieqF]
                refine ih (i + 1) (t + 1) k2 (W' + 14) (onceF n X').2.1 A2 B2 S2 q2 (by omega) (by omega) g2 z1 (by omega) ?_
                rw [show a - ((t + 1 : Nat) : Int) = a - (t : Int) - 1 by omega]
                exact hq
      refine key 200 0 0 k W X A' B' S' _ (by omega) (by omega) cm.1.1 r1 (by omega) ?_
      rw [show a - ((0 : Nat) : Int) = a by omega]
      exact hq
    · refine tG_at hd kTok_order_0 ?_
      simp (disch := omega) only [bTok_order_0, rn, sm, lg, lt_, cmpP, tk, pr_, pu, swl, cs, Nat.reduceAdd, Nat.reduceLeDiff, Nat.zero_le, Nat.le_refl, true_and, and_true, Int.toNat_natCast, Int.reduceToNat, Int.reduceEq, false_implies, true_implies, Int.reduceNeg, Int.cast_ofNat_Int, g8, g1, g15, g10, v0, v1, v2, v3, v4, v5, u0, u1, z0, n0, n1, reduceIte, Nat.reduceEqDiff, true_or, or_true, Int.reduceLE, Int.reduceLT, Int.reduceAdd, Int.reduceSub, Int.reduceMul, not_true_eq_false, not_false_eq_true, implies_true, nat_s, wr_id, uR_at, uR_uR, u1_at, u1_ne, uf_at, uf_ne, iltT, iltF, ileT, ieqT, ieqF]
      refine tG_at hd kTok_order_4 ?_
      simp (disch := omega) only [bTok_order_4, rn, sm, lg, lt_, cmpP, tk, pr_, pu, swl, cs, Nat.reduceAdd, Nat.reduceLeDiff, Nat.zero_le, Nat.le_refl, true_and, and_true, Int.toNat_natCast, Int.reduceToNat, Int.reduceEq, false_implies, true_implies, Int.reduceNeg, Int.cast_ofNat_Int, g8, g1, g15, g10, v0, v1, v2, v3, v4, v5, u0, u1, z0, n0, n1, reduceIte, Nat.reduceEqDiff, true_or, or_true, Int.reduceLE, Int.reduceLT, Int.reduceAdd, Int.reduceSub, Int.reduceMul, not_true_eq_false, not_false_eq_true, implies_true, nat_s, wr_id, uR_at, uR_uR, u1_at, u1_ne, uf_at, uf_ne, iltT, iltF, ileT, ieqT, ieqF]
      exact k10 (fun h => h19 h.2)
  · refine tG_at hd kTok_order_0 ?_
    simp (disch := omega) only [bTok_order_0, rn, sm, lg, lt_, cmpP, tk, pr_, pu, swl, cs, Nat.reduceAdd, Nat.reduceLeDiff, Nat.zero_le, Nat.le_refl, true_and, and_true, Int.toNat_natCast, Int.reduceToNat, Int.reduceEq, false_implies, true_implies, Int.reduceNeg, Int.cast_ofNat_Int, g8, g1, g15, g10, v0, v1, v2, v3, v4, v5, u0, u1, z0, n0, n1, reduceIte, Nat.reduceEqDiff, true_or, or_true, Int.reduceLE, Int.reduceLT, Int.reduceAdd, Int.reduceSub, Int.reduceMul, not_true_eq_false, not_false_eq_true, implies_true, nat_s, wr_id, uR_at, uR_uR, u1_at, u1_ne, uf_at, uf_ne, iltT, iltF, ileT, ieqT, ieqF]
    exact k10 (fun h => h0 h.1)
end CM
