section MD
variable {w : WP} {d : Nat} {Γ : GM} {V : VH} {Q : QT} {M : Nat} {F T K S H A : Nat → Int} {B C : Nat → Nat → Int}
def wtP (b : Nat → Int) (i : Nat) : Nat → Int := fun j => if 44 ≤ j ∧ j < 44 + i then b j + 1 else b j
theorem wtP_31 {b : Nat → Int} {i : Nat} : wtP b i 31 = b 31 := if_neg (by omega)
theorem wtP_ge {b : Nat → Int} {i : Nat} : wtP b i (44 + i) = b (44 + i) := if_neg (by omega)
theorem wtP_s {b : Nat → Int} {i : Nat} : u1 (wtP b i) (44 + i) (b (44 + i) + 1) = wtP b (i + 1) := by
  funext j
  unfold wtP
  by_cases hj : j = 44 + i
  · subst hj
    rw [u1_at, if_pos (by omega)]
  · rw [u1_ne hj]
    by_cases h2 : 44 ≤ j ∧ j < 44 + i
    · rw [if_pos h2, if_pos (by omega)]
    · rw [if_neg h2, if_neg (by omega)]
theorem wtP_f {b : Nat → Int} {L : Nat} (hL : b 31 = (L : Int)) (h6 : L ≤ 6) : wtP b L = wtR b := by
  funext j
  unfold wtP wtR
  rw [hL, Int.toNat_natCast]
  by_cases h2 : 44 ≤ j ∧ j < 44 + L
  · rw [if_pos h2, if_pos (by omega)]
  · rw [if_neg h2, if_neg (by omega)]
def mrP (a b c x y : Int) (g : Nat → Int) (i : Nat) : Nat → Int := fun j => if 5 + i ≤ j ∧ j < 30 then 0 else mrow a b c x y g j
theorem mrP_s {a b c x y : Int} {g : Nat → Int} {i : Nat} (hi : i < 20) : u1 (mrP a b c x y g i) (5 + i) (g i) = mrP a b c x y g (i + 1) := by
  funext j
  unfold mrP
  by_cases hj : j = 5 + i
  · subst hj
    rw [u1_at, if_neg (by omega)]
    rw [show 5 + i = i + 5 by omega]
    simp [mrow, hi]
  · rw [u1_ne hj]
    by_cases h2 : 5 + i ≤ j ∧ j < 30
    · rw [if_pos h2, if_pos (by omega)]
    · rw [if_neg h2, if_neg (by omega)]
theorem u1_eqv {f g : Nat → Int} (h : f = g) : f = g := h
theorem wr_i {x : Int} (h1 : 0 ≤ x) (h2 : x ≤ 2000000000) : wr (x + 1) = x + 1 := wr_id (by omega) (by omega)
theorem wtR_31 {b : Nat → Int} : wtR b 31 = b 31 := if_neg (by omega)
theorem wtR_lo {b : Nat → Int} {j : Nat} (h : j < 44 ∨ 50 ≤ j) : wtR b j = b j := if_neg (by omega)
theorem rowR_lo {b : Nat → Int} {j : Nat} (h : j < 18 ∨ 24 ≤ j) : rowR b j = b j := if_neg (by omega)
/-- to HAND ON -/
theorem c_handsOn (hd5 : 5 ≤ d) (hM : ML Γ M F) {m n k L W : Nat} (hn : A 0 = (n : Int)) (hn6 : n ≤ 6) (hm : m < n) (hk : A 5 = (k : Int)) (hk6 : k < 60) (hQ : QI n W (B m) L) (hW : W ≤ 1000000000) (hr : ∀ j, j < 6 → 0 ≤ B m (12 + j) ∧ B m (12 + j) ≤ 9)
    (hq : ∀ b2, b2 = hnd2 m n (B m) → if b2 31 = 0 then Q (some (.inl (m : Int))) Γ (mS V M F T (fl A (uR B m b2) C) K S H) else Q (some (.inl (b2 (38 + hndk b2)))) Γ (mS V M (uF F 15 1) T (fl (u1 A 5 ((k + 1 : Nat) : Int)) (uR B m (zrow (hnd5 b2) 30 50)) (uR C k (mrow (m : Int) (b2 (38 + hndk b2)) 1 (hnd5 b2 30) (hnd5 b2 31) (fun i => hnd5 b2 (30 + i))))) K S H)) :
    tC w d nMod_handsOn [.inr (.inl M), .inl (m : Int)] Γ (mS V M F T (fl A B C) K S H) Q := by
  have hd : 4 ≤ d := by omega
  have hm6 : m < 6 := by omega
  have hL6 : L ≤ 6 := by have := hQ.len; omega
  obtain ⟨L1, hL1, hQ1, hno1⟩ := hnd1_q (m := m) hQ hL6
  have hb31 := hQ.1
  have hr1 : ∀ j, j < 6 → 0 ≤ hnd1 m (B m) (12 + j) ∧ hnd1 m (B m) (12 + j) ≤ 9 := fun j hj => by
    rw [hnd1_lo (by omega)]
    exact hr j hj
  obtain ⟨⟨g0, g1, g2, g3, g4, g5⟩, ⟨l1, l2, l3, -, l5⟩, p1, p2, p3, p4, p5⟩ := id hM
  -- from the place behind the removal
  have k21 : ∀ b1 : Nat → Int, b1 = hnd1 m (B m) → tG w d nMod_handsOn 21 [some (.inr (.inl M)), some (.inl (m : Int)), none, none, none] [] Γ (mS V M F T (fl A (uR B m b1) C) K S H) 0 0 Q := by
    intro b1 hb1
    rw [← hb1] at hQ1 hno1 hr1
    refine tG_at hd kMod_handsOn_21 ?_
    simp (disch := omega) only [bMod_handsOn_21, rn, sm, lg, lt_, cmpP, tk, pr_, pu, swl, cs, Nat.reduceAdd, Nat.reduceLeDiff, Nat.zero_le, Nat.le_refl, true_and, and_true, Int.toNat_natCast, Int.reduceToNat, Int.reduceEq, false_implies, true_implies, Int.reduceNeg, Int.cast_ofNat_Int, mS_0, mS_1, mS_2, mS_3, mS_4, mS_5, mS_u0, mS_u1, mS_u2, mS_u3, mS_u4, mS_u5, g0, g1, g2, g3, g4, g5, l1, l2, l3, l5, p1, p2, p3, p4, p5, sn_0, sn_9, at_0, at_9, fl_sn, fl_at, fl_usn, fl_uat, fl_a, fl_ua, uF, reduceIte, Nat.reduceEqDiff, true_or, or_true, Int.reduceLE, Int.reduceLT, wr_s, wn_1, wn_2, wn_5, wn_6, wn_8, wn_12, wn_14, wn_18, wn_24, wn_30, wn_32, wn_38, wn_44]
    refine tG_loop (fun i => [some (.inr (.inl M)), some (.inl (m : Int)), some (.inl (i : Int)), none, none]) (fun i V' => V' = mS V M F T (fl A (uR B m (addR m i b1)) C) K S H) n ?_ ?_ 0 _ (Nat.zero_le _) rfl
    · intro i V' hi hV k1
      subst hV
      obtain ⟨Li, hQi, hnoi, hLi⟩ := addR_q hn6 hm i (by omega) L1 hQ1 hno1
      have k75 : ∀ b', b' = addR m (i + 1) b1 → tG w d nMod_handsOn 75 [some (.inr (.inl M)), some (.inl (m : Int)), some (.inl (i : Int)), none, none] [] Γ (mS V M F T (fl A (uR B m b') C) K S H) 0 0 Q := by
        intro b' hb'
        refine tG_at hd kMod_handsOn_75 ?_
        simp (disch := omega) only [bMod_handsOn_75, rn, sm, lg, lt_, cmpP, tk, pr_, pu, swl, cs, Nat.reduceAdd, Nat.reduceLeDiff, Nat.zero_le, Nat.le_refl, true_and, and_true, Int.toNat_natCast, Int.reduceToNat, Int.reduceEq, false_implies, true_implies, Int.reduceNeg, Int.cast_ofNat_Int, mS_0, mS_1, mS_2, mS_3, mS_4, mS_5, mS_u0, mS_u1, mS_u2, mS_u3, mS_u4, mS_u5, g0, g1, g2, g3, g4, g5, l1, l2, l3, l5, p1, p2, p3, p4, p5, sn_0, sn_9, at_0, at_9, fl_sn, fl_at, fl_usn, fl_uat, fl_a, fl_ua, uF, reduceIte, Nat.reduceEqDiff, true_or, or_true, Int.reduceLE, Int.reduceLT, wr_s, wn_1, wn_2, wn_5, wn_6, wn_8, wn_12, wn_14, wn_18, wn_24, wn_30, wn_32, wn_38, wn_44]
        exact k1 _ (by rw [hb'])
      refine tG_at hd kMod_handsOn_23 ?_
      simp (disch := omega) only [bMod_handsOn_23, rn, sm, lg, lt_, cmpP, tk, pr_, pu, swl, cs, Nat.reduceAdd, Nat.reduceLeDiff, Nat.zero_le, Nat.le_refl, true_and, and_true, Int.toNat_natCast, Int.reduceToNat, Int.reduceEq, false_implies, true_implies, Int.reduceNeg, Int.cast_ofNat_Int, mS_0, mS_1, mS_2, mS_3, mS_4, mS_5, mS_u0, mS_u1, mS_u2, mS_u3, mS_u4, mS_u5, g0, g1, g2, g3, g4, g5, l1, l2, l3, l5, p1, p2, p3, p4, p5, sn_0, sn_9, at_0, at_9, fl_sn, fl_at, fl_usn, fl_uat, fl_a, fl_ua, uF, reduceIte, Nat.reduceEqDiff, true_or, or_true, Int.reduceLE, Int.reduceLT, wr_s, wn_1, wn_2, wn_5, wn_6, wn_8, wn_12, wn_14, wn_18, wn_24, wn_30, wn_32, wn_38, wn_44, hn]
      refine ⟨fun h => absurd h (by omega), fun _ => ?_⟩
      refine tG_at hd kMod_handsOn_33 ?_
      simp only [bMod_handsOn_33, rn, sm, lg, lt_, cmpP, tk, pr_, pu, swl, cs, Nat.reduceAdd, Nat.reduceLeDiff, Nat.zero_le, Nat.le_refl, true_and, and_true, Int.toNat_natCast, Int.reduceToNat, Int.reduceEq, false_implies, true_implies, Int.reduceNeg, Int.cast_ofNat_Int]
      refine ⟨fun h => k75 _ ?_, fun him => ?_⟩
      · simp only [addR]
        rw [if_neg (by omega)]
      · have hi6 : i < 6 := by omega
        refine tG_at hd kMod_handsOn_38 ?_
        simp (disch := omega) only [bMod_handsOn_38, rn, sm, lg, lt_, cmpP, tk, pr_, pu, swl, cs, Nat.reduceAdd, Nat.reduceLeDiff, Nat.zero_le, Nat.le_refl, true_and, and_true, Int.toNat_natCast, Int.reduceToNat, Int.reduceEq, false_implies, true_implies, Int.reduceNeg, Int.cast_ofNat_Int, mS_0, mS_1, mS_2, mS_3, mS_4, mS_5, mS_u0, mS_u1, mS_u2, mS_u3, mS_u4, mS_u5, g0, g1, g2, g3, g4, g5, l1, l2, l3, l5, p1, p2, p3, p4, p5, sn_0, sn_9, at_0, at_9, fl_sn, fl_at, fl_usn, fl_uat, fl_a, fl_ua, uF, reduceIte, Nat.reduceEqDiff, true_or, or_true, Int.reduceLE, Int.reduceLT, wr_s, wn_1, wn_2, wn_5, wn_6, wn_8, wn_12, wn_14, wn_18, wn_24, wn_30, wn_32, wn_38, wn_44, uR_at]
        refine ⟨fun h => k75 _ ?_, fun hgt => ?_⟩
        · simp only [addR]
          rw [if_neg (by omega)]
        · refine tG_at hd kMod_handsOn_59 ?_
          simp (disch := omega) only [bMod_handsOn_59, rn, sm, lg, lt_, cmpP, tk, pr_, pu, swl, cs, Nat.reduceAdd, Nat.reduceLeDiff, Nat.zero_le, Nat.le_refl, true_and, and_true, Int.toNat_natCast, Int.reduceToNat, Int.reduceEq, false_implies, true_implies, Int.reduceNeg, Int.cast_ofNat_Int, mS_0, mS_1, mS_2, mS_3, mS_4, mS_5, mS_u0, mS_u1, mS_u2, mS_u3, mS_u4, mS_u5, g0, g1, g2, g3, g4, g5, l1, l2, l3, l5, p1, p2, p3, p4, p5, sn_0, sn_9, at_0, at_9, fl_sn, fl_at, fl_usn, fl_uat, fl_a, fl_ua, uF, reduceIte, Nat.reduceEqDiff, true_or, or_true, Int.reduceLE, Int.reduceLT, wr_s, wn_1, wn_2, wn_5, wn_6, wn_8, wn_12, wn_14, wn_18, wn_24, wn_30, wn_32, wn_38, wn_44]
          refine c_placeIn (by omega) hM hm6 (by rw [uR_at, hQi.1]; omega) (by rw [uR_at, hQi.1]; omega) ?_
          rw [uR_at]
          refine tG_at hd kMod_handsOn_65 ?_
          simp only [bMod_handsOn_65, rn, sm, lg, lt_, cmpP, tk, pr_, pu, swl, cs, Nat.reduceAdd, Nat.reduceLeDiff, Nat.zero_le, Nat.le_refl, true_and, and_true, Int.toNat_natCast, Int.reduceToNat, Int.reduceEq, false_implies, true_implies, Int.reduceNeg, Int.cast_ofNat_Int]
          refine ⟨fun h => k75 _ ?_, fun hpl => ?_⟩
          · simp only [addR]
            rw [if_neg (by omega)]
          · refine tG_at hd kMod_handsOn_69 ?_
            simp (disch := omega) only [bMod_handsOn_69, rn, sm, lg, lt_, cmpP, tk, pr_, pu, swl, cs, Nat.reduceAdd, Nat.reduceLeDiff, Nat.zero_le, Nat.le_refl, true_and, and_true, Int.toNat_natCast, Int.reduceToNat, Int.reduceEq, false_implies, true_implies, Int.reduceNeg, Int.cast_ofNat_Int, mS_0, mS_1, mS_2, mS_3, mS_4, mS_5, mS_u0, mS_u1, mS_u2, mS_u3, mS_u4, mS_u5, g0, g1, g2, g3, g4, g5, l1, l2, l3, l5, p1, p2, p3, p4, p5, sn_0, sn_9, at_0, at_9, fl_sn, fl_at, fl_usn, fl_uat, fl_a, fl_ua, uF, reduceIte, Nat.reduceEqDiff, true_or, or_true, Int.reduceLE, Int.reduceLT, wr_s, wn_1, wn_2, wn_5, wn_6, wn_8, wn_12, wn_14, wn_18, wn_24, wn_30, wn_32, wn_38, wn_44]
            refine c_comesIn (by omega) hM hm6 (L := Li) (by rw [uR_at, hQi.1]) (by omega) ?_
            rw [uR_at, uR_uR]
            refine k75 _ ?_
            simp only [addR]
            rw [if_pos (by omega)]
    · intro V' hV
      subst hV
      obtain ⟨L2, hQ2, hno2, hL2⟩ := addR_q hn6 hm n (Nat.le_refl _) L1 hQ1 hno1
      have hq := hq (addR m n b1) (by rw [hb1]; rfl)
      have hr2 : ∀ j, j < 6 → 0 ≤ addR m n b1 (12 + j) ∧ addR m n b1 (12 + j) ≤ 9 := fun j hj => by
        rw [addR_lo (by omega)]
        exact hr1 j hj
      generalize addR m n b1 = b2 at hQ2 hno2 hq hr2 ⊢
      have h31 := hQ2.1
      refine tG_at hd kMod_handsOn_23 ?_
      simp (disch := omega) only [bMod_handsOn_23, rn, sm, lg, lt_, cmpP, tk, pr_, pu, swl, cs, Nat.reduceAdd, Nat.reduceLeDiff, Nat.zero_le, Nat.le_refl, true_and, and_true, Int.toNat_natCast, Int.reduceToNat, Int.reduceEq, false_implies, true_implies, Int.reduceNeg, Int.cast_ofNat_Int, mS_0, mS_1, mS_2, mS_3, mS_4, mS_5, mS_u0, mS_u1, mS_u2, mS_u3, mS_u4, mS_u5, g0, g1, g2, g3, g4, g5, l1, l2, l3, l5, p1, p2, p3, p4, p5, sn_0, sn_9, at_0, at_9, fl_sn, fl_at, fl_usn, fl_uat, fl_a, fl_ua, uF, reduceIte, Nat.reduceEqDiff, true_or, or_true, Int.reduceLE, Int.reduceLT, wr_s, wn_1, wn_2, wn_5, wn_6, wn_8, wn_12, wn_14, wn_18, wn_24, wn_30, wn_32, wn_38, wn_44, hn]
      refine ⟨fun _ => ?_, fun h => absurd (by omega) h⟩
      refine tG_at hd kMod_handsOn_81 ?_
      simp (disch := omega) only [bMod_handsOn_81, rn, sm, lg, lt_, cmpP, tk, pr_, pu, swl, cs, Nat.reduceAdd, Nat.reduceLeDiff, Nat.zero_le, Nat.le_refl, true_and, and_true, Int.toNat_natCast, Int.reduceToNat, Int.reduceEq, false_implies, true_implies, Int.reduceNeg, Int.cast_ofNat_Int, mS_0, mS_1, mS_2, mS_3, mS_4, mS_5, mS_u0, mS_u1, mS_u2, mS_u3, mS_u4, mS_u5, g0, g1, g2, g3, g4, g5, l1, l2, l3, l5, p1, p2, p3, p4, p5, sn_0, sn_9, at_0, at_9, fl_sn, fl_at, fl_usn, fl_uat, fl_a, fl_ua, uF, reduceIte, Nat.reduceEqDiff, true_or, or_true, Int.reduceLE, Int.reduceLT, wr_s, wn_1, wn_2, wn_5, wn_6, wn_8, wn_12, wn_14, wn_18, wn_24, wn_30, wn_32, wn_38, wn_44, uR_at, h31]
      by_cases hz : L2 = 0
      · refine ⟨fun h => absurd (by omega) h, fun _ => ?_⟩
        rw [if_pos (by omega)] at hq
        refine tG_at hd kMod_handsOn_91 ?_
        simp only [bMod_handsOn_91, rn, sm, lg, lt_, cmpP, tk, pr_, pu, swl, cs, Nat.reduceAdd, Nat.reduceLeDiff, Nat.zero_le, Nat.le_refl, true_and, and_true, Int.toNat_natCast, Int.reduceToNat, Int.reduceEq, false_implies, true_implies, Int.reduceNeg, Int.cast_ofNat_Int]
        exact hq
      · refine ⟨fun _ => ?_, fun h => absurd (by omega) h⟩
        rw [if_neg (by omega)] at hq
        have hurg : ∀ i, i < L2 → -1000000 ≤ urg b2 i ∧ urg b2 i ≤ 2000000000 := by
          intro i hi
          obtain ⟨q, hq1, hq2⟩ := hQ2.2.1 i hi
          have h1 := hQ2.2.2.2 i hi
          have h2 := hr2 q (by omega)
          unfold urg
          rw [hq2, Int.toNat_natCast]
          omega
        refine tG_at hd kMod_handsOn_93 ?_
        simp only [bMod_handsOn_93, rn, sm, lg, lt_, cmpP, tk, pr_, pu, swl, cs, Nat.reduceAdd, Nat.reduceLeDiff, Nat.zero_le, Nat.le_refl, true_and, and_true, Int.toNat_natCast, Int.reduceToNat, Int.reduceEq, false_implies, true_implies, Int.reduceNeg, Int.cast_ofNat_Int]
        refine tG_loop (fun i => [some (.inr (.inl M)), some (.inl (m : Int)), some (.inl ((bst b2 (i - 1) : Nat) : Int)), some (.inl (i : Int)), none]) (fun i V' => 1 ≤ i ∧ V' = mS V M F T (fl A (uR B m b2) C) K S H) L2 ?_ ?_ 1 _ (by omega) ⟨by omega, rfl⟩
        · intro i V' hi hV k1
          obtain ⟨hi1, hV⟩ := hV
          subst hV
          have hb := bst_le b2 (i - 1)
          obtain ⟨q, hq1, hq2⟩ := hQ2.2.1 i hi
          obtain ⟨q', hq3, hq4⟩ := hQ2.2.1 (bst b2 (i - 1)) (by omega)
          refine tG_at hd kMod_handsOn_97 ?_
          simp (disch := omega) only [bMod_handsOn_97, rn, sm, lg, lt_, cmpP, tk, pr_, pu, swl, cs, Nat.reduceAdd, Nat.reduceLeDiff, Nat.zero_le, Nat.le_refl, true_and, and_true, Int.toNat_natCast, Int.reduceToNat, Int.reduceEq, false_implies, true_implies, Int.reduceNeg, Int.cast_ofNat_Int, mS_0, mS_1, mS_2, mS_3, mS_4, mS_5, mS_u0, mS_u1, mS_u2, mS_u3, mS_u4, mS_u5, g0, g1, g2, g3, g4, g5, l1, l2, l3, l5, p1, p2, p3, p4, p5, sn_0, sn_9, at_0, at_9, fl_sn, fl_at, fl_usn, fl_uat, fl_a, fl_ua, uF, reduceIte, Nat.reduceEqDiff, true_or, or_true, Int.reduceLE, Int.reduceLT, wr_s, wn_1, wn_2, wn_5, wn_6, wn_8, wn_12, wn_14, wn_18, wn_24, wn_30, wn_32, wn_38, wn_44, uR_at, h31]
          refine ⟨fun h => absurd h (by omega), fun _ => ?_⟩
          refine tG_at hd kMod_handsOn_108 ?_
          simp (disch := omega) only [bMod_handsOn_108, rn, sm, lg, lt_, cmpP, tk, pr_, pu, swl, cs, Nat.reduceAdd, Nat.reduceLeDiff, Nat.zero_le, Nat.le_refl, true_and, and_true, Int.toNat_natCast, Int.reduceToNat, Int.reduceEq, false_implies, true_implies, Int.reduceNeg, Int.cast_ofNat_Int, mS_0, mS_1, mS_2, mS_3, mS_4, mS_5, mS_u0, mS_u1, mS_u2, mS_u3, mS_u4, mS_u5, g0, g1, g2, g3, g4, g5, l1, l2, l3, l5, p1, p2, p3, p4, p5, sn_0, sn_9, at_0, at_9, fl_sn, fl_at, fl_usn, fl_uat, fl_a, fl_ua, uF, reduceIte, Nat.reduceEqDiff, true_or, or_true, Int.reduceLE, Int.reduceLT, wr_s, wn_1, wn_2, wn_5, wn_6, wn_8, wn_12, wn_14, wn_18, wn_24, wn_30, wn_32, wn_38, wn_44]
          refine c_urge (by omega) hM hm6 (by omega) (q := q) (by rw [uR_at]; exact hq2) (by omega) (by rw [uR_at]; exact hurg i hi) ?_
          rw [uR_at]
          refine tG_at hd kMod_handsOn_114 ?_
          simp (disch := omega) only [bMod_handsOn_114, rn, sm, lg, lt_, cmpP, tk, pr_, pu, swl, cs, Nat.reduceAdd, Nat.reduceLeDiff, Nat.zero_le, Nat.le_refl, true_and, and_true, Int.toNat_natCast, Int.reduceToNat, Int.reduceEq, false_implies, true_implies, Int.reduceNeg, Int.cast_ofNat_Int, mS_0, mS_1, mS_2, mS_3, mS_4, mS_5, mS_u0, mS_u1, mS_u2, mS_u3, mS_u4, mS_u5, g0, g1, g2, g3, g4, g5, l1, l2, l3, l5, p1, p2, p3, p4, p5, sn_0, sn_9, at_0, at_9, fl_sn, fl_at, fl_usn, fl_uat, fl_a, fl_ua, uF, reduceIte, Nat.reduceEqDiff, true_or, or_true, Int.reduceLE, Int.reduceLT, wr_s, wn_1, wn_2, wn_5, wn_6, wn_8, wn_12, wn_14, wn_18, wn_24, wn_30, wn_32, wn_38, wn_44]
          refine c_urge (by omega) hM hm6 (by omega) (q := q') (by rw [uR_at]; exact hq4) (by omega) (by rw [uR_at]; exact hurg _ (by omega)) ?_
          rw [uR_at]
          refine tG_at hd kMod_handsOn_120 ?_
          simp only [bMod_handsOn_120, rn, sm, lg, lt_, cmpP, tk, pr_, pu, swl, cs, Nat.reduceAdd, Nat.reduceLeDiff, Nat.zero_le, Nat.le_refl, true_and, and_true, Int.toNat_natCast, Int.reduceToNat, Int.reduceEq, false_implies, true_implies, Int.reduceNeg, Int.cast_ofNat_Int]
          have e : bst b2 (i + 1 - 1) = if urg b2 (bst b2 (i - 1)) < urg b2 i then i else bst b2 (i - 1) := by
            obtain ⟨i', rfl⟩ : ∃ i', i = i' + 1 := ⟨i - 1, by omega⟩
            rfl
          refine ⟨fun h => ?_, fun h => ?_⟩
          · refine tG_at hd kMod_handsOn_125 ?_
            simp (disch := omega) only [bMod_handsOn_125, rn, sm, lg, lt_, cmpP, tk, pr_, pu, swl, cs, Nat.reduceAdd, Nat.reduceLeDiff, Nat.zero_le, Nat.le_refl, true_and, and_true, Int.toNat_natCast, Int.reduceToNat, Int.reduceEq, false_implies, true_implies, Int.reduceNeg, Int.cast_ofNat_Int, mS_0, mS_1, mS_2, mS_3, mS_4, mS_5, mS_u0, mS_u1, mS_u2, mS_u3, mS_u4, mS_u5, g0, g1, g2, g3, g4, g5, l1, l2, l3, l5, p1, p2, p3, p4, p5, sn_0, sn_9, at_0, at_9, fl_sn, fl_at, fl_usn, fl_uat, fl_a, fl_ua, uF, reduceIte, Nat.reduceEqDiff, true_or, or_true, Int.reduceLE, Int.reduceLT, wr_s, wn_1, wn_2, wn_5, wn_6, wn_8, wn_12, wn_14, wn_18, wn_24, wn_30, wn_32, wn_38, wn_44]
            rw [if_neg h] at e
            have k1 := k1 _ ⟨by omega, rfl⟩
            rw [e] at k1
            exact k1
          · refine tG_at hd kMod_handsOn_123 ?_
            simp only [bMod_handsOn_123, rn, sm, lg, lt_, cmpP, tk, pr_, pu, swl, cs, Nat.reduceAdd, Nat.reduceLeDiff, Nat.zero_le, Nat.le_refl, true_and, and_true, Int.toNat_natCast, Int.reduceToNat, Int.reduceEq, false_implies, true_implies, Int.reduceNeg, Int.cast_ofNat_Int]
            refine tG_at hd kMod_handsOn_125 ?_
            simp (disch := omega) only [bMod_handsOn_125, rn, sm, lg, lt_, cmpP, tk, pr_, pu, swl, cs, Nat.reduceAdd, Nat.reduceLeDiff, Nat.zero_le, Nat.le_refl, true_and, and_true, Int.toNat_natCast, Int.reduceToNat, Int.reduceEq, false_implies, true_implies, Int.reduceNeg, Int.cast_ofNat_Int, mS_0, mS_1, mS_2, mS_3, mS_4, mS_5, mS_u0, mS_u1, mS_u2, mS_u3, mS_u4, mS_u5, g0, g1, g2, g3, g4, g5, l1, l2, l3, l5, p1, p2, p3, p4, p5, sn_0, sn_9, at_0, at_9, fl_sn, fl_at, fl_usn, fl_uat, fl_a, fl_ua, uF, reduceIte, Nat.reduceEqDiff, true_or, or_true, Int.reduceLE, Int.reduceLT, wr_s, wn_1, wn_2, wn_5, wn_6, wn_8, wn_12, wn_14, wn_18, wn_24, wn_30, wn_32, wn_38, wn_44]
            rw [if_pos (Decidable.not_not.mp h)] at e
            have k1 := k1 _ ⟨by omega, rfl⟩
            rw [e] at k1
            exact k1
        · intro V' hV
          obtain ⟨-, hV⟩ := hV
          subst hV
          have hkk : hndk b2 = bst b2 (L2 - 1) := by
            unfold hndk
            rw [h31, Int.toNat_natCast]
          have hb := bst_le b2 (L2 - 1)
          rw [← hkk] at hb
          rw [← hkk]
          have hQ3 := hQ2.out (k := hndk b2) (by omega) (by omega)
          refine tG_at hd kMod_handsOn_97 ?_
          simp (disch := omega) only [bMod_handsOn_97, rn, sm, lg, lt_, cmpP, tk, pr_, pu, swl, cs, Nat.reduceAdd, Nat.reduceLeDiff, Nat.zero_le, Nat.le_refl, true_and, and_true, Int.toNat_natCast, Int.reduceToNat, Int.reduceEq, false_implies, true_implies, Int.reduceNeg, Int.cast_ofNat_Int, mS_0, mS_1, mS_2, mS_3, mS_4, mS_5, mS_u0, mS_u1, mS_u2, mS_u3, mS_u4, mS_u5, g0, g1, g2, g3, g4, g5, l1, l2, l3, l5, p1, p2, p3, p4, p5, sn_0, sn_9, at_0, at_9, fl_sn, fl_at, fl_usn, fl_uat, fl_a, fl_ua, uF, reduceIte, Nat.reduceEqDiff, true_or, or_true, Int.reduceLE, Int.reduceLT, wr_s, wn_1, wn_2, wn_5, wn_6, wn_8, wn_12, wn_14, wn_18, wn_24, wn_30, wn_32, wn_38, wn_44, uR_at, h31]
          refine ⟨fun _ => ?_, fun h => absurd (by omega) h⟩
          refine tG_at hd kMod_handsOn_131 ?_
          simp (disch := omega) only [bMod_handsOn_131, rn, sm, lg, lt_, cmpP, tk, pr_, pu, swl, cs, Nat.reduceAdd, Nat.reduceLeDiff, Nat.zero_le, Nat.le_refl, true_and, and_true, Int.toNat_natCast, Int.reduceToNat, Int.reduceEq, false_implies, true_implies, Int.reduceNeg, Int.cast_ofNat_Int, mS_0, mS_1, mS_2, mS_3, mS_4, mS_5, mS_u0, mS_u1, mS_u2, mS_u3, mS_u4, mS_u5, g0, g1, g2, g3, g4, g5, l1, l2, l3, l5, p1, p2, p3, p4, p5, sn_0, sn_9, at_0, at_9, fl_sn, fl_at, fl_usn, fl_uat, fl_a, fl_ua, uF, reduceIte, Nat.reduceEqDiff, true_or, or_true, Int.reduceLE, Int.reduceLT, wr_s, wn_1, wn_2, wn_5, wn_6, wn_8, wn_12, wn_14, wn_18, wn_24, wn_30, wn_32, wn_38, wn_44, uR_at]
          refine c_takesOut (by omega) hM hm6 (L := L2) (by rw [uR_at]; exact h31) (by omega) (by omega) ?_
          rw [uR_at, uR_uR]
          generalize hx : b2 (38 + hndk b2) = x at hq ⊢
          unfold hnd5 at hq
          generalize outR b2 (hndk b2) = b3 at hQ3 hq ⊢
          refine tG_at hd kMod_handsOn_147 ?_
          simp (disch := omega) only [bMod_handsOn_147, rn, sm, lg, lt_, cmpP, tk, pr_, pu, swl, cs, Nat.reduceAdd, Nat.reduceLeDiff, Nat.zero_le, Nat.le_refl, true_and, and_true, Int.toNat_natCast, Int.reduceToNat, Int.reduceEq, false_implies, true_implies, Int.reduceNeg, Int.cast_ofNat_Int, mS_0, mS_1, mS_2, mS_3, mS_4, mS_5, mS_u0, mS_u1, mS_u2, mS_u3, mS_u4, mS_u5, g0, g1, g2, g3, g4, g5, l1, l2, l3, l5, p1, p2, p3, p4, p5, sn_0, sn_9, at_0, at_9, fl_sn, fl_at, fl_usn, fl_uat, fl_a, fl_ua, uF, reduceIte, Nat.reduceEqDiff, true_or, or_true, Int.reduceLE, Int.reduceLT, wr_s, wn_1, wn_2, wn_5, wn_6, wn_8, wn_12, wn_14, wn_18, wn_24, wn_30, wn_32, wn_38, wn_44]
          refine tG_loop (fun i => [some (.inr (.inl M)), some (.inl (m : Int)), some (.inl ((hndk b2 : Nat) : Int)), some (.inl x), some (.inl (i : Int))]) (fun i V' => V' = mS V M F T (fl A (uR B m (wtP b3 i)) C) K S H) (L2 - 1) ?_ ?_ 0 _ (Nat.zero_le _) ?_
          · intro i V' hi hV k1
            subst hV
            have hw := hQ3.2.2.2 i hi
            refine tG_at hd kMod_handsOn_150 ?_
            simp (disch := omega) only [bMod_handsOn_150, rn, sm, lg, lt_, cmpP, tk, pr_, pu, swl, cs, Nat.reduceAdd, Nat.reduceLeDiff, Nat.zero_le, Nat.le_refl, true_and, and_true, Int.toNat_natCast, Int.reduceToNat, Int.reduceEq, false_implies, true_implies, Int.reduceNeg, Int.cast_ofNat_Int, mS_0, mS_1, mS_2, mS_3, mS_4, mS_5, mS_u0, mS_u1, mS_u2, mS_u3, mS_u4, mS_u5, g0, g1, g2, g3, g4, g5, l1, l2, l3, l5, p1, p2, p3, p4, p5, sn_0, sn_9, at_0, at_9, fl_sn, fl_at, fl_usn, fl_uat, fl_a, fl_ua, uF, reduceIte, Nat.reduceEqDiff, true_or, or_true, Int.reduceLE, Int.reduceLT, wr_s, wn_1, wn_2, wn_5, wn_6, wn_8, wn_12, wn_14, wn_18, wn_24, wn_30, wn_32, wn_38, wn_44, uR_at, wtP_31, hQ3.1]
            refine ⟨fun h => absurd h (by omega), fun _ => ?_⟩
            have e9 : wr (b3 (44 + i) + 1) = b3 (44 + i) + 1 := wr_i (by omega) (by omega)
            refine tG_at hd kMod_handsOn_162 ?_
            simp (disch := omega) only [bMod_handsOn_162, rn, sm, lg, lt_, cmpP, tk, pr_, pu, swl, cs, Nat.reduceAdd, Nat.reduceLeDiff, Nat.zero_le, Nat.le_refl, true_and, and_true, Int.toNat_natCast, Int.reduceToNat, Int.reduceEq, false_implies, true_implies, Int.reduceNeg, Int.cast_ofNat_Int, mS_0, mS_1, mS_2, mS_3, mS_4, mS_5, mS_u0, mS_u1, mS_u2, mS_u3, mS_u4, mS_u5, g0, g1, g2, g3, g4, g5, l1, l2, l3, l5, p1, p2, p3, p4, p5, sn_0, sn_9, at_0, at_9, fl_sn, fl_at, fl_usn, fl_uat, fl_a, fl_ua, uF, reduceIte, Nat.reduceEqDiff, true_or, or_true, Int.reduceLE, Int.reduceLT, wr_s, wn_1, wn_2, wn_5, wn_6, wn_8, wn_12, wn_14, wn_18, wn_24, wn_30, wn_32, wn_38, wn_44, uR_at, u2_uR, wtP_ge, e9, wtP_s]
            exact k1 _ rfl
          · intro V' hV
            subst hV
            refine tG_at hd kMod_handsOn_150 ?_
            simp (disch := omega) only [bMod_handsOn_150, rn, sm, lg, lt_, cmpP, tk, pr_, pu, swl, cs, Nat.reduceAdd, Nat.reduceLeDiff, Nat.zero_le, Nat.le_refl, true_and, and_true, Int.toNat_natCast, Int.reduceToNat, Int.reduceEq, false_implies, true_implies, Int.reduceNeg, Int.cast_ofNat_Int, mS_0, mS_1, mS_2, mS_3, mS_4, mS_5, mS_u0, mS_u1, mS_u2, mS_u3, mS_u4, mS_u5, g0, g1, g2, g3, g4, g5, l1, l2, l3, l5, p1, p2, p3, p4, p5, sn_0, sn_9, at_0, at_9, fl_sn, fl_at, fl_usn, fl_uat, fl_a, fl_ua, uF, reduceIte, Nat.reduceEqDiff, true_or, or_true, Int.reduceLE, Int.reduceLT, wr_s, wn_1, wn_2, wn_5, wn_6, wn_8, wn_12, wn_14, wn_18, wn_24, wn_30, wn_32, wn_38, wn_44, uR_at, wtP_31, hQ3.1]
            refine ⟨fun _ => ?_, fun h => absurd (by omega) h⟩
            rw [wtP_f hQ3.1 (by omega)]
            refine tG_at hd kMod_handsOn_186 ?_
            simp (disch := omega) only [bMod_handsOn_186, rn, sm, lg, lt_, cmpP, tk, pr_, pu, swl, cs, Nat.reduceAdd, Nat.reduceLeDiff, Nat.zero_le, Nat.le_refl, true_and, and_true, Int.toNat_natCast, Int.reduceToNat, Int.reduceEq, false_implies, true_implies, Int.reduceNeg, Int.cast_ofNat_Int, mS_0, mS_1, mS_2, mS_3, mS_4, mS_5, mS_u0, mS_u1, mS_u2, mS_u3, mS_u4, mS_u5, g0, g1, g2, g3, g4, g5, l1, l2, l3, l5, p1, p2, p3, p4, p5, sn_0, sn_9, at_0, at_9, fl_sn, fl_at, fl_usn, fl_uat, fl_a, fl_ua, uF, reduceIte, Nat.reduceEqDiff, true_or, or_true, Int.reduceLE, Int.reduceLT, wr_s, wn_1, wn_2, wn_5, wn_6, wn_8, wn_12, wn_14, wn_18, wn_24, wn_30, wn_32, wn_38, wn_44]
            refine c_laysRow (by omega) hM hm6 ?_
            rw [uR_at, uR_uR]
            refine tG_at hd kMod_handsOn_191 ?_
            simp (disch := omega) only [bMod_handsOn_191, rn, sm, lg, lt_, cmpP, tk, pr_, pu, swl, cs, Nat.reduceAdd, Nat.reduceLeDiff, Nat.zero_le, Nat.le_refl, true_and, and_true, Int.toNat_natCast, Int.reduceToNat, Int.reduceEq, false_implies, true_implies, Int.reduceNeg, Int.cast_ofNat_Int, mS_0, mS_1, mS_2, mS_3, mS_4, mS_5, mS_u0, mS_u1, mS_u2, mS_u3, mS_u4, mS_u5, g0, g1, g2, g3, g4, g5, l1, l2, l3, l5, p1, p2, p3, p4, p5, sn_0, sn_9, at_0, at_9, fl_sn, fl_at, fl_usn, fl_uat, fl_a, fl_ua, uF, reduceIte, Nat.reduceEqDiff, true_or, or_true, Int.reduceLE, Int.reduceLT, wr_s, wn_1, wn_2, wn_5, wn_6, wn_8, wn_12, wn_14, wn_18, wn_24, wn_30, wn_32, wn_38, wn_44, uR_at]
            refine c_sends (by omega) hM hk hk6 ?_
            generalize rowR (wtR b3) = b5 at hq ⊢
            have e8 : wr (((k + 1 : Nat) : Int) - 1) = (k : Int) := by
              rw [wr_id (by omega) (by omega)]
              omega
            refine tG_at hd kMod_handsOn_212 ?_
            simp (disch := omega) only [bMod_handsOn_212, rn, sm, lg, lt_, cmpP, tk, pr_, pu, swl, cs, Nat.reduceAdd, Nat.reduceLeDiff, Nat.zero_le, Nat.le_refl, true_and, and_true, Int.toNat_natCast, Int.reduceToNat, Int.reduceEq, false_implies, true_implies, Int.reduceNeg, Int.cast_ofNat_Int, mS_0, mS_1, mS_2, mS_3, mS_4, mS_5, mS_u0, mS_u1, mS_u2, mS_u3, mS_u4, mS_u5, g0, g1, g2, g3, g4, g5, l1, l2, l3, l5, p1, p2, p3, p4, p5, sn_0, sn_9, at_0, at_9, fl_sn, fl_at, fl_usn, fl_uat, fl_a, fl_ua, uF, reduceIte, Nat.reduceEqDiff, true_or, or_true, Int.reduceLE, Int.reduceLT, wr_s, wn_1, wn_2, wn_5, wn_6, wn_8, wn_12, wn_14, wn_18, wn_24, wn_30, wn_32, wn_38, wn_44]
            refine tG_loop (fun i => [some (.inr (.inl M)), some (.inl (m : Int)), some (.inl ((hndk b2 : Nat) : Int)), some (.inl x), some (.inl (i : Int))]) (fun i V' => V' = mS V M F T (fl (u1 A 5 ((k + 1 : Nat) : Int)) (uR B m b5) (uR C k (mrP (m : Int) x 1 (b5 30) (b5 31) (fun i => b5 (30 + i)) i))) K S H) 20 ?_ ?_ 0 _ (Nat.zero_le _) ?_
            · intro i V' hi hV k1
              subst hV
              refine tG_at hd kMod_handsOn_215 ?_
              simp only [bMod_handsOn_215, rn, sm, lg, lt_, cmpP, tk, pr_, pu, swl, cs, Nat.reduceAdd, Nat.reduceLeDiff, Nat.zero_le, Nat.le_refl, true_and, and_true, Int.toNat_natCast, Int.reduceToNat, Int.reduceEq, false_implies, true_implies, Int.reduceNeg, Int.cast_ofNat_Int]
              refine ⟨fun h => absurd h (by omega), fun _ => ?_⟩
              refine tG_at hd kMod_handsOn_222 ?_
              simp (disch := omega) only [bMod_handsOn_222, rn, sm, lg, lt_, cmpP, tk, pr_, pu, swl, cs, Nat.reduceAdd, Nat.reduceLeDiff, Nat.zero_le, Nat.le_refl, true_and, and_true, Int.toNat_natCast, Int.reduceToNat, Int.reduceEq, false_implies, true_implies, Int.reduceNeg, Int.cast_ofNat_Int, mS_0, mS_1, mS_2, mS_3, mS_4, mS_5, mS_u0, mS_u1, mS_u2, mS_u3, mS_u4, mS_u5, g0, g1, g2, g3, g4, g5, l1, l2, l3, l5, p1, p2, p3, p4, p5, sn_0, sn_9, at_0, at_9, fl_sn, fl_at, fl_usn, fl_uat, fl_a, fl_ua, uF, reduceIte, Nat.reduceEqDiff, true_or, or_true, Int.reduceLE, Int.reduceLT, wr_s, wn_1, wn_2, wn_5, wn_6, wn_8, wn_12, wn_14, wn_18, wn_24, wn_30, wn_32, wn_38, wn_44, uR_at, u2_uR, u1_at, e8]
              refine k1 _ ?_
              rw [← mrP_s hi]
            · intro V' hV
              subst hV
              refine tG_at hd kMod_handsOn_215 ?_
              simp only [bMod_handsOn_215, rn, sm, lg, lt_, cmpP, tk, pr_, pu, swl, cs, Nat.reduceAdd, Nat.reduceLeDiff, Nat.zero_le, Nat.le_refl, true_and, and_true, Int.toNat_natCast, Int.reduceToNat, Int.reduceEq, false_implies, true_implies, Int.reduceNeg, Int.cast_ofNat_Int]
              refine ⟨fun _ => ?_, fun h => absurd (show ¬ ((20 : Nat) : Int) < 20 by omega) h⟩
              refine tG_at hd kMod_handsOn_258 ?_
              simp (disch := omega) only [bMod_handsOn_258, rn, sm, lg, lt_, cmpP, tk, pr_, pu, swl, cs, Nat.reduceAdd, Nat.reduceLeDiff, Nat.zero_le, Nat.le_refl, true_and, and_true, Int.toNat_natCast, Int.reduceToNat, Int.reduceEq, false_implies, true_implies, Int.reduceNeg, Int.cast_ofNat_Int, mS_0, mS_1, mS_2, mS_3, mS_4, mS_5, mS_u0, mS_u1, mS_u2, mS_u3, mS_u4, mS_u5, g0, g1, g2, g3, g4, g5, l1, l2, l3, l5, p1, p2, p3, p4, p5, sn_0, sn_9, at_0, at_9, fl_sn, fl_at, fl_usn, fl_uat, fl_a, fl_ua, uF, reduceIte, Nat.reduceEqDiff, true_or, or_true, Int.reduceLE, Int.reduceLT, wr_s, wn_1, wn_2, wn_5, wn_6, wn_8, wn_12, wn_14, wn_18, wn_24, wn_30, wn_32, wn_38, wn_44]
              refine c_loses (by omega) hM hm6 ?_
              rw [uR_at, uR_uR]
              refine tG_at hd kMod_handsOn_263 ?_
              simp (disch := omega) only [bMod_handsOn_263, rn, sm, lg, lt_, cmpP, tk, pr_, pu, swl, cs, Nat.reduceAdd, Nat.reduceLeDiff, Nat.zero_le, Nat.le_refl, true_and, and_true, Int.toNat_natCast, Int.reduceToNat, Int.reduceEq, false_implies, true_implies, Int.reduceNeg, Int.cast_ofNat_Int, mS_0, mS_1, mS_2, mS_3, mS_4, mS_5, mS_u0, mS_u1, mS_u2, mS_u3, mS_u4, mS_u5, g0, g1, g2, g3, g4, g5, l1, l2, l3, l5, p1, p2, p3, p4, p5, sn_0, sn_9, at_0, at_9, fl_sn, fl_at, fl_usn, fl_uat, fl_a, fl_ua, uF, reduceIte, Nat.reduceEqDiff, true_or, or_true, Int.reduceLE, Int.reduceLT, wr_s, wn_1, wn_2, wn_5, wn_6, wn_8, wn_12, wn_14, wn_18, wn_24, wn_30, wn_32, wn_38, wn_44]
              rw [fl_rc (s := mrow (m : Int) x 1 (b5 30) (b5 31) (fun i => b5 (30 + i)))]
              · exact hq
              · intro j hj
                unfold mrP
                split
                · next h =>
                  obtain ⟨j', rfl⟩ : ∃ j', j = j' + 5 := ⟨j - 5, by omega⟩
                  simp [mrow]
                  omega
                · rfl
            · rw [fl_rc (s := mrP (m : Int) x 1 (b5 30) (b5 31) (fun i => b5 (30 + i)) 0)]
              intro j hj
              unfold mrP
              match j with
              | 0 => rfl
              | 1 => rfl
              | 2 => rfl
              | 3 => rfl
              | 4 => rfl
              | j + 5 =>
                rw [if_pos (by omega)]
                simp [mrow]
          · rw [show wtP b3 0 = b3 from funext fun j => if_neg (by omega)]
  refine tC_enter (nL := 5) (by decide +kernel) (by decide +kernel) rfl (Nat.le_of_ble_eq_true rfl) (fun hok => ?_)
  simp only [ent]
  refine tG_at hd kMod_handsOn_0 ?_
  simp (disch := omega) only [bMod_handsOn_0, rn, sm, lg, lt_, cmpP, tk, pr_, pu, swl, cs, Nat.reduceAdd, Nat.reduceLeDiff, Nat.zero_le, Nat.le_refl, true_and, and_true, Int.toNat_natCast, Int.reduceToNat, Int.reduceEq, false_implies, true_implies, Int.reduceNeg, Int.cast_ofNat_Int, mS_0, mS_1, mS_2, mS_3, mS_4, mS_5, mS_u0, mS_u1, mS_u2, mS_u3, mS_u4, mS_u5, g0, g1, g2, g3, g4, g5, l1, l2, l3, l5, p1, p2, p3, p4, p5, sn_0, sn_9, at_0, at_9, fl_sn, fl_at, fl_usn, fl_uat, fl_a, fl_ua, uF, reduceIte, Nat.reduceEqDiff, true_or, or_true, Int.reduceLE, Int.reduceLT, wr_s, wn_1, wn_2, wn_5, wn_6, wn_8, wn_12, wn_14, wn_18, wn_24, wn_30, wn_32, wn_38, wn_44]
  refine c_placeIn (by omega) hM hm6 (by rw [hb31]; omega) (by rw [hb31]; omega) ?_
  refine tG_at hd kMod_handsOn_6 ?_
  simp only [bMod_handsOn_6, rn, sm, lg, lt_, cmpP, tk, pr_, pu, swl, cs, Nat.reduceAdd, Nat.reduceLeDiff, Nat.zero_le, Nat.le_refl, true_and, and_true, Int.toNat_natCast, Int.reduceToNat, Int.reduceEq, false_implies, true_implies, Int.reduceNeg, Int.cast_ofNat_Int]
  refine ⟨fun h => ?_, fun h => ?_⟩
  · have k21 := k21 _ rfl
    unfold hnd1 at k21
    rw [if_pos h, uR_eq] at k21
    exact k21
  · refine tG_at hd kMod_handsOn_10 ?_
    simp (disch := omega) only [bMod_handsOn_10, rn, sm, lg, lt_, cmpP, tk, pr_, pu, swl, cs, Nat.reduceAdd, Nat.reduceLeDiff, Nat.zero_le, Nat.le_refl, true_and, and_true, Int.toNat_natCast, Int.reduceToNat, Int.reduceEq, false_implies, true_implies, Int.reduceNeg, Int.cast_ofNat_Int, mS_0, mS_1, mS_2, mS_3, mS_4, mS_5, mS_u0, mS_u1, mS_u2, mS_u3, mS_u4, mS_u5, g0, g1, g2, g3, g4, g5, l1, l2, l3, l5, p1, p2, p3, p4, p5, sn_0, sn_9, at_0, at_9, fl_sn, fl_at, fl_usn, fl_uat, fl_a, fl_ua, uF, reduceIte, Nat.reduceEqDiff, true_or, or_true, Int.reduceLE, Int.reduceLT, wr_s, wn_1, wn_2, wn_5, wn_6, wn_8, wn_12, wn_14, wn_18, wn_24, wn_30, wn_32, wn_38, wn_44]
    refine c_placeIn (by omega) hM hm6 (by rw [hb31]; omega) (by rw [hb31]; omega) ?_
    rcases plc_spec hb31 (m : Int) with ⟨g1, g2⟩ | ⟨i, g1, g2, g3⟩
    · exact absurd g1 h
    · rw [g2]
      refine tG_at hd kMod_handsOn_18 ?_
      simp (disch := omega) only [bMod_handsOn_18, rn, sm, lg, lt_, cmpP, tk, pr_, pu, swl, cs, Nat.reduceAdd, Nat.reduceLeDiff, Nat.zero_le, Nat.le_refl, true_and, and_true, Int.toNat_natCast, Int.reduceToNat, Int.reduceEq, false_implies, true_implies, Int.reduceNeg, Int.cast_ofNat_Int, mS_0, mS_1, mS_2, mS_3, mS_4, mS_5, mS_u0, mS_u1, mS_u2, mS_u3, mS_u4, mS_u5, g0, g1, g2, g3, g4, g5, l1, l2, l3, l5, p1, p2, p3, p4, p5, sn_0, sn_9, at_0, at_9, fl_sn, fl_at, fl_usn, fl_uat, fl_a, fl_ua, uF, reduceIte, Nat.reduceEqDiff, true_or, or_true, Int.reduceLE, Int.reduceLT, wr_s, wn_1, wn_2, wn_5, wn_6, wn_8, wn_12, wn_14, wn_18, wn_24, wn_30, wn_32, wn_38, wn_44]
      refine c_takesOut (by omega) hM hm6 hb31 hL6 g1 ?_
      refine k21 _ ?_
      unfold hnd1
      rw [if_neg h, g2, Int.toNat_natCast]
end MD
