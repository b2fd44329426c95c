section MD
variable {w : WP} {d : Nat} {Γ : GM} {V : VH} {Q : QT} {M : Nat} {F T K S H : Nat → Int} {h c : Int} {n k W : Nat} {X : NT}
theorem wr_p {x : Int} (h1 : 0 ≤ x) (h2 : x ≤ 2000000000) : wr (x - 1) = x - 1 := wr_id (by omega) (by omega)
theorem c_asks (hd6 : 6 ≤ d) (hM : ML Γ M F) {x y : Int} (g : GJ n k W X)
    (hq : ∀ h' c', Q (some (.inl (actF n k 0 x y X).1)) Γ (mS V M (FF F h' c') T (fl (actF n k 0 x y X).2.1 (actF n k 0 x y X).2.2.1 (actF n k 0 x y X).2.2.2) K S H)) :
    tC w d nMod_asks [.inr (.inl M), .inl x] Γ (mS V M (FF F h c) T (fl X.1 X.2.1 X.2.2) K S H) Q := by
  have hd : 4 ≤ d := by omega
  obtain ⟨A, B, C⟩ := X
  have hA := g.1.A
  obtain ⟨n0, n5, hn2, hn6, hk41, hW⟩ := hA
  have rows := fun {i : Nat} (hi : i < n) => g.1.row hi
  dsimp only at *
  obtain ⟨⟨g0, g1, g2, g3, g4, g5⟩, ⟨l1, l2, l3, -, l5⟩, p1, p2, p3, p4, p5⟩ := id hM
  refine tC_enter (nL := 2) (by decide +kernel) (by decide +kernel) rfl (Nat.le_of_ble_eq_true rfl) (fun hok => ?_)
  simp only [ent]
  refine tG_at hd kMod_asks_0 ?_
  simp (disch := omega) only [bMod_asks_0, rn, sm, lg, lt_, cmpP, tk, pr_, pu, swl, cs, Nat.reduceAdd, Nat.reduceLeDiff, Nat.zero_le, Nat.le_refl, true_and, and_true, Int.toNat_natCast, Int.reduceToNat, Int.reduceEq, false_implies, true_implies, Int.reduceNeg, Int.cast_ofNat_Int, mS_0, mS_1, mS_2, mS_3, mS_4, mS_5, mS_u0, mS_u1, mS_u2, mS_u3, mS_u4, mS_u5, g0, g1, g2, g3, g4, g5, l1, l2, l3, l5, p1, p2, p3, p4, p5, sn_0, sn_9, at_0, at_9, fl_sn, fl_at, fl_usn, fl_uat, fl_a, fl_ua, reduceIte, Nat.reduceEqDiff, true_or, or_true, Int.reduceLE, Int.reduceLT, wr_s, wn_1, wn_2, wn_5, wn_6, wn_8, wn_12, wn_14, wn_18, wn_24, wn_30, wn_32, wn_38, wn_44, FF_15, FF_16, FF_u, FF_ne, FF_r15, FF_r16, uF_at, uF_ne, not_true_eq_false, not_false_eq_true, implies_true, n0, wr_p]
  by_cases hx : 0 ≤ x ∧ x ≤ (n : Int) - 1
  · rw [bi_1 hx]
    refine ⟨fun _ => ?_, fun h => absurd (by decide) h⟩
    obtain ⟨m, rfl⟩ : ∃ m : Nat, x = (m : Int) := ⟨x.toNat, by omega⟩
    have hm : m < n := by omega
    obtain ⟨i1, i2, i3, i4, i5, i6, i7, i8, i9, -⟩ := rows hm
    have hs := i6 m (by omega)
    have hF : actF n k 0 (m : Int) y (A, B, C) = ((askF n m (A, B, C) 0 0).1, (askF n m (A, B, C) 0 0).2.1) := by
      unfold actF
      rw [if_pos rfl, if_pos (by omega), Int.toNat_natCast]
    rw [hF] at hq
    have busy : (B m 2 = 1 ∨ B m 3 = 1) → tG w d nMod_asks 30 [some (.inr (.inl M)), some (.inl (m : Int))] [] Γ (mS V M (FF F h c) T (fl A B C) K S H) 0 0 Q := by
      intro hb
      have hF : askF n m (A, B, C) 0 0 = (-2, (A, B, C), 0, 0) := if_pos hb
      rw [hF] at hq
      refine tG_at hd kMod_asks_30 ?_
      simp only [bMod_asks_30, rn, sm, lg, lt_, cmpP, tk, pr_, pu, swl, cs, Nat.reduceAdd, Nat.reduceLeDiff, Nat.zero_le, Nat.le_refl, true_and, and_true, Int.toNat_natCast, Int.reduceToNat, Int.reduceEq, false_implies, true_implies, Int.reduceNeg, Int.cast_ofNat_Int]
      exact hq _ _
    refine tG_at hd kMod_asks_10 ?_
    simp (disch := omega) only [bMod_asks_10, rn, sm, lg, lt_, cmpP, tk, pr_, pu, swl, cs, Nat.reduceAdd, Nat.reduceLeDiff, Nat.zero_le, Nat.le_refl, true_and, and_true, Int.toNat_natCast, Int.reduceToNat, Int.reduceEq, false_implies, true_implies, Int.reduceNeg, Int.cast_ofNat_Int, mS_0, mS_1, mS_2, mS_3, mS_4, mS_5, mS_u0, mS_u1, mS_u2, mS_u3, mS_u4, mS_u5, g0, g1, g2, g3, g4, g5, l1, l2, l3, l5, p1, p2, p3, p4, p5, sn_0, sn_9, at_0, at_9, fl_sn, fl_at, fl_usn, fl_uat, fl_a, fl_ua, reduceIte, Nat.reduceEqDiff, true_or, or_true, Int.reduceLE, Int.reduceLT, wr_s, wn_1, wn_2, wn_5, wn_6, wn_8, wn_12, wn_14, wn_18, wn_24, wn_30, wn_32, wn_38, wn_44, FF_15, FF_16, FF_u, FF_ne, FF_r15, FF_r16, uF_at, uF_ne, not_true_eq_false, not_false_eq_true, implies_true]
    refine ⟨fun hz => busy (Or.inl hz), fun hz2 => ?_⟩
    refine tG_at hd kMod_asks_20 ?_
    simp (disch := omega) only [bMod_asks_20, rn, sm, lg, lt_, cmpP, tk, pr_, pu, swl, cs, Nat.reduceAdd, Nat.reduceLeDiff, Nat.zero_le, Nat.le_refl, true_and, and_true, Int.toNat_natCast, Int.reduceToNat, Int.reduceEq, false_implies, true_implies, Int.reduceNeg, Int.cast_ofNat_Int, mS_0, mS_1, mS_2, mS_3, mS_4, mS_5, mS_u0, mS_u1, mS_u2, mS_u3, mS_u4, mS_u5, g0, g1, g2, g3, g4, g5, l1, l2, l3, l5, p1, p2, p3, p4, p5, sn_0, sn_9, at_0, at_9, fl_sn, fl_at, fl_usn, fl_uat, fl_a, fl_ua, reduceIte, Nat.reduceEqDiff, true_or, or_true, Int.reduceLE, Int.reduceLT, wr_s, wn_1, wn_2, wn_5, wn_6, wn_8, wn_12, wn_14, wn_18, wn_24, wn_30, wn_32, wn_38, wn_44, FF_15, FF_16, FF_u, FF_ne, FF_r15, FF_r16, uF_at, uF_ne, not_true_eq_false, not_false_eq_true, implies_true]
    refine ⟨fun hz3 => ?_, fun hz => busy (Or.inr (Decidable.not_not.mp hz))⟩
    have go : ¬ (¬ 0 < B m 30 ∧ 40 < A 5 + n - 1) → tG w d nMod_asks 64 [some (.inr (.inl M)), some (.inl (m : Int))] [] Γ (mS V M (FF F h c) T (fl A B C) K S H) 0 0 Q := by
      intro hfull
      refine tG_at hd kMod_asks_64 ?_
      simp (disch := omega) only [bMod_asks_64, rn, sm, lg, lt_, cmpP, tk, pr_, pu, swl, cs, Nat.reduceAdd, Nat.reduceLeDiff, Nat.zero_le, Nat.le_refl, true_and, and_true, Int.toNat_natCast, Int.reduceToNat, Int.reduceEq, false_implies, true_implies, Int.reduceNeg, Int.cast_ofNat_Int, mS_0, mS_1, mS_2, mS_3, mS_4, mS_5, mS_u0, mS_u1, mS_u2, mS_u3, mS_u4, mS_u5, g0, g1, g2, g3, g4, g5, l1, l2, l3, l5, p1, p2, p3, p4, p5, sn_0, sn_9, at_0, at_9, fl_sn, fl_at, fl_usn, fl_uat, fl_a, fl_ua, reduceIte, Nat.reduceEqDiff, true_or, or_true, Int.reduceLE, Int.reduceLT, wr_s, wn_1, wn_2, wn_5, wn_6, wn_8, wn_12, wn_14, wn_18, wn_24, wn_30, wn_32, wn_38, wn_44, FF_15, FF_16, FF_u, FF_ne, FF_r15, FF_r16, uF_at, uF_ne, not_true_eq_false, not_false_eq_true, implies_true, u2_is, uR_at, u1_ne, u1_at, wr_i]
      by_cases hb : 0 < B m 30
      · have hF : askF n m (A, B, C) 0 0 = (B m (6 + m) + 1, (A, uR B m (comR (u1 (B m) (6 + m) (B m (6 + m) + 1))), C), 0, (m : Int)) := by
          unfold askF
          rw [if_neg (fun h => h.elim hz2 hz3), if_neg hfull, if_pos hb]
        rw [hF] at hq
        rw [bi_1 hb]
        refine ⟨fun h => absurd h (by decide), fun _ => ?_⟩
        refine tG_at hd kMod_asks_89 ?_
        simp (disch := omega) only [bMod_asks_89, rn, sm, lg, lt_, cmpP, tk, pr_, pu, swl, cs, Nat.reduceAdd, Nat.reduceLeDiff, Nat.zero_le, Nat.le_refl, true_and, and_true, Int.toNat_natCast, Int.reduceToNat, Int.reduceEq, false_implies, true_implies, Int.reduceNeg, Int.cast_ofNat_Int, mS_0, mS_1, mS_2, mS_3, mS_4, mS_5, mS_u0, mS_u1, mS_u2, mS_u3, mS_u4, mS_u5, g0, g1, g2, g3, g4, g5, l1, l2, l3, l5, p1, p2, p3, p4, p5, sn_0, sn_9, at_0, at_9, fl_sn, fl_at, fl_usn, fl_uat, fl_a, fl_ua, reduceIte, Nat.reduceEqDiff, true_or, or_true, Int.reduceLE, Int.reduceLT, wr_s, wn_1, wn_2, wn_5, wn_6, wn_8, wn_12, wn_14, wn_18, wn_24, wn_30, wn_32, wn_38, wn_44, FF_15, FF_16, FF_u, FF_ne, FF_r15, FF_r16, uF_at, uF_ne, not_true_eq_false, not_false_eq_true, implies_true]
        refine c_comes (by omega) hM.FF (by omega) ?_
        rw [FF_16, uR_uR, uR_at]
        refine tG_at hd kMod_asks_94 ?_
        simp only [bMod_asks_94, rn, sm, lg, lt_, cmpP, tk, pr_, pu, swl, cs, Nat.reduceAdd, Nat.reduceLeDiff, Nat.zero_le, Nat.le_refl, true_and, and_true, Int.toNat_natCast, Int.reduceToNat, Int.reduceEq, false_implies, true_implies, Int.reduceNeg, Int.cast_ofNat_Int]
        refine tG_at hd kMod_asks_132 ?_
        simp (disch := omega) only [bMod_asks_132, rn, sm, lg, lt_, cmpP, tk, pr_, pu, swl, cs, Nat.reduceAdd, Nat.reduceLeDiff, Nat.zero_le, Nat.le_refl, true_and, and_true, Int.toNat_natCast, Int.reduceToNat, Int.reduceEq, false_implies, true_implies, Int.reduceNeg, Int.cast_ofNat_Int, mS_0, mS_1, mS_2, mS_3, mS_4, mS_5, mS_u0, mS_u1, mS_u2, mS_u3, mS_u4, mS_u5, g0, g1, g2, g3, g4, g5, l1, l2, l3, l5, p1, p2, p3, p4, p5, sn_0, sn_9, at_0, at_9, fl_sn, fl_at, fl_usn, fl_uat, fl_a, fl_ua, reduceIte, Nat.reduceEqDiff, true_or, or_true, Int.reduceLE, Int.reduceLT, wr_s, wn_1, wn_2, wn_5, wn_6, wn_8, wn_12, wn_14, wn_18, wn_24, wn_30, wn_32, wn_38, wn_44, FF_15, FF_16, FF_u, FF_ne, FF_r15, FF_r16, uF_at, uF_ne, not_true_eq_false, not_false_eq_true, implies_true, uR_at, u1_ne, u1_at]
        exact hq _ _
      · have hF : askF n m (A, B, C) 0 0 = (B m (6 + m) + 1, ((saF m 0 (B m (6 + m) + 1) (B m (12 + m)) n A C).1, uR B m (u1 (u1 (B m) (6 + m) (B m (6 + m) + 1)) 2 1), (saF m 0 (B m (6 + m) + 1) (B m (12 + m)) n A C).2), 0, 0) := by
          unfold askF
          rw [if_neg (fun h => h.elim hz2 hz3), if_neg hfull, if_neg hb]
        rw [hF] at hq
        rw [bi_0 hb]
        refine ⟨fun _ => ?_, fun h => absurd (by decide) h⟩
        refine tG_at hd kMod_asks_97 ?_
        simp (disch := omega) only [bMod_asks_97, rn, sm, lg, lt_, cmpP, tk, pr_, pu, swl, cs, Nat.reduceAdd, Nat.reduceLeDiff, Nat.zero_le, Nat.le_refl, true_and, and_true, Int.toNat_natCast, Int.reduceToNat, Int.reduceEq, false_implies, true_implies, Int.reduceNeg, Int.cast_ofNat_Int, mS_0, mS_1, mS_2, mS_3, mS_4, mS_5, mS_u0, mS_u1, mS_u2, mS_u3, mS_u4, mS_u5, g0, g1, g2, g3, g4, g5, l1, l2, l3, l5, p1, p2, p3, p4, p5, sn_0, sn_9, at_0, at_9, fl_sn, fl_at, fl_usn, fl_uat, fl_a, fl_ua, reduceIte, Nat.reduceEqDiff, true_or, or_true, Int.reduceLE, Int.reduceLT, wr_s, wn_1, wn_2, wn_5, wn_6, wn_8, wn_12, wn_14, wn_18, wn_24, wn_30, wn_32, wn_38, wn_44, FF_15, FF_16, FF_u, FF_ne, FF_r15, FF_r16, uF_at, uF_ne, not_true_eq_false, not_false_eq_true, implies_true, u2_uR, uR_at, u1_ne, u1_at]
        refine c_sendsAll (by omega) hM.FF n0 hn6 n5 (by omega) ?_
        refine tG_at hd kMod_asks_132 ?_
        simp (disch := omega) only [bMod_asks_132, rn, sm, lg, lt_, cmpP, tk, pr_, pu, swl, cs, Nat.reduceAdd, Nat.reduceLeDiff, Nat.zero_le, Nat.le_refl, true_and, and_true, Int.toNat_natCast, Int.reduceToNat, Int.reduceEq, false_implies, true_implies, Int.reduceNeg, Int.cast_ofNat_Int, mS_0, mS_1, mS_2, mS_3, mS_4, mS_5, mS_u0, mS_u1, mS_u2, mS_u3, mS_u4, mS_u5, g0, g1, g2, g3, g4, g5, l1, l2, l3, l5, p1, p2, p3, p4, p5, sn_0, sn_9, at_0, at_9, fl_sn, fl_at, fl_usn, fl_uat, fl_a, fl_ua, reduceIte, Nat.reduceEqDiff, true_or, or_true, Int.reduceLE, Int.reduceLT, wr_s, wn_1, wn_2, wn_5, wn_6, wn_8, wn_12, wn_14, wn_18, wn_24, wn_30, wn_32, wn_38, wn_44, FF_15, FF_16, FF_u, FF_ne, FF_r15, FF_r16, uF_at, uF_ne, not_true_eq_false, not_false_eq_true, implies_true, uR_at, u1_ne, u1_at]
        exact hq _ _
    refine tG_at hd kMod_asks_33 ?_
    simp (disch := omega) only [bMod_asks_33, rn, sm, lg, lt_, cmpP, tk, pr_, pu, swl, cs, Nat.reduceAdd, Nat.reduceLeDiff, Nat.zero_le, Nat.le_refl, true_and, and_true, Int.toNat_natCast, Int.reduceToNat, Int.reduceEq, false_implies, true_implies, Int.reduceNeg, Int.cast_ofNat_Int, mS_0, mS_1, mS_2, mS_3, mS_4, mS_5, mS_u0, mS_u1, mS_u2, mS_u3, mS_u4, mS_u5, g0, g1, g2, g3, g4, g5, l1, l2, l3, l5, p1, p2, p3, p4, p5, sn_0, sn_9, at_0, at_9, fl_sn, fl_at, fl_usn, fl_uat, fl_a, fl_ua, reduceIte, Nat.reduceEqDiff, true_or, or_true, Int.reduceLE, Int.reduceLT, wr_s, wn_1, wn_2, wn_5, wn_6, wn_8, wn_12, wn_14, wn_18, wn_24, wn_30, wn_32, wn_38, wn_44, FF_15, FF_16, FF_u, FF_ne, FF_r15, FF_r16, uF_at, uF_ne, not_true_eq_false, not_false_eq_true, implies_true]
    by_cases hb : 0 < B m 30
    · rw [bi_1 hb]
      exact ⟨fun _ => go (fun h => h.1 hb), fun h => absurd (by decide) h⟩
    · rw [bi_0 hb]
      refine ⟨fun h => absurd rfl h, fun _ => ?_⟩
      refine tG_at hd kMod_asks_41 ?_
      simp (disch := omega) only [bMod_asks_41, rn, sm, lg, lt_, cmpP, tk, pr_, pu, swl, cs, Nat.reduceAdd, Nat.reduceLeDiff, Nat.zero_le, Nat.le_refl, true_and, and_true, Int.toNat_natCast, Int.reduceToNat, Int.reduceEq, false_implies, true_implies, Int.reduceNeg, Int.cast_ofNat_Int, mS_0, mS_1, mS_2, mS_3, mS_4, mS_5, mS_u0, mS_u1, mS_u2, mS_u3, mS_u4, mS_u5, g0, g1, g2, g3, g4, g5, l1, l2, l3, l5, p1, p2, p3, p4, p5, sn_0, sn_9, at_0, at_9, fl_sn, fl_at, fl_usn, fl_uat, fl_a, fl_ua, reduceIte, Nat.reduceEqDiff, true_or, or_true, Int.reduceLE, Int.reduceLT, wr_s, wn_1, wn_2, wn_5, wn_6, wn_8, wn_12, wn_14, wn_18, wn_24, wn_30, wn_32, wn_38, wn_44, FF_15, FF_16, FF_u, FF_ne, FF_r15, FF_r16, uF_at, uF_ne, not_true_eq_false, not_false_eq_true, implies_true, n0, n5]
      rw [wr_id (x := (k : Int) + n) (by omega) (by omega), wr_id (by omega) (by omega)]
      refine ⟨fun hz => go (by omega), fun hz => ?_⟩
      have hF : askF n m (A, B, C) 0 0 = (-3, (A, B, C), 0, 0) := by
        unfold askF
        rw [if_neg (fun h => h.elim hz2 hz3)]
        exact if_pos ⟨hb, by show 40 < A 5 + (n : Int) - 1; omega⟩
      rw [hF] at hq
      refine tG_at hd kMod_asks_61 ?_
      simp only [bMod_asks_61, rn, sm, lg, lt_, cmpP, tk, pr_, pu, swl, cs, Nat.reduceAdd, Nat.reduceLeDiff, Nat.zero_le, Nat.le_refl, true_and, and_true, Int.toNat_natCast, Int.reduceToNat, Int.reduceEq, false_implies, true_implies, Int.reduceNeg, Int.cast_ofNat_Int]
      exact hq _ _
  · rw [bi_0 hx]
    refine ⟨fun h => absurd rfl h, fun _ => ?_⟩
    have hF : actF n k 0 x y (A, B, C) = (-1, (A, B, C)) := by
      unfold actF
      rw [if_pos rfl, if_neg (by omega)]
    rw [hF] at hq
    refine tG_at hd kMod_asks_8 ?_
    simp only [bMod_asks_8, rn, sm, lg, lt_, cmpP, tk, pr_, pu, swl, cs, Nat.reduceAdd, Nat.reduceLeDiff, Nat.zero_le, Nat.le_refl, true_and, and_true, Int.toNat_natCast, Int.reduceToNat, Int.reduceEq, false_implies, true_implies, Int.reduceNeg, Int.cast_ofNat_Int]
    exact hq _ _
theorem c_leavesTo (hd6 : 6 ≤ d) (hM : ML Γ M F) {x y : Int} (g : GJ n k W X)
    (hq : ∀ h' c', Q (some (.inl (actF n k 1 x y X).1)) Γ (mS V M (FF F h' c') T (fl (actF n k 1 x y X).2.1 (actF n k 1 x y X).2.2.1 (actF n k 1 x y X).2.2.2) K S H)) :
    tC w d nMod_leavesTo [.inr (.inl M), .inl x] Γ (mS V M (FF F h c) T (fl X.1 X.2.1 X.2.2) K S H) Q := by
  have hd : 4 ≤ d := by omega
  obtain ⟨A, B, C⟩ := X
  have hA := g.1.A
  obtain ⟨n0, n5, hn2, hn6, hk41, hW⟩ := hA
  have rows := fun {i : Nat} (hi : i < n) => g.1.row hi
  have hlv := fun {i : Nat} (hi : i < n) => hi
  dsimp only at *
  obtain ⟨⟨g0, g1, g2, g3, g4, g5⟩, ⟨l1, l2, l3, -, l5⟩, p1, p2, p3, p4, p5⟩ := id hM
  refine tC_enter (nL := 2) (by decide +kernel) (by decide +kernel) rfl (Nat.le_of_ble_eq_true rfl) (fun hok => ?_)
  simp only [ent]
  refine tG_at hd kMod_leavesTo_0 ?_
  simp (disch := omega) only [bMod_leavesTo_0, rn, sm, lg, lt_, cmpP, tk, pr_, pu, swl, cs, Nat.reduceAdd, Nat.reduceLeDiff, Nat.zero_le, Nat.le_refl, true_and, and_true, Int.toNat_natCast, Int.reduceToNat, Int.reduceEq, false_implies, true_implies, Int.reduceNeg, Int.cast_ofNat_Int, mS_0, mS_1, mS_2, mS_3, mS_4, mS_5, mS_u0, mS_u1, mS_u2, mS_u3, mS_u4, mS_u5, g0, g1, g2, g3, g4, g5, l1, l2, l3, l5, p1, p2, p3, p4, p5, sn_0, sn_9, at_0, at_9, fl_sn, fl_at, fl_usn, fl_uat, fl_a, fl_ua, reduceIte, Nat.reduceEqDiff, true_or, or_true, Int.reduceLE, Int.reduceLT, wr_s, wn_1, wn_2, wn_5, wn_6, wn_8, wn_12, wn_14, wn_18, wn_24, wn_30, wn_32, wn_38, wn_44, FF_15, FF_16, FF_u, FF_ne, FF_r15, FF_r16, uF_at, uF_ne, not_true_eq_false, not_false_eq_true, implies_true, n0, wr_p]
  have no : ¬ ((0 ≤ x ∧ x < n) ∧ B x.toNat 3 ≠ 0) → tG w d nMod_leavesTo 17 [some (.inr (.inl M)), some (.inl x)] [] Γ (mS V M (FF F h c) T (fl A B C) K S H) 0 0 Q := by
    intro hn
    have hF : actF n k 1 x y (A, B, C) = (-1, (A, B, C)) := by
      unfold actF
      rw [if_neg (by decide), if_pos rfl, if_neg hn]
    rw [hF] at hq
    refine tG_at hd kMod_leavesTo_17 ?_
    simp only [bMod_leavesTo_17, rn, sm, lg, lt_, cmpP, tk, pr_, pu, swl, cs, Nat.reduceAdd, Nat.reduceLeDiff, Nat.zero_le, Nat.le_refl, true_and, and_true, Int.toNat_natCast, Int.reduceToNat, Int.reduceEq, false_implies, true_implies, Int.reduceNeg, Int.cast_ofNat_Int]
    exact hq _ _
  by_cases hx : 0 ≤ x ∧ x ≤ (n : Int) - 1
  · rw [bi_1 hx]
    refine ⟨fun h => absurd h (by decide), fun _ => ?_⟩
    obtain ⟨m, rfl⟩ : ∃ m : Nat, x = (m : Int) := ⟨x.toNat, by omega⟩
    have hm : m < n := by omega
    have r0 := rows hm
    refine tG_at hd kMod_leavesTo_8 ?_
    simp (disch := omega) only [bMod_leavesTo_8, rn, sm, lg, lt_, cmpP, tk, pr_, pu, swl, cs, Nat.reduceAdd, Nat.reduceLeDiff, Nat.zero_le, Nat.le_refl, true_and, and_true, Int.toNat_natCast, Int.reduceToNat, Int.reduceEq, false_implies, true_implies, Int.reduceNeg, Int.cast_ofNat_Int, mS_0, mS_1, mS_2, mS_3, mS_4, mS_5, mS_u0, mS_u1, mS_u2, mS_u3, mS_u4, mS_u5, g0, g1, g2, g3, g4, g5, l1, l2, l3, l5, p1, p2, p3, p4, p5, sn_0, sn_9, at_0, at_9, fl_sn, fl_at, fl_usn, fl_uat, fl_a, fl_ua, reduceIte, Nat.reduceEqDiff, true_or, or_true, Int.reduceLE, Int.reduceLT, wr_s, wn_1, wn_2, wn_5, wn_6, wn_8, wn_12, wn_14, wn_18, wn_24, wn_30, wn_32, wn_38, wn_44, FF_15, FF_16, FF_u, FF_ne, FF_r15, FF_r16, uF_at, uF_ne, not_true_eq_false, not_false_eq_true, implies_true]
    refine ⟨fun hz => ?_, fun hz => no (fun h => hz h.2)⟩
    have a4 := g.1.1.2.2.2.2.1 4 (by omega) (by omega)
    dsimp only at a4
    obtain ⟨t, ht⟩ : ∃ t : Nat, A 4 = (t : Int) := ⟨(A 4).toNat, by omega⟩
    have hF : actF n k 1 (m : Int) y (A, B, C) = ((levF n m (A, B, C) 0 0).1, (levF n m (A, B, C) 0 0).2.1) := by
      unfold actF
      rw [if_neg (by decide), if_pos rfl, if_pos ⟨by omega, hz⟩, Int.toNat_natCast]
    rw [hF] at hq
    refine tG_at hd kMod_leavesTo_19 ?_
    simp (disch := omega) only [bMod_leavesTo_19, rn, sm, lg, lt_, cmpP, tk, pr_, pu, swl, cs, Nat.reduceAdd, Nat.reduceLeDiff, Nat.zero_le, Nat.le_refl, true_and, and_true, Int.toNat_natCast, Int.reduceToNat, Int.reduceEq, false_implies, true_implies, Int.reduceNeg, Int.cast_ofNat_Int, mS_0, mS_1, mS_2, mS_3, mS_4, mS_5, mS_u0, mS_u1, mS_u2, mS_u3, mS_u4, mS_u5, g0, g1, g2, g3, g4, g5, l1, l2, l3, l5, p1, p2, p3, p4, p5, sn_0, sn_9, at_0, at_9, fl_sn, fl_at, fl_usn, fl_uat, fl_a, fl_ua, reduceIte, Nat.reduceEqDiff, true_or, or_true, Int.reduceLE, Int.reduceLT, wr_s, wn_1, wn_2, wn_5, wn_6, wn_8, wn_12, wn_14, wn_18, wn_24, wn_30, wn_32, wn_38, wn_44, FF_15, FF_16, FF_u, FF_ne, FF_r15, FF_r16, uF_at, uF_ne, not_true_eq_false, not_false_eq_true, implies_true]
    refine c_leaves (by omega) hM.FF (by omega) ht (by omega) ?_
    refine tG_at hd kMod_leavesTo_24 ?_
    simp (disch := omega) only [bMod_leavesTo_24, rn, sm, lg, lt_, cmpP, tk, pr_, pu, swl, cs, Nat.reduceAdd, Nat.reduceLeDiff, Nat.zero_le, Nat.le_refl, true_and, and_true, Int.toNat_natCast, Int.reduceToNat, Int.reduceEq, false_implies, true_implies, Int.reduceNeg, Int.cast_ofNat_Int, mS_0, mS_1, mS_2, mS_3, mS_4, mS_5, mS_u0, mS_u1, mS_u2, mS_u3, mS_u4, mS_u5, g0, g1, g2, g3, g4, g5, l1, l2, l3, l5, p1, p2, p3, p4, p5, sn_0, sn_9, at_0, at_9, fl_sn, fl_at, fl_usn, fl_uat, fl_a, fl_ua, reduceIte, Nat.reduceEqDiff, true_or, or_true, Int.reduceLE, Int.reduceLT, wr_s, wn_1, wn_2, wn_5, wn_6, wn_8, wn_12, wn_14, wn_18, wn_24, wn_30, wn_32, wn_38, wn_44, FF_15, FF_16, FF_u, FF_ne, FF_r15, FF_r16, uF_at, uF_ne, not_true_eq_false, not_false_eq_true, implies_true, uR_at]
    by_cases hb : 0 < levR m (B m) 30
    · rw [bi_1 hb]
      refine ⟨fun h => absurd h (by decide), fun _ => ?_⟩
      have hF : ∀ h c, levF n m (A, B, C) h c = handF n m (u1 A 4 ((t + 1 : Nat) : Int), uR B m (levR m (B m)), C) h c := fun h c => by
        unfold levF
        dsimp only
        rw [if_pos hb, ht]
        rfl
      have hL1 : (levF n m (A, B, C) 0 0).1 = (levF n m (A, B, C) h c).1 := by
        rw [hF, hF]; unfold handF; split <;> rfl
      rw [levF_X (h' := h) (c' := c), hL1, hF] at hq
      refine tG_at hd kMod_leavesTo_32 ?_
      simp (disch := omega) only [bMod_leavesTo_32, rn, sm, lg, lt_, cmpP, tk, pr_, pu, swl, cs, Nat.reduceAdd, Nat.reduceLeDiff, Nat.zero_le, Nat.le_refl, true_and, and_true, Int.toNat_natCast, Int.reduceToNat, Int.reduceEq, false_implies, true_implies, Int.reduceNeg, Int.cast_ofNat_Int, mS_0, mS_1, mS_2, mS_3, mS_4, mS_5, mS_u0, mS_u1, mS_u2, mS_u3, mS_u4, mS_u5, g0, g1, g2, g3, g4, g5, l1, l2, l3, l5, p1, p2, p3, p4, p5, sn_0, sn_9, at_0, at_9, fl_sn, fl_at, fl_usn, fl_uat, fl_a, fl_ua, reduceIte, Nat.reduceEqDiff, true_or, or_true, Int.reduceLE, Int.reduceLT, wr_s, wn_1, wn_2, wn_5, wn_6, wn_8, wn_12, wn_14, wn_18, wn_24, wn_30, wn_32, wn_38, wn_44, FF_15, FF_16, FF_u, FF_ne, FF_r15, FF_r16, uF_at, uF_ne, not_true_eq_false, not_false_eq_true, implies_true]
      have r1 : rowI n W (levR m (B m)) := by
        obtain ⟨i1, i2, i3, i4, i5, i6, i7, i8, i9, L, q1, q2, q3, q4⟩ := r0
        have hs := i6 m (by omega)
        have hL := (show QI n W (B m) L from ⟨q1, q2, q3, q4⟩).len
        have hm6 : m < 6 := by omega
        have e : ∀ j, j ≠ 0 → j ≠ 3 → j ≠ 32 + m → levR m (B m) j = B m j := fun j h0 h3 h4 => by rw [levR_at hm6, if_neg h3, if_neg h0, if_neg (by omega)]
        have e0 : levR m (B m) 0 = B m (6 + m) := by rw [levR_at hm6, if_neg (by omega), if_pos rfl]
        have e3 : levR m (B m) 3 = 0 := by rw [levR_at hm6, if_pos rfl]
        refine ⟨by rw [e0]; omega, by rw [e _ (by omega) (by omega) (by omega)]; omega, by rw [e _ (by omega) (by omega) (by omega)]; exact i3, Or.inl e3, by rw [e _ (by omega) (by omega) (by omega)]; omega, fun j hj => by rw [e _ (by omega) (by omega) (by omega)]; have := i6 j hj; omega, fun j hj => by rw [e _ (by omega) (by omega) (by omega)]; exact i7 j hj, by rw [e _ (by omega) (by omega) (by omega)]; omega, fun j hj => ?_, L, by rw [e _ (by omega) (by omega) (by omega)]; exact q1, fun i hi => by rw [e _ (by omega) (by omega) (by omega)]; exact q2 i hi, fun i j hi hj => by rw [e _ (by omega) (by omega) (by omega), e _ (by omega) (by omega) (by omega)]; exact q3 i j hi hj, fun i hi => by rw [e _ (by omega) (by omega) (by omega)]; have := q4 i hi; omega⟩
        have := i9 j hj
        rw [levR_at hm6, if_neg (by omega), if_neg (by omega)]
        split <;> omega
      refine m_hand (by omega) hM (n := n) (k := k) (W := W) (by rw [u1_ne (by omega)]; exact n0) hn6 hm (by rw [u1_ne (by omega)]; exact n5) (by omega) (by rw [uR_at]; exact r1) (by omega) ?_
      refine tG_at hd kMod_leavesTo_37 ?_
      simp only [bMod_leavesTo_37, rn, sm, lg, lt_, cmpP, tk, pr_, pu, swl, cs, Nat.reduceAdd, Nat.reduceLeDiff, Nat.zero_le, Nat.le_refl, true_and, and_true, Int.toNat_natCast, Int.reduceToNat, Int.reduceEq, false_implies, true_implies, Int.reduceNeg, Int.cast_ofNat_Int]
      refine tG_at hd kMod_leavesTo_41 ?_
      simp only [bMod_leavesTo_41, rn, sm, lg, lt_, cmpP, tk, pr_, pu, swl, cs, Nat.reduceAdd, Nat.reduceLeDiff, Nat.zero_le, Nat.le_refl, true_and, and_true, Int.toNat_natCast, Int.reduceToNat, Int.reduceEq, false_implies, true_implies, Int.reduceNeg, Int.cast_ofNat_Int]
      exact hq _ _
    · rw [bi_0 hb]
      refine ⟨fun _ => ?_, fun h => absurd rfl h⟩
      have hF : levF n m (A, B, C) 0 0 = ((m : Int), (u1 A 4 ((t + 1 : Nat) : Int), uR B m (levR m (B m)), C), 0, 0) := by
        unfold levF
        dsimp only
        rw [if_neg hb, ht]
        rfl
      rw [hF] at hq
      refine tG_at hd kMod_leavesTo_40 ?_
      simp only [bMod_leavesTo_40, rn, sm, lg, lt_, cmpP, tk, pr_, pu, swl, cs, Nat.reduceAdd, Nat.reduceLeDiff, Nat.zero_le, Nat.le_refl, true_and, and_true, Int.toNat_natCast, Int.reduceToNat, Int.reduceEq, false_implies, true_implies, Int.reduceNeg, Int.cast_ofNat_Int]
      refine tG_at hd kMod_leavesTo_41 ?_
      simp only [bMod_leavesTo_41, rn, sm, lg, lt_, cmpP, tk, pr_, pu, swl, cs, Nat.reduceAdd, Nat.reduceLeDiff, Nat.zero_le, Nat.le_refl, true_and, and_true, Int.toNat_natCast, Int.reduceToNat, Int.reduceEq, false_implies, true_implies, Int.reduceNeg, Int.cast_ofNat_Int]
      exact hq _ _
  · rw [bi_0 hx]
    exact ⟨fun _ => no (by omega), fun h => absurd rfl h⟩
theorem c_suspects (hd6 : 6 ≤ d) (hM : ML Γ M F) {x y : Int} (g : GJ n k W X)
    (hq : ∀ h' c', Q (some (.inl (actF n k 2 x y X).1)) Γ (mS V M (FF F h' c') T (fl (actF n k 2 x y X).2.1 (actF n k 2 x y X).2.2.1 (actF n k 2 x y X).2.2.2) K S H)) :
    tC w d nMod_suspects [.inr (.inl M), .inl x] Γ (mS V M (FF F h c) T (fl X.1 X.2.1 X.2.2) K S H) Q := by
  have hd : 4 ≤ d := by omega
  obtain ⟨A, B, C⟩ := X
  have hA := g.1.A
  obtain ⟨n0, n5, hn2, hn6, hk41, hW⟩ := hA
  have rows := fun {i : Nat} (hi : i < n) => g.1.row hi
  dsimp only at *
  obtain ⟨⟨g0, g1, g2, g3, g4, g5⟩, ⟨l1, l2, l3, -, l5⟩, p1, p2, p3, p4, p5⟩ := id hM
  refine tC_enter (nL := 3) (by decide +kernel) (by decide +kernel) rfl (Nat.le_of_ble_eq_true rfl) (fun hok => ?_)
  simp only [ent]
  refine tG_at hd kMod_suspects_0 ?_
  simp (disch := omega) only [bMod_suspects_0, rn, sm, lg, lt_, cmpP, tk, pr_, pu, swl, cs, Nat.reduceAdd, Nat.reduceLeDiff, Nat.zero_le, Nat.le_refl, true_and, and_true, Int.toNat_natCast, Int.reduceToNat, Int.reduceEq, false_implies, true_implies, Int.reduceNeg, Int.cast_ofNat_Int, mS_0, mS_1, mS_2, mS_3, mS_4, mS_5, mS_u0, mS_u1, mS_u2, mS_u3, mS_u4, mS_u5, g0, g1, g2, g3, g4, g5, l1, l2, l3, l5, p1, p2, p3, p4, p5, sn_0, sn_9, at_0, at_9, fl_sn, fl_at, fl_usn, fl_uat, fl_a, fl_ua, reduceIte, Nat.reduceEqDiff, true_or, or_true, Int.reduceLE, Int.reduceLT, wr_s, wn_1, wn_2, wn_5, wn_6, wn_8, wn_12, wn_14, wn_18, wn_24, wn_30, wn_32, wn_38, wn_44, FF_15, FF_16, FF_u, FF_ne, FF_r15, FF_r16, uF_at, uF_ne, not_true_eq_false, not_false_eq_true, implies_true, n0, wr_p]
  by_cases hx : 0 ≤ x ∧ x ≤ (n : Int) - 1
  · rw [bi_1 hx]
    refine ⟨fun _ => ?_, fun h => absurd (by decide) h⟩
    obtain ⟨m, rfl⟩ : ∃ m : Nat, x = (m : Int) := ⟨x.toNat, by omega⟩
    have hm : m < n := by omega
    obtain ⟨i1, i2, i3, i4, i5, i6, i7, i8, i9, -⟩ := rows hm
    have hF : actF n k 2 (m : Int) y (A, B, C) = ((susF n m (A, B, C) 0 0).1, (susF n m (A, B, C) 0 0).2.1) := by
      unfold actF
      rw [if_neg (by decide), if_neg (by decide), if_pos rfl, if_pos (by omega), Int.toNat_natCast]
    rw [hF] at hq
    refine tG_at hd kMod_suspects_10 ?_
    simp (disch := omega) only [bMod_suspects_10, rn, sm, lg, lt_, cmpP, tk, pr_, pu, swl, cs, Nat.reduceAdd, Nat.reduceLeDiff, Nat.zero_le, Nat.le_refl, true_and, and_true, Int.toNat_natCast, Int.reduceToNat, Int.reduceEq, false_implies, true_implies, Int.reduceNeg, Int.cast_ofNat_Int, mS_0, mS_1, mS_2, mS_3, mS_4, mS_5, mS_u0, mS_u1, mS_u2, mS_u3, mS_u4, mS_u5, g0, g1, g2, g3, g4, g5, l1, l2, l3, l5, p1, p2, p3, p4, p5, sn_0, sn_9, at_0, at_9, fl_sn, fl_at, fl_usn, fl_uat, fl_a, fl_ua, reduceIte, Nat.reduceEqDiff, true_or, or_true, Int.reduceLE, Int.reduceLT, wr_s, wn_1, wn_2, wn_5, wn_6, wn_8, wn_12, wn_14, wn_18, wn_24, wn_30, wn_32, wn_38, wn_44, FF_15, FF_16, FF_u, FF_ne, FF_r15, FF_r16, uF_at, uF_ne, not_true_eq_false, not_false_eq_true, implies_true]
    refine ⟨fun hz => ?_, fun hz => ?_⟩
    · refine tG_at hd kMod_suspects_22 ?_
      simp (disch := omega) only [bMod_suspects_22, rn, sm, lg, lt_, cmpP, tk, pr_, pu, swl, cs, Nat.reduceAdd, Nat.reduceLeDiff, Nat.zero_le, Nat.le_refl, true_and, and_true, Int.toNat_natCast, Int.reduceToNat, Int.reduceEq, false_implies, true_implies, Int.reduceNeg, Int.cast_ofNat_Int, mS_0, mS_1, mS_2, mS_3, mS_4, mS_5, mS_u0, mS_u1, mS_u2, mS_u3, mS_u4, mS_u5, g0, g1, g2, g3, g4, g5, l1, l2, l3, l5, p1, p2, p3, p4, p5, sn_0, sn_9, at_0, at_9, fl_sn, fl_at, fl_usn, fl_uat, fl_a, fl_ua, reduceIte, Nat.reduceEqDiff, true_or, or_true, Int.reduceLE, Int.reduceLT, wr_s, wn_1, wn_2, wn_5, wn_6, wn_8, wn_12, wn_14, wn_18, wn_24, wn_30, wn_32, wn_38, wn_44, FF_15, FF_16, FF_u, FF_ne, FF_r15, FF_r16, uF_at, uF_ne, not_true_eq_false, not_false_eq_true, implies_true, n0, n5]
      rw [wr_id (x := (k : Int) + n) (by omega) (by omega), wr_id (by omega) (by omega)]
      refine ⟨fun hz2 => ?_, fun hz2 => ?_⟩
      · have hF : susF n m (A, B, C) 0 0 = (B m 1 + 1, ((saF m 2 (B m 1 + 1) 0 n A C).1, uR B m (u1 (drpR (u1 (B m) 1 (B m 1 + 1))) 4 (B m 1 + 1)), (saF m 2 (B m 1 + 1) 0 n A C).2), 0, 0) := by
          unfold susF
          dsimp only
          rw [if_neg hz, if_neg (by omega)]
        rw [hF] at hq
        refine tG_at hd kMod_suspects_45 ?_
        simp (disch := omega) only [bMod_suspects_45, rn, sm, lg, lt_, cmpP, tk, pr_, pu, swl, cs, Nat.reduceAdd, Nat.reduceLeDiff, Nat.zero_le, Nat.le_refl, true_and, and_true, Int.toNat_natCast, Int.reduceToNat, Int.reduceEq, false_implies, true_implies, Int.reduceNeg, Int.cast_ofNat_Int, mS_0, mS_1, mS_2, mS_3, mS_4, mS_5, mS_u0, mS_u1, mS_u2, mS_u3, mS_u4, mS_u5, g0, g1, g2, g3, g4, g5, l1, l2, l3, l5, p1, p2, p3, p4, p5, sn_0, sn_9, at_0, at_9, fl_sn, fl_at, fl_usn, fl_uat, fl_a, fl_ua, reduceIte, Nat.reduceEqDiff, true_or, or_true, Int.reduceLE, Int.reduceLT, wr_s, wn_1, wn_2, wn_5, wn_6, wn_8, wn_12, wn_14, wn_18, wn_24, wn_30, wn_32, wn_38, wn_44, FF_15, FF_16, FF_u, FF_ne, FF_r15, FF_r16, uF_at, uF_ne, not_true_eq_false, not_false_eq_true, implies_true, u2_is, wr_i]
        refine c_dropsVotes (by omega) hM.FF (by omega) ?_
        rw [uR_at, uR_uR]
        refine tG_at hd kMod_suspects_70 ?_
        simp (disch := omega) only [bMod_suspects_70, rn, sm, lg, lt_, cmpP, tk, pr_, pu, swl, cs, Nat.reduceAdd, Nat.reduceLeDiff, Nat.zero_le, Nat.le_refl, true_and, and_true, Int.toNat_natCast, Int.reduceToNat, Int.reduceEq, false_implies, true_implies, Int.reduceNeg, Int.cast_ofNat_Int, mS_0, mS_1, mS_2, mS_3, mS_4, mS_5, mS_u0, mS_u1, mS_u2, mS_u3, mS_u4, mS_u5, g0, g1, g2, g3, g4, g5, l1, l2, l3, l5, p1, p2, p3, p4, p5, sn_0, sn_9, at_0, at_9, fl_sn, fl_at, fl_usn, fl_uat, fl_a, fl_ua, reduceIte, Nat.reduceEqDiff, true_or, or_true, Int.reduceLE, Int.reduceLT, wr_s, wn_1, wn_2, wn_5, wn_6, wn_8, wn_12, wn_14, wn_18, wn_24, wn_30, wn_32, wn_38, wn_44, FF_15, FF_16, FF_u, FF_ne, FF_r15, FF_r16, uF_at, uF_ne, not_true_eq_false, not_false_eq_true, implies_true, u2_uR]
        refine c_sendsAll (by omega) hM.FF n0 hn6 n5 (by omega) ?_
        refine tG_at hd kMod_suspects_89 ?_
        simp only [bMod_suspects_89, rn, sm, lg, lt_, cmpP, tk, pr_, pu, swl, cs, Nat.reduceAdd, Nat.reduceLeDiff, Nat.zero_le, Nat.le_refl, true_and, and_true, Int.toNat_natCast, Int.reduceToNat, Int.reduceEq, false_implies, true_implies, Int.reduceNeg, Int.cast_ofNat_Int]
        exact hq _ _
      · have hF : susF n m (A, B, C) 0 0 = (-3, (A, B, C), 0, 0) := by
          unfold susF
          dsimp only
          rw [if_neg hz, if_pos (by omega)]
        rw [hF] at hq
        refine tG_at hd kMod_suspects_42 ?_
        simp only [bMod_suspects_42, rn, sm, lg, lt_, cmpP, tk, pr_, pu, swl, cs, Nat.reduceAdd, Nat.reduceLeDiff, Nat.zero_le, Nat.le_refl, true_and, and_true, Int.toNat_natCast, Int.reduceToNat, Int.reduceEq, false_implies, true_implies, Int.reduceNeg, Int.cast_ofNat_Int]
        exact hq _ _
    · have hF : susF n m (A, B, C) 0 0 = (-2, (A, B, C), 0, 0) := by
        unfold susF
        dsimp only
        rw [if_pos (Decidable.not_not.mp hz)]
      rw [hF] at hq
      refine tG_at hd kMod_suspects_19 ?_
      simp only [bMod_suspects_19, rn, sm, lg, lt_, cmpP, tk, pr_, pu, swl, cs, Nat.reduceAdd, Nat.reduceLeDiff, Nat.zero_le, Nat.le_refl, true_and, and_true, Int.toNat_natCast, Int.reduceToNat, Int.reduceEq, false_implies, true_implies, Int.reduceNeg, Int.cast_ofNat_Int]
      exact hq _ _
  · rw [bi_0 hx]
    refine ⟨fun h => absurd rfl h, fun _ => ?_⟩
    have hF : actF n k 2 x y (A, B, C) = (-1, (A, B, C)) := by
      unfold actF
      rw [if_neg (by decide), if_neg (by decide), if_pos rfl, if_neg (by omega)]
    rw [hF] at hq
    refine tG_at hd kMod_suspects_8 ?_
    simp only [bMod_suspects_8, rn, sm, lg, lt_, cmpP, tk, pr_, pu, swl, cs, Nat.reduceAdd, Nat.reduceLeDiff, Nat.zero_le, Nat.le_refl, true_and, and_true, Int.toNat_natCast, Int.reduceToNat, Int.reduceEq, false_implies, true_implies, Int.reduceNeg, Int.cast_ofNat_Int]
    exact hq _ _
end MD
