section MD
variable {w : WP} {d : Nat} {Γ : GM} {V : VH} {Q : QT} {M : Nat} {F T K S H A : Nat → Int} {B C : Nat → Nat → Int}
theorem c_sends (hd : 4 ≤ d) (hM : ML Γ M F) {k : Nat} (hk : A 5 = (k : Int)) (hk2 : k < 60) {a b c x y : Int} (hq : Q none Γ (mS V M F T (fl (u1 A 5 ((k + 1 : Nat) : Int)) B (uR C k (mrow a b c x y (fun _ => 0)))) K S H)) : tC w d nMod_sends [.inr (.inl M), .inl a, .inl b, .inl c, .inl x, .inl y] Γ (mS V M F T (fl A B C) K S H) Q := by
  obtain ⟨⟨g0, g1, g2, g3, g4, g5⟩, ⟨l1, l2, l3, -, l5⟩, p1, p2, p3, p4, p5⟩ := id hM
  refine tC_enter (nL := 8) (by decide +kernel) (by decide +kernel) rfl (Nat.le_of_ble_eq_true rfl) (fun hok => ?_)
  simp only [ent]
  refine tG_at hd kMod_sends_0 ?_
  simp (disch := omega) only [bMod_sends_0, rn, sm, lg, lt_, cmpP, tk, pr_, pu, swl, cs, Nat.reduceAdd, Nat.reduceLeDiff, Nat.zero_le, Nat.le_refl, true_and, and_true, Int.toNat_natCast, Int.reduceToNat, Int.reduceEq, false_implies, true_implies, Int.reduceNeg, Int.cast_ofNat_Int, mS_0, mS_1, mS_2, mS_3, mS_4, mS_5, mS_u0, mS_u1, mS_u2, mS_u3, mS_u4, mS_u5, g0, g1, g2, g3, g4, g5, l1, l2, l3, l5, p1, p2, p3, p4, p5, sn_0, sn_9, at_0, at_9, fl_sn, fl_at, fl_usn, fl_uat, fl_a, fl_ua, uF, reduceIte, Nat.reduceEqDiff, true_or, or_true, Int.reduceLE, Int.reduceLT, wr_s, wn_1, wn_2, wn_5, wn_6, wn_8, wn_12, wn_14, wn_18, wn_24, wn_30, wn_32, wn_38, wn_44, hk]
  refine tG_loop (fun i => [some (.inr (.inl M)), some (.inl a), some (.inl b), some (.inl c), some (.inl x), some (.inl y), some (.inl (k : Int)), some (.inl (i : Int))]) (fun i V' => V' = mS V M F T (fl A B (uR C k (zrow (C k) 0 i))) K S H) 30 ?_ ?_ 0 _ (Nat.zero_le _) ?_
  · intro i V' hi hV k1
    subst hV
    refine tG_at hd kMod_sends_11 ?_
    simp only [bMod_sends_11, rn, sm, lg, lt_, cmpP, tk, pr_, pu, swl, cs, Nat.reduceAdd, Nat.reduceLeDiff, Nat.zero_le, Nat.le_refl, true_and, and_true, Int.toNat_natCast, Int.reduceToNat, Int.reduceEq, false_implies, true_implies, Int.reduceNeg, Int.cast_ofNat_Int]
    refine ⟨fun h => absurd h (by omega), fun _ => ?_⟩
    refine tG_at hd kMod_sends_18 ?_
    simp (disch := omega) only [bMod_sends_18, rn, sm, lg, lt_, cmpP, tk, pr_, pu, swl, cs, Nat.reduceAdd, Nat.reduceLeDiff, Nat.zero_le, Nat.le_refl, true_and, and_true, Int.toNat_natCast, Int.reduceToNat, Int.reduceEq, false_implies, true_implies, Int.reduceNeg, Int.cast_ofNat_Int, mS_0, mS_1, mS_2, mS_3, mS_4, mS_5, mS_u0, mS_u1, mS_u2, mS_u3, mS_u4, mS_u5, g0, g1, g2, g3, g4, g5, l1, l2, l3, l5, p1, p2, p3, p4, p5, sn_0, sn_9, at_0, at_9, fl_sn, fl_at, fl_usn, fl_uat, fl_a, fl_ua, uF, reduceIte, Nat.reduceEqDiff, true_or, or_true, Int.reduceLE, Int.reduceLT, wr_s, wn_1, wn_2, wn_5, wn_6, wn_8, wn_12, wn_14, wn_18, wn_24, wn_30, wn_32, wn_38, wn_44, u2_uR]
    refine k1 _ ?_
    congr 3
    funext j
    by_cases hj : j = i
    · subst hj
      simp [u1, zrow]
    · rw [u1_ne hj]
      unfold zrow
      by_cases h2 : j < i
      · rw [if_pos ⟨by omega, h2⟩, if_pos ⟨by omega, by omega⟩]
      · rw [if_neg (by omega), if_neg (by omega)]
  · intro V' hV
    subst hV
    refine tG_at hd kMod_sends_11 ?_
    simp only [bMod_sends_11, rn, sm, lg, lt_, cmpP, tk, pr_, pu, swl, cs, Nat.reduceAdd, Nat.reduceLeDiff, Nat.zero_le, Nat.le_refl, true_and, and_true, Int.toNat_natCast, Int.reduceToNat, Int.reduceEq, false_implies, true_implies, Int.reduceNeg, Int.cast_ofNat_Int]
    refine ⟨fun _ => ?_, fun h => absurd (show ¬ ((30 : Nat) : Int) < 30 by omega) h⟩
    refine tG_at hd kMod_sends_37 ?_
    simp (disch := omega) only [bMod_sends_37, rn, sm, lg, lt_, cmpP, tk, pr_, pu, swl, cs, Nat.reduceAdd, Nat.reduceLeDiff, Nat.zero_le, Nat.le_refl, true_and, and_true, Int.toNat_natCast, Int.reduceToNat, Int.reduceEq, false_implies, true_implies, Int.reduceNeg, Int.cast_ofNat_Int, mS_0, mS_1, mS_2, mS_3, mS_4, mS_5, mS_u0, mS_u1, mS_u2, mS_u3, mS_u4, mS_u5, g0, g1, g2, g3, g4, g5, l1, l2, l3, l5, p1, p2, p3, p4, p5, sn_0, sn_9, at_0, at_9, fl_sn, fl_at, fl_usn, fl_uat, fl_a, fl_ua, uF, reduceIte, Nat.reduceEqDiff, true_or, or_true, Int.reduceLE, Int.reduceLT, wr_s, wn_1, wn_2, wn_5, wn_6, wn_8, wn_12, wn_14, wn_18, wn_24, wn_30, wn_32, wn_38, wn_44, u2_uR, hk]
    rw [fl_rc (s := mrow a b c x y (fun _ => 0))]
    · exact hq
    · intro j hj
      match j with
      | 0 => rfl
      | 1 => rfl
      | 2 => rfl
      | 3 => rfl
      | 4 => rfl
      | j + 5 => simp [u1, zrow, mrow, hj]
  · rw [show zrow (C k) 0 0 = C k from funext fun j => by simp [zrow], uR_eq]
theorem c_placeIn (hd : 4 ≤ d) (hM : ML Γ M F) {m : Nat} (hm : m < 6) {x : Int} (h0 : 0 ≤ B m 31) (h6 : B m 31 ≤ 6) (hq : Q (some (.inl (plc (B m) x))) Γ (mS V M F T (fl A B C) K S H)) : tC w d nMod_placeIn [.inr (.inl M), .inl (m : Int), .inl x] Γ (mS V M F T (fl A B C) K S H) Q := by
  obtain ⟨⟨g0, g1, g2, g3, g4, g5⟩, ⟨l1, l2, l3, -, l5⟩, p1, p2, p3, p4, p5⟩ := id hM
  refine tC_enter (nL := 4) (by decide +kernel) (by decide +kernel) rfl (Nat.le_of_ble_eq_true rfl) (fun hok => ?_)
  simp only [ent]
  refine tG_at hd kMod_placeIn_0 ?_
  simp (disch := omega) only [bMod_placeIn_0, rn, sm, lg, lt_, cmpP, tk, pr_, pu, swl, cs, Nat.reduceAdd, Nat.reduceLeDiff, Nat.zero_le, Nat.le_refl, true_and, and_true, Int.toNat_natCast, Int.reduceToNat, Int.reduceEq, false_implies, true_implies, Int.reduceNeg, Int.cast_ofNat_Int, mS_0, mS_1, mS_2, mS_3, mS_4, mS_5, mS_u0, mS_u1, mS_u2, mS_u3, mS_u4, mS_u5, g0, g1, g2, g3, g4, g5, l1, l2, l3, l5, p1, p2, p3, p4, p5, sn_0, sn_9, at_0, at_9, fl_sn, fl_at, fl_usn, fl_uat, fl_a, fl_ua, uF, reduceIte, Nat.reduceEqDiff, true_or, or_true, Int.reduceLE, Int.reduceLT, wr_s, wn_1, wn_2, wn_5, wn_6, wn_8, wn_12, wn_14, wn_18, wn_24, wn_30, wn_32, wn_38, wn_44]
  have key : ∀ r k : Nat, k + r = (B m 31).toNat → Q (some (.inl (pfd (B m) x k r))) Γ (mS V M F T (fl A B C) K S H) → tG w d nMod_placeIn 2 [some (.inr (.inl M)), some (.inl (m : Int)), some (.inl x), some (.inl (k : Int))] [] Γ (mS V M F T (fl A B C) K S H) 0 0 Q := by
    intro r
    induction r with
    | zero =>
      intro k hk hq
      refine tG_at hd kMod_placeIn_2 ?_
      simp (disch := omega) only [bMod_placeIn_2, rn, sm, lg, lt_, cmpP, tk, pr_, pu, swl, cs, Nat.reduceAdd, Nat.reduceLeDiff, Nat.zero_le, Nat.le_refl, true_and, and_true, Int.toNat_natCast, Int.reduceToNat, Int.reduceEq, false_implies, true_implies, Int.reduceNeg, Int.cast_ofNat_Int, mS_0, mS_1, mS_2, mS_3, mS_4, mS_5, mS_u0, mS_u1, mS_u2, mS_u3, mS_u4, mS_u5, g0, g1, g2, g3, g4, g5, l1, l2, l3, l5, p1, p2, p3, p4, p5, sn_0, sn_9, at_0, at_9, fl_sn, fl_at, fl_usn, fl_uat, fl_a, fl_ua, uF, reduceIte, Nat.reduceEqDiff, true_or, or_true, Int.reduceLE, Int.reduceLT, wr_s, wn_1, wn_2, wn_5, wn_6, wn_8, wn_12, wn_14, wn_18, wn_24, wn_30, wn_32, wn_38, wn_44]
      refine ⟨fun _ => ?_, fun h => absurd (by omega) h⟩
      refine tG_at hd kMod_placeIn_34 ?_
      simp only [bMod_placeIn_34, rn, sm, lg, lt_, cmpP, tk, pr_, pu, swl, cs, Nat.reduceAdd, Nat.reduceLeDiff, Nat.zero_le, Nat.le_refl, true_and, and_true, Int.toNat_natCast, Int.reduceToNat, Int.reduceEq, false_implies, true_implies, Int.reduceNeg, Int.cast_ofNat_Int]
      exact hq
    | succ r ih =>
      intro k hk hq
      refine tG_at hd kMod_placeIn_2 ?_
      simp (disch := omega) only [bMod_placeIn_2, rn, sm, lg, lt_, cmpP, tk, pr_, pu, swl, cs, Nat.reduceAdd, Nat.reduceLeDiff, Nat.zero_le, Nat.le_refl, true_and, and_true, Int.toNat_natCast, Int.reduceToNat, Int.reduceEq, false_implies, true_implies, Int.reduceNeg, Int.cast_ofNat_Int, mS_0, mS_1, mS_2, mS_3, mS_4, mS_5, mS_u0, mS_u1, mS_u2, mS_u3, mS_u4, mS_u5, g0, g1, g2, g3, g4, g5, l1, l2, l3, l5, p1, p2, p3, p4, p5, sn_0, sn_9, at_0, at_9, fl_sn, fl_at, fl_usn, fl_uat, fl_a, fl_ua, uF, reduceIte, Nat.reduceEqDiff, true_or, or_true, Int.reduceLE, Int.reduceLT, wr_s, wn_1, wn_2, wn_5, wn_6, wn_8, wn_12, wn_14, wn_18, wn_24, wn_30, wn_32, wn_38, wn_44]
      refine ⟨fun h => absurd h (by omega), fun _ => ?_⟩
      refine tG_at hd kMod_placeIn_13 ?_
      simp (disch := omega) only [bMod_placeIn_13, rn, sm, lg, lt_, cmpP, tk, pr_, pu, swl, cs, Nat.reduceAdd, Nat.reduceLeDiff, Nat.zero_le, Nat.le_refl, true_and, and_true, Int.toNat_natCast, Int.reduceToNat, Int.reduceEq, false_implies, true_implies, Int.reduceNeg, Int.cast_ofNat_Int, mS_0, mS_1, mS_2, mS_3, mS_4, mS_5, mS_u0, mS_u1, mS_u2, mS_u3, mS_u4, mS_u5, g0, g1, g2, g3, g4, g5, l1, l2, l3, l5, p1, p2, p3, p4, p5, sn_0, sn_9, at_0, at_9, fl_sn, fl_at, fl_usn, fl_uat, fl_a, fl_ua, uF, reduceIte, Nat.reduceEqDiff, true_or, or_true, Int.reduceLE, Int.reduceLT, wr_s, wn_1, wn_2, wn_5, wn_6, wn_8, wn_12, wn_14, wn_18, wn_24, wn_30, wn_32, wn_38, wn_44]
      by_cases hx : B m (38 + k) = x
      · refine ⟨fun h => absurd hx h, fun _ => ?_⟩
        refine tG_at hd kMod_placeIn_26 ?_
        simp only [bMod_placeIn_26, rn, sm, lg, lt_, cmpP, tk, pr_, pu, swl, cs, Nat.reduceAdd, Nat.reduceLeDiff, Nat.zero_le, Nat.le_refl, true_and, and_true, Int.toNat_natCast, Int.reduceToNat, Int.reduceEq, false_implies, true_implies, Int.reduceNeg, Int.cast_ofNat_Int]
        rw [show pfd (B m) x k (r + 1) = (k : Int) from if_pos hx] at hq
        exact hq
      · refine ⟨fun _ => ?_, fun h => absurd hx h⟩
        refine tG_at hd kMod_placeIn_28 ?_
        simp (disch := omega) only [bMod_placeIn_28, rn, sm, lg, lt_, cmpP, tk, pr_, pu, swl, cs, Nat.reduceAdd, Nat.reduceLeDiff, Nat.zero_le, Nat.le_refl, true_and, and_true, Int.toNat_natCast, Int.reduceToNat, Int.reduceEq, false_implies, true_implies, Int.reduceNeg, Int.cast_ofNat_Int, mS_0, mS_1, mS_2, mS_3, mS_4, mS_5, mS_u0, mS_u1, mS_u2, mS_u3, mS_u4, mS_u5, g0, g1, g2, g3, g4, g5, l1, l2, l3, l5, p1, p2, p3, p4, p5, sn_0, sn_9, at_0, at_9, fl_sn, fl_at, fl_usn, fl_uat, fl_a, fl_ua, uF, reduceIte, Nat.reduceEqDiff, true_or, or_true, Int.reduceLE, Int.reduceLT, wr_s, wn_1, wn_2, wn_5, wn_6, wn_8, wn_12, wn_14, wn_18, wn_24, wn_30, wn_32, wn_38, wn_44]
        refine ih (k + 1) (by omega) ?_
        rw [show pfd (B m) x k (r + 1) = pfd (B m) x (k + 1) r from if_neg hx] at hq
        exact hq
  exact key _ 0 (by omega) hq
theorem c_laysRow (hd : 4 ≤ d) (hM : ML Γ M F) {m : Nat} (hm : m < 6) (hq : Q none Γ (mS V M F T (fl A (uR B m (rowR (B m))) C) K S H)) : tC w d nMod_laysRow [.inr (.inl M), .inl (m : Int)] Γ (mS V M F T (fl A B C) K S H) Q := by
  obtain ⟨⟨g0, g1, g2, g3, g4, g5⟩, ⟨l1, l2, l3, -, l5⟩, p1, p2, p3, p4, p5⟩ := id hM
  refine tC_enter (nL := 3) (by decide +kernel) (by decide +kernel) rfl (Nat.le_of_ble_eq_true rfl) (fun hok => ?_)
  simp only [ent]
  refine tG_at hd kMod_laysRow_0 ?_
  simp (disch := omega) only [bMod_laysRow_0, rn, sm, lg, lt_, cmpP, tk, pr_, pu, swl, cs, Nat.reduceAdd, Nat.reduceLeDiff, Nat.zero_le, Nat.le_refl, true_and, and_true, Int.toNat_natCast, Int.reduceToNat, Int.reduceEq, false_implies, true_implies, Int.reduceNeg, Int.cast_ofNat_Int, mS_0, mS_1, mS_2, mS_3, mS_4, mS_5, mS_u0, mS_u1, mS_u2, mS_u3, mS_u4, mS_u5, g0, g1, g2, g3, g4, g5, l1, l2, l3, l5, p1, p2, p3, p4, p5, sn_0, sn_9, at_0, at_9, fl_sn, fl_at, fl_usn, fl_uat, fl_a, fl_ua, uF, reduceIte, Nat.reduceEqDiff, true_or, or_true, Int.reduceLE, Int.reduceLT, wr_s, wn_1, wn_2, wn_5, wn_6, wn_8, wn_12, wn_14, wn_18, wn_24, wn_30, wn_32, wn_38, wn_44]
  refine tG_loop (fun i => [some (.inr (.inl M)), some (.inl (m : Int)), some (.inl (i : Int))]) (fun i V' => V' = mS V M F T (fl A (uR B m (fun j => if 18 ≤ j ∧ j < 18 + i then B m (j + 14) else B m j)) C) K S H) 6 ?_ ?_ 0 _ (Nat.zero_le _) ?_
  · intro i V' hi hV k1
    subst hV
    refine tG_at hd kMod_laysRow_2 ?_
    simp only [bMod_laysRow_2, rn, sm, lg, lt_, cmpP, tk, pr_, pu, swl, cs, Nat.reduceAdd, Nat.reduceLeDiff, Nat.zero_le, Nat.le_refl, true_and, and_true, Int.toNat_natCast, Int.reduceToNat, Int.reduceEq, false_implies, true_implies, Int.reduceNeg, Int.cast_ofNat_Int]
    refine ⟨fun h => absurd h (by omega), fun _ => ?_⟩
    refine tG_at hd kMod_laysRow_8 ?_
    simp (disch := omega) only [bMod_laysRow_8, rn, sm, lg, lt_, cmpP, tk, pr_, pu, swl, cs, Nat.reduceAdd, Nat.reduceLeDiff, Nat.zero_le, Nat.le_refl, true_and, and_true, Int.toNat_natCast, Int.reduceToNat, Int.reduceEq, false_implies, true_implies, Int.reduceNeg, Int.cast_ofNat_Int, mS_0, mS_1, mS_2, mS_3, mS_4, mS_5, mS_u0, mS_u1, mS_u2, mS_u3, mS_u4, mS_u5, g0, g1, g2, g3, g4, g5, l1, l2, l3, l5, p1, p2, p3, p4, p5, sn_0, sn_9, at_0, at_9, fl_sn, fl_at, fl_usn, fl_uat, fl_a, fl_ua, uF, reduceIte, Nat.reduceEqDiff, true_or, or_true, Int.reduceLE, Int.reduceLT, wr_s, wn_1, wn_2, wn_5, wn_6, wn_8, wn_12, wn_14, wn_18, wn_24, wn_30, wn_32, wn_38, wn_44, u2_uR, uR_at]
    refine k1 _ ?_
    congr 3
    funext j
    by_cases hj : j = 18 + i
    · subst hj
      rw [u1_at, if_neg (by omega), if_pos (by omega)]
      congr 1
      omega
    · rw [u1_ne hj]
      by_cases h2 : 18 ≤ j ∧ j < 18 + i
      · rw [if_pos h2, if_pos (by omega)]
      · rw [if_neg h2, if_neg (by omega)]
  · intro V' hV
    subst hV
    refine tG_at hd kMod_laysRow_2 ?_
    simp only [bMod_laysRow_2, rn, sm, lg, lt_, cmpP, tk, pr_, pu, swl, cs, Nat.reduceAdd, Nat.reduceLeDiff, Nat.zero_le, Nat.le_refl, true_and, and_true, Int.toNat_natCast, Int.reduceToNat, Int.reduceEq, false_implies, true_implies, Int.reduceNeg, Int.cast_ofNat_Int]
    refine ⟨fun _ => ?_, fun h => absurd (show ¬ ((6 : Nat) : Int) < 6 by omega) h⟩
    refine tG_at hd kMod_laysRow_36 ?_
    simp only [bMod_laysRow_36, rn, sm, lg, lt_, cmpP, tk, pr_, pu, swl, cs, Nat.reduceAdd, Nat.reduceLeDiff, Nat.zero_le, Nat.le_refl, true_and, and_true, Int.toNat_natCast, Int.reduceToNat, Int.reduceEq, false_implies, true_implies, Int.reduceNeg, Int.cast_ofNat_Int]
    exact hq
  · rw [show (fun j => if 18 ≤ j ∧ j < 18 + 0 then B m (j + 14) else B m j) = B m from funext fun j => if_neg (by omega), uR_eq]
theorem c_loses (hd : 4 ≤ d) (hM : ML Γ M F) {m : Nat} (hm : m < 6) (hq : Q none Γ (mS V M F T (fl A (uR B m (zrow (B m) 30 50)) C) K S H)) : tC w d nMod_loses [.inr (.inl M), .inl (m : Int)] Γ (mS V M F T (fl A B C) K S H) Q := by
  obtain ⟨⟨g0, g1, g2, g3, g4, g5⟩, ⟨l1, l2, l3, -, l5⟩, p1, p2, p3, p4, p5⟩ := id hM
  refine tC_enter (nL := 3) (by decide +kernel) (by decide +kernel) rfl (Nat.le_of_ble_eq_true rfl) (fun hok => ?_)
  simp only [ent]
  refine tG_at hd kMod_loses_0 ?_
  simp (disch := omega) only [bMod_loses_0, rn, sm, lg, lt_, cmpP, tk, pr_, pu, swl, cs, Nat.reduceAdd, Nat.reduceLeDiff, Nat.zero_le, Nat.le_refl, true_and, and_true, Int.toNat_natCast, Int.reduceToNat, Int.reduceEq, false_implies, true_implies, Int.reduceNeg, Int.cast_ofNat_Int, mS_0, mS_1, mS_2, mS_3, mS_4, mS_5, mS_u0, mS_u1, mS_u2, mS_u3, mS_u4, mS_u5, g0, g1, g2, g3, g4, g5, l1, l2, l3, l5, p1, p2, p3, p4, p5, sn_0, sn_9, at_0, at_9, fl_sn, fl_at, fl_usn, fl_uat, fl_a, fl_ua, uF, reduceIte, Nat.reduceEqDiff, true_or, or_true, Int.reduceLE, Int.reduceLT, wr_s, wn_1, wn_2, wn_5, wn_6, wn_8, wn_12, wn_14, wn_18, wn_24, wn_30, wn_32, wn_38, wn_44]
  refine tG_loop (fun i => [some (.inr (.inl M)), some (.inl (m : Int)), some (.inl (i : Int))]) (fun i V' => V' = mS V M F T (fl A (uR B m (zrow (B m) 30 (30 + i))) C) K S H) 20 ?_ ?_ 0 _ (Nat.zero_le _) ?_
  · intro i V' hi hV k1
    subst hV
    refine tG_at hd kMod_loses_2 ?_
    simp only [bMod_loses_2, rn, sm, lg, lt_, cmpP, tk, pr_, pu, swl, cs, Nat.reduceAdd, Nat.reduceLeDiff, Nat.zero_le, Nat.le_refl, true_and, and_true, Int.toNat_natCast, Int.reduceToNat, Int.reduceEq, false_implies, true_implies, Int.reduceNeg, Int.cast_ofNat_Int]
    refine ⟨fun h => absurd h (by omega), fun _ => ?_⟩
    refine tG_at hd kMod_loses_8 ?_
    simp (disch := omega) only [bMod_loses_8, rn, sm, lg, lt_, cmpP, tk, pr_, pu, swl, cs, Nat.reduceAdd, Nat.reduceLeDiff, Nat.zero_le, Nat.le_refl, true_and, and_true, Int.toNat_natCast, Int.reduceToNat, Int.reduceEq, false_implies, true_implies, Int.reduceNeg, Int.cast_ofNat_Int, mS_0, mS_1, mS_2, mS_3, mS_4, mS_5, mS_u0, mS_u1, mS_u2, mS_u3, mS_u4, mS_u5, g0, g1, g2, g3, g4, g5, l1, l2, l3, l5, p1, p2, p3, p4, p5, sn_0, sn_9, at_0, at_9, fl_sn, fl_at, fl_usn, fl_uat, fl_a, fl_ua, uF, reduceIte, Nat.reduceEqDiff, true_or, or_true, Int.reduceLE, Int.reduceLT, wr_s, wn_1, wn_2, wn_5, wn_6, wn_8, wn_12, wn_14, wn_18, wn_24, wn_30, wn_32, wn_38, wn_44, u2_uR, uR_at]
    refine k1 _ ?_
    congr 3
    funext j
    unfold zrow
    by_cases hj : j = 30 + i
    · subst hj
      rw [u1_at, if_pos (by omega)]
    · rw [u1_ne hj]
      by_cases h2 : 30 ≤ j ∧ j < 30 + i
      · rw [if_pos h2, if_pos (by omega)]
      · rw [if_neg h2, if_neg (by omega)]
  · intro V' hV
    subst hV
    refine tG_at hd kMod_loses_2 ?_
    simp only [bMod_loses_2, rn, sm, lg, lt_, cmpP, tk, pr_, pu, swl, cs, Nat.reduceAdd, Nat.reduceLeDiff, Nat.zero_le, Nat.le_refl, true_and, and_true, Int.toNat_natCast, Int.reduceToNat, Int.reduceEq, false_implies, true_implies, Int.reduceNeg, Int.cast_ofNat_Int]
    refine ⟨fun _ => ?_, fun h => absurd (show ¬ ((20 : Nat) : Int) < 20 by omega) h⟩
    refine tG_at hd kMod_loses_28 ?_
    simp only [bMod_loses_28, rn, sm, lg, lt_, cmpP, tk, pr_, pu, swl, cs, Nat.reduceAdd, Nat.reduceLeDiff, Nat.zero_le, Nat.le_refl, true_and, and_true, Int.toNat_natCast, Int.reduceToNat, Int.reduceEq, false_implies, true_implies, Int.reduceNeg, Int.cast_ofNat_Int]
    exact hq
  · rw [show zrow (B m) 30 (30 + 0) = B m from funext fun j => if_neg (by omega), uR_eq]
theorem c_dropsVotes (hd : 4 ≤ d) (hM : ML Γ M F) {m : Nat} (hm : m < 6) (hq : Q none Γ (mS V M F T (fl A (uR B m (drpR (B m))) C) K S H)) : tC w d nMod_dropsVotes [.inr (.inl M), .inl (m : Int)] Γ (mS V M F T (fl A B C) K S H) Q := by
  obtain ⟨⟨g0, g1, g2, g3, g4, g5⟩, ⟨l1, l2, l3, -, l5⟩, p1, p2, p3, p4, p5⟩ := id hM
  refine tC_enter (nL := 3) (by decide +kernel) (by decide +kernel) rfl (Nat.le_of_ble_eq_true rfl) (fun hok => ?_)
  simp only [ent]
  refine tG_at hd kMod_dropsVotes_0 ?_
  simp (disch := omega) only [bMod_dropsVotes_0, rn, sm, lg, lt_, cmpP, tk, pr_, pu, swl, cs, Nat.reduceAdd, Nat.reduceLeDiff, Nat.zero_le, Nat.le_refl, true_and, and_true, Int.toNat_natCast, Int.reduceToNat, Int.reduceEq, false_implies, true_implies, Int.reduceNeg, Int.cast_ofNat_Int, mS_0, mS_1, mS_2, mS_3, mS_4, mS_5, mS_u0, mS_u1, mS_u2, mS_u3, mS_u4, mS_u5, g0, g1, g2, g3, g4, g5, l1, l2, l3, l5, p1, p2, p3, p4, p5, sn_0, sn_9, at_0, at_9, fl_sn, fl_at, fl_usn, fl_uat, fl_a, fl_ua, uF, reduceIte, Nat.reduceEqDiff, true_or, or_true, Int.reduceLE, Int.reduceLT, wr_s, wn_1, wn_2, wn_5, wn_6, wn_8, wn_12, wn_14, wn_18, wn_24, wn_30, wn_32, wn_38, wn_44, u2_is, uR_uR, uR_at]
  refine tG_loop (fun i => [some (.inr (.inl M)), some (.inl (m : Int)), some (.inl (i : Int))]) (fun i V' => V' = mS V M F T (fl A (uR B m (fun j => if j = 4 ∨ j = 5 ∨ (24 ≤ j ∧ j < 24 + i) then 0 else B m j)) C) K S H) 6 ?_ ?_ 0 _ (Nat.zero_le _) ?_
  · intro i V' hi hV k1
    subst hV
    refine tG_at hd kMod_dropsVotes_24 ?_
    simp only [bMod_dropsVotes_24, rn, sm, lg, lt_, cmpP, tk, pr_, pu, swl, cs, Nat.reduceAdd, Nat.reduceLeDiff, Nat.zero_le, Nat.le_refl, true_and, and_true, Int.toNat_natCast, Int.reduceToNat, Int.reduceEq, false_implies, true_implies, Int.reduceNeg, Int.cast_ofNat_Int]
    refine ⟨fun h => absurd h (by omega), fun _ => ?_⟩
    refine tG_at hd kMod_dropsVotes_30 ?_
    simp (disch := omega) only [bMod_dropsVotes_30, rn, sm, lg, lt_, cmpP, tk, pr_, pu, swl, cs, Nat.reduceAdd, Nat.reduceLeDiff, Nat.zero_le, Nat.le_refl, true_and, and_true, Int.toNat_natCast, Int.reduceToNat, Int.reduceEq, false_implies, true_implies, Int.reduceNeg, Int.cast_ofNat_Int, mS_0, mS_1, mS_2, mS_3, mS_4, mS_5, mS_u0, mS_u1, mS_u2, mS_u3, mS_u4, mS_u5, g0, g1, g2, g3, g4, g5, l1, l2, l3, l5, p1, p2, p3, p4, p5, sn_0, sn_9, at_0, at_9, fl_sn, fl_at, fl_usn, fl_uat, fl_a, fl_ua, uF, reduceIte, Nat.reduceEqDiff, true_or, or_true, Int.reduceLE, Int.reduceLT, wr_s, wn_1, wn_2, wn_5, wn_6, wn_8, wn_12, wn_14, wn_18, wn_24, wn_30, wn_32, wn_38, wn_44, u2_uR, uR_at]
    refine k1 _ ?_
    congr 3
    funext j
    by_cases hj : j = 24 + i
    · subst hj
      rw [u1_at, if_pos (by omega)]
    · rw [u1_ne hj]
      by_cases h2 : j = 4 ∨ j = 5 ∨ (24 ≤ j ∧ j < 24 + i)
      · rw [if_pos h2, if_pos (by omega)]
      · rw [if_neg h2, if_neg (by omega)]
  · intro V' hV
    subst hV
    refine tG_at hd kMod_dropsVotes_24 ?_
    simp only [bMod_dropsVotes_24, rn, sm, lg, lt_, cmpP, tk, pr_, pu, swl, cs, Nat.reduceAdd, Nat.reduceLeDiff, Nat.zero_le, Nat.le_refl, true_and, and_true, Int.toNat_natCast, Int.reduceToNat, Int.reduceEq, false_implies, true_implies, Int.reduceNeg, Int.cast_ofNat_Int]
    refine ⟨fun _ => ?_, fun h => absurd (show ¬ ((6 : Nat) : Int) < 6 by omega) h⟩
    refine tG_at hd kMod_dropsVotes_50 ?_
    simp only [bMod_dropsVotes_50, rn, sm, lg, lt_, cmpP, tk, pr_, pu, swl, cs, Nat.reduceAdd, Nat.reduceLeDiff, Nat.zero_le, Nat.le_refl, true_and, and_true, Int.toNat_natCast, Int.reduceToNat, Int.reduceEq, false_implies, true_implies, Int.reduceNeg, Int.cast_ofNat_Int]
    exact hq
  · congr 3
    funext j
    by_cases h4 : j = 4
    · subst h4; rfl
    · by_cases h5 : j = 5
      · subst h5; rfl
      · rw [u1_ne h5, u1_ne h4, if_neg (by omega)]
theorem c_comes (hd : 4 ≤ d) (hM : ML Γ M F) {m : Nat} (hm : m < 6) (hq : Q none Γ (mS V M (uF F 16 (m : Int)) T (fl A (uR B m (u1 (u1 (B m) 2 0) 3 1)) C) K S H)) : tC w d nMod_comes [.inr (.inl M), .inl (m : Int)] Γ (mS V M F T (fl A B C) K S H) Q := by
  obtain ⟨⟨g0, g1, g2, g3, g4, g5⟩, ⟨l1, l2, l3, -, l5⟩, p1, p2, p3, p4, p5⟩ := id hM
  refine tC_enter (nL := 2) (by decide +kernel) (by decide +kernel) rfl (Nat.le_of_ble_eq_true rfl) (fun hok => ?_)
  simp only [ent]
  refine tG_at hd kMod_comes_0 ?_
  simp (disch := omega) only [bMod_comes_0, rn, sm, lg, lt_, cmpP, tk, pr_, pu, swl, cs, Nat.reduceAdd, Nat.reduceLeDiff, Nat.zero_le, Nat.le_refl, true_and, and_true, Int.toNat_natCast, Int.reduceToNat, Int.reduceEq, false_implies, true_implies, Int.reduceNeg, Int.cast_ofNat_Int, mS_0, mS_2, mS_u0, mS_u2, g0, g2, l2, p2, at_0, at_9, fl_uat, u2_is, uR_uR, uR_at, true_or, Int.reduceLE, Int.reduceLT]
  exact hq
theorem c_dies (hd : 5 ≤ d) (hM : ML Γ M F) {m : Nat} (hm : m < 6) {t : Nat} (ht : A 1 = (t : Int)) (ht2 : t < 2000000000) (hq : Q none Γ (mS V M F T (if 0 < B m 30 then fl (u1 A 1 ((t + 1 : Nat) : Int)) (uR B m (zrow (B m) 30 50)) C else fl A B C) K S H)) : tC w d nMod_dies [.inr (.inl M), .inl (m : Int)] Γ (mS V M F T (fl A B C) K S H) Q := by
  have hd : 4 ≤ d := by omega
  obtain ⟨⟨g0, g1, g2, g3, g4, g5⟩, ⟨l1, l2, l3, -, l5⟩, p1, p2, p3, p4, p5⟩ := id hM
  refine tC_enter (nL := 2) (by decide +kernel) (by decide +kernel) rfl (Nat.le_of_ble_eq_true rfl) (fun hok => ?_)
  simp only [ent]
  refine tG_at hd kMod_dies_0 ?_
  simp (disch := omega) only [bMod_dies_0, rn, sm, lg, lt_, cmpP, tk, pr_, pu, swl, cs, Nat.reduceAdd, Nat.reduceLeDiff, Nat.zero_le, Nat.le_refl, true_and, and_true, Int.toNat_natCast, Int.reduceToNat, Int.reduceEq, false_implies, true_implies, Int.reduceNeg, Int.cast_ofNat_Int, mS_0, mS_1, mS_2, mS_3, mS_4, mS_5, mS_u0, mS_u1, mS_u2, mS_u3, mS_u4, mS_u5, g0, g1, g2, g3, g4, g5, l1, l2, l3, l5, p1, p2, p3, p4, p5, sn_0, sn_9, at_0, at_9, fl_sn, fl_at, fl_usn, fl_uat, fl_a, fl_ua, uF, reduceIte, Nat.reduceEqDiff, true_or, or_true, Int.reduceLE, Int.reduceLT, wr_s, wn_1, wn_2, wn_5, wn_6, wn_8, wn_12, wn_14, wn_18, wn_24, wn_30, wn_32, wn_38, wn_44]
  by_cases hb : 0 < B m 30
  · rw [bi_1 hb]
    rw [if_pos hb] at hq
    refine ⟨fun _ => ?_, fun h => absurd (by decide) h⟩
    refine tG_at hd kMod_dies_9 ?_
    simp (disch := omega) only [bMod_dies_9, rn, sm, lg, lt_, cmpP, tk, pr_, pu, swl, cs, Nat.reduceAdd, Nat.reduceLeDiff, Nat.zero_le, Nat.le_refl, true_and, and_true, Int.toNat_natCast, Int.reduceToNat, Int.reduceEq, false_implies, true_implies, Int.reduceNeg, Int.cast_ofNat_Int, mS_0, mS_1, mS_2, mS_3, mS_4, mS_5, mS_u0, mS_u1, mS_u2, mS_u3, mS_u4, mS_u5, g0, g1, g2, g3, g4, g5, l1, l2, l3, l5, p1, p2, p3, p4, p5, sn_0, sn_9, at_0, at_9, fl_sn, fl_at, fl_usn, fl_uat, fl_a, fl_ua, uF, reduceIte, Nat.reduceEqDiff, true_or, or_true, Int.reduceLE, Int.reduceLT, wr_s, wn_1, wn_2, wn_5, wn_6, wn_8, wn_12, wn_14, wn_18, wn_24, wn_30, wn_32, wn_38, wn_44, ht]
    refine c_loses (by omega) hM hm ?_
    refine tG_at hd kMod_dies_24 ?_
    simp only [bMod_dies_24, rn, sm, lg, lt_, cmpP, tk, pr_, pu, swl, cs, Nat.reduceAdd, Nat.reduceLeDiff, Nat.zero_le, Nat.le_refl, true_and, and_true, Int.toNat_natCast, Int.reduceToNat, Int.reduceEq, false_implies, true_implies, Int.reduceNeg, Int.cast_ofNat_Int]
    exact hq
  · rw [bi_0 hb]
    rw [if_neg hb] at hq
    refine ⟨fun h => absurd rfl h, fun _ => ?_⟩
    refine tG_at hd kMod_dies_8 ?_
    simp only [bMod_dies_8, rn, sm, lg, lt_, cmpP, tk, pr_, pu, swl, cs, Nat.reduceAdd, Nat.reduceLeDiff, Nat.zero_le, Nat.le_refl, true_and, and_true, Int.toNat_natCast, Int.reduceToNat, Int.reduceEq, false_implies, true_implies, Int.reduceNeg, Int.cast_ofNat_Int]
    exact hq
end MD
