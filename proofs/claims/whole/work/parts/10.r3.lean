section MD
variable {w : WP} {d : Nat} {Γ : GM} {V : VH} {Q : QT} {M : Nat} {F T K S H : Nat → Int} {h c : Int} {n k W : Nat} {X : NT}
theorem c_sendsFirst (hd8 : 8 ≤ d) (hM : ML Γ M F) {x y : Int} (g : GJ n k W X)
    (hq : ∀ h' c' H', Q (some (.inl (actF n k 3 x y X).1)) Γ (mS V M (FF F h' c') T (fl (actF n k 3 x y X).2.1 (actF n k 3 x y X).2.2.1 (actF n k 3 x y X).2.2.2) K S H')) :
    tC w d nMod_sendsFirst [.inr (.inl M), .inl x, .inl y] Γ (mS V M (FF F h c) T (fl X.1 X.2.1 X.2.2) K S H) Q := by
  have hd : 4 ≤ d := by omega
  obtain ⟨n0, n5, hn2, hn6, hk41, hW⟩ := g.1.A
  have hf := fst_b (C := X.2.2) (a := x) (b := y) k 0
  obtain ⟨⟨g0, g1, g2, g3, g4, g5⟩, ⟨l1, l2, l3, -, l5⟩, p1, p2, p3, p4, p5⟩ := id hM
  refine tC_enter (nL := 4) (by decide +kernel) (by decide +kernel) rfl (Nat.le_of_ble_eq_true rfl) (fun hok => ?_)
  simp only [ent]
  refine tG_at hd kMod_sendsFirst_0 ?_
  simp (disch := omega) only [bMod_sendsFirst_0, rn, sm, lg, lt_, cmpP, tk, pr_, pu, swl, cs, Nat.reduceAdd, Nat.reduceLeDiff, Nat.zero_le, Nat.le_refl, true_and, and_true, Int.toNat_natCast, Int.reduceToNat, Int.reduceEq, false_implies, true_implies, Int.reduceNeg, Int.cast_ofNat_Int, mS_0, mS_1, mS_2, mS_3, mS_4, mS_5, mS_u0, mS_u1, mS_u2, mS_u3, mS_u4, mS_u5, g0, g1, g2, g3, g4, g5, l1, l2, l3, l5, p1, p2, p3, p4, p5, sn_0, sn_9, at_0, at_9, fl_sn, fl_at, fl_usn, fl_uat, fl_a, fl_ua, reduceIte, Nat.reduceEqDiff, true_or, or_true, Int.reduceLE, Int.reduceLT, wr_s, wn_1, wn_2, wn_5, wn_6, wn_8, wn_12, wn_14, wn_18, wn_24, wn_30, wn_32, wn_38, wn_44, FF_15, FF_16, FF_u, FF_ne, FF_r15, FF_r16, uF_at, uF_ne, not_true_eq_false, not_false_eq_true, implies_true]
  refine c_firstOf (by omega) hM.FF n5 (by omega) ?_
  refine tG_at hd kMod_sendsFirst_6 ?_
  simp only [bMod_sendsFirst_6, rn, sm, lg, lt_, cmpP, tk, pr_, pu, swl, cs, Nat.reduceAdd, Nat.reduceLeDiff, Nat.zero_le, Nat.le_refl, true_and, and_true, Int.toNat_natCast, Int.reduceToNat, Int.reduceEq, false_implies, true_implies, Int.reduceNeg, Int.cast_ofNat_Int]
  refine ⟨fun hz => ?_, fun hz => ?_⟩
  · have hF : actF n k 3 x y X = ((delF n (fst_ X.2.2 x y 0 k).toNat X).1, (delF n (fst_ X.2.2 x y 0 k).toNat X).2.1) := by
      unfold actF
      rw [if_neg (by decide), if_neg (by decide), if_neg (by decide), if_pos rfl, if_neg hz]
    rw [hF] at hq
    obtain ⟨p, hp⟩ : ∃ p : Nat, fst_ X.2.2 x y 0 k = (p : Int) := ⟨(fst_ X.2.2 x y 0 k).toNat, by omega⟩
    rw [hp, Int.toNat_natCast] at hq
    refine tG_at hd kMod_sendsFirst_16 ?_
    simp (disch := omega) only [bMod_sendsFirst_16, rn, sm, lg, lt_, cmpP, tk, pr_, pu, swl, cs, Nat.reduceAdd, Nat.reduceLeDiff, Nat.zero_le, Nat.le_refl, true_and, and_true, Int.toNat_natCast, Int.reduceToNat, Int.reduceEq, false_implies, true_implies, Int.reduceNeg, Int.cast_ofNat_Int, mS_0, mS_1, mS_2, mS_3, mS_4, mS_5, mS_u0, mS_u1, mS_u2, mS_u3, mS_u4, mS_u5, g0, g1, g2, g3, g4, g5, l1, l2, l3, l5, p1, p2, p3, p4, p5, sn_0, sn_9, at_0, at_9, fl_sn, fl_at, fl_usn, fl_uat, fl_a, fl_ua, reduceIte, Nat.reduceEqDiff, true_or, or_true, Int.reduceLE, Int.reduceLT, wr_s, wn_1, wn_2, wn_5, wn_6, wn_8, wn_12, wn_14, wn_18, wn_24, wn_30, wn_32, wn_38, wn_44, FF_15, FF_16, FF_u, FF_ne, FF_r15, FF_r16, uF_at, uF_ne, not_true_eq_false, not_false_eq_true, implies_true, hp]
    refine c_delivers (by omega) hM g (p := p) (by omega) (fun H' => ?_)
    refine tG_at hd kMod_sendsFirst_21 ?_
    simp only [bMod_sendsFirst_21, rn, sm, lg, lt_, cmpP, tk, pr_, pu, swl, cs, Nat.reduceAdd, Nat.reduceLeDiff, Nat.zero_le, Nat.le_refl, true_and, and_true, Int.toNat_natCast, Int.reduceToNat, Int.reduceEq, false_implies, true_implies, Int.reduceNeg, Int.cast_ofNat_Int]
    exact hq _ _ _
  · have hF : actF n k 3 x y X = (-1, X) := by
      unfold actF
      rw [if_neg (by decide), if_neg (by decide), if_neg (by decide), if_pos rfl, if_pos (by omega)]
    rw [hF] at hq
    refine tG_at hd kMod_sendsFirst_12 ?_
    simp only [bMod_sendsFirst_12, rn, sm, lg, lt_, cmpP, tk, pr_, pu, swl, cs, Nat.reduceAdd, Nat.reduceLeDiff, Nat.zero_le, Nat.le_refl, true_and, and_true, Int.toNat_natCast, Int.reduceToNat, Int.reduceEq, false_implies, true_implies, Int.reduceNeg, Int.cast_ofNat_Int]
    refine tG_at hd kMod_sendsFirst_21 ?_
    simp only [bMod_sendsFirst_21, rn, sm, lg, lt_, cmpP, tk, pr_, pu, swl, cs, Nat.reduceAdd, Nat.reduceLeDiff, Nat.zero_le, Nat.le_refl, true_and, and_true, Int.toNat_natCast, Int.reduceToNat, Int.reduceEq, false_implies, true_implies, Int.reduceNeg, Int.cast_ofNat_Int]
    exact hq _ _ _
theorem c_losesFirst (hd8 : 8 ≤ d) (hM : ML Γ M F) {x y : Int} (g : GJ n k W X)
    (hq : ∀ h' c' H', Q (some (.inl (actF n k 4 x y X).1)) Γ (mS V M (FF F h' c') T (fl (actF n k 4 x y X).2.1 (actF n k 4 x y X).2.2.1 (actF n k 4 x y X).2.2.2) K S H')) :
    tC w d nMod_losesFirst [.inr (.inl M), .inl x, .inl y] Γ (mS V M (FF F h c) T (fl X.1 X.2.1 X.2.2) K S H) Q := by
  have hd : 4 ≤ d := by omega
  obtain ⟨n0, n5, hn2, hn6, hk41, hW⟩ := g.1.A
  have hf := fst_b (C := X.2.2) (a := x) (b := y) k 0
  have a3 := g.1.1.2.2.2.2.1 3 (by omega) (by omega)
  obtain ⟨⟨g0, g1, g2, g3, g4, g5⟩, ⟨l1, l2, l3, -, l5⟩, p1, p2, p3, p4, p5⟩ := id hM
  refine tC_enter (nL := 4) (by decide +kernel) (by decide +kernel) rfl (Nat.le_of_ble_eq_true rfl) (fun hok => ?_)
  simp only [ent]
  refine tG_at hd kMod_losesFirst_0 ?_
  simp (disch := omega) only [bMod_losesFirst_0, rn, sm, lg, lt_, cmpP, tk, pr_, pu, swl, cs, Nat.reduceAdd, Nat.reduceLeDiff, Nat.zero_le, Nat.le_refl, true_and, and_true, Int.toNat_natCast, Int.reduceToNat, Int.reduceEq, false_implies, true_implies, Int.reduceNeg, Int.cast_ofNat_Int, mS_0, mS_1, mS_2, mS_3, mS_4, mS_5, mS_u0, mS_u1, mS_u2, mS_u3, mS_u4, mS_u5, g0, g1, g2, g3, g4, g5, l1, l2, l3, l5, p1, p2, p3, p4, p5, sn_0, sn_9, at_0, at_9, fl_sn, fl_at, fl_usn, fl_uat, fl_a, fl_ua, reduceIte, Nat.reduceEqDiff, true_or, or_true, Int.reduceLE, Int.reduceLT, wr_s, wn_1, wn_2, wn_5, wn_6, wn_8, wn_12, wn_14, wn_18, wn_24, wn_30, wn_32, wn_38, wn_44, FF_15, FF_16, FF_u, FF_ne, FF_r15, FF_r16, uF_at, uF_ne, not_true_eq_false, not_false_eq_true, implies_true]
  refine c_firstOf (by omega) hM.FF n5 (by omega) ?_
  refine tG_at hd kMod_losesFirst_6 ?_
  simp only [bMod_losesFirst_6, rn, sm, lg, lt_, cmpP, tk, pr_, pu, swl, cs, Nat.reduceAdd, Nat.reduceLeDiff, Nat.zero_le, Nat.le_refl, true_and, and_true, Int.toNat_natCast, Int.reduceToNat, Int.reduceEq, false_implies, true_implies, Int.reduceNeg, Int.cast_ofNat_Int]
  refine ⟨fun hz => ?_, fun hz => ?_⟩
  · have hF : actF n k 4 x y X = (X.2.2 (fst_ X.2.2 x y 0 k).toNat 2, losF (fst_ X.2.2 x y 0 k).toNat X) := by
      unfold actF
      rw [if_neg (by decide), if_neg (by decide), if_neg (by decide), if_neg (by decide), if_pos rfl, if_neg hz]
    rw [hF] at hq
    obtain ⟨p, hp⟩ : ∃ p : Nat, fst_ X.2.2 x y 0 k = (p : Int) := ⟨(fst_ X.2.2 x y 0 k).toNat, by omega⟩
    rw [hp, Int.toNat_natCast] at hq
    refine tG_at hd kMod_losesFirst_14 ?_
    simp (disch := omega) only [bMod_losesFirst_14, rn, sm, lg, lt_, cmpP, tk, pr_, pu, swl, cs, Nat.reduceAdd, Nat.reduceLeDiff, Nat.zero_le, Nat.le_refl, true_and, and_true, Int.toNat_natCast, Int.reduceToNat, Int.reduceEq, false_implies, true_implies, Int.reduceNeg, Int.cast_ofNat_Int, mS_0, mS_1, mS_2, mS_3, mS_4, mS_5, mS_u0, mS_u1, mS_u2, mS_u3, mS_u4, mS_u5, g0, g1, g2, g3, g4, g5, l1, l2, l3, l5, p1, p2, p3, p4, p5, sn_0, sn_9, at_0, at_9, fl_sn, fl_at, fl_usn, fl_uat, fl_a, fl_ua, reduceIte, Nat.reduceEqDiff, true_or, or_true, Int.reduceLE, Int.reduceLT, wr_s, wn_1, wn_2, wn_5, wn_6, wn_8, wn_12, wn_14, wn_18, wn_24, wn_30, wn_32, wn_38, wn_44, FF_15, FF_16, FF_u, FF_ne, FF_r15, FF_r16, uF_at, uF_ne, not_true_eq_false, not_false_eq_true, implies_true, hp]
    refine c_takesMessage (by omega) hM.FF n5 (by omega) (k := p) (by omega) ?_
    have hX : losF p X = (u1 (u1 X.1 5 ((k - 1 : Nat) : Int)) 3 (X.1 3 + 1), X.2.1, shC X.2.2 p k) := by
      unfold losF tkF
      dsimp only
      rw [n5, Int.toNat_natCast, u1_ne (by omega), show (k : Int) - 1 = ((k - 1 : Nat) : Int) by omega]
    rw [hX] at hq
    refine tG_at hd kMod_losesFirst_19 ?_
    simp (disch := omega) only [bMod_losesFirst_19, rn, sm, lg, lt_, cmpP, tk, pr_, pu, swl, cs, Nat.reduceAdd, Nat.reduceLeDiff, Nat.zero_le, Nat.le_refl, true_and, and_true, Int.toNat_natCast, Int.reduceToNat, Int.reduceEq, false_implies, true_implies, Int.reduceNeg, Int.cast_ofNat_Int, mS_0, mS_1, mS_2, mS_3, mS_4, mS_5, mS_u0, mS_u1, mS_u2, mS_u3, mS_u4, mS_u5, g0, g1, g2, g3, g4, g5, l1, l2, l3, l5, p1, p2, p3, p4, p5, sn_0, sn_9, at_0, at_9, fl_sn, fl_at, fl_usn, fl_uat, fl_a, fl_ua, reduceIte, Nat.reduceEqDiff, true_or, or_true, Int.reduceLE, Int.reduceLT, wr_s, wn_1, wn_2, wn_5, wn_6, wn_8, wn_12, wn_14, wn_18, wn_24, wn_30, wn_32, wn_38, wn_44, FF_15, FF_16, FF_u, FF_ne, FF_r15, FF_r16, uF_at, uF_ne, not_true_eq_false, not_false_eq_true, implies_true, hR_at, u1_ne, wr_i]
    exact hq _ _ _
  · have hF : actF n k 4 x y X = (-1, X) := by
      unfold actF
      rw [if_neg (by decide), if_neg (by decide), if_neg (by decide), if_neg (by decide), if_pos rfl, if_pos (by omega)]
    rw [hF] at hq
    refine tG_at hd kMod_losesFirst_12 ?_
    simp only [bMod_losesFirst_12, rn, sm, lg, lt_, cmpP, tk, pr_, pu, swl, cs, Nat.reduceAdd, Nat.reduceLeDiff, Nat.zero_le, Nat.le_refl, true_and, and_true, Int.toNat_natCast, Int.reduceToNat, Int.reduceEq, false_implies, true_implies, Int.reduceNeg, Int.cast_ofNat_Int]
    exact hq _ _ _
/-- all that are IN leave, the eldest message is delivered -/
theorem c_settlesOnce (hd8 : 8 ≤ d) (hM : ML Γ M F) (g : GJ n k W X) (hW : W + 14 ≤ 1000000000)
    (hq0 : (onceF n X).1 = 0 → ∀ h' c', Q (some (.inl 0)) Γ (mS V M (FF F h' c') T (fl (onceF n X).2.1.1 (onceF n X).2.1.2.1 (onceF n X).2.1.2.2) K S H))
    (hq1 : (onceF n X).1 = 1 → ∀ H', Q (some (.inl 1)) Γ (mS V M (FF F (onceF n X).2.2.1 (onceF n X).2.2.2) T (fl (onceF n X).2.1.1 (onceF n X).2.1.2.1 (onceF n X).2.1.2.2) K S H')) :
    tC w d nMod_settlesOnce [.inr (.inl M)] Γ (mS V M (FF F h c) T (fl X.1 X.2.1 X.2.2) K S H) Q := by
  have hd : 4 ≤ d := by omega
  obtain ⟨n0, n5, hn2, hn6, hk41, -⟩ := g.1.A
  obtain ⟨⟨g0, g1, g2, g3, g4, g5⟩, ⟨l1, l2, l3, -, l5⟩, p1, p2, p3, p4, p5⟩ := id hM
  refine tC_enter (nL := 2) (by decide +kernel) (by decide +kernel) rfl (Nat.le_of_ble_eq_true rfl) (fun hok => ?_)
  simp only [ent]
  refine tG_at hd kMod_settlesOnce_0 ?_
  simp only [bMod_settlesOnce_0, rn, sm, lg, lt_, cmpP, tk, pr_, pu, swl, cs, Nat.reduceAdd, Nat.reduceLeDiff, Nat.zero_le, Nat.le_refl, true_and, and_true, Int.toNat_natCast, Int.reduceToNat, Int.reduceEq, false_implies, true_implies, Int.reduceNeg, Int.cast_ofNat_Int]
  refine tG_loop (fun i => [some (.inr (.inl M)), some (.inl (i : Int))]) (fun i V' => ∃ h c, V' = mS V M (FF F h c) T (fl (lvF n i X).1 (lvF n i X).2.1 (lvF n i X).2.2) K S H) n ?_ ?_ 0 _ (Nat.zero_le _) ⟨h, c, rfl⟩
  · intro i V' hi hV k1
    obtain ⟨h, c, rfl⟩ := hV
    obtain ⟨k', g'⟩ := g.lvs (by omega) i (by omega)
    obtain ⟨m0, m5, -, -, -, -⟩ := g'.1.A
    refine tG_at hd kMod_settlesOnce_2 ?_
    simp (disch := omega) only [bMod_settlesOnce_2, rn, sm, lg, lt_, cmpP, tk, pr_, pu, swl, cs, Nat.reduceAdd, Nat.reduceLeDiff, Nat.zero_le, Nat.le_refl, true_and, and_true, Int.toNat_natCast, Int.reduceToNat, Int.reduceEq, false_implies, true_implies, Int.reduceNeg, Int.cast_ofNat_Int, mS_0, mS_1, mS_2, mS_3, mS_4, mS_5, mS_u0, mS_u1, mS_u2, mS_u3, mS_u4, mS_u5, g0, g1, g2, g3, g4, g5, l1, l2, l3, l5, p1, p2, p3, p4, p5, sn_0, sn_9, at_0, at_9, fl_sn, fl_at, fl_usn, fl_uat, fl_a, fl_ua, reduceIte, Nat.reduceEqDiff, true_or, or_true, Int.reduceLE, Int.reduceLT, wr_s, wn_1, wn_2, wn_5, wn_6, wn_8, wn_12, wn_14, wn_18, wn_24, wn_30, wn_32, wn_38, wn_44, FF_15, FF_16, FF_u, FF_ne, FF_r15, FF_r16, uF_at, uF_ne, not_true_eq_false, not_false_eq_true, implies_true, m0]
    refine ⟨fun h => absurd h (by omega), fun _ => ?_⟩
    refine tG_at hd kMod_settlesOnce_12 ?_
    simp (disch := omega) only [bMod_settlesOnce_12, rn, sm, lg, lt_, cmpP, tk, pr_, pu, swl, cs, Nat.reduceAdd, Nat.reduceLeDiff, Nat.zero_le, Nat.le_refl, true_and, and_true, Int.toNat_natCast, Int.reduceToNat, Int.reduceEq, false_implies, true_implies, Int.reduceNeg, Int.cast_ofNat_Int, mS_0, mS_1, mS_2, mS_3, mS_4, mS_5, mS_u0, mS_u1, mS_u2, mS_u3, mS_u4, mS_u5, g0, g1, g2, g3, g4, g5, l1, l2, l3, l5, p1, p2, p3, p4, p5, sn_0, sn_9, at_0, at_9, fl_sn, fl_at, fl_usn, fl_uat, fl_a, fl_ua, reduceIte, Nat.reduceEqDiff, true_or, or_true, Int.reduceLE, Int.reduceLT, wr_s, wn_1, wn_2, wn_5, wn_6, wn_8, wn_12, wn_14, wn_18, wn_24, wn_30, wn_32, wn_38, wn_44, FF_15, FF_16, FF_u, FF_ne, FF_r15, FF_r16, uF_at, uF_ne, not_true_eq_false, not_false_eq_true, implies_true]
    refine ⟨fun hz => ?_, fun hz => ?_⟩
    · refine tG_at hd kMod_settlesOnce_28 ?_
      simp (disch := omega) only [bMod_settlesOnce_28, rn, sm, lg, lt_, cmpP, tk, pr_, pu, swl, cs, Nat.reduceAdd, Nat.reduceLeDiff, Nat.zero_le, Nat.le_refl, true_and, and_true, Int.toNat_natCast, Int.reduceToNat, Int.reduceEq, false_implies, true_implies, Int.reduceNeg, Int.cast_ofNat_Int, mS_0, mS_1, mS_2, mS_3, mS_4, mS_5, mS_u0, mS_u1, mS_u2, mS_u3, mS_u4, mS_u5, g0, g1, g2, g3, g4, g5, l1, l2, l3, l5, p1, p2, p3, p4, p5, sn_0, sn_9, at_0, at_9, fl_sn, fl_at, fl_usn, fl_uat, fl_a, fl_ua, reduceIte, Nat.reduceEqDiff, true_or, or_true, Int.reduceLE, Int.reduceLT, wr_s, wn_1, wn_2, wn_5, wn_6, wn_8, wn_12, wn_14, wn_18, wn_24, wn_30, wn_32, wn_38, wn_44, FF_15, FF_16, FF_u, FF_ne, FF_r15, FF_r16, uF_at, uF_ne, not_true_eq_false, not_false_eq_true, implies_true]
      refine k1 _ ⟨h, c, ?_⟩
      simp only [lvF, if_neg hz]
    · refine tG_at hd kMod_settlesOnce_22 ?_
      simp (disch := omega) only [bMod_settlesOnce_22, rn, sm, lg, lt_, cmpP, tk, pr_, pu, swl, cs, Nat.reduceAdd, Nat.reduceLeDiff, Nat.zero_le, Nat.le_refl, true_and, and_true, Int.toNat_natCast, Int.reduceToNat, Int.reduceEq, false_implies, true_implies, Int.reduceNeg, Int.cast_ofNat_Int, mS_0, mS_1, mS_2, mS_3, mS_4, mS_5, mS_u0, mS_u1, mS_u2, mS_u3, mS_u4, mS_u5, g0, g1, g2, g3, g4, g5, l1, l2, l3, l5, p1, p2, p3, p4, p5, sn_0, sn_9, at_0, at_9, fl_sn, fl_at, fl_usn, fl_uat, fl_a, fl_ua, reduceIte, Nat.reduceEqDiff, true_or, or_true, Int.reduceLE, Int.reduceLT, wr_s, wn_1, wn_2, wn_5, wn_6, wn_8, wn_12, wn_14, wn_18, wn_24, wn_30, wn_32, wn_38, wn_44, FF_15, FF_16, FF_u, FF_ne, FF_r15, FF_r16, uF_at, uF_ne, not_true_eq_false, not_false_eq_true, implies_true]
      refine c_leavesTo (by omega) hM g' (y := 0) (fun h' c' => ?_)
      have hF : actF n k' 1 (i : Int) 0 (lvF n i X) = ((levF n i (lvF n i X) 0 0).1, (levF n i (lvF n i X) 0 0).2.1) := by
        unfold actF
        rw [if_neg (by decide), if_pos rfl, Int.toNat_natCast, if_pos ⟨by omega, by omega⟩]
      rw [hF]
      refine tG_at hd kMod_settlesOnce_27 ?_
      simp only [bMod_settlesOnce_27, rn, sm, lg, lt_, cmpP, tk, pr_, pu, swl, cs, Nat.reduceAdd, Nat.reduceLeDiff, Nat.zero_le, Nat.le_refl, true_and, and_true, Int.toNat_natCast, Int.reduceToNat, Int.reduceEq, false_implies, true_implies, Int.reduceNeg, Int.cast_ofNat_Int]
      refine tG_at hd kMod_settlesOnce_28 ?_
      simp (disch := omega) only [bMod_settlesOnce_28, rn, sm, lg, lt_, cmpP, tk, pr_, pu, swl, cs, Nat.reduceAdd, Nat.reduceLeDiff, Nat.zero_le, Nat.le_refl, true_and, and_true, Int.toNat_natCast, Int.reduceToNat, Int.reduceEq, false_implies, true_implies, Int.reduceNeg, Int.cast_ofNat_Int, mS_0, mS_1, mS_2, mS_3, mS_4, mS_5, mS_u0, mS_u1, mS_u2, mS_u3, mS_u4, mS_u5, g0, g1, g2, g3, g4, g5, l1, l2, l3, l5, p1, p2, p3, p4, p5, sn_0, sn_9, at_0, at_9, fl_sn, fl_at, fl_usn, fl_uat, fl_a, fl_ua, reduceIte, Nat.reduceEqDiff, true_or, or_true, Int.reduceLE, Int.reduceLT, wr_s, wn_1, wn_2, wn_5, wn_6, wn_8, wn_12, wn_14, wn_18, wn_24, wn_30, wn_32, wn_38, wn_44, FF_15, FF_16, FF_u, FF_ne, FF_r15, FF_r16, uF_at, uF_ne, not_true_eq_false, not_false_eq_true, implies_true]
      refine k1 _ ⟨h', c', ?_⟩
      simp only [lvF, if_pos (Decidable.not_not.mp hz)]
  · intro V' hV
    obtain ⟨h, c, rfl⟩ := hV
    obtain ⟨k', g'⟩ := g.lvs (by omega) n (by omega)
    obtain ⟨m0, m5, -, -, -, -⟩ := g'.1.A
    refine tG_at hd kMod_settlesOnce_2 ?_
    simp (disch := omega) only [bMod_settlesOnce_2, rn, sm, lg, lt_, cmpP, tk, pr_, pu, swl, cs, Nat.reduceAdd, Nat.reduceLeDiff, Nat.zero_le, Nat.le_refl, true_and, and_true, Int.toNat_natCast, Int.reduceToNat, Int.reduceEq, false_implies, true_implies, Int.reduceNeg, Int.cast_ofNat_Int, mS_0, mS_1, mS_2, mS_3, mS_4, mS_5, mS_u0, mS_u1, mS_u2, mS_u3, mS_u4, mS_u5, g0, g1, g2, g3, g4, g5, l1, l2, l3, l5, p1, p2, p3, p4, p5, sn_0, sn_9, at_0, at_9, fl_sn, fl_at, fl_usn, fl_uat, fl_a, fl_ua, reduceIte, Nat.reduceEqDiff, true_or, or_true, Int.reduceLE, Int.reduceLT, wr_s, wn_1, wn_2, wn_5, wn_6, wn_8, wn_12, wn_14, wn_18, wn_24, wn_30, wn_32, wn_38, wn_44, FF_15, FF_16, FF_u, FF_ne, FF_r15, FF_r16, uF_at, uF_ne, not_true_eq_false, not_false_eq_true, implies_true, m0]
    refine ⟨fun _ => ?_, fun h => absurd (by omega) h⟩
    refine tG_at hd kMod_settlesOnce_34 ?_
    simp (disch := omega) only [bMod_settlesOnce_34, rn, sm, lg, lt_, cmpP, tk, pr_, pu, swl, cs, Nat.reduceAdd, Nat.reduceLeDiff, Nat.zero_le, Nat.le_refl, true_and, and_true, Int.toNat_natCast, Int.reduceToNat, Int.reduceEq, false_implies, true_implies, Int.reduceNeg, Int.cast_ofNat_Int, mS_0, mS_1, mS_2, mS_3, mS_4, mS_5, mS_u0, mS_u1, mS_u2, mS_u3, mS_u4, mS_u5, g0, g1, g2, g3, g4, g5, l1, l2, l3, l5, p1, p2, p3, p4, p5, sn_0, sn_9, at_0, at_9, fl_sn, fl_at, fl_usn, fl_uat, fl_a, fl_ua, reduceIte, Nat.reduceEqDiff, true_or, or_true, Int.reduceLE, Int.reduceLT, wr_s, wn_1, wn_2, wn_5, wn_6, wn_8, wn_12, wn_14, wn_18, wn_24, wn_30, wn_32, wn_38, wn_44, FF_15, FF_16, FF_u, FF_ne, FF_r15, FF_r16, uF_at, uF_ne, not_true_eq_false, not_false_eq_true, implies_true, m5]
    refine ⟨fun hz => ?_, fun hz => ?_⟩
    · have hF : onceF n X = (1, (delF n 0 (lvF n n X)).2) := by
        unfold onceF
        rw [if_neg (by rw [m5]; exact hz)]
      rw [hF] at hq1
      refine tG_at hd kMod_settlesOnce_45 ?_
      simp (disch := omega) only [bMod_settlesOnce_45, rn, sm, lg, lt_, cmpP, tk, pr_, pu, swl, cs, Nat.reduceAdd, Nat.reduceLeDiff, Nat.zero_le, Nat.le_refl, true_and, and_true, Int.toNat_natCast, Int.reduceToNat, Int.reduceEq, false_implies, true_implies, Int.reduceNeg, Int.cast_ofNat_Int, mS_0, mS_1, mS_2, mS_3, mS_4, mS_5, mS_u0, mS_u1, mS_u2, mS_u3, mS_u4, mS_u5, g0, g1, g2, g3, g4, g5, l1, l2, l3, l5, p1, p2, p3, p4, p5, sn_0, sn_9, at_0, at_9, fl_sn, fl_at, fl_usn, fl_uat, fl_a, fl_ua, reduceIte, Nat.reduceEqDiff, true_or, or_true, Int.reduceLE, Int.reduceLT, wr_s, wn_1, wn_2, wn_5, wn_6, wn_8, wn_12, wn_14, wn_18, wn_24, wn_30, wn_32, wn_38, wn_44, FF_15, FF_16, FF_u, FF_ne, FF_r15, FF_r16, uF_at, uF_ne, not_true_eq_false, not_false_eq_true, implies_true]
      refine c_delivers (by omega) hM g' (p := 0) (by omega) (fun H' => ?_)
      refine tG_at hd kMod_settlesOnce_50 ?_
      simp only [bMod_settlesOnce_50, rn, sm, lg, lt_, cmpP, tk, pr_, pu, swl, cs, Nat.reduceAdd, Nat.reduceLeDiff, Nat.zero_le, Nat.le_refl, true_and, and_true, Int.toNat_natCast, Int.reduceToNat, Int.reduceEq, false_implies, true_implies, Int.reduceNeg, Int.cast_ofNat_Int]
      exact ⟨Or.inr trivial, hq1 rfl H'⟩
    · have hF : onceF n X = (0, lvF n n X, 0, -1) := by
        unfold onceF
        rw [if_pos (by rw [m5]; omega)]
      rw [hF] at hq0
      refine tG_at hd kMod_settlesOnce_43 ?_
      simp only [bMod_settlesOnce_43, rn, sm, lg, lt_, cmpP, tk, pr_, pu, swl, cs, Nat.reduceAdd, Nat.reduceLeDiff, Nat.zero_le, Nat.le_refl, true_and, and_true, Int.toNat_natCast, Int.reduceToNat, Int.reduceEq, false_implies, true_implies, Int.reduceNeg, Int.cast_ofNat_Int]
      exact ⟨Or.inl trivial, hq0 rfl _ _⟩
theorem c_settles (hd9 : 9 ≤ d) (hM : ML Γ M F) {t : Nat} (g : GJ n k W X) (ht : t ≤ 100) (hW : W + 14 * t ≤ 1000000000)
    (hq : ∀ h' c' H', Q (some (.inl (setF n t X).1)) Γ (mS V M (FF F h' c') T (fl (setF n t X).2.1 (setF n t X).2.2.1 (setF n t X).2.2.2) K S H')) :
    tC w d nMod_settles [.inr (.inl M), .inl (t : Int)] Γ (mS V M (FF F h c) T (fl X.1 X.2.1 X.2.2) K S H) Q := by
  have hd : 4 ≤ d := by omega
  refine tC_enter (nL := 3) (by decide +kernel) (by decide +kernel) rfl (Nat.le_of_ble_eq_true rfl) (fun hok => ?_)
  simp only [ent]
  refine tG_at hd kMod_settles_0 ?_
  simp only [bMod_settles_0, rn, sm, lg, lt_, cmpP, tk, pr_, pu, swl, cs, Nat.reduceAdd, Nat.reduceLeDiff, Nat.zero_le, Nat.le_refl, true_and, and_true, Int.toNat_natCast, Int.reduceToNat, Int.reduceEq, false_implies, true_implies, Int.reduceNeg, Int.cast_ofNat_Int]
  have key : ∀ (r i k W : Nat) (X : NT) (h c : Int) (H : Nat → Int), i + r = t → GJ n k W X → W + 14 * r ≤ 1000000000 → (∀ h' c' H', Q (some (.inl (i + (setF n r X).1))) Γ (mS V M (FF F h' c') T (fl (setF n r X).2.1 (setF n r X).2.2.1 (setF n r X).2.2.2) K S H')) → tG w d nMod_settles 2 [some (.inr (.inl M)), some (.inl (t : Int)), some (.inl (i : Int))] [] Γ (mS V M (FF F h c) T (fl X.1 X.2.1 X.2.2) K S H) 0 0 Q := by
    intro r
    induction r with
    | zero =>
      intro i k W X h c H hi g hW hq
      refine tG_at hd kMod_settles_2 ?_
      simp only [bMod_settles_2, rn, sm, lg, lt_, cmpP, tk, pr_, pu, swl, cs, Nat.reduceAdd, Nat.reduceLeDiff, Nat.zero_le, Nat.le_refl, true_and, and_true, Int.toNat_natCast, Int.reduceToNat, Int.reduceEq, false_implies, true_implies, Int.reduceNeg, Int.cast_ofNat_Int]
      refine ⟨fun _ => ?_, fun h => absurd (by omega) h⟩
      refine tG_at hd kMod_settles_20 ?_
      simp only [bMod_settles_20, rn, sm, lg, lt_, cmpP, tk, pr_, pu, swl, cs, Nat.reduceAdd, Nat.reduceLeDiff, Nat.zero_le, Nat.le_refl, true_and, and_true, Int.toNat_natCast, Int.reduceToNat, Int.reduceEq, false_implies, true_implies, Int.reduceNeg, Int.cast_ofNat_Int]
      simp only [setF, Int.add_zero] at hq
      exact hq _ _ _
    | succ r ih =>
      intro i k W X h c H hi g hW hq
      obtain ⟨⟨g0, g1, g2, g3, g4, g5⟩, ⟨l1, l2, l3, -, l5⟩, p1, p2, p3, p4, p5⟩ := id hM
      refine tG_at hd kMod_settles_2 ?_
      simp only [bMod_settles_2, rn, sm, lg, lt_, cmpP, tk, pr_, pu, swl, cs, Nat.reduceAdd, Nat.reduceLeDiff, Nat.zero_le, Nat.le_refl, true_and, and_true, Int.toNat_natCast, Int.reduceToNat, Int.reduceEq, false_implies, true_implies, Int.reduceNeg, Int.cast_ofNat_Int]
      refine ⟨fun h => absurd h (by omega), fun _ => ?_⟩
      refine tG_at hd kMod_settles_7 ?_
      simp (disch := omega) only [bMod_settles_7, rn, sm, lg, lt_, cmpP, tk, pr_, pu, swl, cs, Nat.reduceAdd, Nat.reduceLeDiff, Nat.zero_le, Nat.le_refl, true_and, and_true, Int.toNat_natCast, Int.reduceToNat, Int.reduceEq, false_implies, true_implies, Int.reduceNeg, Int.cast_ofNat_Int, mS_0, mS_1, mS_2, mS_3, mS_4, mS_5, mS_u0, mS_u1, mS_u2, mS_u3, mS_u4, mS_u5, g0, g1, g2, g3, g4, g5, l1, l2, l3, l5, p1, p2, p3, p4, p5, sn_0, sn_9, at_0, at_9, fl_sn, fl_at, fl_usn, fl_uat, fl_a, fl_ua, reduceIte, Nat.reduceEqDiff, true_or, or_true, Int.reduceLE, Int.reduceLT, wr_s, wn_1, wn_2, wn_5, wn_6, wn_8, wn_12, wn_14, wn_18, wn_24, wn_30, wn_32, wn_38, wn_44, FF_15, FF_16, FF_u, FF_ne, FF_r15, FF_r16, uF_at, uF_ne, not_true_eq_false, not_false_eq_true, implies_true]
      refine c_settlesOnce (by omega) hM g (by omega) (fun h0 h' c' => ?_) (fun h1 H' => ?_)
      · refine tG_at hd kMod_settles_11 ?_
        simp only [bMod_settles_11, rn, sm, lg, lt_, cmpP, tk, pr_, pu, swl, cs, Nat.reduceAdd, Nat.reduceLeDiff, Nat.zero_le, Nat.le_refl, true_and, and_true, Int.toNat_natCast, Int.reduceToNat, Int.reduceEq, false_implies, true_implies, Int.reduceNeg, Int.cast_ofNat_Int]
        simp only [setF, if_pos h0, Int.add_zero] at hq
        refine ⟨?_, fun h => absurd trivial h⟩
        refine tG_at hd kMod_settles_20 ?_
        simp only [bMod_settles_20, rn, sm, lg, lt_, cmpP, tk, pr_, pu, swl, cs, Nat.reduceAdd, Nat.reduceLeDiff, Nat.zero_le, Nat.le_refl, true_and, and_true, Int.toNat_natCast, Int.reduceToNat, Int.reduceEq, false_implies, true_implies, Int.reduceNeg, Int.cast_ofNat_Int]
        exact hq _ _ _
      · refine tG_at hd kMod_settles_11 ?_
        simp only [bMod_settles_11, rn, sm, lg, lt_, cmpP, tk, pr_, pu, swl, cs, Nat.reduceAdd, Nat.reduceLeDiff, Nat.zero_le, Nat.le_refl, true_and, and_true, Int.toNat_natCast, Int.reduceToNat, Int.reduceEq, false_implies, true_implies, Int.reduceNeg, Int.cast_ofNat_Int]
        intro _
        refine tG_at hd kMod_settles_14 ?_
        simp only [bMod_settles_14, rn, sm, lg, lt_, cmpP, tk, pr_, pu, swl, cs, Nat.reduceAdd, Nat.reduceLeDiff, Nat.zero_le, Nat.le_refl, true_and, and_true, Int.toNat_natCast, Int.reduceToNat, Int.reduceEq, false_implies, true_implies, Int.reduceNeg, Int.cast_ofNat_Int]
        rw [wr_s (by omega)]
        obtain ⟨k', g'⟩ := g.once (by omega)
        refine ih (i + 1) k' (W + 14) _ _ _ _ (by omega) g' (by omega) (fun h' c' H' => ?_)
        simp only [setF, if_neg (show ¬ (onceF n X).1 = 0 by omega)] at hq
        rw [show ((i + 1 : Nat) : Int) + (setF n r (onceF n X).2.1).1 = (i : Int) + ((setF n r (onceF n X).2.1).1 + 1) by omega]
        exact hq _ _ _
  exact key t 0 k W X h c H (by omega) g hW (fun h' c' H' => by rw [show ((0 : Nat) : Int) + (setF n t X).1 = (setF n t X).1 by omega]; exact hq _ _ _)
theorem c_does (hd10 : 10 ≤ d) (hM : ML Γ M F) {t x y : Int} (g : GJ n k W X) (ht : 0 ≤ t ∧ t ≤ 5) (hx : t = 5 → 0 ≤ x ∧ x ≤ 99) (hW : W + 1400 ≤ 1000000000)
    (hq : ∀ h' c' H', Q (some (.inl (actF n k t x y X).1)) Γ (mS V M (FF F h' c') T (fl (actF n k t x y X).2.1 (actF n k t x y X).2.2.1 (actF n k t x y X).2.2.2) K S H')) :
    tC w d nMod_does [.inr (.inl M), .inl t, .inl x, .inl y] Γ (mS V M (FF F h c) T (fl X.1 X.2.1 X.2.2) K S H) Q := by
  have hd : 4 ≤ d := by omega
  obtain ⟨⟨g0, g1, g2, g3, g4, g5⟩, ⟨l1, l2, l3, -, l5⟩, p1, p2, p3, p4, p5⟩ := id hM
  refine tC_enter (nL := 4) (by decide +kernel) (by decide +kernel) rfl (Nat.le_of_ble_eq_true rfl) (fun hok => ?_)
  simp only [ent]
  refine tG_at hd kMod_does_0 ?_
  simp only [bMod_does_0, rn, sm, lg, lt_, cmpP, tk, pr_, pu, swl, cs, Nat.reduceAdd, Nat.reduceLeDiff, Nat.zero_le, Nat.le_refl, true_and, and_true, Int.toNat_natCast, Int.reduceToNat, Int.reduceEq, false_implies, true_implies, Int.reduceNeg, Int.cast_ofNat_Int]
  refine ⟨fun hz => ?_, fun hz => ?_, fun hz => ?_, fun hz => ?_, fun hz => ?_, fun hz => ?_⟩
  · have h5 : t = 5 := by omega
    subst h5
    have hF : actF n k 5 x y X = setF n x.toNat X := by
      unfold actF
      rw [if_neg (by decide), if_neg (by decide), if_neg (by decide), if_neg (by decide), if_neg (by decide)]
    rw [hF] at hq
    obtain ⟨m, rfl⟩ : ∃ m : Nat, x = (m : Int) := ⟨x.toNat, by have := hx rfl; omega⟩
    have := hx rfl
    refine tG_at hd kMod_does_68 ?_
    simp (disch := omega) only [bMod_does_68, rn, sm, lg, lt_, cmpP, tk, pr_, pu, swl, cs, Nat.reduceAdd, Nat.reduceLeDiff, Nat.zero_le, Nat.le_refl, true_and, and_true, Int.toNat_natCast, Int.reduceToNat, Int.reduceEq, false_implies, true_implies, Int.reduceNeg, Int.cast_ofNat_Int, mS_0, mS_1, mS_2, mS_3, mS_4, mS_5, mS_u0, mS_u1, mS_u2, mS_u3, mS_u4, mS_u5, g0, g1, g2, g3, g4, g5, l1, l2, l3, l5, p1, p2, p3, p4, p5, sn_0, sn_9, at_0, at_9, fl_sn, fl_at, fl_usn, fl_uat, fl_a, fl_ua, reduceIte, Nat.reduceEqDiff, true_or, or_true, Int.reduceLE, Int.reduceLT, wr_s, wn_1, wn_2, wn_5, wn_6, wn_8, wn_12, wn_14, wn_18, wn_24, wn_30, wn_32, wn_38, wn_44, FF_15, FF_16, FF_u, FF_ne, FF_r15, FF_r16, uF_at, uF_ne, not_true_eq_false, not_false_eq_true, implies_true]
    refine c_settles (by omega) hM g (by omega) (by omega) (fun h' c' H' => ?_)
    refine tG_at hd kMod_does_73 ?_
    simp only [bMod_does_73, rn, sm, lg, lt_, cmpP, tk, pr_, pu, swl, cs, Nat.reduceAdd, Nat.reduceLeDiff, Nat.zero_le, Nat.le_refl, true_and, and_true, Int.toNat_natCast, Int.reduceToNat, Int.reduceEq, false_implies, true_implies, Int.reduceNeg, Int.cast_ofNat_Int]
    exact hq _ _ _
  · subst hz
    refine tG_at hd kMod_does_36 ?_
    simp (disch := omega) only [bMod_does_36, rn, sm, lg, lt_, cmpP, tk, pr_, pu, swl, cs, Nat.reduceAdd, Nat.reduceLeDiff, Nat.zero_le, Nat.le_refl, true_and, and_true, Int.toNat_natCast, Int.reduceToNat, Int.reduceEq, false_implies, true_implies, Int.reduceNeg, Int.cast_ofNat_Int, mS_0, mS_1, mS_2, mS_3, mS_4, mS_5, mS_u0, mS_u1, mS_u2, mS_u3, mS_u4, mS_u5, g0, g1, g2, g3, g4, g5, l1, l2, l3, l5, p1, p2, p3, p4, p5, sn_0, sn_9, at_0, at_9, fl_sn, fl_at, fl_usn, fl_uat, fl_a, fl_ua, reduceIte, Nat.reduceEqDiff, true_or, or_true, Int.reduceLE, Int.reduceLT, wr_s, wn_1, wn_2, wn_5, wn_6, wn_8, wn_12, wn_14, wn_18, wn_24, wn_30, wn_32, wn_38, wn_44, FF_15, FF_16, FF_u, FF_ne, FF_r15, FF_r16, uF_at, uF_ne, not_true_eq_false, not_false_eq_true, implies_true]
    refine c_asks (by omega) hM g (y := y) (fun h' c' => ?_)
    refine tG_at hd kMod_does_41 ?_
    simp only [bMod_does_41, rn, sm, lg, lt_, cmpP, tk, pr_, pu, swl, cs, Nat.reduceAdd, Nat.reduceLeDiff, Nat.zero_le, Nat.le_refl, true_and, and_true, Int.toNat_natCast, Int.reduceToNat, Int.reduceEq, false_implies, true_implies, Int.reduceNeg, Int.cast_ofNat_Int]
    exact hq _ _ _
  · subst hz
    refine tG_at hd kMod_does_42 ?_
    simp (disch := omega) only [bMod_does_42, rn, sm, lg, lt_, cmpP, tk, pr_, pu, swl, cs, Nat.reduceAdd, Nat.reduceLeDiff, Nat.zero_le, Nat.le_refl, true_and, and_true, Int.toNat_natCast, Int.reduceToNat, Int.reduceEq, false_implies, true_implies, Int.reduceNeg, Int.cast_ofNat_Int, mS_0, mS_1, mS_2, mS_3, mS_4, mS_5, mS_u0, mS_u1, mS_u2, mS_u3, mS_u4, mS_u5, g0, g1, g2, g3, g4, g5, l1, l2, l3, l5, p1, p2, p3, p4, p5, sn_0, sn_9, at_0, at_9, fl_sn, fl_at, fl_usn, fl_uat, fl_a, fl_ua, reduceIte, Nat.reduceEqDiff, true_or, or_true, Int.reduceLE, Int.reduceLT, wr_s, wn_1, wn_2, wn_5, wn_6, wn_8, wn_12, wn_14, wn_18, wn_24, wn_30, wn_32, wn_38, wn_44, FF_15, FF_16, FF_u, FF_ne, FF_r15, FF_r16, uF_at, uF_ne, not_true_eq_false, not_false_eq_true, implies_true]
    refine c_leavesTo (by omega) hM g (y := y) (fun h' c' => ?_)
    refine tG_at hd kMod_does_47 ?_
    simp only [bMod_does_47, rn, sm, lg, lt_, cmpP, tk, pr_, pu, swl, cs, Nat.reduceAdd, Nat.reduceLeDiff, Nat.zero_le, Nat.le_refl, true_and, and_true, Int.toNat_natCast, Int.reduceToNat, Int.reduceEq, false_implies, true_implies, Int.reduceNeg, Int.cast_ofNat_Int]
    exact hq _ _ _
  · subst hz
    refine tG_at hd kMod_does_48 ?_
    simp (disch := omega) only [bMod_does_48, rn, sm, lg, lt_, cmpP, tk, pr_, pu, swl, cs, Nat.reduceAdd, Nat.reduceLeDiff, Nat.zero_le, Nat.le_refl, true_and, and_true, Int.toNat_natCast, Int.reduceToNat, Int.reduceEq, false_implies, true_implies, Int.reduceNeg, Int.cast_ofNat_Int, mS_0, mS_1, mS_2, mS_3, mS_4, mS_5, mS_u0, mS_u1, mS_u2, mS_u3, mS_u4, mS_u5, g0, g1, g2, g3, g4, g5, l1, l2, l3, l5, p1, p2, p3, p4, p5, sn_0, sn_9, at_0, at_9, fl_sn, fl_at, fl_usn, fl_uat, fl_a, fl_ua, reduceIte, Nat.reduceEqDiff, true_or, or_true, Int.reduceLE, Int.reduceLT, wr_s, wn_1, wn_2, wn_5, wn_6, wn_8, wn_12, wn_14, wn_18, wn_24, wn_30, wn_32, wn_38, wn_44, FF_15, FF_16, FF_u, FF_ne, FF_r15, FF_r16, uF_at, uF_ne, not_true_eq_false, not_false_eq_true, implies_true]
    refine c_suspects (by omega) hM g (y := y) (fun h' c' => ?_)
    refine tG_at hd kMod_does_53 ?_
    simp only [bMod_does_53, rn, sm, lg, lt_, cmpP, tk, pr_, pu, swl, cs, Nat.reduceAdd, Nat.reduceLeDiff, Nat.zero_le, Nat.le_refl, true_and, and_true, Int.toNat_natCast, Int.reduceToNat, Int.reduceEq, false_implies, true_implies, Int.reduceNeg, Int.cast_ofNat_Int]
    exact hq _ _ _
  · subst hz
    refine tG_at hd kMod_does_54 ?_
    simp (disch := omega) only [bMod_does_54, rn, sm, lg, lt_, cmpP, tk, pr_, pu, swl, cs, Nat.reduceAdd, Nat.reduceLeDiff, Nat.zero_le, Nat.le_refl, true_and, and_true, Int.toNat_natCast, Int.reduceToNat, Int.reduceEq, false_implies, true_implies, Int.reduceNeg, Int.cast_ofNat_Int, mS_0, mS_1, mS_2, mS_3, mS_4, mS_5, mS_u0, mS_u1, mS_u2, mS_u3, mS_u4, mS_u5, g0, g1, g2, g3, g4, g5, l1, l2, l3, l5, p1, p2, p3, p4, p5, sn_0, sn_9, at_0, at_9, fl_sn, fl_at, fl_usn, fl_uat, fl_a, fl_ua, reduceIte, Nat.reduceEqDiff, true_or, or_true, Int.reduceLE, Int.reduceLT, wr_s, wn_1, wn_2, wn_5, wn_6, wn_8, wn_12, wn_14, wn_18, wn_24, wn_30, wn_32, wn_38, wn_44, FF_15, FF_16, FF_u, FF_ne, FF_r15, FF_r16, uF_at, uF_ne, not_true_eq_false, not_false_eq_true, implies_true]
    refine c_sendsFirst (by omega) hM g (fun h' c' H' => ?_)
    refine tG_at hd kMod_does_60 ?_
    simp only [bMod_does_60, rn, sm, lg, lt_, cmpP, tk, pr_, pu, swl, cs, Nat.reduceAdd, Nat.reduceLeDiff, Nat.zero_le, Nat.le_refl, true_and, and_true, Int.toNat_natCast, Int.reduceToNat, Int.reduceEq, false_implies, true_implies, Int.reduceNeg, Int.cast_ofNat_Int]
    exact hq _ _ _
  · subst hz
    refine tG_at hd kMod_does_61 ?_
    simp (disch := omega) only [bMod_does_61, rn, sm, lg, lt_, cmpP, tk, pr_, pu, swl, cs, Nat.reduceAdd, Nat.reduceLeDiff, Nat.zero_le, Nat.le_refl, true_and, and_true, Int.toNat_natCast, Int.reduceToNat, Int.reduceEq, false_implies, true_implies, Int.reduceNeg, Int.cast_ofNat_Int, mS_0, mS_1, mS_2, mS_3, mS_4, mS_5, mS_u0, mS_u1, mS_u2, mS_u3, mS_u4, mS_u5, g0, g1, g2, g3, g4, g5, l1, l2, l3, l5, p1, p2, p3, p4, p5, sn_0, sn_9, at_0, at_9, fl_sn, fl_at, fl_usn, fl_uat, fl_a, fl_ua, reduceIte, Nat.reduceEqDiff, true_or, or_true, Int.reduceLE, Int.reduceLT, wr_s, wn_1, wn_2, wn_5, wn_6, wn_8, wn_12, wn_14, wn_18, wn_24, wn_30, wn_32, wn_38, wn_44, FF_15, FF_16, FF_u, FF_ne, FF_r15, FF_r16, uF_at, uF_ne, not_true_eq_false, not_false_eq_true, implies_true]
    refine c_losesFirst (by omega) hM g (fun h' c' H' => ?_)
    refine tG_at hd kMod_does_67 ?_
    simp only [bMod_does_67, rn, sm, lg, lt_, cmpP, tk, pr_, pu, swl, cs, Nat.reduceAdd, Nat.reduceLeDiff, Nat.zero_le, Nat.le_refl, true_and, and_true, Int.toNat_natCast, Int.reduceToNat, Int.reduceEq, false_implies, true_implies, Int.reduceNeg, Int.cast_ofNat_Int]
    exact hq _ _ _
end MD
