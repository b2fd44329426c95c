/-! the reference's acts -/
section MD
variable {w : WP} {d : Nat} {Γ : GM} {V : VH} {Q : QT} {M : Nat} {F T K S H : Nat → Int} {h c : Int} {n k W : Nat} {X : NT}
theorem uF_at {F : Nat → Int} {i : Nat} {x : Int} : uF F i x i = x := if_pos rfl
theorem uF_ne {F : Nat → Int} {i j : Nat} {x : Int} (h : j ≠ i) : uF F i x j = F j := if_neg h
theorem FF_r15 : FF F h c 15 = h := by simp [FF, uF]
theorem FF_r16 : FF F h c 16 = c := by simp [FF, uF]
theorem FF_u {i : Nat} {x : Int} (h1 : i ≠ 15) (h2 : i ≠ 16) : uF (FF F h c) i x = FF (uF F i x) h c := by
  funext j
  unfold FF uF
  by_cases hj : j = i
  · subst hj; simp [h1, h2]
  · simp [hj]
theorem c_delivers (hd7 : 7 ≤ d) (hM : ML Γ M F) {p : Nat} (g : GJ n k W X) (hp : p < k)
    (hq : ∀ H', Q (some (.inl (delF n p X).1)) Γ (mS V M (FF F (delF n p X).2.2.1 (delF n p X).2.2.2) T (fl (delF n p X).2.1.1 (delF n p X).2.1.2.1 (delF n p X).2.1.2.2) K S H')) :
    tC w d nMod_delivers [.inr (.inl M), .inl (p : Int)] Γ (mS V M (FF F h c) T (fl X.1 X.2.1 X.2.2) K S H) Q := by
  have hd : 4 ≤ d := by omega
  obtain ⟨A, B, C⟩ := X
  have hA := g.1.A
  obtain ⟨n0, n5, hn2, hn6, hk41, hW⟩ := hA
  have g' := g.take hp
  obtain ⟨⟨a, b, ha, hb, hab, hfr, hto⟩, h2, h3, h4, h5, h6⟩ := g.1.1.2.2.2.2.2.2.1 p hp
  dsimp only at *
  have hX : tkF p (A, B, C) = (u1 A 5 ((k - 1 : Nat) : Int), B, shC C p k) := by
    unfold tkF
    dsimp only
    rw [n5, Int.toNat_natCast]
    congr 2
    omega
  have r0 := g'.1.row hb
  have e0 := g'.1.A.1
  have e5 := g'.1.A.2.1
  have e1 := g'.1.1.2.2.2.2.1 1 (by omega) (by omega)
  have e2 := g'.1.1.2.2.2.2.1 2 (by omega) (by omega)
  rw [hX] at r0 e0 e5 e1 e2
  dsimp only at r0 e0 e5 e1 e2
  obtain ⟨⟨g0, g1, g2, g3, g4, g5⟩, ⟨l1, l2, l3, -, l5⟩, p1, p2, p3, p4, p5⟩ := id hM
  refine tC_enter (nL := 3) (by decide +kernel) (by decide +kernel) rfl (Nat.le_of_ble_eq_true rfl) (fun hok => ?_)
  simp only [ent]
  refine tG_at hd kMod_delivers_0 ?_
  simp (disch := omega) only [bMod_delivers_0, rn, sm, lg, lt_, cmpP, tk, pr_, pu, swl, cs, Nat.reduceAdd, Nat.reduceLeDiff, Nat.zero_le, Nat.le_refl, true_and, and_true, Int.toNat_natCast, Int.reduceToNat, Int.reduceEq, false_implies, true_implies, Int.reduceNeg, Int.cast_ofNat_Int, mS_0, mS_1, mS_2, mS_3, mS_4, mS_5, mS_u0, mS_u1, mS_u2, mS_u3, mS_u4, mS_u5, g0, g1, g2, g3, g4, g5, l1, l2, l3, l5, p1, p2, p3, p4, p5, sn_0, sn_9, at_0, at_9, fl_sn, fl_at, fl_usn, fl_uat, fl_a, fl_ua, reduceIte, Nat.reduceEqDiff, true_or, or_true, Int.reduceLE, Int.reduceLT, wr_s, wn_1, wn_2, wn_5, wn_6, wn_8, wn_12, wn_14, wn_18, wn_24, wn_30, wn_32, wn_38, wn_44, FF_15, FF_16, FF_u, FF_ne, FF_r15, FF_r16, uF_at, uF_ne, not_true_eq_false, not_false_eq_true, implies_true]
  refine c_takesMessage (by omega) hM.FF n5 (by omega) hp ?_
  refine tG_at hd kMod_delivers_5 ?_
  simp (disch := omega) only [bMod_delivers_5, rn, sm, lg, lt_, cmpP, tk, pr_, pu, swl, cs, Nat.reduceAdd, Nat.reduceLeDiff, Nat.zero_le, Nat.le_refl, true_and, and_true, Int.toNat_natCast, Int.reduceToNat, Int.reduceEq, false_implies, true_implies, Int.reduceNeg, Int.cast_ofNat_Int, mS_0, mS_1, mS_2, mS_3, mS_4, mS_5, mS_u0, mS_u1, mS_u2, mS_u3, mS_u4, mS_u5, g0, g1, g2, g3, g4, g5, l1, l2, l3, l5, p1, p2, p3, p4, p5, sn_0, sn_9, at_0, at_9, fl_sn, fl_at, fl_usn, fl_uat, fl_a, fl_ua, reduceIte, Nat.reduceEqDiff, true_or, or_true, Int.reduceLE, Int.reduceLT, wr_s, wn_1, wn_2, wn_5, wn_6, wn_8, wn_12, wn_14, wn_18, wn_24, wn_30, wn_32, wn_38, wn_44, FF_15, FF_16, FF_u, FF_ne, FF_r15, FF_r16, uF_at, uF_ne, not_true_eq_false, not_false_eq_true, implies_true, hR_at, hto]
  refine ⟨fun hz => ?_, fun hz => ?_, fun hz => ?_, fun hz => ?_, fun hz => ?_⟩
  · have hz : C p 2 = 4 := by omega
    have hF : delF n p (A, B, C) = (4, (votedF n b a (C p 3) (C p 4) (u1 A 5 ((k - 1 : Nat) : Int), B, shC C p k) 0 (-1)).2) := by simp only [delF, delF1, hX, hto, hfr, Int.toNat_natCast, hz, Int.reduceEq, Int.reduceAdd, reduceIte]
    rw [hF] at hq
    refine tG_at hd kMod_delivers_121 ?_
    simp (disch := omega) only [bMod_delivers_121, rn, sm, lg, lt_, cmpP, tk, pr_, pu, swl, cs, Nat.reduceAdd, Nat.reduceLeDiff, Nat.zero_le, Nat.le_refl, true_and, and_true, Int.toNat_natCast, Int.reduceToNat, Int.reduceEq, false_implies, true_implies, Int.reduceNeg, Int.cast_ofNat_Int, mS_0, mS_1, mS_2, mS_3, mS_4, mS_5, mS_u0, mS_u1, mS_u2, mS_u3, mS_u4, mS_u5, g0, g1, g2, g3, g4, g5, l1, l2, l3, l5, p1, p2, p3, p4, p5, sn_0, sn_9, at_0, at_9, fl_sn, fl_at, fl_usn, fl_uat, fl_a, fl_ua, reduceIte, Nat.reduceEqDiff, true_or, or_true, Int.reduceLE, Int.reduceLT, wr_s, wn_1, wn_2, wn_5, wn_6, wn_8, wn_12, wn_14, wn_18, wn_24, wn_30, wn_32, wn_38, wn_44, FF_15, FF_16, FF_u, FF_ne, FF_r15, FF_r16, uF_at, uF_ne, not_true_eq_false, not_false_eq_true, implies_true, hR_at, hfr]
    refine c_voted (by omega) hM e0 (by omega) (by omega) e2 hW ?_
    refine tG_at hd kMod_delivers_144 ?_
    simp only [bMod_delivers_144, rn, sm, lg, lt_, cmpP, tk, pr_, pu, swl, cs, Nat.reduceAdd, Nat.reduceLeDiff, Nat.zero_le, Nat.le_refl, true_and, and_true, Int.toNat_natCast, Int.reduceToNat, Int.reduceEq, false_implies, true_implies, Int.reduceNeg, Int.cast_ofNat_Int]
    exact hq _
  · have hF : delF n p (A, B, C) = (0, (askedF n b a (C p) (u1 A 5 ((k - 1 : Nat) : Int), B, shC C p k) 0 (-1)).2) := by simp only [delF, delF1, hX, hto, hfr, Int.toNat_natCast, hz, Int.reduceEq, Int.reduceAdd, reduceIte]
    rw [hF] at hq
    refine tG_at hd kMod_delivers_60 ?_
    simp (disch := omega) only [bMod_delivers_60, rn, sm, lg, lt_, cmpP, tk, pr_, pu, swl, cs, Nat.reduceAdd, Nat.reduceLeDiff, Nat.zero_le, Nat.le_refl, true_and, and_true, Int.toNat_natCast, Int.reduceToNat, Int.reduceEq, false_implies, true_implies, Int.reduceNeg, Int.cast_ofNat_Int, mS_0, mS_1, mS_2, mS_3, mS_4, mS_5, mS_u0, mS_u1, mS_u2, mS_u3, mS_u4, mS_u5, g0, g1, g2, g3, g4, g5, l1, l2, l3, l5, p1, p2, p3, p4, p5, sn_0, sn_9, at_0, at_9, fl_sn, fl_at, fl_usn, fl_uat, fl_a, fl_ua, reduceIte, Nat.reduceEqDiff, true_or, or_true, Int.reduceLE, Int.reduceLT, wr_s, wn_1, wn_2, wn_5, wn_6, wn_8, wn_12, wn_14, wn_18, wn_24, wn_30, wn_32, wn_38, wn_44, FF_15, FF_16, FF_u, FF_ne, FF_r15, FF_r16, uF_at, uF_ne, not_true_eq_false, not_false_eq_true, implies_true, hR_at, hfr]
    refine c_asked (by omega) hM e0 hn6 hb ha e5 (by omega) (r := C p) (fun j hj => hR_at hj) r0 hW (by omega) (by have := h5 (by omega); omega) ?_
    refine tG_at hd kMod_delivers_71 ?_
    simp only [bMod_delivers_71, rn, sm, lg, lt_, cmpP, tk, pr_, pu, swl, cs, Nat.reduceAdd, Nat.reduceLeDiff, Nat.zero_le, Nat.le_refl, true_and, and_true, Int.toNat_natCast, Int.reduceToNat, Int.reduceEq, false_implies, true_implies, Int.reduceNeg, Int.cast_ofNat_Int]
    exact hq _
  · have hF : delF n p (A, B, C) = (1, (passedF n b (C p) (u1 A 5 ((k - 1 : Nat) : Int), B, shC C p k) 0 (-1)).2) := by simp only [delF, delF1, hX, hto, hfr, Int.toNat_natCast, hz, Int.reduceEq, Int.reduceAdd, reduceIte]
    rw [hF] at hq
    refine tG_at hd kMod_delivers_73 ?_
    simp (disch := omega) only [bMod_delivers_73, rn, sm, lg, lt_, cmpP, tk, pr_, pu, swl, cs, Nat.reduceAdd, Nat.reduceLeDiff, Nat.zero_le, Nat.le_refl, true_and, and_true, Int.toNat_natCast, Int.reduceToNat, Int.reduceEq, false_implies, true_implies, Int.reduceNeg, Int.cast_ofNat_Int, mS_0, mS_1, mS_2, mS_3, mS_4, mS_5, mS_u0, mS_u1, mS_u2, mS_u3, mS_u4, mS_u5, g0, g1, g2, g3, g4, g5, l1, l2, l3, l5, p1, p2, p3, p4, p5, sn_0, sn_9, at_0, at_9, fl_sn, fl_at, fl_usn, fl_uat, fl_a, fl_ua, reduceIte, Nat.reduceEqDiff, true_or, or_true, Int.reduceLE, Int.reduceLT, wr_s, wn_1, wn_2, wn_5, wn_6, wn_8, wn_12, wn_14, wn_18, wn_24, wn_30, wn_32, wn_38, wn_44, FF_15, FF_16, FF_u, FF_ne, FF_r15, FF_r16, uF_at, uF_ne, not_true_eq_false, not_false_eq_true, implies_true]
    obtain ⟨m1, m2, m3, m4, m5⟩ := h6 (by omega)
    refine c_passed (by omega) hM e0 hn6 hb e5 (by omega) (r := C p) (fun j hj => hR_at hj) r0 e1 hW ⟨m1, m4, m5⟩ ?_
    refine tG_at hd kMod_delivers_78 ?_
    simp only [bMod_delivers_78, rn, sm, lg, lt_, cmpP, tk, pr_, pu, swl, cs, Nat.reduceAdd, Nat.reduceLeDiff, Nat.zero_le, Nat.le_refl, true_and, and_true, Int.toNat_natCast, Int.reduceToNat, Int.reduceEq, false_implies, true_implies, Int.reduceNeg, Int.cast_ofNat_Int]
    exact hq _
  · have hF : delF n p (A, B, C) = (2, (doubtedF b a (C p 3) (u1 A 5 ((k - 1 : Nat) : Int), B, shC C p k) 0 (-1)).2) := by simp only [delF, delF1, hX, hto, hfr, Int.toNat_natCast, hz, Int.reduceEq, Int.reduceAdd, reduceIte]
    rw [hF] at hq
    refine tG_at hd kMod_delivers_80 ?_
    simp (disch := omega) only [bMod_delivers_80, rn, sm, lg, lt_, cmpP, tk, pr_, pu, swl, cs, Nat.reduceAdd, Nat.reduceLeDiff, Nat.zero_le, Nat.le_refl, true_and, and_true, Int.toNat_natCast, Int.reduceToNat, Int.reduceEq, false_implies, true_implies, Int.reduceNeg, Int.cast_ofNat_Int, mS_0, mS_1, mS_2, mS_3, mS_4, mS_5, mS_u0, mS_u1, mS_u2, mS_u3, mS_u4, mS_u5, g0, g1, g2, g3, g4, g5, l1, l2, l3, l5, p1, p2, p3, p4, p5, sn_0, sn_9, at_0, at_9, fl_sn, fl_at, fl_usn, fl_uat, fl_a, fl_ua, reduceIte, Nat.reduceEqDiff, true_or, or_true, Int.reduceLE, Int.reduceLT, wr_s, wn_1, wn_2, wn_5, wn_6, wn_8, wn_12, wn_14, wn_18, wn_24, wn_30, wn_32, wn_38, wn_44, FF_15, FF_16, FF_u, FF_ne, FF_r15, FF_r16, uF_at, uF_ne, not_true_eq_false, not_false_eq_true, implies_true, hR_at, hfr]
    refine c_doubted (by omega) hM (by omega) e5 (by omega) e1 hW h3 r0.2.2.2.2.2.2.2.1 ?_
    refine tG_at hd kMod_delivers_97 ?_
    simp only [bMod_delivers_97, rn, sm, lg, lt_, cmpP, tk, pr_, pu, swl, cs, Nat.reduceAdd, Nat.reduceLeDiff, Nat.zero_le, Nat.le_refl, true_and, and_true, Int.toNat_natCast, Int.reduceToNat, Int.reduceEq, false_implies, true_implies, Int.reduceNeg, Int.cast_ofNat_Int]
    exact hq _
  · refine tG_at hd kMod_delivers_99 ?_
    simp (disch := omega) only [bMod_delivers_99, rn, sm, lg, lt_, cmpP, tk, pr_, pu, swl, cs, Nat.reduceAdd, Nat.reduceLeDiff, Nat.zero_le, Nat.le_refl, true_and, and_true, Int.toNat_natCast, Int.reduceToNat, Int.reduceEq, false_implies, true_implies, Int.reduceNeg, Int.cast_ofNat_Int, mS_0, mS_1, mS_2, mS_3, mS_4, mS_5, mS_u0, mS_u1, mS_u2, mS_u3, mS_u4, mS_u5, g0, g1, g2, g3, g4, g5, l1, l2, l3, l5, p1, p2, p3, p4, p5, sn_0, sn_9, at_0, at_9, fl_sn, fl_at, fl_usn, fl_uat, fl_a, fl_ua, reduceIte, Nat.reduceEqDiff, true_or, or_true, Int.reduceLE, Int.reduceLT, wr_s, wn_1, wn_2, wn_5, wn_6, wn_8, wn_12, wn_14, wn_18, wn_24, wn_30, wn_32, wn_38, wn_44, FF_15, FF_16, FF_u, FF_ne, FF_r15, FF_r16, uF_at, uF_ne, not_true_eq_false, not_false_eq_true, implies_true, hR_at]
    refine ⟨fun hz2 => ?_, fun hz2 => ?_⟩
    · have hF : delF n p (A, B, C) = (3, (u1 A 5 ((k - 1 : Nat) : Int), B, shC C p k), 0, -1) := by simp only [delF, delF1, hX, hto, hfr, Int.toNat_natCast, hz, Int.reduceEq, Int.reduceAdd, reduceIte, if_neg hz2]
      rw [hF] at hq
      refine tG_at hd kMod_delivers_119 ?_
      simp only [bMod_delivers_119, rn, sm, lg, lt_, cmpP, tk, pr_, pu, swl, cs, Nat.reduceAdd, Nat.reduceLeDiff, Nat.zero_le, Nat.le_refl, true_and, and_true, Int.toNat_natCast, Int.reduceToNat, Int.reduceEq, false_implies, true_implies, Int.reduceNeg, Int.cast_ofNat_Int]
      exact hq _
    · have hz2 : B b 4 = C p 3 := Decidable.not_not.mp hz2
      have hF : delF n p (A, B, C) = (3, (u1 A 5 ((k - 1 : Nat) : Int), uR B b (drpR (B b)), shC C p k), 0, -1) := by simp only [delF, delF1, hX, hto, hfr, Int.toNat_natCast, hz, Int.reduceEq, Int.reduceAdd, reduceIte, if_pos hz2]
      rw [hF] at hq
      refine tG_at hd kMod_delivers_114 ?_
      simp (disch := omega) only [bMod_delivers_114, rn, sm, lg, lt_, cmpP, tk, pr_, pu, swl, cs, Nat.reduceAdd, Nat.reduceLeDiff, Nat.zero_le, Nat.le_refl, true_and, and_true, Int.toNat_natCast, Int.reduceToNat, Int.reduceEq, false_implies, true_implies, Int.reduceNeg, Int.cast_ofNat_Int, mS_0, mS_1, mS_2, mS_3, mS_4, mS_5, mS_u0, mS_u1, mS_u2, mS_u3, mS_u4, mS_u5, g0, g1, g2, g3, g4, g5, l1, l2, l3, l5, p1, p2, p3, p4, p5, sn_0, sn_9, at_0, at_9, fl_sn, fl_at, fl_usn, fl_uat, fl_a, fl_ua, reduceIte, Nat.reduceEqDiff, true_or, or_true, Int.reduceLE, Int.reduceLT, wr_s, wn_1, wn_2, wn_5, wn_6, wn_8, wn_12, wn_14, wn_18, wn_24, wn_30, wn_32, wn_38, wn_44, FF_15, FF_16, FF_u, FF_ne, FF_r15, FF_r16, uF_at, uF_ne, not_true_eq_false, not_false_eq_true, implies_true]
      refine c_dropsVotes (by omega) hM.FF (by omega) ?_
      refine tG_at hd kMod_delivers_119 ?_
      simp only [bMod_delivers_119, rn, sm, lg, lt_, cmpP, tk, pr_, pu, swl, cs, Nat.reduceAdd, Nat.reduceLeDiff, Nat.zero_le, Nat.le_refl, true_and, and_true, Int.toNat_natCast, Int.reduceToNat, Int.reduceEq, false_implies, true_implies, Int.reduceNeg, Int.cast_ofNat_Int]
      exact hq _
end MD
