/-! the reference: feed, beginning, acts by hand -/
def byt (x : Int) (i : Nat) : Int := bAnd (bUsh x (24 - 8 * (i : Int))) 255
def layT (x : Int) (L i : Nat) (T : Nat → Int) : Nat → Int := fun j => if L ≤ j ∧ j < L + i then byt x (j - L) else T j
theorem layT_s {x : Int} {L i : Nat} {T : Nat → Int} : u1 (layT x L i T) (L + i) (byt x i) = layT x L (i + 1) T := by
  funext j
  unfold layT
  by_cases hj : j = L + i
  · subst hj; rw [u1_at, if_pos (by omega), show L + i - L = i by omega]
  · rw [u1_ne hj]
    by_cases h : L ≤ j ∧ j < L + i
    · rw [if_pos h, if_pos (by omega)]
    · rw [if_neg h, if_neg (by omega)]
theorem uF_uF {F : Nat → Int} {i : Nat} {x y : Int} : uF (uF F i x) i y = uF F i y := by
  funext j
  unfold uF
  by_cases hj : j = i
  · rw [if_pos hj, if_pos hj]
  · rw [if_neg hj, if_neg hj, if_neg hj]
theorem uF_self {F : Nat → Int} {i : Nat} {x : Int} (h : F i = x) : uF F i x = F := by
  funext j
  unfold uF
  by_cases hj : j = i
  · rw [if_pos hj, hj, h]
  · rw [if_neg hj]
section MD
variable {w : WP} {d : Nat} {Γ : GM} {V : VH} {Q : QT} {M : Nat} {F T N K S H : Nat → Int} {h c : Int} {n k W : Nat} {X : NT}
theorem c_lays (hd : 4 ≤ d) (hM : ML Γ M F) {L : Nat} {x : Int} (hL : L + 4 ≤ 640) (hF : F 2 = (L : Int)) (hq : Q none Γ (mS V M (uF F 2 ((L + 4 : Nat) : Int)) (layT x L 4 T) N K S H)) : tC w d nMod_lays [.inr (.inl M), .inl x] Γ (mS V M F T N K S H) Q := by
  obtain ⟨⟨g0, g1, g2, g3, g4, g5⟩, ⟨l1, l2, l3, -, l5⟩, p1, p2, p3, p4, p5⟩ := id hM
  refine tC_enter (nL := 3) (by decide +kernel) (by decide +kernel) rfl (Nat.le_of_ble_eq_true rfl) (fun hok => ?_)
  simp only [ent]
  refine tG_at hd kMod_lays_0 ?_
  simp only [bMod_lays_0, rn, sm, lg, lt_, cmpP, tk, pr_, pu, swl, cs, Nat.reduceAdd, Nat.reduceLeDiff, Nat.zero_le, Nat.le_refl, true_and, and_true, Int.toNat_natCast, Int.reduceToNat, Int.reduceEq, false_implies, true_implies, Int.reduceNeg, Int.cast_ofNat_Int]
  have st : mS V M F T N K S H = mS V M (uF F 2 ((L + 0 : Nat) : Int)) (layT x L 0 T) N K S H := by
    rw [uF_self (by rw [hF]; rfl), show layT x L 0 T = T from funext fun j => if_neg (by omega)]
  rw [st]
  have := tG_loop (w := w) (d := d) (n := nMod_lays) (pc := 3) (Γ := Γ) (uc := 0) (us := 0) (Q := Q) (fun i => [some (.inr (.inl M)), some (.inl x), some (.inl (24 - 8 * (i : Int)))]) (fun i V' => V' = mS V M (uF F 2 ((L + i : Nat) : Int)) (layT x L i T) N K S H) 4 ?_ ?_ 0 _ (Nat.zero_le _) rfl
  · exact this
  · intro i V' hi hV k1
    subst hV
    refine tG_at hd kMod_lays_3 ?_
    simp only [bMod_lays_3, rn, sm, lg, lt_, cmpP, tk, pr_, pu, swl, cs, Nat.reduceAdd, Nat.reduceLeDiff, Nat.zero_le, Nat.le_refl, true_and, and_true, Int.toNat_natCast, Int.reduceToNat, Int.reduceEq, false_implies, true_implies, Int.reduceNeg, Int.cast_ofNat_Int]
    refine ⟨fun h => absurd h (by omega), fun _ => ?_⟩
    have e1 : (0 : Int) ≤ ((L + i : Nat) : Int) := by omega
    have e2 : ((L + i : Nat) : Int) < 640 := by omega
    have e3 : wr (24 - 8 * (i : Int) + -8) = 24 - 8 * ((i + 1 : Nat) : Int) := by rw [wr_id (by omega) (by omega)]; omega
    have e4 : bAnd (bUsh x (24 - 8 * (i : Int))) 255 = byt x i := rfl
    refine tG_at hd kMod_lays_7 ?_
    simp (disch := omega) only [bMod_lays_7, rn, sm, lg, lt_, cmpP, tk, pr_, pu, swl, cs, Nat.reduceAdd, Nat.reduceLeDiff, Nat.zero_le, Nat.le_refl, true_and, and_true, Int.toNat_natCast, Int.reduceToNat, Int.reduceEq, false_implies, true_implies, Int.reduceNeg, Int.cast_ofNat_Int, mS_0, mS_u0, mS_u1, g0, g1, l1, p1, uF_ne, uF_at, e1, e2, e3, e4, wr_s, uF_uF, layT_s, true_or, or_true]
    exact k1 _ rfl
  · intro V' hV
    subst hV
    refine tG_at hd kMod_lays_3 ?_
    simp only [bMod_lays_3, rn, sm, lg, lt_, cmpP, tk, pr_, pu, swl, cs, Nat.reduceAdd, Nat.reduceLeDiff, Nat.zero_le, Nat.le_refl, true_and, and_true, Int.toNat_natCast, Int.reduceToNat, Int.reduceEq, false_implies, true_implies, Int.reduceNeg, Int.cast_ofNat_Int]
    refine ⟨fun _ => ?_, fun h => absurd (by omega) h⟩
    refine tG_at hd kMod_lays_39 ?_
    simp only [bMod_lays_39, rn, sm, lg, lt_, cmpP, tk, pr_, pu, swl, cs, Nat.reduceAdd, Nat.reduceLeDiff, Nat.zero_le, Nat.le_refl, true_and, and_true, Int.toNat_natCast, Int.reduceToNat, Int.reduceEq, false_implies, true_implies, Int.reduceNeg, Int.cast_ofNat_Int]
    exact hq
def fedT (a b c d e : Int) (L : Nat) (T : Nat → Int) : Nat → Int := layT e (L + 16) 4 (layT d (L + 12) 4 (layT c (L + 8) 4 (layT b (L + 4) 4 (layT a L 4 T))))
theorem c_feed (hd5 : 5 ≤ d) (hM : ML Γ M F) {L : Nat} {a b x y z : Int} (hL : L ≤ 640) (hF : F 2 = (L : Int))
    (hq : if L + 20 ≤ 640 then Q (some (.inl ((L + 20 : Nat) : Int))) Γ (mS V M (uF (uF F 0 0) 2 ((L + 20 : Nat) : Int)) (fedT a b x y z L T) N K S H) else Q (some (.inl (-1))) Γ (mS V M (uF F 0 0) T N K S H)) : tC w d nMod_feed [.inr (.inl M), .inl a, .inl b, .inl x, .inl y, .inl z] Γ (mS V M F T N K S H) Q := by
  have hd : 4 ≤ d := by omega
  have hM0 : ML Γ M (uF F 0 0) := hM.uF (by omega)
  have hM2 : ∀ v, ML Γ M (uF (uF F 0 0) 2 v) := fun v => hM0.uF (by omega)
  obtain ⟨⟨g0, g1, g2, g3, g4, g5⟩, ⟨l1, l2, l3, -, l5⟩, p1, p2, p3, p4, p5⟩ := id hM
  refine tC_enter (nL := 6) (by decide +kernel) (by decide +kernel) rfl (Nat.le_of_ble_eq_true rfl) (fun hok => ?_)
  simp only [ent]
  refine tG_at hd kMod_feed_0 ?_
  simp (disch := omega) only [bMod_feed_0, rn, sm, lg, lt_, cmpP, tk, pr_, pu, swl, cs, Nat.reduceAdd, Nat.reduceLeDiff, Nat.zero_le, Nat.le_refl, true_and, and_true, Int.toNat_natCast, Int.reduceToNat, Int.reduceEq, false_implies, true_implies, Int.reduceNeg, Int.cast_ofNat_Int, mS_0, mS_u0, g0, uF_ne, hF]
  rw [wr_id (by omega) (by omega)]
  refine ⟨fun hz => ?_, fun hz => ?_⟩
  · rw [if_pos (by omega)] at hq
    refine tG_at hd kMod_feed_20 ?_
    simp (disch := omega) only [bMod_feed_20, rn, sm, lg, lt_, cmpP, tk, pr_, pu, swl, cs, Nat.reduceAdd, Nat.reduceLeDiff, Nat.zero_le, Nat.le_refl, true_and, and_true, Int.toNat_natCast, Int.reduceToNat, Int.reduceEq, false_implies, true_implies, Int.reduceNeg, Int.cast_ofNat_Int, mS_0, mS_1, mS_2, mS_3, mS_4, mS_5, mS_u0, mS_u1, mS_u2, mS_u3, mS_u4, mS_u5, g0, g1, g2, g3, g4, g5, l1, l2, l3, l5, p1, p2, p3, p4, p5, sn_0, sn_9, at_0, at_9, fl_sn, fl_at, fl_usn, fl_uat, fl_a, fl_ua, reduceIte, Nat.reduceEqDiff, true_or, or_true, Int.reduceLE, Int.reduceLT, wr_s, wn_1, wn_2, wn_5, wn_6, wn_8, wn_12, wn_14, wn_18, wn_24, wn_30, wn_32, wn_38, wn_44, FF_15, FF_16, FF_u, FF_ne, FF_r15, FF_r16, uF_at, uF_ne, not_true_eq_false, not_false_eq_true, implies_true]
    refine c_lays (by omega) hM0 (L := L) (by omega) (by rw [uF_ne (by omega)]; exact hF) ?_
    refine tG_at hd kMod_feed_25 ?_
    simp (disch := omega) only [bMod_feed_25, rn, sm, lg, lt_, cmpP, tk, pr_, pu, swl, cs, Nat.reduceAdd, Nat.reduceLeDiff, Nat.zero_le, Nat.le_refl, true_and, and_true, Int.toNat_natCast, Int.reduceToNat, Int.reduceEq, false_implies, true_implies, Int.reduceNeg, Int.cast_ofNat_Int, mS_0, mS_1, mS_2, mS_3, mS_4, mS_5, mS_u0, mS_u1, mS_u2, mS_u3, mS_u4, mS_u5, g0, g1, g2, g3, g4, g5, l1, l2, l3, l5, p1, p2, p3, p4, p5, sn_0, sn_9, at_0, at_9, fl_sn, fl_at, fl_usn, fl_uat, fl_a, fl_ua, reduceIte, Nat.reduceEqDiff, true_or, or_true, Int.reduceLE, Int.reduceLT, wr_s, wn_1, wn_2, wn_5, wn_6, wn_8, wn_12, wn_14, wn_18, wn_24, wn_30, wn_32, wn_38, wn_44, FF_15, FF_16, FF_u, FF_ne, FF_r15, FF_r16, uF_at, uF_ne, not_true_eq_false, not_false_eq_true, implies_true]
    refine c_lays (by omega) (hM2 _) (L := L + 4) (by omega) uF_at ?_
    rw [uF_uF]
    refine tG_at hd kMod_feed_30 ?_
    simp (disch := omega) only [bMod_feed_30, rn, sm, lg, lt_, cmpP, tk, pr_, pu, swl, cs, Nat.reduceAdd, Nat.reduceLeDiff, Nat.zero_le, Nat.le_refl, true_and, and_true, Int.toNat_natCast, Int.reduceToNat, Int.reduceEq, false_implies, true_implies, Int.reduceNeg, Int.cast_ofNat_Int, mS_0, mS_1, mS_2, mS_3, mS_4, mS_5, mS_u0, mS_u1, mS_u2, mS_u3, mS_u4, mS_u5, g0, g1, g2, g3, g4, g5, l1, l2, l3, l5, p1, p2, p3, p4, p5, sn_0, sn_9, at_0, at_9, fl_sn, fl_at, fl_usn, fl_uat, fl_a, fl_ua, reduceIte, Nat.reduceEqDiff, true_or, or_true, Int.reduceLE, Int.reduceLT, wr_s, wn_1, wn_2, wn_5, wn_6, wn_8, wn_12, wn_14, wn_18, wn_24, wn_30, wn_32, wn_38, wn_44, FF_15, FF_16, FF_u, FF_ne, FF_r15, FF_r16, uF_at, uF_ne, not_true_eq_false, not_false_eq_true, implies_true]
    refine c_lays (by omega) (hM2 _) (L := L + 4 + 4) (by omega) uF_at ?_
    rw [uF_uF]
    refine tG_at hd kMod_feed_35 ?_
    simp (disch := omega) only [bMod_feed_35, rn, sm, lg, lt_, cmpP, tk, pr_, pu, swl, cs, Nat.reduceAdd, Nat.reduceLeDiff, Nat.zero_le, Nat.le_refl, true_and, and_true, Int.toNat_natCast, Int.reduceToNat, Int.reduceEq, false_implies, true_implies, Int.reduceNeg, Int.cast_ofNat_Int, mS_0, mS_1, mS_2, mS_3, mS_4, mS_5, mS_u0, mS_u1, mS_u2, mS_u3, mS_u4, mS_u5, g0, g1, g2, g3, g4, g5, l1, l2, l3, l5, p1, p2, p3, p4, p5, sn_0, sn_9, at_0, at_9, fl_sn, fl_at, fl_usn, fl_uat, fl_a, fl_ua, reduceIte, Nat.reduceEqDiff, true_or, or_true, Int.reduceLE, Int.reduceLT, wr_s, wn_1, wn_2, wn_5, wn_6, wn_8, wn_12, wn_14, wn_18, wn_24, wn_30, wn_32, wn_38, wn_44, FF_15, FF_16, FF_u, FF_ne, FF_r15, FF_r16, uF_at, uF_ne, not_true_eq_false, not_false_eq_true, implies_true]
    refine c_lays (by omega) (hM2 _) (L := L + 4 + 4 + 4) (by omega) uF_at ?_
    rw [uF_uF]
    refine tG_at hd kMod_feed_41 ?_
    simp (disch := omega) only [bMod_feed_41, rn, sm, lg, lt_, cmpP, tk, pr_, pu, swl, cs, Nat.reduceAdd, Nat.reduceLeDiff, Nat.zero_le, Nat.le_refl, true_and, and_true, Int.toNat_natCast, Int.reduceToNat, Int.reduceEq, false_implies, true_implies, Int.reduceNeg, Int.cast_ofNat_Int, mS_0, mS_1, mS_2, mS_3, mS_4, mS_5, mS_u0, mS_u1, mS_u2, mS_u3, mS_u4, mS_u5, g0, g1, g2, g3, g4, g5, l1, l2, l3, l5, p1, p2, p3, p4, p5, sn_0, sn_9, at_0, at_9, fl_sn, fl_at, fl_usn, fl_uat, fl_a, fl_ua, reduceIte, Nat.reduceEqDiff, true_or, or_true, Int.reduceLE, Int.reduceLT, wr_s, wn_1, wn_2, wn_5, wn_6, wn_8, wn_12, wn_14, wn_18, wn_24, wn_30, wn_32, wn_38, wn_44, FF_15, FF_16, FF_u, FF_ne, FF_r15, FF_r16, uF_at, uF_ne, not_true_eq_false, not_false_eq_true, implies_true]
    refine c_lays (by omega) (hM2 _) (L := L + 4 + 4 + 4 + 4) (by omega) uF_at ?_
    rw [uF_uF]
    refine tG_at hd kMod_feed_47 ?_
    simp (disch := omega) only [bMod_feed_47, rn, sm, lg, lt_, cmpP, tk, pr_, pu, swl, cs, Nat.reduceAdd, Nat.reduceLeDiff, Nat.zero_le, Nat.le_refl, true_and, and_true, Int.toNat_natCast, Int.reduceToNat, Int.reduceEq, false_implies, true_implies, Int.reduceNeg, Int.cast_ofNat_Int, mS_0, mS_1, mS_2, mS_3, mS_4, mS_5, mS_u0, mS_u1, mS_u2, mS_u3, mS_u4, mS_u5, g0, g1, g2, g3, g4, g5, l1, l2, l3, l5, p1, p2, p3, p4, p5, sn_0, sn_9, at_0, at_9, fl_sn, fl_at, fl_usn, fl_uat, fl_a, fl_ua, reduceIte, Nat.reduceEqDiff, true_or, or_true, Int.reduceLE, Int.reduceLT, wr_s, wn_1, wn_2, wn_5, wn_6, wn_8, wn_12, wn_14, wn_18, wn_24, wn_30, wn_32, wn_38, wn_44, FF_15, FF_16, FF_u, FF_ne, FF_r15, FF_r16, uF_at, uF_ne, not_true_eq_false, not_false_eq_true, implies_true]
    exact hq
  · rw [if_neg (by omega)] at hq
    refine tG_at hd kMod_feed_18 ?_
    simp only [bMod_feed_18, rn, sm, lg, lt_, cmpP, tk, pr_, pu, swl, cs, Nat.reduceAdd, Nat.reduceLeDiff, Nat.zero_le, Nat.le_refl, true_and, and_true, Int.toNat_natCast, Int.reduceToNat, Int.reduceEq, false_implies, true_implies, Int.reduceNeg, Int.cast_ofNat_Int]
    exact hq
theorem fl_0 : fl (fun _ => 0) (fun _ _ => 0) (fun _ _ => 0) = fun _ => 0 := by
  funext j
  unfold fl
  split
  · rfl
  · split
    · rfl
    · split <;> rfl
theorem c_begins (hd : 4 ≤ d) (hM : ML Γ M F) (hn2 : 2 ≤ n) (hn6 : n ≤ 6) (hN : ∀ j, 2226 ≤ j → N j = 0) (hq : Q none Γ (mS V M F T (fl (begN n (fun _ => 0)).1 (begN n (fun _ => 0)).2.1 (begN n (fun _ => 0)).2.2) K S H)) : tC w d nMod_begins [.inr (.inl M), .inl (n : Int)] Γ (mS V M F T N K S H) Q := by
  obtain ⟨⟨g0, g1, g2, g3, g4, g5⟩, ⟨l1, l2, l3, -, l5⟩, p1, p2, p3, p4, p5⟩ := id hM
  refine tC_enter (nL := 3) (by decide +kernel) (by decide +kernel) rfl (Nat.le_of_ble_eq_true rfl) (fun hok => ?_)
  simp only [ent]
  refine tG_at hd kMod_begins_0 ?_
  simp only [bMod_begins_0, rn, sm, lg, lt_, cmpP, tk, pr_, pu, swl, cs, Nat.reduceAdd, Nat.reduceLeDiff, Nat.zero_le, Nat.le_refl, true_and, and_true, Int.toNat_natCast, Int.reduceToNat, Int.reduceEq, false_implies, true_implies, Int.reduceNeg, Int.cast_ofNat_Int]
  refine tG_loop (fun i => [some (.inr (.inl M)), some (.inl (n : Int)), some (.inl (i : Int))]) (fun i V' => V' = mS V M F T (fun j => if j < i then 0 else N j) K S H) 2226 ?_ ?_ 0 _ (Nat.zero_le _) (by congr 1)
  · intro i V' hi hV k1
    subst hV
    have h0 : (0 : Int) ≤ (i : Int) := by omega
    have h1 : (i : Int) < 2226 := by omega
    refine tG_at hd kMod_begins_2 ?_
    simp only [bMod_begins_2, rn, sm, lg, lt_, cmpP, tk, pr_, pu, swl, cs, Nat.reduceAdd, Nat.reduceLeDiff, Nat.zero_le, Nat.le_refl, true_and, and_true, Int.toNat_natCast, Int.reduceToNat, Int.reduceEq, false_implies, true_implies, Int.reduceNeg, Int.cast_ofNat_Int]
    refine ⟨fun h => absurd h (by omega), fun _ => ?_⟩
    refine tG_at hd kMod_begins_9 ?_
    simp (disch := omega) only [bMod_begins_9, rn, sm, lg, lt_, cmpP, tk, pr_, pu, swl, cs, Nat.reduceAdd, Nat.reduceLeDiff, Nat.zero_le, Nat.le_refl, true_and, and_true, Int.toNat_natCast, Int.reduceToNat, Int.reduceEq, false_implies, true_implies, Int.reduceNeg, Int.cast_ofNat_Int, mS_0, mS_1, mS_2, mS_3, mS_4, mS_5, mS_u0, mS_u1, mS_u2, mS_u3, mS_u4, mS_u5, g0, g1, g2, g3, g4, g5, l1, l2, l3, l5, p1, p2, p3, p4, p5, sn_0, sn_9, at_0, at_9, fl_sn, fl_at, fl_usn, fl_uat, fl_a, fl_ua, uF, reduceIte, Nat.reduceEqDiff, true_or, or_true, Int.reduceLE, Int.reduceLT, wr_s, wn_1, wn_2, wn_5, wn_6, wn_8, wn_12, wn_14, wn_18, wn_24, wn_30, wn_32, wn_38, wn_44, h0, h1]
    refine k1 _ ?_
    congr 1
    funext j
    by_cases hj : j = i
    · subst hj; rw [u1_at, if_pos (by omega)]
    · rw [u1_ne hj]
      by_cases hj2 : j < i
      · rw [if_pos hj2, if_pos (by omega)]
      · rw [if_neg hj2, if_neg (by omega)]
  · intro V' hV
    subst hV
    refine tG_at hd kMod_begins_2 ?_
    simp only [bMod_begins_2, rn, sm, lg, lt_, cmpP, tk, pr_, pu, swl, cs, Nat.reduceAdd, Nat.reduceLeDiff, Nat.zero_le, Nat.le_refl, true_and, and_true, Int.toNat_natCast, Int.reduceToNat, Int.reduceEq, false_implies, true_implies, Int.reduceNeg, Int.cast_ofNat_Int]
    refine ⟨fun _ => ?_, fun h => absurd (by omega) h⟩
    have e : (fun j => if j < 2226 then 0 else N j) = fl (fun _ => 0) (fun _ _ => 0) (fun _ _ => 0) := by
      rw [fl_0]
      funext j
      by_cases hj : j < 2226
      · rw [if_pos hj]
      · rw [if_neg hj]; exact hN j (by omega)
    rw [e]
    refine tG_at hd kMod_begins_22 ?_
    simp (disch := omega) only [bMod_begins_22, rn, sm, lg, lt_, cmpP, tk, pr_, pu, swl, cs, Nat.reduceAdd, Nat.reduceLeDiff, Nat.zero_le, Nat.le_refl, true_and, and_true, Int.toNat_natCast, Int.reduceToNat, Int.reduceEq, false_implies, true_implies, Int.reduceNeg, Int.cast_ofNat_Int, mS_0, mS_1, mS_2, mS_3, mS_4, mS_5, mS_u0, mS_u1, mS_u2, mS_u3, mS_u4, mS_u5, g0, g1, g2, g3, g4, g5, l1, l2, l3, l5, p1, p2, p3, p4, p5, sn_0, sn_9, at_0, at_9, fl_sn, fl_at, fl_usn, fl_uat, fl_a, fl_ua, uF, reduceIte, Nat.reduceEqDiff, true_or, or_true, Int.reduceLE, Int.reduceLT, wr_s, wn_1, wn_2, wn_5, wn_6, wn_8, wn_12, wn_14, wn_18, wn_24, wn_30, wn_32, wn_38, wn_44]
    refine tG_loop (fun i => [some (.inr (.inl M)), some (.inl (n : Int)), some (.inl (i : Int))]) (fun i V' => V' = mS V M F T (fl (u1 (fun _ => 0) 0 (n : Int)) (fun m j => if m < i ∧ j = 1 then 1 else 0) (fun _ _ => 0)) K S H) n ?_ ?_ 0 _ (Nat.zero_le _) (by congr 2)
    · intro i V' hi hV k1
      subst hV
      refine tG_at hd kMod_begins_31 ?_
      simp only [bMod_begins_31, rn, sm, lg, lt_, cmpP, tk, pr_, pu, swl, cs, Nat.reduceAdd, Nat.reduceLeDiff, Nat.zero_le, Nat.le_refl, true_and, and_true, Int.toNat_natCast, Int.reduceToNat, Int.reduceEq, false_implies, true_implies, Int.reduceNeg, Int.cast_ofNat_Int]
      refine ⟨fun h => absurd h (by omega), fun _ => ?_⟩
      refine tG_at hd kMod_begins_36 ?_
      simp (disch := omega) only [bMod_begins_36, rn, sm, lg, lt_, cmpP, tk, pr_, pu, swl, cs, Nat.reduceAdd, Nat.reduceLeDiff, Nat.zero_le, Nat.le_refl, true_and, and_true, Int.toNat_natCast, Int.reduceToNat, Int.reduceEq, false_implies, true_implies, Int.reduceNeg, Int.cast_ofNat_Int, mS_0, mS_1, mS_2, mS_3, mS_4, mS_5, mS_u0, mS_u1, mS_u2, mS_u3, mS_u4, mS_u5, g0, g1, g2, g3, g4, g5, l1, l2, l3, l5, p1, p2, p3, p4, p5, sn_0, sn_9, at_0, at_9, fl_sn, fl_at, fl_usn, fl_uat, fl_a, fl_ua, uF, reduceIte, Nat.reduceEqDiff, true_or, or_true, Int.reduceLE, Int.reduceLT, wr_s, wn_1, wn_2, wn_5, wn_6, wn_8, wn_12, wn_14, wn_18, wn_24, wn_30, wn_32, wn_38, wn_44]
      refine k1 _ ?_
      congr 2
      funext m j
      unfold u2
      by_cases hm : m = i ∧ j = 1
      · rw [if_pos hm, if_pos (by omega)]
      · rw [if_neg hm]
        dsimp only
        by_cases hm2 : m < i ∧ j = 1
        · rw [if_pos hm2, if_pos (by omega)]
        · rw [if_neg hm2, if_neg (by omega)]
    · intro V' hV
      subst hV
      refine tG_at hd kMod_begins_31 ?_
      simp only [bMod_begins_31, rn, sm, lg, lt_, cmpP, tk, pr_, pu, swl, cs, Nat.reduceAdd, Nat.reduceLeDiff, Nat.zero_le, Nat.le_refl, true_and, and_true, Int.toNat_natCast, Int.reduceToNat, Int.reduceEq, false_implies, true_implies, Int.reduceNeg, Int.cast_ofNat_Int]
      refine ⟨fun _ => ?_, fun h => absurd (by omega) h⟩
      have a0 := at_e (m := 0) (v := 30) (by omega) (by omega) (by omega)
      have a1 : at_ 0 30 = 36 := a0
      have a2 : u1 (fl (u1 (fun _ => 0) 0 (n : Int)) (fun m j => if m < n ∧ j = 1 then 1 else 0) (fun _ _ => 0)) 36 1 = fl (u1 (fun _ => 0) 0 (n : Int)) (u2 (fun m j => if m < n ∧ j = 1 then 1 else 0) 0 30 1) (fun _ _ => 0) := fl_ub (m := 0) (k := 30) (by omega) (by omega)
      refine tG_at hd kMod_begins_53 ?_
      simp (disch := omega) only [bMod_begins_53, rn, sm, lg, lt_, cmpP, tk, pr_, pu, swl, cs, Nat.reduceAdd, Nat.reduceLeDiff, Nat.zero_le, Nat.le_refl, true_and, and_true, Int.toNat_natCast, Int.reduceToNat, Int.reduceEq, false_implies, true_implies, Int.reduceNeg, Int.cast_ofNat_Int, mS_0, mS_1, mS_2, mS_3, mS_4, mS_5, mS_u0, mS_u1, mS_u2, mS_u3, mS_u4, mS_u5, g0, g1, g2, g3, g4, g5, l1, l2, l3, l5, p1, p2, p3, p4, p5, sn_0, sn_9, at_0, at_9, fl_sn, fl_at, fl_usn, fl_uat, fl_a, fl_ua, uF, reduceIte, Nat.reduceEqDiff, true_or, or_true, Int.reduceLE, Int.reduceLT, wr_s, wn_1, wn_2, wn_5, wn_6, wn_8, wn_12, wn_14, wn_18, wn_24, wn_30, wn_32, wn_38, wn_44, a1, a2]
      rw [show fl (u1 (fun _ => 0) 0 (n : Int)) (u2 (fun m j => if m < n ∧ j = 1 then 1 else 0) 0 30 1) (fun _ _ => 0) = fl (begN n (fun _ => 0)).1 (begN n (fun _ => 0)).2.1 (begN n (fun _ => 0)).2.2 from ?_]
      · exact hq
      · rw [show (begN n (fun _ => 0)).1 = u1 (fun _ => 0) 0 (n : Int) from rfl]
        refine fl_bb (fun m hm j hj => ?_)
        unfold u2 begN
        dsimp only
        by_cases hnm : n ≤ m
        · rw [if_neg (by omega), if_neg (by omega), if_pos hnm]
        · rw [if_neg hnm]
          by_cases h1 : j = 1
          · rw [if_neg (by omega), if_pos (by omega), if_pos h1]
          · by_cases h30 : m = 0 ∧ j = 30
            · rw [if_pos h30, if_neg h1, if_pos h30]
            · rw [if_neg h30, if_neg (by omega), if_neg h1, if_neg h30]
              split <;> rfl
theorem c_ask (hd12 : 12 ≤ d) (hM : ML Γ M F) {x : Int} (g : GJ n k W X) (hW : W + 1400 ≤ 1000000000) {q : Nat} (hq10 : q ≤ 10) (hF : F 14 = (q : Int)) {Y : Nat → NT} (hS : SN q S Y)
    (hq : ∀ h' c' K' S' H' q' Y', (0 ≤ (actF n k 0 x 0 X).1 → q' = snQ q ∧ Y' = snY q X Y) → ((actF n k 0 x 0 X).1 < 0 → q' = q ∧ Y' = Y) → SN q' S' Y' → Q (some (.inl (actF n k 0 x 0 X).1)) Γ (mS V M (FF (uF (uF F 0 0) 14 ((q' : Nat) : Int)) h' c') T (fl (actF n k 0 x 0 X).2.1 (actF n k 0 x 0 X).2.2.1 (actF n k 0 x 0 X).2.2.2) K' S' H')) :
    tC w d nMod_ask [.inr (.inl M), .inl x] Γ (mS V M (FF F h c) T (fl X.1 X.2.1 X.2.2) K S H) Q := by
  have hd : 4 ≤ d := by omega
  obtain ⟨⟨g0, g1, g2, g3, g4, g5⟩, ⟨l1, l2, l3, -, l5⟩, p1, p2, p3, p4, p5⟩ := id hM
  refine tC_enter (nL := 2) (by decide +kernel) (by decide +kernel) rfl (Nat.le_of_ble_eq_true rfl) (fun hok => ?_)
  simp only [ent]
  refine tG_at hd kMod_ask_0 ?_
  simp (disch := omega) only [bMod_ask_0, rn, sm, lg, lt_, cmpP, tk, pr_, pu, swl, cs, Nat.reduceAdd, Nat.reduceLeDiff, Nat.zero_le, Nat.le_refl, true_and, and_true, Int.toNat_natCast, Int.reduceToNat, Int.reduceEq, false_implies, true_implies, Int.reduceNeg, Int.cast_ofNat_Int, mS_0, mS_1, mS_2, mS_3, mS_4, mS_5, mS_u0, mS_u1, mS_u2, mS_u3, mS_u4, mS_u5, g0, g1, g2, g3, g4, g5, l1, l2, l3, l5, p1, p2, p3, p4, p5, sn_0, sn_9, at_0, at_9, fl_sn, fl_at, fl_usn, fl_uat, fl_a, fl_ua, reduceIte, Nat.reduceEqDiff, true_or, or_true, Int.reduceLE, Int.reduceLT, wr_s, wn_1, wn_2, wn_5, wn_6, wn_8, wn_12, wn_14, wn_18, wn_24, wn_30, wn_32, wn_38, wn_44, FF_15, FF_16, FF_u, FF_ne, FF_r15, FF_r16, uF_at, uF_ne, not_true_eq_false, not_false_eq_true, implies_true]
  refine c_byHand (by omega) hM g (by omega) (by omega) hW hq10 hF hS (fun h' c' K' S' H' q' Y' e1 e2 e3 => ?_)
  refine tG_at hd kMod_ask_7 ?_
  simp only [bMod_ask_7, rn, sm, lg, lt_, cmpP, tk, pr_, pu, swl, cs, Nat.reduceAdd, Nat.reduceLeDiff, Nat.zero_le, Nat.le_refl, true_and, and_true, Int.toNat_natCast, Int.reduceToNat, Int.reduceEq, false_implies, true_implies, Int.reduceNeg, Int.cast_ofNat_Int]
  exact hq _ _ _ _ _ _ _ e1 e2 e3
theorem c_leave (hd12 : 12 ≤ d) (hM : ML Γ M F) {x : Int} (g : GJ n k W X) (hW : W + 1400 ≤ 1000000000) {q : Nat} (hq10 : q ≤ 10) (hF : F 14 = (q : Int)) {Y : Nat → NT} (hS : SN q S Y)
    (hq : ∀ h' c' K' S' H' q' Y', (0 ≤ (actF n k 1 x 0 X).1 → q' = snQ q ∧ Y' = snY q X Y) → ((actF n k 1 x 0 X).1 < 0 → q' = q ∧ Y' = Y) → SN q' S' Y' → Q (some (.inl (actF n k 1 x 0 X).1)) Γ (mS V M (FF (uF (uF F 0 0) 14 ((q' : Nat) : Int)) h' c') T (fl (actF n k 1 x 0 X).2.1 (actF n k 1 x 0 X).2.2.1 (actF n k 1 x 0 X).2.2.2) K' S' H')) :
    tC w d nMod_leave [.inr (.inl M), .inl x] Γ (mS V M (FF F h c) T (fl X.1 X.2.1 X.2.2) K S H) Q := by
  have hd : 4 ≤ d := by omega
  obtain ⟨⟨g0, g1, g2, g3, g4, g5⟩, ⟨l1, l2, l3, -, l5⟩, p1, p2, p3, p4, p5⟩ := id hM
  refine tC_enter (nL := 2) (by decide +kernel) (by decide +kernel) rfl (Nat.le_of_ble_eq_true rfl) (fun hok => ?_)
  simp only [ent]
  refine tG_at hd kMod_leave_0 ?_
  simp (disch := omega) only [bMod_leave_0, rn, sm, lg, lt_, cmpP, tk, pr_, pu, swl, cs, Nat.reduceAdd, Nat.reduceLeDiff, Nat.zero_le, Nat.le_refl, true_and, and_true, Int.toNat_natCast, Int.reduceToNat, Int.reduceEq, false_implies, true_implies, Int.reduceNeg, Int.cast_ofNat_Int, mS_0, mS_1, mS_2, mS_3, mS_4, mS_5, mS_u0, mS_u1, mS_u2, mS_u3, mS_u4, mS_u5, g0, g1, g2, g3, g4, g5, l1, l2, l3, l5, p1, p2, p3, p4, p5, sn_0, sn_9, at_0, at_9, fl_sn, fl_at, fl_usn, fl_uat, fl_a, fl_ua, reduceIte, Nat.reduceEqDiff, true_or, or_true, Int.reduceLE, Int.reduceLT, wr_s, wn_1, wn_2, wn_5, wn_6, wn_8, wn_12, wn_14, wn_18, wn_24, wn_30, wn_32, wn_38, wn_44, FF_15, FF_16, FF_u, FF_ne, FF_r15, FF_r16, uF_at, uF_ne, not_true_eq_false, not_false_eq_true, implies_true]
  refine c_byHand (by omega) hM g (by omega) (by omega) hW hq10 hF hS (fun h' c' K' S' H' q' Y' e1 e2 e3 => ?_)
  refine tG_at hd kMod_leave_7 ?_
  simp only [bMod_leave_7, rn, sm, lg, lt_, cmpP, tk, pr_, pu, swl, cs, Nat.reduceAdd, Nat.reduceLeDiff, Nat.zero_le, Nat.le_refl, true_and, and_true, Int.toNat_natCast, Int.reduceToNat, Int.reduceEq, false_implies, true_implies, Int.reduceNeg, Int.cast_ofNat_Int]
  exact hq _ _ _ _ _ _ _ e1 e2 e3
theorem c_suspect (hd12 : 12 ≤ d) (hM : ML Γ M F) {x : Int} (g : GJ n k W X) (hW : W + 1400 ≤ 1000000000) {q : Nat} (hq10 : q ≤ 10) (hF : F 14 = (q : Int)) {Y : Nat → NT} (hS : SN q S Y)
    (hq : ∀ h' c' K' S' H' q' Y', (0 ≤ (actF n k 2 x 0 X).1 → q' = snQ q ∧ Y' = snY q X Y) → ((actF n k 2 x 0 X).1 < 0 → q' = q ∧ Y' = Y) → SN q' S' Y' → Q (some (.inl (actF n k 2 x 0 X).1)) Γ (mS V M (FF (uF (uF F 0 0) 14 ((q' : Nat) : Int)) h' c') T (fl (actF n k 2 x 0 X).2.1 (actF n k 2 x 0 X).2.2.1 (actF n k 2 x 0 X).2.2.2) K' S' H')) :
    tC w d nMod_suspect [.inr (.inl M), .inl x] Γ (mS V M (FF F h c) T (fl X.1 X.2.1 X.2.2) K S H) Q := by
  have hd : 4 ≤ d := by omega
  obtain ⟨⟨g0, g1, g2, g3, g4, g5⟩, ⟨l1, l2, l3, -, l5⟩, p1, p2, p3, p4, p5⟩ := id hM
  refine tC_enter (nL := 2) (by decide +kernel) (by decide +kernel) rfl (Nat.le_of_ble_eq_true rfl) (fun hok => ?_)
  simp only [ent]
  refine tG_at hd kMod_suspect_0 ?_
  simp (disch := omega) only [bMod_suspect_0, rn, sm, lg, lt_, cmpP, tk, pr_, pu, swl, cs, Nat.reduceAdd, Nat.reduceLeDiff, Nat.zero_le, Nat.le_refl, true_and, and_true, Int.toNat_natCast, Int.reduceToNat, Int.reduceEq, false_implies, true_implies, Int.reduceNeg, Int.cast_ofNat_Int, mS_0, mS_1, mS_2, mS_3, mS_4, mS_5, mS_u0, mS_u1, mS_u2, mS_u3, mS_u4, mS_u5, g0, g1, g2, g3, g4, g5, l1, l2, l3, l5, p1, p2, p3, p4, p5, sn_0, sn_9, at_0, at_9, fl_sn, fl_at, fl_usn, fl_uat, fl_a, fl_ua, reduceIte, Nat.reduceEqDiff, true_or, or_true, Int.reduceLE, Int.reduceLT, wr_s, wn_1, wn_2, wn_5, wn_6, wn_8, wn_12, wn_14, wn_18, wn_24, wn_30, wn_32, wn_38, wn_44, FF_15, FF_16, FF_u, FF_ne, FF_r15, FF_r16, uF_at, uF_ne, not_true_eq_false, not_false_eq_true, implies_true]
  refine c_byHand (by omega) hM g (by omega) (by omega) hW hq10 hF hS (fun h' c' K' S' H' q' Y' e1 e2 e3 => ?_)
  refine tG_at hd kMod_suspect_7 ?_
  simp only [bMod_suspect_7, rn, sm, lg, lt_, cmpP, tk, pr_, pu, swl, cs, Nat.reduceAdd, Nat.reduceLeDiff, Nat.zero_le, Nat.le_refl, true_and, and_true, Int.toNat_natCast, Int.reduceToNat, Int.reduceEq, false_implies, true_implies, Int.reduceNeg, Int.cast_ofNat_Int]
  exact hq _ _ _ _ _ _ _ e1 e2 e3
theorem c_send (hd12 : 12 ≤ d) (hM : ML Γ M F) {x y : Int} (g : GJ n k W X) (hW : W + 1400 ≤ 1000000000) {q : Nat} (hq10 : q ≤ 10) (hF : F 14 = (q : Int)) {Y : Nat → NT} (hS : SN q S Y)
    (hq : ∀ h' c' K' S' H' q' Y', (0 ≤ (actF n k 3 x y X).1 → q' = snQ q ∧ Y' = snY q X Y) → ((actF n k 3 x y X).1 < 0 → q' = q ∧ Y' = Y) → SN q' S' Y' → Q (some (.inl (actF n k 3 x y X).1)) Γ (mS V M (FF (uF (uF F 0 0) 14 ((q' : Nat) : Int)) h' c') T (fl (actF n k 3 x y X).2.1 (actF n k 3 x y X).2.2.1 (actF n k 3 x y X).2.2.2) K' S' H')) :
    tC w d nMod_send [.inr (.inl M), .inl x, .inl y] Γ (mS V M (FF F h c) T (fl X.1 X.2.1 X.2.2) K S H) Q := by
  have hd : 4 ≤ d := by omega
  obtain ⟨⟨g0, g1, g2, g3, g4, g5⟩, ⟨l1, l2, l3, -, l5⟩, p1, p2, p3, p4, p5⟩ := id hM
  refine tC_enter (nL := 3) (by decide +kernel) (by decide +kernel) rfl (Nat.le_of_ble_eq_true rfl) (fun hok => ?_)
  simp only [ent]
  refine tG_at hd kMod_send_0 ?_
  simp (disch := omega) only [bMod_send_0, rn, sm, lg, lt_, cmpP, tk, pr_, pu, swl, cs, Nat.reduceAdd, Nat.reduceLeDiff, Nat.zero_le, Nat.le_refl, true_and, and_true, Int.toNat_natCast, Int.reduceToNat, Int.reduceEq, false_implies, true_implies, Int.reduceNeg, Int.cast_ofNat_Int, mS_0, mS_1, mS_2, mS_3, mS_4, mS_5, mS_u0, mS_u1, mS_u2, mS_u3, mS_u4, mS_u5, g0, g1, g2, g3, g4, g5, l1, l2, l3, l5, p1, p2, p3, p4, p5, sn_0, sn_9, at_0, at_9, fl_sn, fl_at, fl_usn, fl_uat, fl_a, fl_ua, reduceIte, Nat.reduceEqDiff, true_or, or_true, Int.reduceLE, Int.reduceLT, wr_s, wn_1, wn_2, wn_5, wn_6, wn_8, wn_12, wn_14, wn_18, wn_24, wn_30, wn_32, wn_38, wn_44, FF_15, FF_16, FF_u, FF_ne, FF_r15, FF_r16, uF_at, uF_ne, not_true_eq_false, not_false_eq_true, implies_true]
  refine c_byHand (by omega) hM g (by omega) (by omega) hW hq10 hF hS (fun h' c' K' S' H' q' Y' e1 e2 e3 => ?_)
  refine tG_at hd kMod_send_7 ?_
  simp only [bMod_send_7, rn, sm, lg, lt_, cmpP, tk, pr_, pu, swl, cs, Nat.reduceAdd, Nat.reduceLeDiff, Nat.zero_le, Nat.le_refl, true_and, and_true, Int.toNat_natCast, Int.reduceToNat, Int.reduceEq, false_implies, true_implies, Int.reduceNeg, Int.cast_ofNat_Int]
  exact hq _ _ _ _ _ _ _ e1 e2 e3
theorem c_lose (hd12 : 12 ≤ d) (hM : ML Γ M F) {x y : Int} (g : GJ n k W X) (hW : W + 1400 ≤ 1000000000) {q : Nat} (hq10 : q ≤ 10) (hF : F 14 = (q : Int)) {Y : Nat → NT} (hS : SN q S Y)
    (hq : ∀ h' c' K' S' H' q' Y', (0 ≤ (actF n k 4 x y X).1 → q' = snQ q ∧ Y' = snY q X Y) → ((actF n k 4 x y X).1 < 0 → q' = q ∧ Y' = Y) → SN q' S' Y' → Q (some (.inl (actF n k 4 x y X).1)) Γ (mS V M (FF (uF (uF F 0 0) 14 ((q' : Nat) : Int)) h' c') T (fl (actF n k 4 x y X).2.1 (actF n k 4 x y X).2.2.1 (actF n k 4 x y X).2.2.2) K' S' H')) :
    tC w d nMod_lose [.inr (.inl M), .inl x, .inl y] Γ (mS V M (FF F h c) T (fl X.1 X.2.1 X.2.2) K S H) Q := by
  have hd : 4 ≤ d := by omega
  obtain ⟨⟨g0, g1, g2, g3, g4, g5⟩, ⟨l1, l2, l3, -, l5⟩, p1, p2, p3, p4, p5⟩ := id hM
  refine tC_enter (nL := 3) (by decide +kernel) (by decide +kernel) rfl (Nat.le_of_ble_eq_true rfl) (fun hok => ?_)
  simp only [ent]
  refine tG_at hd kMod_lose_0 ?_
  simp (disch := omega) only [bMod_lose_0, rn, sm, lg, lt_, cmpP, tk, pr_, pu, swl, cs, Nat.reduceAdd, Nat.reduceLeDiff, Nat.zero_le, Nat.le_refl, true_and, and_true, Int.toNat_natCast, Int.reduceToNat, Int.reduceEq, false_implies, true_implies, Int.reduceNeg, Int.cast_ofNat_Int, mS_0, mS_1, mS_2, mS_3, mS_4, mS_5, mS_u0, mS_u1, mS_u2, mS_u3, mS_u4, mS_u5, g0, g1, g2, g3, g4, g5, l1, l2, l3, l5, p1, p2, p3, p4, p5, sn_0, sn_9, at_0, at_9, fl_sn, fl_at, fl_usn, fl_uat, fl_a, fl_ua, reduceIte, Nat.reduceEqDiff, true_or, or_true, Int.reduceLE, Int.reduceLT, wr_s, wn_1, wn_2, wn_5, wn_6, wn_8, wn_12, wn_14, wn_18, wn_24, wn_30, wn_32, wn_38, wn_44, FF_15, FF_16, FF_u, FF_ne, FF_r15, FF_r16, uF_at, uF_ne, not_true_eq_false, not_false_eq_true, implies_true]
  refine c_byHand (by omega) hM g (by omega) (by omega) hW hq10 hF hS (fun h' c' K' S' H' q' Y' e1 e2 e3 => ?_)
  refine tG_at hd kMod_lose_7 ?_
  simp only [bMod_lose_7, rn, sm, lg, lt_, cmpP, tk, pr_, pu, swl, cs, Nat.reduceAdd, Nat.reduceLeDiff, Nat.zero_le, Nat.le_refl, true_and, and_true, Int.toNat_natCast, Int.reduceToNat, Int.reduceEq, false_implies, true_implies, Int.reduceNeg, Int.cast_ofNat_Int]
  exact hq _ _ _ _ _ _ _ e1 e2 e3
theorem c_settle0 (hd12 : 12 ≤ d) (hM : ML Γ M F) {x : Int} (hx : ¬ (1 ≤ x ∧ x ≤ 99)) (hq : Q (some (.inl (-1))) Γ (mS V M (uF F 0 0) T N K S H)) : tC w d nMod_settle [.inr (.inl M), .inl x] Γ (mS V M F T N K S H) Q := by
  have hd : 4 ≤ d := by omega
  obtain ⟨⟨g0, g1, g2, g3, g4, g5⟩, ⟨l1, l2, l3, -, l5⟩, p1, p2, p3, p4, p5⟩ := id hM
  refine tC_enter (nL := 2) (by decide +kernel) (by decide +kernel) rfl (Nat.le_of_ble_eq_true rfl) (fun hok => ?_)
  simp only [ent]
  refine tG_at hd kMod_settle_0 ?_
  simp (disch := omega) only [bMod_settle_0, rn, sm, lg, lt_, cmpP, tk, pr_, pu, swl, cs, Nat.reduceAdd, Nat.reduceLeDiff, Nat.zero_le, Nat.le_refl, true_and, and_true, Int.toNat_natCast, Int.reduceToNat, Int.reduceEq, false_implies, true_implies, Int.reduceNeg, Int.cast_ofNat_Int, mS_u0, g0]
  rw [bi_0 hx]
  refine ⟨fun _ => ?_, fun h => absurd rfl h⟩
  refine tG_at hd kMod_settle_25 ?_
  simp only [bMod_settle_25, rn, sm, lg, lt_, cmpP, tk, pr_, pu, swl, cs, Nat.reduceAdd, Nat.reduceLeDiff, Nat.zero_le, Nat.le_refl, true_and, and_true, Int.toNat_natCast, Int.reduceToNat, Int.reduceEq, false_implies, true_implies, Int.reduceNeg, Int.cast_ofNat_Int]
  refine tG_at hd kMod_settle_26 ?_
  simp only [bMod_settle_26, rn, sm, lg, lt_, cmpP, tk, pr_, pu, swl, cs, Nat.reduceAdd, Nat.reduceLeDiff, Nat.zero_le, Nat.le_refl, true_and, and_true, Int.toNat_natCast, Int.reduceToNat, Int.reduceEq, false_implies, true_implies, Int.reduceNeg, Int.cast_ofNat_Int]
  exact hq
theorem c_settle (hd12 : 12 ≤ d) (hM : ML Γ M F) {x : Int} (hx : 1 ≤ x ∧ x ≤ 99) (g : GJ n k W X) (hW : W + 1400 ≤ 1000000000) {q : Nat} (hq10 : q ≤ 10) (hF : F 14 = (q : Int)) {Y : Nat → NT} (hS : SN q S Y)
    (hq : ∀ h' c' K' S' H' q' Y', (0 ≤ (actF n k 5 x 0 X).1 → q' = snQ q ∧ Y' = snY q X Y) → ((actF n k 5 x 0 X).1 < 0 → q' = q ∧ Y' = Y) → SN q' S' Y' → Q (some (.inl (actF n k 5 x 0 X).1)) Γ (mS V M (FF (uF (uF F 0 0) 14 ((q' : Nat) : Int)) h' c') T (fl (actF n k 5 x 0 X).2.1 (actF n k 5 x 0 X).2.2.1 (actF n k 5 x 0 X).2.2.2) K' S' H')) :
    tC w d nMod_settle [.inr (.inl M), .inl x] Γ (mS V M (FF F h c) T (fl X.1 X.2.1 X.2.2) K S H) Q := by
  have hd : 4 ≤ d := by omega
  have hM0 : ML Γ M (uF F 0 0) := hM.uF (by omega)
  obtain ⟨⟨g0, g1, g2, g3, g4, g5⟩, ⟨l1, l2, l3, -, l5⟩, p1, p2, p3, p4, p5⟩ := id hM
  refine tC_enter (nL := 2) (by decide +kernel) (by decide +kernel) rfl (Nat.le_of_ble_eq_true rfl) (fun hok => ?_)
  simp only [ent]
  refine tG_at hd kMod_settle_0 ?_
  simp (disch := omega) only [bMod_settle_0, rn, sm, lg, lt_, cmpP, tk, pr_, pu, swl, cs, Nat.reduceAdd, Nat.reduceLeDiff, Nat.zero_le, Nat.le_refl, true_and, and_true, Int.toNat_natCast, Int.reduceToNat, Int.reduceEq, false_implies, true_implies, Int.reduceNeg, Int.cast_ofNat_Int, mS_0, mS_1, mS_2, mS_3, mS_4, mS_5, mS_u0, mS_u1, mS_u2, mS_u3, mS_u4, mS_u5, g0, g1, g2, g3, g4, g5, l1, l2, l3, l5, p1, p2, p3, p4, p5, sn_0, sn_9, at_0, at_9, fl_sn, fl_at, fl_usn, fl_uat, fl_a, fl_ua, reduceIte, Nat.reduceEqDiff, true_or, or_true, Int.reduceLE, Int.reduceLT, wr_s, wn_1, wn_2, wn_5, wn_6, wn_8, wn_12, wn_14, wn_18, wn_24, wn_30, wn_32, wn_38, wn_44, FF_15, FF_16, FF_u, FF_ne, FF_r15, FF_r16, uF_at, uF_ne, not_true_eq_false, not_false_eq_true, implies_true]
  rw [bi_1 hx]
  refine ⟨fun h => absurd h (by decide), fun _ => ?_⟩
  refine tG_at hd kMod_settle_15 ?_
  simp (disch := omega) only [bMod_settle_15, rn, sm, lg, lt_, cmpP, tk, pr_, pu, swl, cs, Nat.reduceAdd, Nat.reduceLeDiff, Nat.zero_le, Nat.le_refl, true_and, and_true, Int.toNat_natCast, Int.reduceToNat, Int.reduceEq, false_implies, true_implies, Int.reduceNeg, Int.cast_ofNat_Int, mS_0, mS_1, mS_2, mS_3, mS_4, mS_5, mS_u0, mS_u1, mS_u2, mS_u3, mS_u4, mS_u5, g0, g1, g2, g3, g4, g5, l1, l2, l3, l5, p1, p2, p3, p4, p5, sn_0, sn_9, at_0, at_9, fl_sn, fl_at, fl_usn, fl_uat, fl_a, fl_ua, reduceIte, Nat.reduceEqDiff, true_or, or_true, Int.reduceLE, Int.reduceLT, wr_s, wn_1, wn_2, wn_5, wn_6, wn_8, wn_12, wn_14, wn_18, wn_24, wn_30, wn_32, wn_38, wn_44, FF_15, FF_16, FF_u, FF_ne, FF_r15, FF_r16, uF_at, uF_ne, not_true_eq_false, not_false_eq_true, implies_true]
  refine c_byHand (by omega) hM0 g (by omega) (by omega) hW hq10 (by rw [uF_ne (by omega)]; exact hF) hS (fun h' c' K' S' H' q' Y' e1 e2 e3 => ?_)
  rw [uF_uF]
  refine tG_at hd kMod_settle_22 ?_
  simp only [bMod_settle_22, rn, sm, lg, lt_, cmpP, tk, pr_, pu, swl, cs, Nat.reduceAdd, Nat.reduceLeDiff, Nat.zero_le, Nat.le_refl, true_and, and_true, Int.toNat_natCast, Int.reduceToNat, Int.reduceEq, false_implies, true_implies, Int.reduceNeg, Int.cast_ofNat_Int]
  refine tG_at hd kMod_settle_26 ?_
  simp only [bMod_settle_26, rn, sm, lg, lt_, cmpP, tk, pr_, pu, swl, cs, Nat.reduceAdd, Nat.reduceLeDiff, Nat.zero_le, Nat.le_refl, true_and, and_true, Int.toNat_natCast, Int.reduceToNat, Int.reduceEq, false_implies, true_implies, Int.reduceNeg, Int.cast_ofNat_Int]
  exact hq _ _ _ _ _ _ _ e1 e2 e3
end MD
