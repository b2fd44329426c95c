section MD
variable {w : WP} {d : Nat} {Γ : GM} {V : VH} {Q : QT} {M : Nat} {F T K S H A : Nat → Int} {B C : Nat → Nat → Int} {h c : Int}
theorem drpR_lo {b : Nat → Int} {j : Nat} (h : j ≠ 4 ∧ j ≠ 5 ∧ (j < 24 ∨ 30 ≤ j)) : drpR b j = b j := if_neg (by omega)
theorem pasR_lo {b r : Nat → Int} {j : Nat} (h : j < 30 ∨ 50 ≤ j) : pasR b r j = b j := if_neg (by omega)
theorem pasR_hi {b r : Nat → Int} {j : Nat} (h : 30 ≤ j ∧ j < 50) : pasR b r j = r (j - 25) := if_pos h
/-- the row of pasS, place by place -/
theorem pasS_at {m : Nat} {r b : Nat → Int} (hm : m < 6) (j : Nat) : pasS m r b j = if 18 ≤ j ∧ j < 24 then (if j = 18 + m ∧ r (7 + m) < b 0 then b 0 else r (j - 11)) else if j = 1 then r 5 else if j = 4 ∨ j = 5 ∨ (24 ≤ j ∧ j < 30) then 0 else if j = 32 + m ∧ r (7 + m) < b 0 then b 0 else if 30 ≤ j ∧ j < 50 then r (j - 25) else b j := by
  have e0 : drpR (u1 (pasR b r) 1 (r 5)) 0 = b 0 := by rw [drpR_lo (by omega), u1_ne (by omega), pasR_lo (by omega)]
  have e32 : drpR (u1 (pasR b r) 1 (r 5)) (32 + m) = r (7 + m) := by
    rw [drpR_lo (by omega), u1_ne (by omega), pasR_hi (by omega)]
    congr 1
    omega
  have base : ∀ j, drpR (u1 (pasR b r) 1 (r 5)) j = if j = 1 then r 5 else if j = 4 ∨ j = 5 ∨ (24 ≤ j ∧ j < 30) then 0 else if 30 ≤ j ∧ j < 50 then r (j - 25) else b j := by
    intro j
    by_cases h1 : j = 1
    · subst h1
      rw [if_pos rfl, drpR_lo (by omega), u1_at]
    · rw [if_neg h1]
      by_cases h2 : j = 4 ∨ j = 5 ∨ (24 ≤ j ∧ j < 30)
      · rw [if_pos h2]
        exact if_pos h2
      · rw [if_neg h2, drpR_lo (by omega), u1_ne h1]
        rfl
  have mid : ∀ j, (if drpR (u1 (pasR b r) 1 (r 5)) (32 + m) < drpR (u1 (pasR b r) 1 (r 5)) 0 then u1 (drpR (u1 (pasR b r) 1 (r 5))) (32 + m) (drpR (u1 (pasR b r) 1 (r 5)) 0) else drpR (u1 (pasR b r) 1 (r 5))) j = if j = 1 then r 5 else if j = 4 ∨ j = 5 ∨ (24 ≤ j ∧ j < 30) then 0 else if j = 32 + m ∧ r (7 + m) < b 0 then b 0 else if 30 ≤ j ∧ j < 50 then r (j - 25) else b j := by
    intro j
    rw [e0, e32]
    by_cases hlt : r (7 + m) < b 0
    · rw [if_pos hlt]
      by_cases hj : j = 32 + m
      · subst hj
        rw [u1_at, if_neg (by omega), if_neg (by omega), if_pos ⟨rfl, hlt⟩]
      · rw [u1_ne hj, base]
        by_cases h1 : j = 1
        · rw [if_pos h1, if_pos h1]
        · rw [if_neg h1, if_neg h1]
          by_cases h2 : j = 4 ∨ j = 5 ∨ (24 ≤ j ∧ j < 30)
          · rw [if_pos h2, if_pos h2]
          · rw [if_neg h2, if_neg h2, if_neg (show ¬ (j = 32 + m ∧ r (7 + m) < b 0) from fun h => hj h.1)]
    · rw [if_neg hlt, base]
      by_cases h1 : j = 1
      · rw [if_pos h1, if_pos h1]
      · rw [if_neg h1, if_neg h1]
        by_cases h2 : j = 4 ∨ j = 5 ∨ (24 ≤ j ∧ j < 30)
        · rw [if_pos h2, if_pos h2]
        · rw [if_neg h2, if_neg h2, if_neg (show ¬ (j = 32 + m ∧ r (7 + m) < b 0) from fun h => hlt h.2)]
  unfold pasS rowR
  by_cases hj : 18 ≤ j ∧ j < 24
  · rw [if_pos hj, if_pos hj, mid, if_neg (by omega), if_neg (by omega)]
    by_cases hjm : j = 18 + m ∧ r (7 + m) < b 0
    · rw [if_pos hjm, if_pos ⟨by omega, hjm.2⟩]
    · rw [if_neg hjm, if_neg (by omega), if_pos (by omega)]
      congr 1
  · rw [if_neg hj, if_neg hj, mid]
theorem pasS_I {n W m : Nat} {r b : Nat → Int} (hm : m < 6) (hR : rowI n W b) (hr : (1 ≤ r 5 ∧ r 5 ≤ W) ∧ (∀ j, j < 6 → 0 ≤ r (7 + j) ∧ r (7 + j) ≤ W) ∧ ∃ L, QI n W (pb r) L) (hn6 : n ≤ 6) : rowI n W (pasS m r b) := by
  obtain ⟨i1, i2, i3, i4, i5, i6, i7, i8, i9, -⟩ := hR
  obtain ⟨r1, r2, L, q1, q2, q3, q4⟩ := hr
  have hL := (show QI n W (pb r) L from ⟨q1, q2, q3, q4⟩).len
  have e : ∀ j, j < 18 → j ≠ 1 → j ≠ 4 → j ≠ 5 → pasS m r b j = b j := by
    intro j h1 h2 h3 h4
    rw [pasS_at hm, if_neg (by omega), if_neg h2, if_neg (by omega), if_neg (by omega), if_neg (by omega)]
  have e2 : ∀ j, 30 ≤ j → j < 50 → (j < 32 ∨ 38 ≤ j) → pasS m r b j = pb r j := by
    intro j h1 h2 h3
    rw [pasS_at hm, if_neg (by omega), if_neg (by omega), if_neg (by omega), if_neg (by omega), if_pos (by omega)]
    rfl
  refine ⟨by rw [e 0 (by omega) (by omega) (by omega) (by omega)]; exact i1, ?_, by rw [e 2 (by omega) (by omega) (by omega) (by omega)]; exact i3, by rw [e 3 (by omega) (by omega) (by omega) (by omega)]; exact i4, ?_, fun j hj => by rw [e _ (by omega) (by omega) (by omega) (by omega)]; exact i6 j hj, fun j hj => by rw [e _ (by omega) (by omega) (by omega) (by omega)]; exact i7 j hj, ?_, fun j hj => ?_, L, ?_, fun i hi => ?_, fun i j hi hj => ?_, fun i hi => ?_⟩
  · rw [pasS_at hm, if_neg (by omega), if_pos rfl]
    exact r1
  · rw [pasS_at hm, if_neg (by omega), if_neg (by omega), if_pos (by omega)]
    omega
  · rw [e2 30 (by omega) (by omega) (by omega)]
    show 0 ≤ r 5 ∧ r 5 ≤ W
    omega
  · rw [pasS_at hm, if_neg (by omega), if_neg (by omega), if_neg (by omega)]
    split
    · exact i1
    · rw [if_pos (by omega), show 32 + j - 25 = 7 + j by omega]
      exact r2 j hj
  · rw [e2 31 (by omega) (by omega) (by omega)]
    exact q1
  · rw [e2 _ (by omega) (by omega) (by omega)]
    exact q2 i hi
  · rw [e2 _ (by omega) (by omega) (by omega), e2 _ (by omega) (by omega) (by omega)]
    exact q3 i j hi hj
  · rw [e2 _ (by omega) (by omega) (by omega)]
    exact q4 i hi
theorem dieA_n {b : Nat → Int} {j : Nat} (h : j ≠ 1) : dieA A b j = A j := by
  unfold dieA
  split
  · rw [u1_ne h]
  · rfl
def pasP (b r : Nat → Int) (i : Nat) : Nat → Int := fun j => if 30 ≤ j ∧ j < 30 + i then r (j - 25) else b j
theorem pasP_s {b r : Nat → Int} {i : Nat} : u1 (pasP b r i) (30 + i) (r (5 + i)) = pasP b r (i + 1) := by
  funext j
  unfold pasP
  by_cases hj : j = 30 + i
  · subst hj
    rw [u1_at, if_pos (by omega)]
    congr 1
    omega
  · rw [u1_ne hj]
    by_cases h2 : 30 ≤ j ∧ j < 30 + i
    · rw [if_pos h2, if_pos (by omega)]
    · rw [if_neg h2, if_neg (by omega)]
theorem c_passed (hd7 : 6 ≤ d) (hM : ML Γ M F) {m n k W : Nat} (hn : A 0 = (n : Int)) (hn6 : n ≤ 6) (hm : m < n) (hk : A 5 = (k : Int)) (hk6 : k < 60) {r : Nat → Int} (hH : ∀ j, j < 30 → H j = r j) (hR : rowI n W (B m)) (hA1 : 0 ≤ A 1 ∧ A 1 ≤ W) (hW : W ≤ 1000000000) (hr : (1 ≤ r 5 ∧ r 5 ≤ W) ∧ (∀ j, j < 6 → 0 ≤ r (7 + j) ∧ r (7 + j) ≤ W) ∧ ∃ L, QI n W (pb r) L)
    (hq : Q none Γ (mS V M (FF F (passedF n m r (A, B, C) h c).2.2.1 (passedF n m r (A, B, C) h c).2.2.2) T (fl (passedF n m r (A, B, C) h c).2.1.1 (passedF n m r (A, B, C) h c).2.1.2.1 (passedF n m r (A, B, C) h c).2.1.2.2) K S H)) :
    tC w d nMod_passed [.inr (.inl M), .inl (m : Int)] Γ (mS V M (FF F h c) T (fl A B C) K S H) Q := by
  have hd : 4 ≤ d := by omega
  have hMF := hM.FF (h := h) (c := c)
  have hm6 : m < 6 := by omega
  have h5 := hH 5 (by omega)
  have hI := pasS_I hm6 hR hr hn6
  obtain ⟨t, ht⟩ : ∃ t : Nat, A 1 = (t : Int) := ⟨(A 1).toNat, by omega⟩
  have e1 : wr ((t : Int) + 1) = (t : Int) + 1 := wr_id (by omega) (by omega)
  obtain ⟨⟨g0, g1, g2, g3, g4, g5⟩, ⟨l1, l2, l3, -, l5⟩, p1, p2, p3, p4, p5⟩ := id hMF
  unfold passedF at hq
  dsimp only at hq
  refine tC_enter (nL := 3) (by decide +kernel) (by decide +kernel) rfl (Nat.le_of_ble_eq_true rfl) (fun hok => ?_)
  simp only [ent]
  refine tG_at hd kMod_passed_0 ?_
  simp (disch := omega) only [bMod_passed_0, rn, sm, lg, lt_, cmpP, tk, pr_, pu, swl, cs, Nat.reduceAdd, Nat.reduceLeDiff, Nat.zero_le, Nat.le_refl, true_and, and_true, Int.toNat_natCast, Int.reduceToNat, Int.reduceEq, false_implies, true_implies, Int.reduceNeg, Int.cast_ofNat_Int, mS_0, mS_1, mS_2, mS_3, mS_4, mS_5, mS_u0, mS_u1, mS_u2, mS_u3, mS_u4, mS_u5, g0, g1, g2, g3, g4, g5, l1, l2, l3, l5, p1, p2, p3, p4, p5, sn_0, sn_9, at_0, at_9, fl_sn, fl_at, fl_usn, fl_uat, fl_a, fl_ua, uF, reduceIte, Nat.reduceEqDiff, true_or, or_true, Int.reduceLE, Int.reduceLT, wr_s, wn_1, wn_2, wn_5, wn_6, wn_8, wn_12, wn_14, wn_18, wn_24, wn_30, wn_32, wn_38, wn_44, h5]
  by_cases hlt : r 5 < B m 1
  · refine ⟨fun h => absurd hlt h, fun _ => ?_⟩
    rw [if_pos hlt] at hq
    refine tG_at hd kMod_passed_15 ?_
    simp (disch := omega) only [bMod_passed_15, rn, sm, lg, lt_, cmpP, tk, pr_, pu, swl, cs, Nat.reduceAdd, Nat.reduceLeDiff, Nat.zero_le, Nat.le_refl, true_and, and_true, Int.toNat_natCast, Int.reduceToNat, Int.reduceEq, false_implies, true_implies, Int.reduceNeg, Int.cast_ofNat_Int, mS_0, mS_2, mS_u2, g0, g2, l2, p2, fl_a, fl_ua, true_or, Int.reduceLE, Int.reduceLT, ht, e1]
    rw [ht] at hq
    exact hq
  · refine ⟨fun _ => ?_, fun h => absurd hlt h⟩
    rw [if_neg hlt] at hq
    have key : ∀ b0 : Nat → Int, (∀ j, j < 30 ∨ 50 ≤ j → b0 j = B m j) → tG w d nMod_passed 31 [some (.inr (.inl M)), some (.inl (m : Int)), none] [] Γ (mS V M (FF F h c) T (fl (dieA A (B m)) (uR B m b0) C) K S H) 0 0 Q := by
      intro b0 hb0
      refine tG_at hd kMod_passed_31 ?_
      simp (disch := omega) only [bMod_passed_31, rn, sm, lg, lt_, cmpP, tk, pr_, pu, swl, cs, Nat.reduceAdd, Nat.reduceLeDiff, Nat.zero_le, Nat.le_refl, true_and, and_true, Int.toNat_natCast, Int.reduceToNat, Int.reduceEq, false_implies, true_implies, Int.reduceNeg, Int.cast_ofNat_Int, mS_0, mS_1, mS_2, mS_3, mS_4, mS_5, mS_u0, mS_u1, mS_u2, mS_u3, mS_u4, mS_u5, g0, g1, g2, g3, g4, g5, l1, l2, l3, l5, p1, p2, p3, p4, p5, sn_0, sn_9, at_0, at_9, fl_sn, fl_at, fl_usn, fl_uat, fl_a, fl_ua, uF, reduceIte, Nat.reduceEqDiff, true_or, or_true, Int.reduceLE, Int.reduceLT, wr_s, wn_1, wn_2, wn_5, wn_6, wn_8, wn_12, wn_14, wn_18, wn_24, wn_30, wn_32, wn_38, wn_44]
      refine tG_loop (fun i => [some (.inr (.inl M)), some (.inl (m : Int)), some (.inl (i : Int))]) (fun i V' => V' = mS V M (FF F h c) T (fl (dieA A (B m)) (uR B m (pasP b0 r i)) C) K S H) 20 ?_ ?_ 0 _ (Nat.zero_le _) ?_
      · intro i V' hi hV k1
        subst hV
        have h5i := hH (5 + i) (by omega)
        refine tG_at hd kMod_passed_33 ?_
        simp only [bMod_passed_33, rn, sm, lg, lt_, cmpP, tk, pr_, pu, swl, cs, Nat.reduceAdd, Nat.reduceLeDiff, Nat.zero_le, Nat.le_refl, true_and, and_true, Int.toNat_natCast, Int.reduceToNat, Int.reduceEq, false_implies, true_implies, Int.reduceNeg, Int.cast_ofNat_Int]
        refine ⟨fun h => absurd h (by omega), fun _ => ?_⟩
        refine tG_at hd kMod_passed_39 ?_
        simp (disch := omega) only [bMod_passed_39, rn, sm, lg, lt_, cmpP, tk, pr_, pu, swl, cs, Nat.reduceAdd, Nat.reduceLeDiff, Nat.zero_le, Nat.le_refl, true_and, and_true, Int.toNat_natCast, Int.reduceToNat, Int.reduceEq, false_implies, true_implies, Int.reduceNeg, Int.cast_ofNat_Int, mS_0, mS_1, mS_2, mS_3, mS_4, mS_5, mS_u0, mS_u1, mS_u2, mS_u3, mS_u4, mS_u5, g0, g1, g2, g3, g4, g5, l1, l2, l3, l5, p1, p2, p3, p4, p5, sn_0, sn_9, at_0, at_9, fl_sn, fl_at, fl_usn, fl_uat, fl_a, fl_ua, uF, reduceIte, Nat.reduceEqDiff, true_or, or_true, Int.reduceLE, Int.reduceLT, wr_s, wn_1, wn_2, wn_5, wn_6, wn_8, wn_12, wn_14, wn_18, wn_24, wn_30, wn_32, wn_38, wn_44, uR_at, u2_uR, h5i, pasP_s]
        exact ⟨by omega, by omega, k1 _ rfl⟩
      · intro V' hV
        subst hV
        have hp : pasP b0 r 20 = pasR (B m) r := by
          funext j
          unfold pasP pasR
          by_cases hj : 30 ≤ j ∧ j < 50
          · rw [if_pos (by omega), if_pos hj]
          · rw [if_neg (by omega), if_neg hj]
            exact hb0 j (by omega)
        rw [hp]
        have h30 : pasR (B m) r 30 = r 5 := pasR_hi (by omega)
        refine tG_at hd kMod_passed_33 ?_
        simp only [bMod_passed_33, rn, sm, lg, lt_, cmpP, tk, pr_, pu, swl, cs, Nat.reduceAdd, Nat.reduceLeDiff, Nat.zero_le, Nat.le_refl, true_and, and_true, Int.toNat_natCast, Int.reduceToNat, Int.reduceEq, false_implies, true_implies, Int.reduceNeg, Int.cast_ofNat_Int]
        refine ⟨fun _ => ?_, fun h => absurd (show ¬ ((20 : Nat) : Int) < 20 by omega) h⟩
        refine tG_at hd kMod_passed_66 ?_
        simp (disch := omega) only [bMod_passed_66, rn, sm, lg, lt_, cmpP, tk, pr_, pu, swl, cs, Nat.reduceAdd, Nat.reduceLeDiff, Nat.zero_le, Nat.le_refl, true_and, and_true, Int.toNat_natCast, Int.reduceToNat, Int.reduceEq, false_implies, true_implies, Int.reduceNeg, Int.cast_ofNat_Int, mS_0, mS_1, mS_2, mS_3, mS_4, mS_5, mS_u0, mS_u1, mS_u2, mS_u3, mS_u4, mS_u5, g0, g1, g2, g3, g4, g5, l1, l2, l3, l5, p1, p2, p3, p4, p5, sn_0, sn_9, at_0, at_9, fl_sn, fl_at, fl_usn, fl_uat, fl_a, fl_ua, uF, reduceIte, Nat.reduceEqDiff, true_or, or_true, Int.reduceLE, Int.reduceLT, wr_s, wn_1, wn_2, wn_5, wn_6, wn_8, wn_12, wn_14, wn_18, wn_24, wn_30, wn_32, wn_38, wn_44, uR_at, u2_uR, h30]
        refine c_dropsVotes (by omega) hMF hm6 ?_
        rw [uR_at, uR_uR]
        have k125 : ∀ b4, rowR b4 = pasS m r (B m) → tG w d nMod_passed 125 [some (.inr (.inl M)), some (.inl (m : Int)), some (.inl ((20 : Nat) : Int))] [] Γ (mS V M (FF F h c) T (fl (dieA A (B m)) (uR B m b4) C) K S H) 0 0 Q := by
          intro b4 hb4
          refine tG_at hd kMod_passed_125 ?_
          simp (disch := omega) only [bMod_passed_125, rn, sm, lg, lt_, cmpP, tk, pr_, pu, swl, cs, Nat.reduceAdd, Nat.reduceLeDiff, Nat.zero_le, Nat.le_refl, true_and, and_true, Int.toNat_natCast, Int.reduceToNat, Int.reduceEq, false_implies, true_implies, Int.reduceNeg, Int.cast_ofNat_Int, mS_0, mS_1, mS_2, mS_3, mS_4, mS_5, mS_u0, mS_u1, mS_u2, mS_u3, mS_u4, mS_u5, g0, g1, g2, g3, g4, g5, l1, l2, l3, l5, p1, p2, p3, p4, p5, sn_0, sn_9, at_0, at_9, fl_sn, fl_at, fl_usn, fl_uat, fl_a, fl_ua, uF, reduceIte, Nat.reduceEqDiff, true_or, or_true, Int.reduceLE, Int.reduceLT, wr_s, wn_1, wn_2, wn_5, wn_6, wn_8, wn_12, wn_14, wn_18, wn_24, wn_30, wn_32, wn_38, wn_44]
          refine c_laysRow (by omega) hMF hm6 ?_
          rw [uR_at, uR_uR, hb4]
          refine tG_at hd kMod_passed_130 ?_
          simp (disch := omega) only [bMod_passed_130, rn, sm, lg, lt_, cmpP, tk, pr_, pu, swl, cs, Nat.reduceAdd, Nat.reduceLeDiff, Nat.zero_le, Nat.le_refl, true_and, and_true, Int.toNat_natCast, Int.reduceToNat, Int.reduceEq, false_implies, true_implies, Int.reduceNeg, Int.cast_ofNat_Int, mS_0, mS_1, mS_2, mS_3, mS_4, mS_5, mS_u0, mS_u1, mS_u2, mS_u3, mS_u4, mS_u5, g0, g1, g2, g3, g4, g5, l1, l2, l3, l5, p1, p2, p3, p4, p5, sn_0, sn_9, at_0, at_9, fl_sn, fl_at, fl_usn, fl_uat, fl_a, fl_ua, uF, reduceIte, Nat.reduceEqDiff, true_or, or_true, Int.reduceLE, Int.reduceLT, wr_s, wn_1, wn_2, wn_5, wn_6, wn_8, wn_12, wn_14, wn_18, wn_24, wn_30, wn_32, wn_38, wn_44, uR_at]
          by_cases h2 : pasS m r (B m) 2 = 1
          · refine ⟨fun h => absurd h2 h, fun _ => ?_⟩
            rw [if_pos h2] at hq
            refine tG_at hd kMod_passed_140 ?_
            simp (disch := omega) only [bMod_passed_140, rn, sm, lg, lt_, cmpP, tk, pr_, pu, swl, cs, Nat.reduceAdd, Nat.reduceLeDiff, Nat.zero_le, Nat.le_refl, true_and, and_true, Int.toNat_natCast, Int.reduceToNat, Int.reduceEq, false_implies, true_implies, Int.reduceNeg, Int.cast_ofNat_Int, mS_0, mS_1, mS_2, mS_3, mS_4, mS_5, mS_u0, mS_u1, mS_u2, mS_u3, mS_u4, mS_u5, g0, g1, g2, g3, g4, g5, l1, l2, l3, l5, p1, p2, p3, p4, p5, sn_0, sn_9, at_0, at_9, fl_sn, fl_at, fl_usn, fl_uat, fl_a, fl_ua, uF, reduceIte, Nat.reduceEqDiff, true_or, or_true, Int.reduceLE, Int.reduceLT, wr_s, wn_1, wn_2, wn_5, wn_6, wn_8, wn_12, wn_14, wn_18, wn_24, wn_30, wn_32, wn_38, wn_44]
            refine c_comes (by omega) hMF hm6 ?_
            rw [uR_at, uR_uR, FF_16]
            refine tG_at hd kMod_passed_145 ?_
            simp only [bMod_passed_145, rn, sm, lg, lt_, cmpP, tk, pr_, pu, swl, cs, Nat.reduceAdd, Nat.reduceLeDiff, Nat.zero_le, Nat.le_refl, true_and, and_true, Int.toNat_natCast, Int.reduceToNat, Int.reduceEq, false_implies, true_implies, Int.reduceNeg, Int.cast_ofNat_Int]
            refine tG_at hd kMod_passed_163 ?_
            simp only [bMod_passed_163, rn, sm, lg, lt_, cmpP, tk, pr_, pu, swl, cs, Nat.reduceAdd, Nat.reduceLeDiff, Nat.zero_le, Nat.le_refl, true_and, and_true, Int.toNat_natCast, Int.reduceToNat, Int.reduceEq, false_implies, true_implies, Int.reduceNeg, Int.cast_ofNat_Int]
            exact hq
          · refine ⟨fun _ => ?_, fun h => absurd h2 h⟩
            rw [if_neg h2] at hq
            refine tG_at hd kMod_passed_148 ?_
            simp (disch := omega) only [bMod_passed_148, rn, sm, lg, lt_, cmpP, tk, pr_, pu, swl, cs, Nat.reduceAdd, Nat.reduceLeDiff, Nat.zero_le, Nat.le_refl, true_and, and_true, Int.toNat_natCast, Int.reduceToNat, Int.reduceEq, false_implies, true_implies, Int.reduceNeg, Int.cast_ofNat_Int, mS_0, mS_1, mS_2, mS_3, mS_4, mS_5, mS_u0, mS_u1, mS_u2, mS_u3, mS_u4, mS_u5, g0, g1, g2, g3, g4, g5, l1, l2, l3, l5, p1, p2, p3, p4, p5, sn_0, sn_9, at_0, at_9, fl_sn, fl_at, fl_usn, fl_uat, fl_a, fl_ua, uF, reduceIte, Nat.reduceEqDiff, true_or, or_true, Int.reduceLE, Int.reduceLT, wr_s, wn_1, wn_2, wn_5, wn_6, wn_8, wn_12, wn_14, wn_18, wn_24, wn_30, wn_32, wn_38, wn_44, uR_at]
            by_cases h3 : pasS m r (B m) 3 = 0
            · refine ⟨fun h => absurd h3 h, fun _ => ?_⟩
              rw [if_pos h3] at hq
              refine tG_at hd kMod_passed_157 ?_
              simp (disch := omega) only [bMod_passed_157, rn, sm, lg, lt_, cmpP, tk, pr_, pu, swl, cs, Nat.reduceAdd, Nat.reduceLeDiff, Nat.zero_le, Nat.le_refl, true_and, and_true, Int.toNat_natCast, Int.reduceToNat, Int.reduceEq, false_implies, true_implies, Int.reduceNeg, Int.cast_ofNat_Int, mS_0, mS_1, mS_2, mS_3, mS_4, mS_5, mS_u0, mS_u1, mS_u2, mS_u3, mS_u4, mS_u5, g0, g1, g2, g3, g4, g5, l1, l2, l3, l5, p1, p2, p3, p4, p5, sn_0, sn_9, at_0, at_9, fl_sn, fl_at, fl_usn, fl_uat, fl_a, fl_ua, uF, reduceIte, Nat.reduceEqDiff, true_or, or_true, Int.reduceLE, Int.reduceLT, wr_s, wn_1, wn_2, wn_5, wn_6, wn_8, wn_12, wn_14, wn_18, wn_24, wn_30, wn_32, wn_38, wn_44]
              refine m_hand (by omega) hM (by rw [dieA_n (by omega)]; exact hn) hn6 hm (by rw [dieA_n (by omega)]; exact hk) hk6 (by rw [uR_at]; exact hI) hW ?_
              refine tG_at hd kMod_passed_162 ?_
              simp only [bMod_passed_162, rn, sm, lg, lt_, cmpP, tk, pr_, pu, swl, cs, Nat.reduceAdd, Nat.reduceLeDiff, Nat.zero_le, Nat.le_refl, true_and, and_true, Int.toNat_natCast, Int.reduceToNat, Int.reduceEq, false_implies, true_implies, Int.reduceNeg, Int.cast_ofNat_Int]
              refine tG_at hd kMod_passed_163 ?_
              simp only [bMod_passed_163, rn, sm, lg, lt_, cmpP, tk, pr_, pu, swl, cs, Nat.reduceAdd, Nat.reduceLeDiff, Nat.zero_le, Nat.le_refl, true_and, and_true, Int.toNat_natCast, Int.reduceToNat, Int.reduceEq, false_implies, true_implies, Int.reduceNeg, Int.cast_ofNat_Int]
              exact hq
            · refine ⟨fun _ => ?_, fun h => absurd h3 h⟩
              rw [if_neg h3] at hq
              refine tG_at hd kMod_passed_163 ?_
              simp only [bMod_passed_163, rn, sm, lg, lt_, cmpP, tk, pr_, pu, swl, cs, Nat.reduceAdd, Nat.reduceLeDiff, Nat.zero_le, Nat.le_refl, true_and, and_true, Int.toNat_natCast, Int.reduceToNat, Int.reduceEq, false_implies, true_implies, Int.reduceNeg, Int.cast_ofNat_Int]
              exact hq
        refine tG_at hd kMod_passed_88 ?_
        simp (disch := omega) only [bMod_passed_88, rn, sm, lg, lt_, cmpP, tk, pr_, pu, swl, cs, Nat.reduceAdd, Nat.reduceLeDiff, Nat.zero_le, Nat.le_refl, true_and, and_true, Int.toNat_natCast, Int.reduceToNat, Int.reduceEq, false_implies, true_implies, Int.reduceNeg, Int.cast_ofNat_Int, mS_0, mS_1, mS_2, mS_3, mS_4, mS_5, mS_u0, mS_u1, mS_u2, mS_u3, mS_u4, mS_u5, g0, g1, g2, g3, g4, g5, l1, l2, l3, l5, p1, p2, p3, p4, p5, sn_0, sn_9, at_0, at_9, fl_sn, fl_at, fl_usn, fl_uat, fl_a, fl_ua, uF, reduceIte, Nat.reduceEqDiff, true_or, or_true, Int.reduceLE, Int.reduceLT, wr_s, wn_1, wn_2, wn_5, wn_6, wn_8, wn_12, wn_14, wn_18, wn_24, wn_30, wn_32, wn_38, wn_44, uR_at]
        refine ⟨fun hle => ?_, fun hgt => ?_⟩
        · refine k125 _ ?_
          unfold pasS
          rw [if_neg hle]
        · refine tG_at hd kMod_passed_106 ?_
          simp (disch := omega) only [bMod_passed_106, rn, sm, lg, lt_, cmpP, tk, pr_, pu, swl, cs, Nat.reduceAdd, Nat.reduceLeDiff, Nat.zero_le, Nat.le_refl, true_and, and_true, Int.toNat_natCast, Int.reduceToNat, Int.reduceEq, false_implies, true_implies, Int.reduceNeg, Int.cast_ofNat_Int, mS_0, mS_1, mS_2, mS_3, mS_4, mS_5, mS_u0, mS_u1, mS_u2, mS_u3, mS_u4, mS_u5, g0, g1, g2, g3, g4, g5, l1, l2, l3, l5, p1, p2, p3, p4, p5, sn_0, sn_9, at_0, at_9, fl_sn, fl_at, fl_usn, fl_uat, fl_a, fl_ua, uF, reduceIte, Nat.reduceEqDiff, true_or, or_true, Int.reduceLE, Int.reduceLT, wr_s, wn_1, wn_2, wn_5, wn_6, wn_8, wn_12, wn_14, wn_18, wn_24, wn_30, wn_32, wn_38, wn_44, uR_at, u2_uR]
          refine k125 _ ?_
          unfold pasS
          rw [if_pos (Decidable.not_not.mp hgt)]
      · rw [show pasP b0 r 0 = b0 from funext fun j => if_neg (by omega)]
    refine tG_at hd kMod_passed_26 ?_
    simp (disch := omega) only [bMod_passed_26, rn, sm, lg, lt_, cmpP, tk, pr_, pu, swl, cs, Nat.reduceAdd, Nat.reduceLeDiff, Nat.zero_le, Nat.le_refl, true_and, and_true, Int.toNat_natCast, Int.reduceToNat, Int.reduceEq, false_implies, true_implies, Int.reduceNeg, Int.cast_ofNat_Int, mS_0, mS_1, mS_2, mS_3, mS_4, mS_5, mS_u0, mS_u1, mS_u2, mS_u3, mS_u4, mS_u5, g0, g1, g2, g3, g4, g5, l1, l2, l3, l5, p1, p2, p3, p4, p5, sn_0, sn_9, at_0, at_9, fl_sn, fl_at, fl_usn, fl_uat, fl_a, fl_ua, uF, reduceIte, Nat.reduceEqDiff, true_or, or_true, Int.reduceLE, Int.reduceLT, wr_s, wn_1, wn_2, wn_5, wn_6, wn_8, wn_12, wn_14, wn_18, wn_24, wn_30, wn_32, wn_38, wn_44]
    refine c_dies (by omega) hMF hm6 ht (by omega) ?_
    by_cases hb : 0 < B m 30
    · rw [if_pos hb]
      have := key (zrow (B m) 30 50) (fun j hj => if_neg (by omega))
      unfold dieA at this
      rw [if_pos hb, ht] at this
      exact this
    · rw [if_neg hb]
      have := key (B m) (fun _ _ => rfl)
      unfold dieA at this
      rw [if_neg hb, uR_eq] at this
      exact this
end MD
