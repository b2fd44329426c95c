section MD
variable {w : WP} {d : Nat} {Γ : GM} {V : VH} {Q : QT} {M : Nat} {F T K S H A : Nat → Int} {B C : Nat → Nat → Int} {h c : Int}
theorem c_doubted (hd7 : 6 ≤ d) (hM : ML Γ M F) {m a k W : Nat} {e : Int} (hm6 : m < 6) (hk : A 5 = (k : Int)) (hk6 : k < 60) (hA1 : 0 ≤ A 1 ∧ A 1 ≤ W) (hW : W ≤ 1000000000) (he : 0 ≤ e ∧ e ≤ W) (hB : 0 ≤ B m 30 ∧ B m 30 ≤ W)
    (hq : Q none Γ (mS V M (FF F (doubtedF m a e (A, B, C) h c).2.2.1 (doubtedF m a e (A, B, C) h c).2.2.2) T (fl (doubtedF m a e (A, B, C) h c).2.1.1 (doubtedF m a e (A, B, C) h c).2.1.2.1 (doubtedF m a e (A, B, C) h c).2.1.2.2) K S H)) :
    tC w d nMod_doubted [.inr (.inl M), .inl (m : Int), .inl (a : Int), .inl e] Γ (mS V M (FF F h c) T (fl A B C) K S H) Q := by
  have hd : 4 ≤ d := by omega
  have hMF := hM.FF (h := h) (c := c)
  obtain ⟨t, ht⟩ : ∃ t : Nat, A 1 = (t : Int) := ⟨(A 1).toNat, by omega⟩
  have e1 : wr (e - 1) = e - 1 := wr_id (by omega) (by omega)
  obtain ⟨⟨g0, g1, g2, g3, g4, g5⟩, ⟨l1, l2, l3, -, l5⟩, p1, p2, p3, p4, p5⟩ := id hMF
  unfold doubtedF sndF at hq
  dsimp only at hq
  refine tC_enter (nL := 4) (by decide +kernel) (by decide +kernel) rfl (Nat.le_of_ble_eq_true rfl) (fun hok => ?_)
  simp only [ent]
  have k75 : ¬ (0 < B m 30 ∧ e - 1 ≤ B m 30) → tG w d nMod_doubted 75 [some (.inr (.inl M)), some (.inl (m : Int)), some (.inl (a : Int)), some (.inl e)] [] Γ (mS V M (FF F h c) T (fl A B C) K S H) 0 0 Q := by
    intro hn
    rw [if_neg hn] at hq
    refine tG_at hd kMod_doubted_75 ?_
    simp (disch := omega) only [bMod_doubted_75, rn, sm, lg, lt_, cmpP, tk, pr_, pu, swl, cs, Nat.reduceAdd, Nat.reduceLeDiff, Nat.zero_le, Nat.le_refl, true_and, and_true, Int.toNat_natCast, Int.reduceToNat, Int.reduceEq, false_implies, true_implies, Int.reduceNeg, Int.cast_ofNat_Int, mS_0, mS_1, mS_2, mS_3, mS_4, mS_5, mS_u0, mS_u1, mS_u2, mS_u3, mS_u4, mS_u5, g0, g1, g2, g3, g4, g5, l1, l2, l3, l5, p1, p2, p3, p4, p5, sn_0, sn_9, at_0, at_9, fl_sn, fl_at, fl_usn, fl_uat, fl_a, fl_ua, uF, reduceIte, Nat.reduceEqDiff, true_or, or_true, Int.reduceLE, Int.reduceLT, wr_s, wn_1, wn_2, wn_5, wn_6, wn_8, wn_12, wn_14, wn_18, wn_24, wn_30, wn_32, wn_38, wn_44]
    by_cases hlt : B m 1 < e
    · refine ⟨fun _ => ?_, fun h => absurd hlt h⟩
      rw [if_pos hlt] at hq
      refine tG_at hd kMod_doubted_86 ?_
      simp (disch := omega) only [bMod_doubted_86, rn, sm, lg, lt_, cmpP, tk, pr_, pu, swl, cs, Nat.reduceAdd, Nat.reduceLeDiff, Nat.zero_le, Nat.le_refl, true_and, and_true, Int.toNat_natCast, Int.reduceToNat, Int.reduceEq, false_implies, true_implies, Int.reduceNeg, Int.cast_ofNat_Int, mS_0, mS_1, mS_2, mS_3, mS_4, mS_5, mS_u0, mS_u1, mS_u2, mS_u3, mS_u4, mS_u5, g0, g1, g2, g3, g4, g5, l1, l2, l3, l5, p1, p2, p3, p4, p5, sn_0, sn_9, at_0, at_9, fl_sn, fl_at, fl_usn, fl_uat, fl_a, fl_ua, uF, reduceIte, Nat.reduceEqDiff, true_or, or_true, Int.reduceLE, Int.reduceLT, wr_s, wn_1, wn_2, wn_5, wn_6, wn_8, wn_12, wn_14, wn_18, wn_24, wn_30, wn_32, wn_38, wn_44, u2_is]
      refine c_dies (by omega) hMF hm6 ht (by omega) ?_
      have hu30 : uR B m (u1 (B m) 1 e) m 30 = B m 30 := by rw [uR_at, u1_ne (by omega)]
      rw [hu30]
      have fin : ∀ A' b', A' 5 = (k : Int) → A' = dieA A (B m) → drpR b' = drpR (losD (u1 (B m) 1 e)) → tG w d nMod_doubted 102 [some (.inr (.inl M)), some (.inl (m : Int)), some (.inl (a : Int)), some (.inl e)] [] Γ (mS V M (FF F h c) T (fl A' (uR B m b') C) K S H) 0 0 Q := by
        intro A' b' hA5 hA' hb'
        refine tG_at hd kMod_doubted_102 ?_
        simp (disch := omega) only [bMod_doubted_102, rn, sm, lg, lt_, cmpP, tk, pr_, pu, swl, cs, Nat.reduceAdd, Nat.reduceLeDiff, Nat.zero_le, Nat.le_refl, true_and, and_true, Int.toNat_natCast, Int.reduceToNat, Int.reduceEq, false_implies, true_implies, Int.reduceNeg, Int.cast_ofNat_Int, mS_0, mS_1, mS_2, mS_3, mS_4, mS_5, mS_u0, mS_u1, mS_u2, mS_u3, mS_u4, mS_u5, g0, g1, g2, g3, g4, g5, l1, l2, l3, l5, p1, p2, p3, p4, p5, sn_0, sn_9, at_0, at_9, fl_sn, fl_at, fl_usn, fl_uat, fl_a, fl_ua, uF, reduceIte, Nat.reduceEqDiff, true_or, or_true, Int.reduceLE, Int.reduceLT, wr_s, wn_1, wn_2, wn_5, wn_6, wn_8, wn_12, wn_14, wn_18, wn_24, wn_30, wn_32, wn_38, wn_44]
        refine c_dropsVotes (by omega) hMF hm6 ?_
        rw [uR_at, uR_uR, hb']
        have h0 : drpR (losD (u1 (B m) 1 e)) 0 = B m 0 := by
          rw [drpR_lo (by omega)]
          unfold losD
          split
          · unfold zrow
            rw [if_neg (by omega), u1_ne (by omega)]
          · rw [u1_ne (by omega)]
        refine tG_at hd kMod_doubted_107 ?_
        simp (disch := omega) only [bMod_doubted_107, rn, sm, lg, lt_, cmpP, tk, pr_, pu, swl, cs, Nat.reduceAdd, Nat.reduceLeDiff, Nat.zero_le, Nat.le_refl, true_and, and_true, Int.toNat_natCast, Int.reduceToNat, Int.reduceEq, false_implies, true_implies, Int.reduceNeg, Int.cast_ofNat_Int, mS_0, mS_1, mS_2, mS_3, mS_4, mS_5, mS_u0, mS_u1, mS_u2, mS_u3, mS_u4, mS_u5, g0, g1, g2, g3, g4, g5, l1, l2, l3, l5, p1, p2, p3, p4, p5, sn_0, sn_9, at_0, at_9, fl_sn, fl_at, fl_usn, fl_uat, fl_a, fl_ua, uF, reduceIte, Nat.reduceEqDiff, true_or, or_true, Int.reduceLE, Int.reduceLT, wr_s, wn_1, wn_2, wn_5, wn_6, wn_8, wn_12, wn_14, wn_18, wn_24, wn_30, wn_32, wn_38, wn_44, uR_at, h0]
        refine c_sends (by omega) hMF hA5 hk6 ?_
        refine tG_at hd kMod_doubted_121 ?_
        simp only [bMod_doubted_121, rn, sm, lg, lt_, cmpP, tk, pr_, pu, swl, cs, Nat.reduceAdd, Nat.reduceLeDiff, Nat.zero_le, Nat.le_refl, true_and, and_true, Int.toNat_natCast, Int.reduceToNat, Int.reduceEq, false_implies, true_implies, Int.reduceNeg, Int.cast_ofNat_Int]
        rw [← hA', hA5, Int.toNat_natCast] at hq
        exact hq
      by_cases hb : 0 < B m 30
      · rw [if_pos hb, uR_at, uR_uR]
        refine fin _ _ (by rw [u1_ne (by omega)]; exact hk) ?_ ?_
        · unfold dieA
          rw [if_pos hb, ht]
          rfl
        · unfold losD
          rw [if_pos (by rw [u1_ne (by omega)]; exact hb)]
      · rw [if_neg hb]
        refine fin _ _ hk ?_ ?_
        · unfold dieA
          rw [if_neg hb]
        · unfold losD
          rw [if_neg (by rw [u1_ne (by omega)]; exact hb)]
    · refine ⟨fun h => absurd h hlt, fun _ => ?_⟩
      rw [if_neg hlt] at hq
      refine tG_at hd kMod_doubted_85 ?_
      simp only [bMod_doubted_85, rn, sm, lg, lt_, cmpP, tk, pr_, pu, swl, cs, Nat.reduceAdd, Nat.reduceLeDiff, Nat.zero_le, Nat.le_refl, true_and, and_true, Int.toNat_natCast, Int.reduceToNat, Int.reduceEq, false_implies, true_implies, Int.reduceNeg, Int.cast_ofNat_Int]
      exact hq
  refine tG_at hd kMod_doubted_0 ?_
  simp (disch := omega) only [bMod_doubted_0, rn, sm, lg, lt_, cmpP, tk, pr_, pu, swl, cs, Nat.reduceAdd, Nat.reduceLeDiff, Nat.zero_le, Nat.le_refl, true_and, and_true, Int.toNat_natCast, Int.reduceToNat, Int.reduceEq, false_implies, true_implies, Int.reduceNeg, Int.cast_ofNat_Int, mS_0, mS_1, mS_2, mS_3, mS_4, mS_5, mS_u0, mS_u1, mS_u2, mS_u3, mS_u4, mS_u5, g0, g1, g2, g3, g4, g5, l1, l2, l3, l5, p1, p2, p3, p4, p5, sn_0, sn_9, at_0, at_9, fl_sn, fl_at, fl_usn, fl_uat, fl_a, fl_ua, uF, reduceIte, Nat.reduceEqDiff, true_or, or_true, Int.reduceLE, Int.reduceLT, wr_s, wn_1, wn_2, wn_5, wn_6, wn_8, wn_12, wn_14, wn_18, wn_24, wn_30, wn_32, wn_38, wn_44]
  by_cases hb : 0 < B m 30
  · rw [bi_1 hb]
    refine ⟨fun h => absurd h (by decide), fun _ => ?_⟩
    refine tG_at hd kMod_doubted_8 ?_
    simp (disch := omega) only [bMod_doubted_8, rn, sm, lg, lt_, cmpP, tk, pr_, pu, swl, cs, Nat.reduceAdd, Nat.reduceLeDiff, Nat.zero_le, Nat.le_refl, true_and, and_true, Int.toNat_natCast, Int.reduceToNat, Int.reduceEq, false_implies, true_implies, Int.reduceNeg, Int.cast_ofNat_Int, mS_0, mS_1, mS_2, mS_3, mS_4, mS_5, mS_u0, mS_u1, mS_u2, mS_u3, mS_u4, mS_u5, g0, g1, g2, g3, g4, g5, l1, l2, l3, l5, p1, p2, p3, p4, p5, sn_0, sn_9, at_0, at_9, fl_sn, fl_at, fl_usn, fl_uat, fl_a, fl_ua, uF, reduceIte, Nat.reduceEqDiff, true_or, or_true, Int.reduceLE, Int.reduceLT, wr_s, wn_1, wn_2, wn_5, wn_6, wn_8, wn_12, wn_14, wn_18, wn_24, wn_30, wn_32, wn_38, wn_44, e1]
    refine ⟨fun h => k75 (by omega), fun hge => ?_⟩
    rw [if_pos ⟨hb, by omega⟩] at hq
    have fin : ∀ b', b' = dou2 e (B m) → tG w d nMod_doubted 65 [some (.inr (.inl M)), some (.inl (m : Int)), some (.inl (a : Int)), some (.inl e)] [] Γ (mS V M (FF F h c) T (fl A (uR B m b') C) K S H) 0 0 Q := by
      intro b' hb'
      refine tG_at hd kMod_doubted_65 ?_
      simp (disch := omega) only [bMod_doubted_65, rn, sm, lg, lt_, cmpP, tk, pr_, pu, swl, cs, Nat.reduceAdd, Nat.reduceLeDiff, Nat.zero_le, Nat.le_refl, true_and, and_true, Int.toNat_natCast, Int.reduceToNat, Int.reduceEq, false_implies, true_implies, Int.reduceNeg, Int.cast_ofNat_Int, mS_0, mS_1, mS_2, mS_3, mS_4, mS_5, mS_u0, mS_u1, mS_u2, mS_u3, mS_u4, mS_u5, g0, g1, g2, g3, g4, g5, l1, l2, l3, l5, p1, p2, p3, p4, p5, sn_0, sn_9, at_0, at_9, fl_sn, fl_at, fl_usn, fl_uat, fl_a, fl_ua, uF, reduceIte, Nat.reduceEqDiff, true_or, or_true, Int.reduceLE, Int.reduceLT, wr_s, wn_1, wn_2, wn_5, wn_6, wn_8, wn_12, wn_14, wn_18, wn_24, wn_30, wn_32, wn_38, wn_44]
      refine c_sends (by omega) hMF hk hk6 ?_
      refine tG_at hd kMod_doubted_74 ?_
      simp only [bMod_doubted_74, rn, sm, lg, lt_, cmpP, tk, pr_, pu, swl, cs, Nat.reduceAdd, Nat.reduceLeDiff, Nat.zero_le, Nat.le_refl, true_and, and_true, Int.toNat_natCast, Int.reduceToNat, Int.reduceEq, false_implies, true_implies, Int.reduceNeg, Int.cast_ofNat_Int]
      rw [hk, Int.toNat_natCast, ← hb'] at hq
      exact hq
    have mid : ∀ b', b' = dou1 e (B m) → tG w d nMod_doubted 44 [some (.inr (.inl M)), some (.inl (m : Int)), some (.inl (a : Int)), some (.inl e)] [] Γ (mS V M (FF F h c) T (fl A (uR B m b') C) K S H) 0 0 Q := by
      intro b' hb'
      refine tG_at hd kMod_doubted_44 ?_
      simp (disch := omega) only [bMod_doubted_44, rn, sm, lg, lt_, cmpP, tk, pr_, pu, swl, cs, Nat.reduceAdd, Nat.reduceLeDiff, Nat.zero_le, Nat.le_refl, true_and, and_true, Int.toNat_natCast, Int.reduceToNat, Int.reduceEq, false_implies, true_implies, Int.reduceNeg, Int.cast_ofNat_Int, mS_0, mS_1, mS_2, mS_3, mS_4, mS_5, mS_u0, mS_u1, mS_u2, mS_u3, mS_u4, mS_u5, g0, g1, g2, g3, g4, g5, l1, l2, l3, l5, p1, p2, p3, p4, p5, sn_0, sn_9, at_0, at_9, fl_sn, fl_at, fl_usn, fl_uat, fl_a, fl_ua, uF, reduceIte, Nat.reduceEqDiff, true_or, or_true, Int.reduceLE, Int.reduceLT, wr_s, wn_1, wn_2, wn_5, wn_6, wn_8, wn_12, wn_14, wn_18, wn_24, wn_30, wn_32, wn_38, wn_44, uR_at]
      refine ⟨fun hle => fin _ ?_, fun hgt => ?_⟩
      · unfold dou2
        rw [← hb', if_neg (by omega)]
      · refine tG_at hd kMod_doubted_54 ?_
        simp (disch := omega) only [bMod_doubted_54, rn, sm, lg, lt_, cmpP, tk, pr_, pu, swl, cs, Nat.reduceAdd, Nat.reduceLeDiff, Nat.zero_le, Nat.le_refl, true_and, and_true, Int.toNat_natCast, Int.reduceToNat, Int.reduceEq, false_implies, true_implies, Int.reduceNeg, Int.cast_ofNat_Int, mS_0, mS_1, mS_2, mS_3, mS_4, mS_5, mS_u0, mS_u1, mS_u2, mS_u3, mS_u4, mS_u5, g0, g1, g2, g3, g4, g5, l1, l2, l3, l5, p1, p2, p3, p4, p5, sn_0, sn_9, at_0, at_9, fl_sn, fl_at, fl_usn, fl_uat, fl_a, fl_ua, uF, reduceIte, Nat.reduceEqDiff, true_or, or_true, Int.reduceLE, Int.reduceLT, wr_s, wn_1, wn_2, wn_5, wn_6, wn_8, wn_12, wn_14, wn_18, wn_24, wn_30, wn_32, wn_38, wn_44, u2_uR]
        refine fin _ ?_
        unfold dou2
        rw [← hb', if_pos (by omega)]
    refine tG_at hd kMod_doubted_21 ?_
    simp (disch := omega) only [bMod_doubted_21, rn, sm, lg, lt_, cmpP, tk, pr_, pu, swl, cs, Nat.reduceAdd, Nat.reduceLeDiff, Nat.zero_le, Nat.le_refl, true_and, and_true, Int.toNat_natCast, Int.reduceToNat, Int.reduceEq, false_implies, true_implies, Int.reduceNeg, Int.cast_ofNat_Int, mS_0, mS_1, mS_2, mS_3, mS_4, mS_5, mS_u0, mS_u1, mS_u2, mS_u3, mS_u4, mS_u5, g0, g1, g2, g3, g4, g5, l1, l2, l3, l5, p1, p2, p3, p4, p5, sn_0, sn_9, at_0, at_9, fl_sn, fl_at, fl_usn, fl_uat, fl_a, fl_ua, uF, reduceIte, Nat.reduceEqDiff, true_or, or_true, Int.reduceLE, Int.reduceLT, wr_s, wn_1, wn_2, wn_5, wn_6, wn_8, wn_12, wn_14, wn_18, wn_24, wn_30, wn_32, wn_38, wn_44]
    refine ⟨fun hle => ?_, fun hgt => ?_⟩
    · have := mid (B m) (by unfold dou1; rw [if_neg (by omega)])
      rw [uR_eq] at this
      exact this
    · refine tG_at hd kMod_doubted_32 ?_
      simp (disch := omega) only [bMod_doubted_32, rn, sm, lg, lt_, cmpP, tk, pr_, pu, swl, cs, Nat.reduceAdd, Nat.reduceLeDiff, Nat.zero_le, Nat.le_refl, true_and, and_true, Int.toNat_natCast, Int.reduceToNat, Int.reduceEq, false_implies, true_implies, Int.reduceNeg, Int.cast_ofNat_Int, mS_0, mS_1, mS_2, mS_3, mS_4, mS_5, mS_u0, mS_u1, mS_u2, mS_u3, mS_u4, mS_u5, g0, g1, g2, g3, g4, g5, l1, l2, l3, l5, p1, p2, p3, p4, p5, sn_0, sn_9, at_0, at_9, fl_sn, fl_at, fl_usn, fl_uat, fl_a, fl_ua, uF, reduceIte, Nat.reduceEqDiff, true_or, or_true, Int.reduceLE, Int.reduceLT, wr_s, wn_1, wn_2, wn_5, wn_6, wn_8, wn_12, wn_14, wn_18, wn_24, wn_30, wn_32, wn_38, wn_44, u2_is]
      refine mid _ ?_
      unfold dou1
      rw [if_pos (by omega)]
  · rw [bi_0 hb]
    exact ⟨fun _ => k75 (fun h => hb h.1), fun h => absurd rfl h⟩
def madP (m : Nat) (b : Nat → Int) (i : Nat) : Nat → Int := fun j => if 32 ≤ j ∧ j < 32 + i then (if j = 32 + m then b 0 else b (j - 8)) else b j
theorem madP_lo {m i j : Nat} {b : Nat → Int} (h : j < 32) : madP m b i j = b j := if_neg (by omega)
theorem madP_s {m i : Nat} {b : Nat → Int} {x : Int} (hx : x = if i = m then b 0 else b (24 + i)) : u1 (madP m b i) (32 + i) x = madP m b (i + 1) := by
  funext j
  unfold madP
  by_cases hj : j = 32 + i
  · subst hj
    rw [u1_at, if_pos (by omega), hx]
    by_cases him : i = m
    · rw [if_pos him, if_pos (by omega)]
    · rw [if_neg him, if_neg (by omega)]
      congr 1
      omega
  · rw [u1_ne hj]
    by_cases h2 : 32 ≤ j ∧ j < 32 + i
    · rw [if_pos h2, if_pos (show 32 ≤ j ∧ j < 32 + (i + 1) by omega)]
    · rw [if_neg h2, if_neg (by omega)]
theorem c_voted (hd7 : 6 ≤ d) (hM : ML Γ M F) {m a n W : Nat} {e v : Int} (hn : A 0 = (n : Int)) (hm6 : m < 6) (ha6 : a < 6) (hA2 : 0 ≤ A 2 ∧ A 2 ≤ W) (hW : W ≤ 1000000000)
    (hq : Q none Γ (mS V M (FF F (votedF n m a e v (A, B, C) h c).2.2.1 (votedF n m a e v (A, B, C) h c).2.2.2) T (fl (votedF n m a e v (A, B, C) h c).2.1.1 (votedF n m a e v (A, B, C) h c).2.1.2.1 (votedF n m a e v (A, B, C) h c).2.1.2.2) K S H)) :
    tC w d nMod_voted [.inr (.inl M), .inl (m : Int), .inl (a : Int), .inl e, .inl v] Γ (mS V M (FF F h c) T (fl A B C) K S H) Q := by
  have hd : 4 ≤ d := by omega
  have hMF := hM.FF (h := h) (c := c)
  obtain ⟨t, ht⟩ : ∃ t : Nat, A 2 = (t : Int) := ⟨(A 2).toNat, by omega⟩
  obtain ⟨⟨g0, g1, g2, g3, g4, g5⟩, ⟨l1, l2, l3, -, l5⟩, p1, p2, p3, p4, p5⟩ := id hMF
  unfold votedF at hq
  dsimp only at hq
  refine tC_enter (nL := 6) (by decide +kernel) (by decide +kernel) rfl (Nat.le_of_ble_eq_true rfl) (fun hok => ?_)
  simp only [ent]
  have k20 : (B m 4 ≠ e ∨ B m 1 ≠ e) → tG w d nMod_voted 20 [some (.inr (.inl M)), some (.inl (m : Int)), some (.inl (a : Int)), some (.inl e), some (.inl v), none] [] Γ (mS V M (FF F h c) T (fl A B C) K S H) 0 0 Q := by
    intro hn
    rw [if_pos hn] at hq
    refine tG_at hd kMod_voted_20 ?_
    simp only [bMod_voted_20, rn, sm, lg, lt_, cmpP, tk, pr_, pu, swl, cs, Nat.reduceAdd, Nat.reduceLeDiff, Nat.zero_le, Nat.le_refl, true_and, and_true, Int.toNat_natCast, Int.reduceToNat, Int.reduceEq, false_implies, true_implies, Int.reduceNeg, Int.cast_ofNat_Int]
    exact hq
  refine tG_at hd kMod_voted_0 ?_
  simp (disch := omega) only [bMod_voted_0, rn, sm, lg, lt_, cmpP, tk, pr_, pu, swl, cs, Nat.reduceAdd, Nat.reduceLeDiff, Nat.zero_le, Nat.le_refl, true_and, and_true, Int.toNat_natCast, Int.reduceToNat, Int.reduceEq, false_implies, true_implies, Int.reduceNeg, Int.cast_ofNat_Int, mS_0, mS_1, mS_2, mS_3, mS_4, mS_5, mS_u0, mS_u1, mS_u2, mS_u3, mS_u4, mS_u5, g0, g1, g2, g3, g4, g5, l1, l2, l3, l5, p1, p2, p3, p4, p5, sn_0, sn_9, at_0, at_9, fl_sn, fl_at, fl_usn, fl_uat, fl_a, fl_ua, uF, reduceIte, Nat.reduceEqDiff, true_or, or_true, Int.reduceLE, Int.reduceLT, wr_s, wn_1, wn_2, wn_5, wn_6, wn_8, wn_12, wn_14, wn_18, wn_24, wn_30, wn_32, wn_38, wn_44]
  refine ⟨fun h => k20 (Or.inl h), fun h4 => ?_⟩
  refine tG_at hd kMod_voted_10 ?_
  simp (disch := omega) only [bMod_voted_10, rn, sm, lg, lt_, cmpP, tk, pr_, pu, swl, cs, Nat.reduceAdd, Nat.reduceLeDiff, Nat.zero_le, Nat.le_refl, true_and, and_true, Int.toNat_natCast, Int.reduceToNat, Int.reduceEq, false_implies, true_implies, Int.reduceNeg, Int.cast_ofNat_Int, mS_0, mS_1, mS_2, mS_3, mS_4, mS_5, mS_u0, mS_u1, mS_u2, mS_u3, mS_u4, mS_u5, g0, g1, g2, g3, g4, g5, l1, l2, l3, l5, p1, p2, p3, p4, p5, sn_0, sn_9, at_0, at_9, fl_sn, fl_at, fl_usn, fl_uat, fl_a, fl_ua, uF, reduceIte, Nat.reduceEqDiff, true_or, or_true, Int.reduceLE, Int.reduceLT, wr_s, wn_1, wn_2, wn_5, wn_6, wn_8, wn_12, wn_14, wn_18, wn_24, wn_30, wn_32, wn_38, wn_44]
  refine ⟨fun h1 => ?_, fun h => k20 (Or.inr h)⟩
  have h4 := Decidable.not_not.mp h4
  rw [if_neg (by omega)] at hq
  refine tG_at hd kMod_voted_21 ?_
  simp (disch := omega) only [bMod_voted_21, rn, sm, lg, lt_, cmpP, tk, pr_, pu, swl, cs, Nat.reduceAdd, Nat.reduceLeDiff, Nat.zero_le, Nat.le_refl, true_and, and_true, Int.toNat_natCast, Int.reduceToNat, Int.reduceEq, false_implies, true_implies, Int.reduceNeg, Int.cast_ofNat_Int, mS_0, mS_1, mS_2, mS_3, mS_4, mS_5, mS_u0, mS_u1, mS_u2, mS_u3, mS_u4, mS_u5, g0, g1, g2, g3, g4, g5, l1, l2, l3, l5, p1, p2, p3, p4, p5, sn_0, sn_9, at_0, at_9, fl_sn, fl_at, fl_usn, fl_uat, fl_a, fl_ua, uF, reduceIte, Nat.reduceEqDiff, true_or, or_true, Int.reduceLE, Int.reduceLT, wr_s, wn_1, wn_2, wn_5, wn_6, wn_8, wn_12, wn_14, wn_18, wn_24, wn_30, wn_32, wn_38, wn_44, u2_is, uR_uR, uR_at, u1_at, u1_ne, hn]
  have hvr : u1 (u1 (B m) 5 (bOr (B m 5) (bShl 1 (a : Int)))) (24 + a) v = votR a v (B m) := rfl
  have hv5 : votR a v (B m) 5 = bOr (B m 5) (bShl 1 (a : Int)) := by
    unfold votR
    rw [u1_ne (by omega), u1_at]
  rw [hvr, ← hv5]
  have hal : wr (wr (bShl 1 (n : Int) - 1) - bShl 1 (m : Int)) = allV n m := rfl
  rw [hal]
  refine ⟨fun hall => ?_, fun hno => ?_⟩
  · rw [if_neg (fun h => h hall)] at hq
    generalize votR a v (B m) = b1 at hq ⊢
    refine tG_at hd kMod_voted_76 ?_
    simp (disch := omega) only [bMod_voted_76, rn, sm, lg, lt_, cmpP, tk, pr_, pu, swl, cs, Nat.reduceAdd, Nat.reduceLeDiff, Nat.zero_le, Nat.le_refl, true_and, and_true, Int.toNat_natCast, Int.reduceToNat, Int.reduceEq, false_implies, true_implies, Int.reduceNeg, Int.cast_ofNat_Int, mS_0, mS_1, mS_2, mS_3, mS_4, mS_5, mS_u0, mS_u1, mS_u2, mS_u3, mS_u4, mS_u5, g0, g1, g2, g3, g4, g5, l1, l2, l3, l5, p1, p2, p3, p4, p5, sn_0, sn_9, at_0, at_9, fl_sn, fl_at, fl_usn, fl_uat, fl_a, fl_ua, uF, reduceIte, Nat.reduceEqDiff, true_or, or_true, Int.reduceLE, Int.reduceLT, wr_s, wn_1, wn_2, wn_5, wn_6, wn_8, wn_12, wn_14, wn_18, wn_24, wn_30, wn_32, wn_38, wn_44]
    refine c_loses (by omega) hMF hm6 ?_
    rw [uR_at, uR_uR]
    refine tG_at hd kMod_voted_81 ?_
    simp (disch := omega) only [bMod_voted_81, rn, sm, lg, lt_, cmpP, tk, pr_, pu, swl, cs, Nat.reduceAdd, Nat.reduceLeDiff, Nat.zero_le, Nat.le_refl, true_and, and_true, Int.toNat_natCast, Int.reduceToNat, Int.reduceEq, false_implies, true_implies, Int.reduceNeg, Int.cast_ofNat_Int, mS_0, mS_1, mS_2, mS_3, mS_4, mS_5, mS_u0, mS_u1, mS_u2, mS_u3, mS_u4, mS_u5, g0, g1, g2, g3, g4, g5, l1, l2, l3, l5, p1, p2, p3, p4, p5, sn_0, sn_9, at_0, at_9, fl_sn, fl_at, fl_usn, fl_uat, fl_a, fl_ua, uF, reduceIte, Nat.reduceEqDiff, true_or, or_true, Int.reduceLE, Int.reduceLT, wr_s, wn_1, wn_2, wn_5, wn_6, wn_8, wn_12, wn_14, wn_18, wn_24, wn_30, wn_32, wn_38, wn_44, u2_uR]
    have b30 : ∀ j, j < 30 → u1 (zrow b1 30 50) 30 e j = b1 j := by
      intro j hj
      rw [u1_ne (by omega)]
      exact if_neg (by omega)
    refine tG_loop (fun i => [some (.inr (.inl M)), some (.inl (m : Int)), some (.inl (a : Int)), some (.inl e), some (.inl v), some (.inl (i : Int))]) (fun i V' => V' = mS V M (FF F h c) T (fl A (uR B m (madP m (u1 (zrow b1 30 50) 30 e) i)) C) K S H) 6 ?_ ?_ 0 _ (Nat.zero_le _) ?_
    · intro i V' hi hV k1
      subst hV
      have k141 : ∀ x, x = (if i = m then u1 (zrow b1 30 50) 30 e 0 else u1 (zrow b1 30 50) 30 e (24 + i)) → tG w d nMod_voted 141 [some (.inr (.inl M)), some (.inl (m : Int)), some (.inl (a : Int)), some (.inl e), some (.inl v), some (.inl (i : Int))] [.inl x, .inl (at_ (m : Int) ((32 + i : Nat) : Int)), .inr (.inl (M + 2))] Γ (mS V M (FF F h c) T (fl A (uR B m (madP m (u1 (zrow b1 30 50) 30 e) i)) C) K S H) 0 0 Q := by
        intro x hx
        refine tG_at hd kMod_voted_141 ?_
        simp (disch := omega) only [bMod_voted_141, rn, sm, lg, lt_, cmpP, tk, pr_, pu, swl, cs, Nat.reduceAdd, Nat.reduceLeDiff, Nat.zero_le, Nat.le_refl, true_and, and_true, Int.toNat_natCast, Int.reduceToNat, Int.reduceEq, false_implies, true_implies, Int.reduceNeg, Int.cast_ofNat_Int, mS_0, mS_1, mS_2, mS_3, mS_4, mS_5, mS_u0, mS_u1, mS_u2, mS_u3, mS_u4, mS_u5, g0, g1, g2, g3, g4, g5, l1, l2, l3, l5, p1, p2, p3, p4, p5, sn_0, sn_9, at_0, at_9, fl_sn, fl_at, fl_usn, fl_uat, fl_a, fl_ua, uF, reduceIte, Nat.reduceEqDiff, true_or, or_true, Int.reduceLE, Int.reduceLT, wr_s, wn_1, wn_2, wn_5, wn_6, wn_8, wn_12, wn_14, wn_18, wn_24, wn_30, wn_32, wn_38, wn_44, u2_uR, madP_s hx]
        exact k1 _ rfl
      refine tG_at hd kMod_voted_96 ?_
      simp only [bMod_voted_96, rn, sm, lg, lt_, cmpP, tk, pr_, pu, swl, cs, Nat.reduceAdd, Nat.reduceLeDiff, Nat.zero_le, Nat.le_refl, true_and, and_true, Int.toNat_natCast, Int.reduceToNat, Int.reduceEq, false_implies, true_implies, Int.reduceNeg, Int.cast_ofNat_Int]
      refine ⟨fun h => absurd h (by omega), fun _ => ?_⟩
      refine tG_at hd kMod_voted_103 ?_
      simp (disch := omega) only [bMod_voted_103, rn, sm, lg, lt_, cmpP, tk, pr_, pu, swl, cs, Nat.reduceAdd, Nat.reduceLeDiff, Nat.zero_le, Nat.le_refl, true_and, and_true, Int.toNat_natCast, Int.reduceToNat, Int.reduceEq, false_implies, true_implies, Int.reduceNeg, Int.cast_ofNat_Int, mS_0, mS_1, mS_2, mS_3, mS_4, mS_5, mS_u0, mS_u1, mS_u2, mS_u3, mS_u4, mS_u5, g0, g1, g2, g3, g4, g5, l1, l2, l3, l5, p1, p2, p3, p4, p5, sn_0, sn_9, at_0, at_9, fl_sn, fl_at, fl_usn, fl_uat, fl_a, fl_ua, uF, reduceIte, Nat.reduceEqDiff, true_or, or_true, Int.reduceLE, Int.reduceLT, wr_s, wn_1, wn_2, wn_5, wn_6, wn_8, wn_12, wn_14, wn_18, wn_24, wn_30, wn_32, wn_38, wn_44]
      refine ⟨fun him => ?_, fun him => ?_⟩
      · refine tG_at hd kMod_voted_131 ?_
        simp (disch := omega) only [bMod_voted_131, rn, sm, lg, lt_, cmpP, tk, pr_, pu, swl, cs, Nat.reduceAdd, Nat.reduceLeDiff, Nat.zero_le, Nat.le_refl, true_and, and_true, Int.toNat_natCast, Int.reduceToNat, Int.reduceEq, false_implies, true_implies, Int.reduceNeg, Int.cast_ofNat_Int, mS_0, mS_1, mS_2, mS_3, mS_4, mS_5, mS_u0, mS_u1, mS_u2, mS_u3, mS_u4, mS_u5, g0, g1, g2, g3, g4, g5, l1, l2, l3, l5, p1, p2, p3, p4, p5, sn_0, sn_9, at_0, at_9, fl_sn, fl_at, fl_usn, fl_uat, fl_a, fl_ua, uF, reduceIte, Nat.reduceEqDiff, true_or, or_true, Int.reduceLE, Int.reduceLT, wr_s, wn_1, wn_2, wn_5, wn_6, wn_8, wn_12, wn_14, wn_18, wn_24, wn_30, wn_32, wn_38, wn_44, uR_at, madP_lo]
        refine k141 _ ?_
        rw [if_neg (by omega)]
      · refine tG_at hd kMod_voted_122 ?_
        simp (disch := omega) only [bMod_voted_122, rn, sm, lg, lt_, cmpP, tk, pr_, pu, swl, cs, Nat.reduceAdd, Nat.reduceLeDiff, Nat.zero_le, Nat.le_refl, true_and, and_true, Int.toNat_natCast, Int.reduceToNat, Int.reduceEq, false_implies, true_implies, Int.reduceNeg, Int.cast_ofNat_Int, mS_0, mS_1, mS_2, mS_3, mS_4, mS_5, mS_u0, mS_u1, mS_u2, mS_u3, mS_u4, mS_u5, g0, g1, g2, g3, g4, g5, l1, l2, l3, l5, p1, p2, p3, p4, p5, sn_0, sn_9, at_0, at_9, fl_sn, fl_at, fl_usn, fl_uat, fl_a, fl_ua, uF, reduceIte, Nat.reduceEqDiff, true_or, or_true, Int.reduceLE, Int.reduceLT, wr_s, wn_1, wn_2, wn_5, wn_6, wn_8, wn_12, wn_14, wn_18, wn_24, wn_30, wn_32, wn_38, wn_44, uR_at, madP_lo]
        refine k141 _ ?_
        rw [if_pos (by omega)]
    · intro V' hV
      subst hV
      refine tG_at hd kMod_voted_96 ?_
      simp only [bMod_voted_96, rn, sm, lg, lt_, cmpP, tk, pr_, pu, swl, cs, Nat.reduceAdd, Nat.reduceLeDiff, Nat.zero_le, Nat.le_refl, true_and, and_true, Int.toNat_natCast, Int.reduceToNat, Int.reduceEq, false_implies, true_implies, Int.reduceNeg, Int.cast_ofNat_Int]
      refine ⟨fun _ => ?_, fun h => absurd (show ¬ ((6 : Nat) : Int) < 6 by omega) h⟩
      have hmad : madP m (u1 (zrow b1 30 50) 30 e) 6 = madR m e b1 := by
        funext j
        unfold madP madR
        by_cases hj : 32 ≤ j ∧ j < 38
        · rw [if_pos (by omega), if_pos hj, b30 0 (by omega), b30 (j - 8) (by omega)]
        · rw [if_neg (by omega), if_neg hj]
      rw [hmad]
      refine tG_at hd kMod_voted_148 ?_
      simp (disch := omega) only [bMod_voted_148, rn, sm, lg, lt_, cmpP, tk, pr_, pu, swl, cs, Nat.reduceAdd, Nat.reduceLeDiff, Nat.zero_le, Nat.le_refl, true_and, and_true, Int.toNat_natCast, Int.reduceToNat, Int.reduceEq, false_implies, true_implies, Int.reduceNeg, Int.cast_ofNat_Int, mS_0, mS_1, mS_2, mS_3, mS_4, mS_5, mS_u0, mS_u1, mS_u2, mS_u3, mS_u4, mS_u5, g0, g1, g2, g3, g4, g5, l1, l2, l3, l5, p1, p2, p3, p4, p5, sn_0, sn_9, at_0, at_9, fl_sn, fl_at, fl_usn, fl_uat, fl_a, fl_ua, uF, reduceIte, Nat.reduceEqDiff, true_or, or_true, Int.reduceLE, Int.reduceLT, wr_s, wn_1, wn_2, wn_5, wn_6, wn_8, wn_12, wn_14, wn_18, wn_24, wn_30, wn_32, wn_38, wn_44, ht]
      refine c_dropsVotes (by omega) hMF hm6 ?_
      rw [uR_at, uR_uR]
      refine tG_at hd kMod_voted_163 ?_
      simp (disch := omega) only [bMod_voted_163, rn, sm, lg, lt_, cmpP, tk, pr_, pu, swl, cs, Nat.reduceAdd, Nat.reduceLeDiff, Nat.zero_le, Nat.le_refl, true_and, and_true, Int.toNat_natCast, Int.reduceToNat, Int.reduceEq, false_implies, true_implies, Int.reduceNeg, Int.cast_ofNat_Int, mS_0, mS_1, mS_2, mS_3, mS_4, mS_5, mS_u0, mS_u1, mS_u2, mS_u3, mS_u4, mS_u5, g0, g1, g2, g3, g4, g5, l1, l2, l3, l5, p1, p2, p3, p4, p5, sn_0, sn_9, at_0, at_9, fl_sn, fl_at, fl_usn, fl_uat, fl_a, fl_ua, uF, reduceIte, Nat.reduceEqDiff, true_or, or_true, Int.reduceLE, Int.reduceLT, wr_s, wn_1, wn_2, wn_5, wn_6, wn_8, wn_12, wn_14, wn_18, wn_24, wn_30, wn_32, wn_38, wn_44]
      refine c_laysRow (by omega) hMF hm6 ?_
      rw [uR_at, uR_uR]
      refine tG_at hd kMod_voted_168 ?_
      simp (disch := omega) only [bMod_voted_168, rn, sm, lg, lt_, cmpP, tk, pr_, pu, swl, cs, Nat.reduceAdd, Nat.reduceLeDiff, Nat.zero_le, Nat.le_refl, true_and, and_true, Int.toNat_natCast, Int.reduceToNat, Int.reduceEq, false_implies, true_implies, Int.reduceNeg, Int.cast_ofNat_Int, mS_0, mS_1, mS_2, mS_3, mS_4, mS_5, mS_u0, mS_u1, mS_u2, mS_u3, mS_u4, mS_u5, g0, g1, g2, g3, g4, g5, l1, l2, l3, l5, p1, p2, p3, p4, p5, sn_0, sn_9, at_0, at_9, fl_sn, fl_at, fl_usn, fl_uat, fl_a, fl_ua, uF, reduceIte, Nat.reduceEqDiff, true_or, or_true, Int.reduceLE, Int.reduceLT, wr_s, wn_1, wn_2, wn_5, wn_6, wn_8, wn_12, wn_14, wn_18, wn_24, wn_30, wn_32, wn_38, wn_44]
      refine c_comes (by omega) hMF hm6 ?_
      rw [uR_at, uR_uR, FF_16]
      refine tG_at hd kMod_voted_173 ?_
      simp only [bMod_voted_173, rn, sm, lg, lt_, cmpP, tk, pr_, pu, swl, cs, Nat.reduceAdd, Nat.reduceLeDiff, Nat.zero_le, Nat.le_refl, true_and, and_true, Int.toNat_natCast, Int.reduceToNat, Int.reduceEq, false_implies, true_implies, Int.reduceNeg, Int.cast_ofNat_Int]
      rw [ht] at hq
      exact hq
    · rw [show madP m (u1 (zrow b1 30 50) 30 e) 0 = u1 (zrow b1 30 50) 30 e from funext fun j => if_neg (by omega)]
  · rw [if_pos hno] at hq
    refine tG_at hd kMod_voted_75 ?_
    simp only [bMod_voted_75, rn, sm, lg, lt_, cmpP, tk, pr_, pu, swl, cs, Nat.reduceAdd, Nat.reduceLeDiff, Nat.zero_le, Nat.le_refl, true_and, and_true, Int.toNat_natCast, Int.reduceToNat, Int.reduceEq, false_implies, true_implies, Int.reduceNeg, Int.cast_ofNat_Int]
    exact hq
end MD
