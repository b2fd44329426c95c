section MD
variable {w : WP} {d : Nat} {Γ : GM} {V : VH} {Q : QT} {M : Nat} {F T K S H A : Nat → Int} {B C : Nat → Nat → Int} {h c : Int}
/-- the object's fields with handed and came -/
def FF (F : Nat → Int) (h c : Int) : Nat → Int := uF (uF F 15 h) 16 c
theorem FF_15 {F : Nat → Int} {h c x : Int} : uF (FF F h c) 15 x = FF F x c := by
  funext j
  unfold FF uF
  by_cases h1 : j = 15
  · subst h1; rfl
  · by_cases h2 : j = 16
    · subst h2; rfl
    · simp [h1, h2]
theorem FF_16 {F : Nat → Int} {h c x : Int} : uF (FF F h c) 16 x = FF F h x := by
  funext j
  unfold FF uF
  by_cases h2 : j = 16
  · subst h2; rfl
  · simp [h2]
theorem FF_ne {F : Nat → Int} {h c : Int} {j : Nat} (h1 : j ≠ 15) (h2 : j ≠ 16) : FF F h c j = F j := by
  unfold FF uF
  rw [if_neg h2, if_neg h1]
theorem ML.FF {h c : Int} (hM : ML Γ M F) : ML Γ M (FF F h c) := (hM.uF (by omega)).uF (by omega)
/-- a member's row in a net changed: the net still holds -/
theorem m_hand (hd : 5 ≤ d) (hM : ML Γ M F) {m n k W : Nat} (hn : A 0 = (n : Int)) (hn6 : n ≤ 6) (hm : m < n) (hk : A 5 = (k : Int)) (hk6 : k < 60) (hR : rowI n W (B m)) (hW : W ≤ 1000000000)
    (hq : Q (some (.inl (handF n m (A, B, C) h c).1)) Γ (mS V M (FF F (handF n m (A, B, C) h c).2.2.1 (handF n m (A, B, C) h c).2.2.2) T (fl (handF n m (A, B, C) h c).2.1.1 (handF n m (A, B, C) h c).2.1.2.1 (handF n m (A, B, C) h c).2.1.2.2) K S H)) :
    tC w d nMod_handsOn [.inr (.inl M), .inl (m : Int)] Γ (mS V M (FF F h c) T (fl A B C) K S H) Q := by
  obtain ⟨L, hQ⟩ := hR.2.2.2.2.2.2.2.2.2
  refine c_handsOn hd hM.FF hn hn6 hm hk hk6 hQ hW hR.2.2.2.2.2.2.1 (fun b2 hb2 => ?_)
  subst hb2
  unfold handF at hq
  dsimp only at hq
  split
  · next h0 =>
    rw [if_pos h0] at hq
    exact hq
  · next h0 =>
    rw [if_neg h0] at hq
    dsimp only at hq
    rw [FF_15]
    rw [hk, Int.toNat_natCast] at hq
    exact hq
theorem c_asked (hd7 : 6 ≤ d) (hM : ML Γ M F) {m a n k W : Nat} (hn : A 0 = (n : Int)) (hn6 : n ≤ 6) (hm : m < n) (ha : a < n) (hk : A 5 = (k : Int)) (hk6 : k < 60) {r : Nat → Int} (hH : ∀ j, j < 30 → H j = r j) (hR : rowI n W (B m)) (hW : W ≤ 1000000000) (hr3 : 0 ≤ r 3 ∧ r 3 ≤ W) (hr4 : 0 ≤ r 4 ∧ r 4 ≤ 9)
    (hq : Q none Γ (mS V M (FF F (askedF n m a r (A, B, C) h c).2.2.1 (askedF n m a r (A, B, C) h c).2.2.2) T (fl (askedF n m a r (A, B, C) h c).2.1.1 (askedF n m a r (A, B, C) h c).2.1.2.1 (askedF n m a r (A, B, C) h c).2.1.2.2) K S H)) :
    tC w d nMod_asked [.inr (.inl M), .inl (m : Int), .inl (a : Int)] Γ (mS V M (FF F h c) T (fl A B C) K S H) Q := by
  have hd : 4 ≤ d := by omega
  have hMF := hM.FF (h := h) (c := c)
  have hm6 : m < 6 := by omega
  have ha6 : a < 6 := by omega
  have h3 := hH 3 (by omega)
  have h4 := hH 4 (by omega)
  obtain ⟨⟨g0, g1, g2, g3, g4, g5⟩, ⟨l1, l2, l3, -, l5⟩, p1, p2, p3, p4, p5⟩ := id hMF
  have hI : rowI n W (askR a r (B m)) := by
    obtain ⟨i1, i2, i3, i4, i5, i6, i7, i8, i9, L, i10⟩ := hR
    have e : ∀ j, j ≠ 6 + a → j ≠ 12 + a → askR a r (B m) j = B m j := by
      intro j h1 h2
      unfold askR
      split
      · rw [u1_ne h2, u1_ne h1]
      · rw [u1_ne h2]
    have e12 : askR a r (B m) (12 + a) = r 4 := by
      unfold askR
      split <;> rw [u1_at]
    have e6 : 0 ≤ askR a r (B m) (6 + a) ∧ askR a r (B m) (6 + a) ≤ W := by
      unfold askR
      split
      · rw [u1_ne (by omega), u1_at]
        exact hr3
      · rw [u1_ne (by omega)]
        exact i6 a ha6
    refine ⟨by rw [e 0 (by omega) (by omega)]; exact i1, by rw [e 1 (by omega) (by omega)]; exact i2, by rw [e 2 (by omega) (by omega)]; exact i3, by rw [e 3 (by omega) (by omega)]; exact i4, by rw [e 4 (by omega) (by omega)]; exact i5, fun j hj => ?_, fun j hj => ?_, by rw [e 30 (by omega) (by omega)]; exact i8, fun j hj => by rw [e _ (by omega) (by omega)]; exact i9 j hj, L, ?_⟩
    · by_cases hja : j = a
      · subst hja; exact e6
      · rw [e _ (by omega) (by omega)]; exact i6 j hj
    · by_cases hja : j = a
      · subst hja; rw [e12]; exact hr4
      · rw [e _ (by omega) (by omega)]; exact i7 j hj
    · obtain ⟨q1, q2, q3, q4⟩ := i10
      have hLn := (show QI n W (B m) L from ⟨q1, q2, q3, q4⟩).len
      refine ⟨by rw [e 31 (by omega) (by omega)]; exact q1, fun i hi => by rw [e _ (by omega) (by omega)]; exact q2 i hi, fun i j hi hj => by rw [e _ (by omega) (by omega), e _ (by omega) (by omega)]; exact q3 i j hi hj, fun i hi => by rw [e _ (by omega) (by omega)]; exact q4 i hi⟩
  have key : ∀ b1, u1 b1 (12 + a) (r 4) = askR a r (B m) → tG w d nMod_asked 37 [some (.inr (.inl M)), some (.inl (m : Int)), some (.inl (a : Int))] [] Γ (mS V M (FF F h c) T (fl A (uR B m b1) C) K S H) 0 0 Q := by
    intro b1 hb1
    refine tG_at hd kMod_asked_37 ?_
    simp (disch := omega) only [bMod_asked_37, rn, sm, lg, lt_, cmpP, tk, pr_, pu, swl, cs, Nat.reduceAdd, Nat.reduceLeDiff, Nat.zero_le, Nat.le_refl, true_and, and_true, Int.toNat_natCast, Int.reduceToNat, Int.reduceEq, false_implies, true_implies, Int.reduceNeg, Int.cast_ofNat_Int, mS_0, mS_1, mS_2, mS_3, mS_4, mS_5, mS_u0, mS_u1, mS_u2, mS_u3, mS_u4, mS_u5, g0, g1, g2, g3, g4, g5, l1, l2, l3, l5, p1, p2, p3, p4, p5, sn_0, sn_9, at_0, at_9, fl_sn, fl_at, fl_usn, fl_uat, fl_a, fl_ua, uF, reduceIte, Nat.reduceEqDiff, true_or, or_true, Int.reduceLE, Int.reduceLT, wr_s, wn_1, wn_2, wn_5, wn_6, wn_8, wn_12, wn_14, wn_18, wn_24, wn_30, wn_32, wn_38, wn_44, uR_at, u2_uR, h4, hb1]
    unfold askedF at hq
    dsimp only at hq
    by_cases hb : 0 < askR a r (B m) 30
    · rw [bi_1 hb]
      refine ⟨fun h => absurd h (by decide), fun _ => ?_⟩
      refine tG_at hd kMod_asked_64 ?_
      simp (disch := omega) only [bMod_asked_64, rn, sm, lg, lt_, cmpP, tk, pr_, pu, swl, cs, Nat.reduceAdd, Nat.reduceLeDiff, Nat.zero_le, Nat.le_refl, true_and, and_true, Int.toNat_natCast, Int.reduceToNat, Int.reduceEq, false_implies, true_implies, Int.reduceNeg, Int.cast_ofNat_Int, mS_0, mS_1, mS_2, mS_3, mS_4, mS_5, mS_u0, mS_u1, mS_u2, mS_u3, mS_u4, mS_u5, g0, g1, g2, g3, g4, g5, l1, l2, l3, l5, p1, p2, p3, p4, p5, sn_0, sn_9, at_0, at_9, fl_sn, fl_at, fl_usn, fl_uat, fl_a, fl_ua, uF, reduceIte, Nat.reduceEqDiff, true_or, or_true, Int.reduceLE, Int.reduceLT, wr_s, wn_1, wn_2, wn_5, wn_6, wn_8, wn_12, wn_14, wn_18, wn_24, wn_30, wn_32, wn_38, wn_44, uR_at]
      by_cases hc : askR a r (B m) 3 = 0
      · refine ⟨fun h => absurd hc h, fun _ => ?_⟩
        rw [if_pos ⟨hb, hc⟩] at hq
        refine tG_at hd kMod_asked_73 ?_
        simp (disch := omega) only [bMod_asked_73, rn, sm, lg, lt_, cmpP, tk, pr_, pu, swl, cs, Nat.reduceAdd, Nat.reduceLeDiff, Nat.zero_le, Nat.le_refl, true_and, and_true, Int.toNat_natCast, Int.reduceToNat, Int.reduceEq, false_implies, true_implies, Int.reduceNeg, Int.cast_ofNat_Int, mS_0, mS_1, mS_2, mS_3, mS_4, mS_5, mS_u0, mS_u1, mS_u2, mS_u3, mS_u4, mS_u5, g0, g1, g2, g3, g4, g5, l1, l2, l3, l5, p1, p2, p3, p4, p5, sn_0, sn_9, at_0, at_9, fl_sn, fl_at, fl_usn, fl_uat, fl_a, fl_ua, uF, reduceIte, Nat.reduceEqDiff, true_or, or_true, Int.reduceLE, Int.reduceLT, wr_s, wn_1, wn_2, wn_5, wn_6, wn_8, wn_12, wn_14, wn_18, wn_24, wn_30, wn_32, wn_38, wn_44]
        refine m_hand (by omega) hM hn hn6 hm hk hk6 (by rw [uR_at]; exact hI) hW ?_
        refine tG_at hd kMod_asked_78 ?_
        simp only [bMod_asked_78, rn, sm, lg, lt_, cmpP, tk, pr_, pu, swl, cs, Nat.reduceAdd, Nat.reduceLeDiff, Nat.zero_le, Nat.le_refl, true_and, and_true, Int.toNat_natCast, Int.reduceToNat, Int.reduceEq, false_implies, true_implies, Int.reduceNeg, Int.cast_ofNat_Int]
        refine tG_at hd kMod_asked_79 ?_
        simp only [bMod_asked_79, rn, sm, lg, lt_, cmpP, tk, pr_, pu, swl, cs, Nat.reduceAdd, Nat.reduceLeDiff, Nat.zero_le, Nat.le_refl, true_and, and_true, Int.toNat_natCast, Int.reduceToNat, Int.reduceEq, false_implies, true_implies, Int.reduceNeg, Int.cast_ofNat_Int]
        exact hq
      · refine ⟨fun _ => ?_, fun h => absurd hc h⟩
        rw [if_neg (fun h => hc h.2)] at hq
        refine tG_at hd kMod_asked_79 ?_
        simp only [bMod_asked_79, rn, sm, lg, lt_, cmpP, tk, pr_, pu, swl, cs, Nat.reduceAdd, Nat.reduceLeDiff, Nat.zero_le, Nat.le_refl, true_and, and_true, Int.toNat_natCast, Int.reduceToNat, Int.reduceEq, false_implies, true_implies, Int.reduceNeg, Int.cast_ofNat_Int]
        exact hq
    · rw [bi_0 hb]
      refine ⟨fun _ => ?_, fun h => absurd rfl h⟩
      rw [if_neg (fun h => hb h.1)] at hq
      refine tG_at hd kMod_asked_79 ?_
      simp only [bMod_asked_79, rn, sm, lg, lt_, cmpP, tk, pr_, pu, swl, cs, Nat.reduceAdd, Nat.reduceLeDiff, Nat.zero_le, Nat.le_refl, true_and, and_true, Int.toNat_natCast, Int.reduceToNat, Int.reduceEq, false_implies, true_implies, Int.reduceNeg, Int.cast_ofNat_Int]
      exact hq
  refine tC_enter (nL := 3) (by decide +kernel) (by decide +kernel) rfl (Nat.le_of_ble_eq_true rfl) (fun hok => ?_)
  simp only [ent]
  refine tG_at hd kMod_asked_0 ?_
  simp (disch := omega) only [bMod_asked_0, rn, sm, lg, lt_, cmpP, tk, pr_, pu, swl, cs, Nat.reduceAdd, Nat.reduceLeDiff, Nat.zero_le, Nat.le_refl, true_and, and_true, Int.toNat_natCast, Int.reduceToNat, Int.reduceEq, false_implies, true_implies, Int.reduceNeg, Int.cast_ofNat_Int, mS_0, mS_1, mS_2, mS_3, mS_4, mS_5, mS_u0, mS_u1, mS_u2, mS_u3, mS_u4, mS_u5, g0, g1, g2, g3, g4, g5, l1, l2, l3, l5, p1, p2, p3, p4, p5, sn_0, sn_9, at_0, at_9, fl_sn, fl_at, fl_usn, fl_uat, fl_a, fl_ua, uF, reduceIte, Nat.reduceEqDiff, true_or, or_true, Int.reduceLE, Int.reduceLT, wr_s, wn_1, wn_2, wn_5, wn_6, wn_8, wn_12, wn_14, wn_18, wn_24, wn_30, wn_32, wn_38, wn_44, h3]
  refine ⟨fun hle => ?_, fun hgt => ?_⟩
  · have := key (B m) (by unfold askR; rw [if_neg hle])
    rw [uR_eq] at this
    exact this
  · refine tG_at hd kMod_asked_18 ?_
    simp (disch := omega) only [bMod_asked_18, rn, sm, lg, lt_, cmpP, tk, pr_, pu, swl, cs, Nat.reduceAdd, Nat.reduceLeDiff, Nat.zero_le, Nat.le_refl, true_and, and_true, Int.toNat_natCast, Int.reduceToNat, Int.reduceEq, false_implies, true_implies, Int.reduceNeg, Int.cast_ofNat_Int, mS_0, mS_1, mS_2, mS_3, mS_4, mS_5, mS_u0, mS_u1, mS_u2, mS_u3, mS_u4, mS_u5, g0, g1, g2, g3, g4, g5, l1, l2, l3, l5, p1, p2, p3, p4, p5, sn_0, sn_9, at_0, at_9, fl_sn, fl_at, fl_usn, fl_uat, fl_a, fl_ua, uF, reduceIte, Nat.reduceEqDiff, true_or, or_true, Int.reduceLE, Int.reduceLT, wr_s, wn_1, wn_2, wn_5, wn_6, wn_8, wn_12, wn_14, wn_18, wn_24, wn_30, wn_32, wn_38, wn_44, h3, u2_is]
    exact key _ (by unfold askR; rw [if_pos (Decidable.not_not.mp hgt)])
end MD
