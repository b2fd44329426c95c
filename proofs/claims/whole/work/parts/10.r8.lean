section MD
variable {w : WP} {d : Nat} {Γ : GM} {V : VH} {Q : QT} {M : Nat} {F T N K S H : Nat → Int} {h c : Int} {n k W : Nat} {X : NT}
theorem c_pass (hd5 : 5 ≤ d) (hM : ML Γ M F) (g : GJ n k W X) {m x : Int} (hq : Q (some (.inl (pssF n X m x))) Γ (mS V M (uF F 0 0) T (fl X.1 X.2.1 X.2.2) K S H)) : tC w d nMod_pass [.inr (.inl M), .inl m, .inl x] Γ (mS V M F T (fl X.1 X.2.1 X.2.2) K S H) Q := by
  have hd : 4 ≤ d := by omega
  obtain ⟨n0, n5, hn2, hn6, hk41, hW⟩ := g.1.A
  have hM0 : ML Γ M (uF F 0 0) := hM.uF (by omega)
  obtain ⟨⟨g0, g1, g2, g3, g4, g5⟩, ⟨l1, l2, l3, -, l5⟩, p1, p2, p3, p4, p5⟩ := id hM
  refine tC_enter (nL := 4) (by decide +kernel) (by decide +kernel) rfl (Nat.le_of_ble_eq_true rfl) (fun hok => ?_)
  simp only [ent]
  have okx := ok_i (x := x) hok (by simp)
  have no : pssF n X m x = -1 → tG w d nMod_pass 21 [some (.inr (.inl M)), some (.inl m), some (.inl x), none] [] Γ (mS V M (uF F 0 0) T (fl X.1 X.2.1 X.2.2) K S H) 0 0 Q := by
    intro hno
    rw [hno] at hq
    refine tG_at hd kMod_pass_21 ?_
    simp only [bMod_pass_21, rn, sm, lg, lt_, cmpP, tk, pr_, pu, swl, cs, Nat.reduceAdd, Nat.reduceLeDiff, Nat.zero_le, Nat.le_refl, true_and, and_true, Int.toNat_natCast, Int.reduceToNat, Int.reduceEq, false_implies, true_implies, Int.reduceNeg, Int.cast_ofNat_Int]
    exact hq
  refine tG_at hd kMod_pass_0 ?_
  simp (disch := omega) only [bMod_pass_0, rn, sm, lg, lt_, cmpP, tk, pr_, pu, swl, cs, Nat.reduceAdd, Nat.reduceLeDiff, Nat.zero_le, Nat.le_refl, true_and, and_true, Int.toNat_natCast, Int.reduceToNat, Int.reduceEq, false_implies, true_implies, Int.reduceNeg, Int.cast_ofNat_Int, mS_0, mS_1, mS_2, mS_3, mS_4, mS_5, mS_u0, mS_u1, mS_u2, mS_u3, mS_u4, mS_u5, g0, g1, g2, g3, g4, g5, l1, l2, l3, l5, p1, p2, p3, p4, p5, sn_0, sn_9, at_0, at_9, fl_sn, fl_at, fl_usn, fl_uat, fl_a, fl_ua, reduceIte, Nat.reduceEqDiff, true_or, or_true, Int.reduceLE, Int.reduceLT, wr_s, wn_1, wn_2, wn_5, wn_6, wn_8, wn_12, wn_14, wn_18, wn_24, wn_30, wn_32, wn_38, wn_44, FF_15, FF_16, FF_u, FF_ne, FF_r15, FF_r16, uF_at, uF_ne, not_true_eq_false, not_false_eq_true, implies_true, n0, wr_p]
  by_cases hm : 0 ≤ m ∧ m ≤ (n : Int) - 1
  · rw [bi_1 hm]
    refine ⟨fun h => absurd h (by decide), fun _ => ?_⟩
    obtain ⟨i, rfl⟩ : ∃ i : Nat, m = (i : Int) := ⟨m.toNat, by omega⟩
    have hi : i < n := by omega
    obtain ⟨L, hQ⟩ := (g.1.row hi).2.2.2.2.2.2.2.2.2
    have hL := hQ.len
    have hL1 := hQ.1
    refine tG_at hd kMod_pass_13 ?_
    simp (disch := omega) only [bMod_pass_13, rn, sm, lg, lt_, cmpP, tk, pr_, pu, swl, cs, Nat.reduceAdd, Nat.reduceLeDiff, Nat.zero_le, Nat.le_refl, true_and, and_true, Int.toNat_natCast, Int.reduceToNat, Int.reduceEq, false_implies, true_implies, Int.reduceNeg, Int.cast_ofNat_Int, mS_0, mS_1, mS_2, mS_3, mS_4, mS_5, mS_u0, mS_u1, mS_u2, mS_u3, mS_u4, mS_u5, g0, g1, g2, g3, g4, g5, l1, l2, l3, l5, p1, p2, p3, p4, p5, sn_0, sn_9, at_0, at_9, fl_sn, fl_at, fl_usn, fl_uat, fl_a, fl_ua, reduceIte, Nat.reduceEqDiff, true_or, or_true, Int.reduceLE, Int.reduceLT, wr_s, wn_1, wn_2, wn_5, wn_6, wn_8, wn_12, wn_14, wn_18, wn_24, wn_30, wn_32, wn_38, wn_44, FF_15, FF_16, FF_u, FF_ne, FF_r15, FF_r16, uF_at, uF_ne, not_true_eq_false, not_false_eq_true, implies_true]
    by_cases hb : 0 < X.2.1 i 30
    · rw [bi_1 hb]
      refine ⟨fun _ => ?_, fun h => absurd (by decide) h⟩
      unfold pssF at hq
      rw [if_neg (by rw [Int.toNat_natCast]; omega), Int.toNat_natCast, hL1] at hq
      refine tG_at hd kMod_pass_23 ?_
      simp only [bMod_pass_23, rn, sm, lg, lt_, cmpP, tk, pr_, pu, swl, cs, Nat.reduceAdd, Nat.reduceLeDiff, Nat.zero_le, Nat.le_refl, true_and, and_true, Int.toNat_natCast, Int.reduceToNat, Int.reduceEq, false_implies, true_implies, Int.reduceNeg, Int.cast_ofNat_Int]
      refine ⟨fun hx0 => ?_, fun hx0 => ?_⟩
      · rw [if_neg hx0] at hq
        refine tG_at hd kMod_pass_35 ?_
        simp (disch := omega) only [bMod_pass_35, rn, sm, lg, lt_, cmpP, tk, pr_, pu, swl, cs, Nat.reduceAdd, Nat.reduceLeDiff, Nat.zero_le, Nat.le_refl, true_and, and_true, Int.toNat_natCast, Int.reduceToNat, Int.reduceEq, false_implies, true_implies, Int.reduceNeg, Int.cast_ofNat_Int, mS_0, mS_1, mS_2, mS_3, mS_4, mS_5, mS_u0, mS_u1, mS_u2, mS_u3, mS_u4, mS_u5, g0, g1, g2, g3, g4, g5, l1, l2, l3, l5, p1, p2, p3, p4, p5, sn_0, sn_9, at_0, at_9, fl_sn, fl_at, fl_usn, fl_uat, fl_a, fl_ua, reduceIte, Nat.reduceEqDiff, true_or, or_true, Int.reduceLE, Int.reduceLT, wr_s, wn_1, wn_2, wn_5, wn_6, wn_8, wn_12, wn_14, wn_18, wn_24, wn_30, wn_32, wn_38, wn_44, FF_15, FF_16, FF_u, FF_ne, FF_r15, FF_r16, uF_at, uF_ne, not_true_eq_false, not_false_eq_true, implies_true, n0]
        rw [wr_id (x := 9 + (n : Int)) (by omega) (by omega)]
        by_cases hx1 : 10 ≤ x ∧ x ≤ 9 + (n : Int)
        · rw [bi_1 hx1]
          rw [if_pos hx1] at hq
          refine ⟨fun h => absurd h (by decide), fun _ => ?_⟩
          obtain ⟨v, rfl⟩ : ∃ v : Nat, x = 10 + (v : Int) := ⟨(x - 10).toNat, by omega⟩
          have e : wr (wr (32 + (10 + (v : Int))) - 10) = ((32 + v : Nat) : Int) := by
            rw [wr_id (x := 32 + (10 + (v : Int))) (by omega) (by omega), wr_id (by omega) (by omega)]; omega
          rw [show (10 + (v : Int) - 10).toNat = v by omega] at hq
          refine tG_at hd kMod_pass_53 ?_
          simp (disch := omega) only [bMod_pass_53, rn, sm, lg, lt_, cmpP, tk, pr_, pu, swl, cs, Nat.reduceAdd, Nat.reduceLeDiff, Nat.zero_le, Nat.le_refl, true_and, and_true, Int.toNat_natCast, Int.reduceToNat, Int.reduceEq, false_implies, true_implies, Int.reduceNeg, Int.cast_ofNat_Int, mS_0, mS_1, mS_2, mS_3, mS_4, mS_5, mS_u0, mS_u1, mS_u2, mS_u3, mS_u4, mS_u5, g0, g1, g2, g3, g4, g5, l1, l2, l3, l5, p1, p2, p3, p4, p5, sn_0, sn_9, at_0, at_9, fl_sn, fl_at, fl_usn, fl_uat, fl_a, fl_ua, reduceIte, Nat.reduceEqDiff, true_or, or_true, Int.reduceLE, Int.reduceLT, wr_s, wn_1, wn_2, wn_5, wn_6, wn_8, wn_12, wn_14, wn_18, wn_24, wn_30, wn_32, wn_38, wn_44, FF_15, FF_16, FF_u, FF_ne, FF_r15, FF_r16, uF_at, uF_ne, not_true_eq_false, not_false_eq_true, implies_true, e]
          exact hq
        · rw [bi_0 hx1]
          rw [if_neg hx1] at hq
          refine ⟨fun _ => ?_, fun h => absurd rfl h⟩
          have go : ∀ kk : Int, kk = wr (if 30 ≤ x then x - 30 else x - 20) → tG w d nMod_pass 83 [some (.inr (.inl M)), some (.inl (i : Int)), some (.inl x), none] [.inl kk] Γ (mS V M (uF F 0 0) T (fl X.1 X.2.1 X.2.2) K S H) 0 0 Q := by
            intro kk hkk
            have h3 := wr_3 (x := if 30 ≤ x then x - 30 else x - 20) (by split <;> omega) (by split <;> omega)
            rw [← hkk] at h3
            refine tG_at hd kMod_pass_83 ?_
            simp (disch := omega) only [bMod_pass_83, rn, sm, lg, lt_, cmpP, tk, pr_, pu, swl, cs, Nat.reduceAdd, Nat.reduceLeDiff, Nat.zero_le, Nat.le_refl, true_and, and_true, Int.toNat_natCast, Int.reduceToNat, Int.reduceEq, false_implies, true_implies, Int.reduceNeg, Int.cast_ofNat_Int, mS_0, mS_1, mS_2, mS_3, mS_4, mS_5, mS_u0, mS_u1, mS_u2, mS_u3, mS_u4, mS_u5, g0, g1, g2, g3, g4, g5, l1, l2, l3, l5, p1, p2, p3, p4, p5, sn_0, sn_9, at_0, at_9, fl_sn, fl_at, fl_usn, fl_uat, fl_a, fl_ua, reduceIte, Nat.reduceEqDiff, true_or, or_true, Int.reduceLE, Int.reduceLT, wr_s, wn_1, wn_2, wn_5, wn_6, wn_8, wn_12, wn_14, wn_18, wn_24, wn_30, wn_32, wn_38, wn_44, FF_15, FF_16, FF_u, FF_ne, FF_r15, FF_r16, uF_at, uF_ne, not_true_eq_false, not_false_eq_true, implies_true, hL1, wr_p]
            by_cases hk0 : 0 ≤ kk ∧ kk ≤ (L : Int) - 1
            · rw [bi_1 hk0]
              refine ⟨fun _ => ?_, fun h => absurd (by decide) h⟩
              obtain ⟨v, rfl⟩ : ∃ v : Nat, kk = (v : Int) := ⟨kk.toNat, by omega⟩
              refine tG_at hd kMod_pass_103 ?_
              simp only [bMod_pass_103, rn, sm, lg, lt_, cmpP, tk, pr_, pu, swl, cs, Nat.reduceAdd, Nat.reduceLeDiff, Nat.zero_le, Nat.le_refl, true_and, and_true, Int.toNat_natCast, Int.reduceToNat, Int.reduceEq, false_implies, true_implies, Int.reduceNeg, Int.cast_ofNat_Int]
              refine ⟨fun hx3 => ?_, fun hx3 => ?_⟩
              · rw [if_neg (by omega)] at h3
                have hv : x = 20 + (v : Int) := by omega
                rw [if_pos (by omega), show (x - 20).toNat = v by omega] at hq
                have e : wr (wr (30 + 8) + (v : Int)) = ((38 + v : Nat) : Int) := by
                  rw [wr_id (x := 30 + 8) (by omega) (by omega), wr_id (by omega) (by omega)]; omega
                refine tG_at hd kMod_pass_118 ?_
                simp only [bMod_pass_118, rn, sm, lg, lt_, cmpP, tk, pr_, pu, swl, cs, Nat.reduceAdd, Nat.reduceLeDiff, Nat.zero_le, Nat.le_refl, true_and, and_true, Int.toNat_natCast, Int.reduceToNat, Int.reduceEq, false_implies, true_implies, Int.reduceNeg, Int.cast_ofNat_Int]
                refine tG_at hd kMod_pass_120 ?_
                simp (disch := omega) only [bMod_pass_120, rn, sm, lg, lt_, cmpP, tk, pr_, pu, swl, cs, Nat.reduceAdd, Nat.reduceLeDiff, Nat.zero_le, Nat.le_refl, true_and, and_true, Int.toNat_natCast, Int.reduceToNat, Int.reduceEq, false_implies, true_implies, Int.reduceNeg, Int.cast_ofNat_Int, mS_0, mS_1, mS_2, mS_3, mS_4, mS_5, mS_u0, mS_u1, mS_u2, mS_u3, mS_u4, mS_u5, g0, g1, g2, g3, g4, g5, l1, l2, l3, l5, p1, p2, p3, p4, p5, sn_0, sn_9, at_0, at_9, fl_sn, fl_at, fl_usn, fl_uat, fl_a, fl_ua, reduceIte, Nat.reduceEqDiff, true_or, or_true, Int.reduceLE, Int.reduceLT, wr_s, wn_1, wn_2, wn_5, wn_6, wn_8, wn_12, wn_14, wn_18, wn_24, wn_30, wn_32, wn_38, wn_44, FF_15, FF_16, FF_u, FF_ne, FF_r15, FF_r16, uF_at, uF_ne, not_true_eq_false, not_false_eq_true, implies_true, e]
                exact hq
              · rw [if_pos (by omega)] at h3
                have hv : x = 30 + (v : Int) := by omega
                rw [if_neg (by omega), if_pos (by omega), show (x - 30).toNat = v by omega] at hq
                have e : wr (wr (30 + 14) + (v : Int)) = ((44 + v : Nat) : Int) := by
                  rw [wr_id (x := 30 + 14) (by omega) (by omega), wr_id (by omega) (by omega)]; omega
                refine tG_at hd kMod_pass_113 ?_
                simp only [bMod_pass_113, rn, sm, lg, lt_, cmpP, tk, pr_, pu, swl, cs, Nat.reduceAdd, Nat.reduceLeDiff, Nat.zero_le, Nat.le_refl, true_and, and_true, Int.toNat_natCast, Int.reduceToNat, Int.reduceEq, false_implies, true_implies, Int.reduceNeg, Int.cast_ofNat_Int]
                refine tG_at hd kMod_pass_120 ?_
                simp (disch := omega) only [bMod_pass_120, rn, sm, lg, lt_, cmpP, tk, pr_, pu, swl, cs, Nat.reduceAdd, Nat.reduceLeDiff, Nat.zero_le, Nat.le_refl, true_and, and_true, Int.toNat_natCast, Int.reduceToNat, Int.reduceEq, false_implies, true_implies, Int.reduceNeg, Int.cast_ofNat_Int, mS_0, mS_1, mS_2, mS_3, mS_4, mS_5, mS_u0, mS_u1, mS_u2, mS_u3, mS_u4, mS_u5, g0, g1, g2, g3, g4, g5, l1, l2, l3, l5, p1, p2, p3, p4, p5, sn_0, sn_9, at_0, at_9, fl_sn, fl_at, fl_usn, fl_uat, fl_a, fl_ua, reduceIte, Nat.reduceEqDiff, true_or, or_true, Int.reduceLE, Int.reduceLT, wr_s, wn_1, wn_2, wn_5, wn_6, wn_8, wn_12, wn_14, wn_18, wn_24, wn_30, wn_32, wn_38, wn_44, FF_15, FF_16, FF_u, FF_ne, FF_r15, FF_r16, uF_at, uF_ne, not_true_eq_false, not_false_eq_true, implies_true, e]
                exact hq
            · rw [bi_0 hk0]
              refine ⟨fun h => absurd rfl h, fun _ => ?_⟩
              refine tG_at hd kMod_pass_101 ?_
              simp only [bMod_pass_101, rn, sm, lg, lt_, cmpP, tk, pr_, pu, swl, cs, Nat.reduceAdd, Nat.reduceLeDiff, Nat.zero_le, Nat.le_refl, true_and, and_true, Int.toNat_natCast, Int.reduceToNat, Int.reduceEq, false_implies, true_implies, Int.reduceNeg, Int.cast_ofNat_Int]
              have : ¬ (20 ≤ x ∧ x - 20 < (L : Int)) ∧ ¬ (30 ≤ x ∧ x - 30 < (L : Int)) := by
                by_cases h30 : 30 ≤ x
                · rw [if_pos h30] at h3; omega
                · rw [if_neg h30] at h3; omega
              rw [if_neg this.1, if_neg this.2] at hq
              exact hq
          refine tG_at hd kMod_pass_66 ?_
          simp only [bMod_pass_66, rn, sm, lg, lt_, cmpP, tk, pr_, pu, swl, cs, Nat.reduceAdd, Nat.reduceLeDiff, Nat.zero_le, Nat.le_refl, true_and, and_true, Int.toNat_natCast, Int.reduceToNat, Int.reduceEq, false_implies, true_implies, Int.reduceNeg, Int.cast_ofNat_Int]
          refine ⟨fun hx3 => ?_, fun hx3 => ?_⟩
          · refine tG_at hd kMod_pass_79 ?_
            simp only [bMod_pass_79, rn, sm, lg, lt_, cmpP, tk, pr_, pu, swl, cs, Nat.reduceAdd, Nat.reduceLeDiff, Nat.zero_le, Nat.le_refl, true_and, and_true, Int.toNat_natCast, Int.reduceToNat, Int.reduceEq, false_implies, true_implies, Int.reduceNeg, Int.cast_ofNat_Int]
            exact go _ (by rw [if_neg (by omega)])
          · refine tG_at hd kMod_pass_72 ?_
            simp only [bMod_pass_72, rn, sm, lg, lt_, cmpP, tk, pr_, pu, swl, cs, Nat.reduceAdd, Nat.reduceLeDiff, Nat.zero_le, Nat.le_refl, true_and, and_true, Int.toNat_natCast, Int.reduceToNat, Int.reduceEq, false_implies, true_implies, Int.reduceNeg, Int.cast_ofNat_Int]
            exact go _ (by rw [if_pos (by omega)])
      · rw [if_pos (by omega), ← hL1] at hq
        refine tG_at hd kMod_pass_27 ?_
        simp (disch := omega) only [bMod_pass_27, rn, sm, lg, lt_, cmpP, tk, pr_, pu, swl, cs, Nat.reduceAdd, Nat.reduceLeDiff, Nat.zero_le, Nat.le_refl, true_and, and_true, Int.toNat_natCast, Int.reduceToNat, Int.reduceEq, false_implies, true_implies, Int.reduceNeg, Int.cast_ofNat_Int, mS_0, mS_1, mS_2, mS_3, mS_4, mS_5, mS_u0, mS_u1, mS_u2, mS_u3, mS_u4, mS_u5, g0, g1, g2, g3, g4, g5, l1, l2, l3, l5, p1, p2, p3, p4, p5, sn_0, sn_9, at_0, at_9, fl_sn, fl_at, fl_usn, fl_uat, fl_a, fl_ua, reduceIte, Nat.reduceEqDiff, true_or, or_true, Int.reduceLE, Int.reduceLT, wr_s, wn_1, wn_2, wn_5, wn_6, wn_8, wn_12, wn_14, wn_18, wn_24, wn_30, wn_32, wn_38, wn_44, FF_15, FF_16, FF_u, FF_ne, FF_r15, FF_r16, uF_at, uF_ne, not_true_eq_false, not_false_eq_true, implies_true]
        exact hq
    · rw [bi_0 hb]
      refine ⟨fun h => absurd rfl h, fun _ => no (by unfold pssF; rw [if_pos (by rw [Int.toNat_natCast]; exact Or.inr hb)])⟩
  · rw [bi_0 hm]
    exact ⟨fun _ => no (by unfold pssF; rw [if_pos (by omega)]), fun h => absurd rfl h⟩
theorem c_would (hd8 : 8 ≤ d) (hM : ML Γ M F) (g : GJ n k W X) {a b : Int} (hW2 : W + 2 ≤ 1000000000)
    (hq : ∀ h' c' K' H', Q (some (.inl (wldF n k X a b))) Γ (mS V M (FF (uF F 0 0) h' c') T (fl X.1 X.2.1 X.2.2) K' S H')) : tC w d nMod_would [.inr (.inl M), .inl a, .inl b] Γ (mS V M (FF F h c) T (fl X.1 X.2.1 X.2.2) K S H) Q := by
  have hd : 4 ≤ d := by omega
  obtain ⟨n0, n5, hn2, hn6, hk41, hW⟩ := g.1.A
  have hf := fst_b (C := X.2.2) (a := a) (b := b) k 0
  have hM0 : ML Γ M (uF F 0 0) := hM.uF (by omega)
  obtain ⟨⟨g0, g1, g2, g3, g4, g5⟩, ⟨l1, l2, l3, -, l5⟩, p1, p2, p3, p4, p5⟩ := id hM
  refine tC_enter (nL := 5) (by decide +kernel) (by decide +kernel) rfl (Nat.le_of_ble_eq_true rfl) (fun hok => ?_)
  simp only [ent]
  refine tG_at hd kMod_would_0 ?_
  simp (disch := omega) only [bMod_would_0, rn, sm, lg, lt_, cmpP, tk, pr_, pu, swl, cs, Nat.reduceAdd, Nat.reduceLeDiff, Nat.zero_le, Nat.le_refl, true_and, and_true, Int.toNat_natCast, Int.reduceToNat, Int.reduceEq, false_implies, true_implies, Int.reduceNeg, Int.cast_ofNat_Int, mS_0, mS_1, mS_2, mS_3, mS_4, mS_5, mS_u0, mS_u1, mS_u2, mS_u3, mS_u4, mS_u5, g0, g1, g2, g3, g4, g5, l1, l2, l3, l5, p1, p2, p3, p4, p5, sn_0, sn_9, at_0, at_9, fl_sn, fl_at, fl_usn, fl_uat, fl_a, fl_ua, reduceIte, Nat.reduceEqDiff, true_or, or_true, Int.reduceLE, Int.reduceLT, wr_s, wn_1, wn_2, wn_5, wn_6, wn_8, wn_12, wn_14, wn_18, wn_24, wn_30, wn_32, wn_38, wn_44, FF_15, FF_16, FF_u, FF_ne, FF_r15, FF_r16, uF_at, uF_ne, not_true_eq_false, not_false_eq_true, implies_true]
  refine c_firstOf (by omega) hM0.FF n5 (by omega) ?_
  unfold wldF at hq
  refine tG_at hd kMod_would_11 ?_
  simp only [bMod_would_11, rn, sm, lg, lt_, cmpP, tk, pr_, pu, swl, cs, Nat.reduceAdd, Nat.reduceLeDiff, Nat.zero_le, Nat.le_refl, true_and, and_true, Int.toNat_natCast, Int.reduceToNat, Int.reduceEq, false_implies, true_implies, Int.reduceNeg, Int.cast_ofNat_Int]
  refine ⟨fun hz => ?_, fun hz => ?_⟩
  · rw [if_neg hz] at hq
    obtain ⟨p, hp⟩ : ∃ p : Nat, fst_ X.2.2 a b 0 k = (p : Int) := ⟨(fst_ X.2.2 a b 0 k).toNat, by omega⟩
    simp only [hp, Int.toNat_natCast] at hq
    refine tG_at hd kMod_would_19 ?_
    simp (disch := omega) only [bMod_would_19, rn, sm, lg, lt_, cmpP, tk, pr_, pu, swl, cs, Nat.reduceAdd, Nat.reduceLeDiff, Nat.zero_le, Nat.le_refl, true_and, and_true, Int.toNat_natCast, Int.reduceToNat, Int.reduceEq, false_implies, true_implies, Int.reduceNeg, Int.cast_ofNat_Int, mS_0, mS_1, mS_2, mS_3, mS_4, mS_5, mS_u0, mS_u1, mS_u2, mS_u3, mS_u4, mS_u5, g0, g1, g2, g3, g4, g5, l1, l2, l3, l5, p1, p2, p3, p4, p5, sn_0, sn_9, at_0, at_9, fl_sn, fl_at, fl_usn, fl_uat, fl_a, fl_ua, reduceIte, Nat.reduceEqDiff, true_or, or_true, Int.reduceLE, Int.reduceLT, wr_s, wn_1, wn_2, wn_5, wn_6, wn_8, wn_12, wn_14, wn_18, wn_24, wn_30, wn_32, wn_38, wn_44, FF_15, FF_16, FF_u, FF_ne, FF_r15, FF_r16, uF_at, uF_ne, not_true_eq_false, not_false_eq_true, implies_true, hp]
    refine c_keeps (by omega) hM0.FF ?_
    refine tG_at hd kMod_would_23 ?_
    simp (disch := omega) only [bMod_would_23, rn, sm, lg, lt_, cmpP, tk, pr_, pu, swl, cs, Nat.reduceAdd, Nat.reduceLeDiff, Nat.zero_le, Nat.le_refl, true_and, and_true, Int.toNat_natCast, Int.reduceToNat, Int.reduceEq, false_implies, true_implies, Int.reduceNeg, Int.cast_ofNat_Int, mS_0, mS_1, mS_2, mS_3, mS_4, mS_5, mS_u0, mS_u1, mS_u2, mS_u3, mS_u4, mS_u5, g0, g1, g2, g3, g4, g5, l1, l2, l3, l5, p1, p2, p3, p4, p5, sn_0, sn_9, at_0, at_9, fl_sn, fl_at, fl_usn, fl_uat, fl_a, fl_ua, reduceIte, Nat.reduceEqDiff, true_or, or_true, Int.reduceLE, Int.reduceLT, wr_s, wn_1, wn_2, wn_5, wn_6, wn_8, wn_12, wn_14, wn_18, wn_24, wn_30, wn_32, wn_38, wn_44, FF_15, FF_16, FF_u, FF_ne, FF_r15, FF_r16, uF_at, uF_ne, not_true_eq_false, not_false_eq_true, implies_true]
    refine c_delivers (by omega) hM0 g (p := p) (by omega) (fun H' => ?_)
    have fin : ∀ v : Int, (∀ h' c' K' H', Q (some (.inl v)) Γ (mS V M (FF (uF F 0 0) h' c') T (fl X.1 X.2.1 X.2.2) K' S H')) → tG w d nMod_would 72 [some (.inr (.inl M)), some (.inl a), some (.inl b), some (.inl (p : Int)), none] [.inl v] Γ (mS V M (FF (uF F 0 0) (delF n p X).2.2.1 (delF n p X).2.2.2) T (fl (delF n p X).2.1.1 (delF n p X).2.1.2.1 (delF n p X).2.1.2.2) (cpi (fl X.1 X.2.1 X.2.2) K 2226) S H') 0 0 Q := by
      intro v hv
      refine tG_at hd kMod_would_72 ?_
      simp (disch := omega) only [bMod_would_72, rn, sm, lg, lt_, cmpP, tk, pr_, pu, swl, cs, Nat.reduceAdd, Nat.reduceLeDiff, Nat.zero_le, Nat.le_refl, true_and, and_true, Int.toNat_natCast, Int.reduceToNat, Int.reduceEq, false_implies, true_implies, Int.reduceNeg, Int.cast_ofNat_Int, mS_0, mS_1, mS_2, mS_3, mS_4, mS_5, mS_u0, mS_u1, mS_u2, mS_u3, mS_u4, mS_u5, g0, g1, g2, g3, g4, g5, l1, l2, l3, l5, p1, p2, p3, p4, p5, sn_0, sn_9, at_0, at_9, fl_sn, fl_at, fl_usn, fl_uat, fl_a, fl_ua, reduceIte, Nat.reduceEqDiff, true_or, or_true, Int.reduceLE, Int.reduceLT, wr_s, wn_1, wn_2, wn_5, wn_6, wn_8, wn_12, wn_14, wn_18, wn_24, wn_30, wn_32, wn_38, wn_44, FF_15, FF_16, FF_u, FF_ne, FF_r15, FF_r16, uF_at, uF_ne, not_true_eq_false, not_false_eq_true, implies_true]
      refine c_back (by omega) hM0.FF ?_
      rw [cpi_fl]
      refine tG_at hd kMod_would_78 ?_
      simp only [bMod_would_78, rn, sm, lg, lt_, cmpP, tk, pr_, pu, swl, cs, Nat.reduceAdd, Nat.reduceLeDiff, Nat.zero_le, Nat.le_refl, true_and, and_true, Int.toNat_natCast, Int.reduceToNat, Int.reduceEq, false_implies, true_implies, Int.reduceNeg, Int.cast_ofNat_Int]
      exact hv _ _ _ _
    refine tG_at hd kMod_would_28 ?_
    simp (disch := omega) only [bMod_would_28, rn, sm, lg, lt_, cmpP, tk, pr_, pu, swl, cs, Nat.reduceAdd, Nat.reduceLeDiff, Nat.zero_le, Nat.le_refl, true_and, and_true, Int.toNat_natCast, Int.reduceToNat, Int.reduceEq, false_implies, true_implies, Int.reduceNeg, Int.cast_ofNat_Int, mS_0, mS_1, mS_2, mS_3, mS_4, mS_5, mS_u0, mS_u1, mS_u2, mS_u3, mS_u4, mS_u5, g0, g1, g2, g3, g4, g5, l1, l2, l3, l5, p1, p2, p3, p4, p5, sn_0, sn_9, at_0, at_9, fl_sn, fl_at, fl_usn, fl_uat, fl_a, fl_ua, reduceIte, Nat.reduceEqDiff, true_or, or_true, Int.reduceLE, Int.reduceLT, wr_s, wn_1, wn_2, wn_5, wn_6, wn_8, wn_12, wn_14, wn_18, wn_24, wn_30, wn_32, wn_38, wn_44, FF_15, FF_16, FF_u, FF_ne, FF_r15, FF_r16, uF_at, uF_ne, not_true_eq_false, not_false_eq_true, implies_true]
    refine ⟨fun hc => ?_, fun hc => ?_⟩
    · rw [if_neg (by omega)] at hq
      refine tG_at hd kMod_would_41 ?_
      simp (disch := omega) only [bMod_would_41, rn, sm, lg, lt_, cmpP, tk, pr_, pu, swl, cs, Nat.reduceAdd, Nat.reduceLeDiff, Nat.zero_le, Nat.le_refl, true_and, and_true, Int.toNat_natCast, Int.reduceToNat, Int.reduceEq, false_implies, true_implies, Int.reduceNeg, Int.cast_ofNat_Int, mS_0, mS_1, mS_2, mS_3, mS_4, mS_5, mS_u0, mS_u1, mS_u2, mS_u3, mS_u4, mS_u5, g0, g1, g2, g3, g4, g5, l1, l2, l3, l5, p1, p2, p3, p4, p5, sn_0, sn_9, at_0, at_9, fl_sn, fl_at, fl_usn, fl_uat, fl_a, fl_ua, reduceIte, Nat.reduceEqDiff, true_or, or_true, Int.reduceLE, Int.reduceLT, wr_s, wn_1, wn_2, wn_5, wn_6, wn_8, wn_12, wn_14, wn_18, wn_24, wn_30, wn_32, wn_38, wn_44, FF_15, FF_16, FF_u, FF_ne, FF_r15, FF_r16, uF_at, uF_ne, not_true_eq_false, not_false_eq_true, implies_true]
      refine ⟨fun hh => ?_, fun hh => ?_⟩
      · rw [if_neg (by omega)] at hq
        have e : cpi (fl X.1 X.2.1 X.2.2) K 2226 1 = X.1 1 := by
          show (if 1 < 2226 then fl X.1 X.2.1 X.2.2 1 else K 1) = X.1 1
          rw [if_pos (by omega), fl_a (by omega)]
        refine tG_at hd kMod_would_52 ?_
        simp (disch := omega) only [bMod_would_52, rn, sm, lg, lt_, cmpP, tk, pr_, pu, swl, cs, Nat.reduceAdd, Nat.reduceLeDiff, Nat.zero_le, Nat.le_refl, true_and, and_true, Int.toNat_natCast, Int.reduceToNat, Int.reduceEq, false_implies, true_implies, Int.reduceNeg, Int.cast_ofNat_Int, mS_0, mS_1, mS_2, mS_3, mS_4, mS_5, mS_u0, mS_u1, mS_u2, mS_u3, mS_u4, mS_u5, g0, g1, g2, g3, g4, g5, l1, l2, l3, l5, p1, p2, p3, p4, p5, sn_0, sn_9, at_0, at_9, fl_sn, fl_at, fl_usn, fl_uat, fl_a, fl_ua, reduceIte, Nat.reduceEqDiff, true_or, or_true, Int.reduceLE, Int.reduceLT, wr_s, wn_1, wn_2, wn_5, wn_6, wn_8, wn_12, wn_14, wn_18, wn_24, wn_30, wn_32, wn_38, wn_44, FF_15, FF_16, FF_u, FF_ne, FF_r15, FF_r16, uF_at, uF_ne, not_true_eq_false, not_false_eq_true, implies_true, e]
        refine ⟨fun hz3 => ?_, fun hz3 => ?_⟩
        · rw [if_neg (by omega)] at hq
          refine tG_at hd kMod_would_71 ?_
          simp only [bMod_would_71, rn, sm, lg, lt_, cmpP, tk, pr_, pu, swl, cs, Nat.reduceAdd, Nat.reduceLeDiff, Nat.zero_le, Nat.le_refl, true_and, and_true, Int.toNat_natCast, Int.reduceToNat, Int.reduceEq, false_implies, true_implies, Int.reduceNeg, Int.cast_ofNat_Int]
          exact fin 0 hq
        · rw [if_pos (by omega)] at hq
          refine tG_at hd kMod_would_67 ?_
          simp only [bMod_would_67, rn, sm, lg, lt_, cmpP, tk, pr_, pu, swl, cs, Nat.reduceAdd, Nat.reduceLeDiff, Nat.zero_le, Nat.le_refl, true_and, and_true, Int.toNat_natCast, Int.reduceToNat, Int.reduceEq, false_implies, true_implies, Int.reduceNeg, Int.cast_ofNat_Int]
          exact fin 3 hq
      · rw [if_pos hh] at hq
        refine tG_at hd kMod_would_48 ?_
        simp only [bMod_would_48, rn, sm, lg, lt_, cmpP, tk, pr_, pu, swl, cs, Nat.reduceAdd, Nat.reduceLeDiff, Nat.zero_le, Nat.le_refl, true_and, and_true, Int.toNat_natCast, Int.reduceToNat, Int.reduceEq, false_implies, true_implies, Int.reduceNeg, Int.cast_ofNat_Int]
        exact fin 2 hq
    · rw [if_pos hc] at hq
      refine tG_at hd kMod_would_37 ?_
      simp only [bMod_would_37, rn, sm, lg, lt_, cmpP, tk, pr_, pu, swl, cs, Nat.reduceAdd, Nat.reduceLeDiff, Nat.zero_le, Nat.le_refl, true_and, and_true, Int.toNat_natCast, Int.reduceToNat, Int.reduceEq, false_implies, true_implies, Int.reduceNeg, Int.cast_ofNat_Int]
      exact fin 1 hq
  · rw [if_pos (by omega)] at hq
    refine tG_at hd kMod_would_17 ?_
    simp only [bMod_would_17, rn, sm, lg, lt_, cmpP, tk, pr_, pu, swl, cs, Nat.reduceAdd, Nat.reduceLeDiff, Nat.zero_le, Nat.le_refl, true_and, and_true, Int.toNat_natCast, Int.reduceToNat, Int.reduceEq, false_implies, true_implies, Int.reduceNeg, Int.cast_ofNat_Int]
    exact hq _ _ _ _
theorem c_soon (hd9 : 9 ≤ d) (hM : ML Γ M F) (g : GJ n k W X) {x : Int} (hW2 : W + 2800 ≤ 1000000000)
    (hq : ∀ h' c' K' H', Q (some (.inl (if 0 ≤ x ∧ x < n then sooF n x.toNat 200 0 X else -1))) Γ (mS V M (FF (uF F 0 0) h' c') T (fl X.1 X.2.1 X.2.2) K' S H')) : tC w d nMod_soon [.inr (.inl M), .inl x] Γ (mS V M (FF F h c) T (fl X.1 X.2.1 X.2.2) K S H) Q := by
  have hd : 4 ≤ d := by omega
  obtain ⟨n0, n5, hn2, hn6, hk41, hW⟩ := g.1.A
  have hM0 : ML Γ M (uF F 0 0) := hM.uF (by omega)
  obtain ⟨⟨g0, g1, g2, g3, g4, g5⟩, ⟨l1, l2, l3, -, l5⟩, p1, p2, p3, p4, p5⟩ := id hM
  refine tC_enter (nL := 4) (by decide +kernel) (by decide +kernel) rfl (Nat.le_of_ble_eq_true rfl) (fun hok => ?_)
  simp only [ent]
  refine tG_at hd kMod_soon_0 ?_
  simp (disch := omega) only [bMod_soon_0, rn, sm, lg, lt_, cmpP, tk, pr_, pu, swl, cs, Nat.reduceAdd, Nat.reduceLeDiff, Nat.zero_le, Nat.le_refl, true_and, and_true, Int.toNat_natCast, Int.reduceToNat, Int.reduceEq, false_implies, true_implies, Int.reduceNeg, Int.cast_ofNat_Int, mS_0, mS_1, mS_2, mS_3, mS_4, mS_5, mS_u0, mS_u1, mS_u2, mS_u3, mS_u4, mS_u5, g0, g1, g2, g3, g4, g5, l1, l2, l3, l5, p1, p2, p3, p4, p5, sn_0, sn_9, at_0, at_9, fl_sn, fl_at, fl_usn, fl_uat, fl_a, fl_ua, reduceIte, Nat.reduceEqDiff, true_or, or_true, Int.reduceLE, Int.reduceLT, wr_s, wn_1, wn_2, wn_5, wn_6, wn_8, wn_12, wn_14, wn_18, wn_24, wn_30, wn_32, wn_38, wn_44, FF_15, FF_16, FF_u, FF_ne, FF_r15, FF_r16, uF_at, uF_ne, not_true_eq_false, not_false_eq_true, implies_true, n0, wr_p]
  by_cases hm : 0 ≤ x ∧ x ≤ (n : Int) - 1
  · rw [bi_1 hm]
    refine ⟨fun _ => ?_, fun h => absurd (by decide) h⟩
    obtain ⟨m, rfl⟩ : ∃ m : Nat, x = (m : Int) := ⟨x.toNat, by omega⟩
    have hmn : m < n := by omega
    simp only [Int.toNat_natCast, if_pos (show 0 ≤ (m : Int) ∧ (m : Int) < n by omega)] at hq
    refine tG_at hd kMod_soon_15 ?_
    simp (disch := omega) only [bMod_soon_15, rn, sm, lg, lt_, cmpP, tk, pr_, pu, swl, cs, Nat.reduceAdd, Nat.reduceLeDiff, Nat.zero_le, Nat.le_refl, true_and, and_true, Int.toNat_natCast, Int.reduceToNat, Int.reduceEq, false_implies, true_implies, Int.reduceNeg, Int.cast_ofNat_Int, mS_0, mS_1, mS_2, mS_3, mS_4, mS_5, mS_u0, mS_u1, mS_u2, mS_u3, mS_u4, mS_u5, g0, g1, g2, g3, g4, g5, l1, l2, l3, l5, p1, p2, p3, p4, p5, sn_0, sn_9, at_0, at_9, fl_sn, fl_at, fl_usn, fl_uat, fl_a, fl_ua, reduceIte, Nat.reduceEqDiff, true_or, or_true, Int.reduceLE, Int.reduceLT, wr_s, wn_1, wn_2, wn_5, wn_6, wn_8, wn_12, wn_14, wn_18, wn_24, wn_30, wn_32, wn_38, wn_44, FF_15, FF_16, FF_u, FF_ne, FF_r15, FF_r16, uF_at, uF_ne, not_true_eq_false, not_false_eq_true, implies_true]
    refine c_keeps (by omega) hM0.FF ?_
    refine tG_at hd kMod_soon_19 ?_
    simp only [bMod_soon_19, rn, sm, lg, lt_, cmpP, tk, pr_, pu, swl, cs, Nat.reduceAdd, Nat.reduceLeDiff, Nat.zero_le, Nat.le_refl, true_and, and_true, Int.toNat_natCast, Int.reduceToNat, Int.reduceEq, false_implies, true_implies, Int.reduceNeg, Int.cast_ofNat_Int]
    have fin : ∀ (Y : NT) (h c : Int) (H : Nat → Int) (i : Nat) (v : Int), (Y.2.1 m 3 = 1 → v = i) → (Y.2.1 m 3 ≠ 1 → v = -2) → (∀ h' c' K' H', Q (some (.inl v)) Γ (mS V M (FF (uF F 0 0) h' c') T (fl X.1 X.2.1 X.2.2) K' S H')) → tG w d nMod_soon 50 [some (.inr (.inl M)), some (.inl (m : Int)), some (.inl (i : Int)), none] [] Γ (mS V M (FF (uF F 0 0) h c) T (fl Y.1 Y.2.1 Y.2.2) (cpi (fl X.1 X.2.1 X.2.2) K 2226) S H) 0 0 Q := by
      intro Y h c H i v h1 h2 hv
      have fin2 : tG w d nMod_soon 66 [some (.inr (.inl M)), some (.inl (m : Int)), some (.inl (i : Int)), none] [.inl v] Γ (mS V M (FF (uF F 0 0) h c) T (fl Y.1 Y.2.1 Y.2.2) (cpi (fl X.1 X.2.1 X.2.2) K 2226) S H) 0 0 Q := by
        refine tG_at hd kMod_soon_66 ?_
        simp (disch := omega) only [bMod_soon_66, rn, sm, lg, lt_, cmpP, tk, pr_, pu, swl, cs, Nat.reduceAdd, Nat.reduceLeDiff, Nat.zero_le, Nat.le_refl, true_and, and_true, Int.toNat_natCast, Int.reduceToNat, Int.reduceEq, false_implies, true_implies, Int.reduceNeg, Int.cast_ofNat_Int, mS_0, mS_1, mS_2, mS_3, mS_4, mS_5, mS_u0, mS_u1, mS_u2, mS_u3, mS_u4, mS_u5, g0, g1, g2, g3, g4, g5, l1, l2, l3, l5, p1, p2, p3, p4, p5, sn_0, sn_9, at_0, at_9, fl_sn, fl_at, fl_usn, fl_uat, fl_a, fl_ua, reduceIte, Nat.reduceEqDiff, true_or, or_true, Int.reduceLE, Int.reduceLT, wr_s, wn_1, wn_2, wn_5, wn_6, wn_8, wn_12, wn_14, wn_18, wn_24, wn_30, wn_32, wn_38, wn_44, FF_15, FF_16, FF_u, FF_ne, FF_r15, FF_r16, uF_at, uF_ne, not_true_eq_false, not_false_eq_true, implies_true]
        refine c_back (by omega) hM0.FF ?_
        rw [cpi_fl]
        refine tG_at hd kMod_soon_71 ?_
        simp only [bMod_soon_71, rn, sm, lg, lt_, cmpP, tk, pr_, pu, swl, cs, Nat.reduceAdd, Nat.reduceLeDiff, Nat.zero_le, Nat.le_refl, true_and, and_true, Int.toNat_natCast, Int.reduceToNat, Int.reduceEq, false_implies, true_implies, Int.reduceNeg, Int.cast_ofNat_Int]
        exact hv _ _ _ _
      refine tG_at hd kMod_soon_50 ?_
      simp (disch := omega) only [bMod_soon_50, rn, sm, lg, lt_, cmpP, tk, pr_, pu, swl, cs, Nat.reduceAdd, Nat.reduceLeDiff, Nat.zero_le, Nat.le_refl, true_and, and_true, Int.toNat_natCast, Int.reduceToNat, Int.reduceEq, false_implies, true_implies, Int.reduceNeg, Int.cast_ofNat_Int, mS_0, mS_1, mS_2, mS_3, mS_4, mS_5, mS_u0, mS_u1, mS_u2, mS_u3, mS_u4, mS_u5, g0, g1, g2, g3, g4, g5, l1, l2, l3, l5, p1, p2, p3, p4, p5, sn_0, sn_9, at_0, at_9, fl_sn, fl_at, fl_usn, fl_uat, fl_a, fl_ua, reduceIte, Nat.reduceEqDiff, true_or, or_true, Int.reduceLE, Int.reduceLT, wr_s, wn_1, wn_2, wn_5, wn_6, wn_8, wn_12, wn_14, wn_18, wn_24, wn_30, wn_32, wn_38, wn_44, FF_15, FF_16, FF_u, FF_ne, FF_r15, FF_r16, uF_at, uF_ne, not_true_eq_false, not_false_eq_true, implies_true]
      refine ⟨fun hz => ?_, fun hz => ?_⟩
      · refine tG_at hd kMod_soon_64 ?_
        simp only [bMod_soon_64, rn, sm, lg, lt_, cmpP, tk, pr_, pu, swl, cs, Nat.reduceAdd, Nat.reduceLeDiff, Nat.zero_le, Nat.le_refl, true_and, and_true, Int.toNat_natCast, Int.reduceToNat, Int.reduceEq, false_implies, true_implies, Int.reduceNeg, Int.cast_ofNat_Int]
        rw [h2 hz] at fin2
        exact fin2
      · refine tG_at hd kMod_soon_60 ?_
        simp only [bMod_soon_60, rn, sm, lg, lt_, cmpP, tk, pr_, pu, swl, cs, Nat.reduceAdd, Nat.reduceLeDiff, Nat.zero_le, Nat.le_refl, true_and, and_true, Int.toNat_natCast, Int.reduceToNat, Int.reduceEq, false_implies, true_implies, Int.reduceNeg, Int.cast_ofNat_Int]
        rw [h1 (by omega)] at fin2
        exact fin2
    have key : ∀ (r i k W : Nat) (Y : NT) (h c : Int) (H : Nat → Int), i + r = 200 → GJ n k W Y → W + 14 * r ≤ 1000000000 → (∀ h' c' K' H', Q (some (.inl (sooF n m r i Y))) Γ (mS V M (FF (uF F 0 0) h' c') T (fl X.1 X.2.1 X.2.2) K' S H')) → tG w d nMod_soon 21 [some (.inr (.inl M)), some (.inl (m : Int)), some (.inl (i : Int)), none] [] Γ (mS V M (FF (uF F 0 0) h c) T (fl Y.1 Y.2.1 Y.2.2) (cpi (fl X.1 X.2.1 X.2.2) K 2226) S H) 0 0 Q := by
      intro r
      induction r with
      | zero =>
        intro i k W Y h c H hi gY hWr hq
        have b3 := (gY.1.row hmn).2.2.2.1
        simp only [sooF] at hq
        refine tG_at hd kMod_soon_21 ?_
        simp (disch := omega) only [bMod_soon_21, rn, sm, lg, lt_, cmpP, tk, pr_, pu, swl, cs, Nat.reduceAdd, Nat.reduceLeDiff, Nat.zero_le, Nat.le_refl, true_and, and_true, Int.toNat_natCast, Int.reduceToNat, Int.reduceEq, false_implies, true_implies, Int.reduceNeg, Int.cast_ofNat_Int, mS_0, mS_1, mS_2, mS_3, mS_4, mS_5, mS_u0, mS_u1, mS_u2, mS_u3, mS_u4, mS_u5, g0, g1, g2, g3, g4, g5, l1, l2, l3, l5, p1, p2, p3, p4, p5, sn_0, sn_9, at_0, at_9, fl_sn, fl_at, fl_usn, fl_uat, fl_a, fl_ua, reduceIte, Nat.reduceEqDiff, true_or, or_true, Int.reduceLE, Int.reduceLT, wr_s, wn_1, wn_2, wn_5, wn_6, wn_8, wn_12, wn_14, wn_18, wn_24, wn_30, wn_32, wn_38, wn_44, FF_15, FF_16, FF_u, FF_ne, FF_r15, FF_r16, uF_at, uF_ne, not_true_eq_false, not_false_eq_true, implies_true]
        refine ⟨fun hz => ?_, fun hz => ?_⟩
        · rw [if_neg hz] at hq
          exact fin Y h c H i _ (fun _ => rfl) (fun h => by omega) hq
        · rw [if_pos (by omega)] at hq
          refine tG_at hd kMod_soon_30 ?_
          simp only [bMod_soon_30, rn, sm, lg, lt_, cmpP, tk, pr_, pu, swl, cs, Nat.reduceAdd, Nat.reduceLeDiff, Nat.zero_le, Nat.le_refl, true_and, and_true, Int.toNat_natCast, Int.reduceToNat, Int.reduceEq, false_implies, true_implies, Int.reduceNeg, Int.cast_ofNat_Int]
          refine ⟨fun _ => ?_, fun h => absurd (by omega) h⟩
          exact fin Y h c H i _ (fun h => by omega) (fun _ => rfl) hq
      | succ r ih =>
        intro i k W Y h c H hi gY hWr hq
        have b3 := (gY.1.row hmn).2.2.2.1
        simp only [sooF] at hq
        refine tG_at hd kMod_soon_21 ?_
        simp (disch := omega) only [bMod_soon_21, rn, sm, lg, lt_, cmpP, tk, pr_, pu, swl, cs, Nat.reduceAdd, Nat.reduceLeDiff, Nat.zero_le, Nat.le_refl, true_and, and_true, Int.toNat_natCast, Int.reduceToNat, Int.reduceEq, false_implies, true_implies, Int.reduceNeg, Int.cast_ofNat_Int, mS_0, mS_1, mS_2, mS_3, mS_4, mS_5, mS_u0, mS_u1, mS_u2, mS_u3, mS_u4, mS_u5, g0, g1, g2, g3, g4, g5, l1, l2, l3, l5, p1, p2, p3, p4, p5, sn_0, sn_9, at_0, at_9, fl_sn, fl_at, fl_usn, fl_uat, fl_a, fl_ua, reduceIte, Nat.reduceEqDiff, true_or, or_true, Int.reduceLE, Int.reduceLT, wr_s, wn_1, wn_2, wn_5, wn_6, wn_8, wn_12, wn_14, wn_18, wn_24, wn_30, wn_32, wn_38, wn_44, FF_15, FF_16, FF_u, FF_ne, FF_r15, FF_r16, uF_at, uF_ne, not_true_eq_false, not_false_eq_true, implies_true]
        refine ⟨fun hz => ?_, fun hz => ?_⟩
        · rw [if_neg hz] at hq
          exact fin Y h c H i _ (fun _ => rfl) (fun h => by omega) hq
        · rw [if_pos (by omega)] at hq
          refine tG_at hd kMod_soon_30 ?_
          simp only [bMod_soon_30, rn, sm, lg, lt_, cmpP, tk, pr_, pu, swl, cs, Nat.reduceAdd, Nat.reduceLeDiff, Nat.zero_le, Nat.le_refl, true_and, and_true, Int.toNat_natCast, Int.reduceToNat, Int.reduceEq, false_implies, true_implies, Int.reduceNeg, Int.cast_ofNat_Int]
          refine ⟨fun h => absurd h (by omega), fun _ => ?_⟩
          refine tG_at hd kMod_soon_37 ?_
          simp (disch := omega) only [bMod_soon_37, rn, sm, lg, lt_, cmpP, tk, pr_, pu, swl, cs, Nat.reduceAdd, Nat.reduceLeDiff, Nat.zero_le, Nat.le_refl, true_and, and_true, Int.toNat_natCast, Int.reduceToNat, Int.reduceEq, false_implies, true_implies, Int.reduceNeg, Int.cast_ofNat_Int, mS_0, mS_1, mS_2, mS_3, mS_4, mS_5, mS_u0, mS_u1, mS_u2, mS_u3, mS_u4, mS_u5, g0, g1, g2, g3, g4, g5, l1, l2, l3, l5, p1, p2, p3, p4, p5, sn_0, sn_9, at_0, at_9, fl_sn, fl_at, fl_usn, fl_uat, fl_a, fl_ua, reduceIte, Nat.reduceEqDiff, true_or, or_true, Int.reduceLE, Int.reduceLT, wr_s, wn_1, wn_2, wn_5, wn_6, wn_8, wn_12, wn_14, wn_18, wn_24, wn_30, wn_32, wn_38, wn_44, FF_15, FF_16, FF_u, FF_ne, FF_r15, FF_r16, uF_at, uF_ne, not_true_eq_false, not_false_eq_true, implies_true]
          refine c_settlesOnce (by omega) hM0 gY (by omega) (fun h0 h' c' => ?_) (fun h1 H' => ?_)
          · rw [if_pos h0] at hq
            refine tG_at hd kMod_soon_41 ?_
            simp (disch := omega) only [bMod_soon_41, rn, sm, lg, lt_, cmpP, tk, pr_, pu, swl, cs, Nat.reduceAdd, Nat.reduceLeDiff, Nat.zero_le, Nat.le_refl, true_and, and_true, Int.toNat_natCast, Int.reduceToNat, Int.reduceEq, false_implies, true_implies, Int.reduceNeg, Int.cast_ofNat_Int, reduceIte, Int.reduceLT, Int.reduceLE, true_or, or_true, not_true_eq_false, not_false_eq_true, implies_true]
            have := onceF_3 (n := n) (X := Y) (m := m) (by omega) h0
            exact fin _ _ _ _ i _ (fun h => by omega) (fun _ => rfl) hq
          · rw [if_neg (by omega)] at hq
            refine tG_at hd kMod_soon_41 ?_
            simp (disch := omega) only [bMod_soon_41, rn, sm, lg, lt_, cmpP, tk, pr_, pu, swl, cs, Nat.reduceAdd, Nat.reduceLeDiff, Nat.zero_le, Nat.le_refl, true_and, and_true, Int.toNat_natCast, Int.reduceToNat, Int.reduceEq, false_implies, true_implies, Int.reduceNeg, Int.cast_ofNat_Int, reduceIte, Int.reduceLT, Int.reduceLE, true_or, or_true, not_true_eq_false, not_false_eq_true, implies_true]
            refine tG_at hd kMod_soon_44 ?_
            simp (disch := omega) only [bMod_soon_44, rn, sm, lg, lt_, cmpP, tk, pr_, pu, swl, cs, Nat.reduceAdd, Nat.reduceLeDiff, Nat.zero_le, Nat.le_refl, true_and, and_true, Int.toNat_natCast, Int.reduceToNat, Int.reduceEq, false_implies, true_implies, Int.reduceNeg, Int.cast_ofNat_Int, reduceIte, Int.reduceLT, Int.reduceLE, true_or, or_true, not_true_eq_false, not_false_eq_true, implies_true, wr_s]
            obtain ⟨k', g'⟩ := gY.once (by omega)
            exact ih (i + 1) k' (W + 14) _ _ _ _ (by omega) g' (by omega) hq
    exact key 200 0 k W X _ _ _ (by omega) g (by omega) hq
  · rw [bi_0 hm]
    refine ⟨fun h => absurd rfl h, fun _ => ?_⟩
    simp only [if_neg (show ¬ (0 ≤ x ∧ x < n) by omega)] at hq
    refine tG_at hd kMod_soon_13 ?_
    simp only [bMod_soon_13, rn, sm, lg, lt_, cmpP, tk, pr_, pu, swl, cs, Nat.reduceAdd, Nat.reduceLeDiff, Nat.zero_le, Nat.le_refl, true_and, and_true, Int.toNat_natCast, Int.reduceToNat, Int.reduceEq, false_implies, true_implies, Int.reduceNeg, Int.cast_ofNat_Int]
    exact hq _ _ _ _
theorem c_order (hd9 : 9 ≤ d) (hM : ML Γ M F) (g : GJ n k W X) {x : Int} (hW2 : W + 2800 ≤ 1000000000)
    (hq : ∀ h' c' K' H', Q (some (.inl (if 0 ≤ x ∧ x ≤ 19 then ordF n 200 x X else -1))) Γ (mS V M (FF (uF F 0 0) h' c') T (fl X.1 X.2.1 X.2.2) K' S H')) : tC w d nMod_order [.inr (.inl M), .inl x] Γ (mS V M (FF F h c) T (fl X.1 X.2.1 X.2.2) K S H) Q := by
  have hd : 4 ≤ d := by omega
  obtain ⟨n0, n5, hn2, hn6, hk41, hW⟩ := g.1.A
  have hM0 : ML Γ M (uF F 0 0) := hM.uF (by omega)
  obtain ⟨⟨g0, g1, g2, g3, g4, g5⟩, ⟨l1, l2, l3, -, l5⟩, p1, p2, p3, p4, p5⟩ := id hM
  refine tC_enter (nL := 5) (by decide +kernel) (by decide +kernel) rfl (Nat.le_of_ble_eq_true rfl) (fun hok => ?_)
  simp only [ent]
  refine tG_at hd kMod_order_0 ?_
  simp (disch := omega) only [bMod_order_0, rn, sm, lg, lt_, cmpP, tk, pr_, pu, swl, cs, Nat.reduceAdd, Nat.reduceLeDiff, Nat.zero_le, Nat.le_refl, true_and, and_true, Int.toNat_natCast, Int.reduceToNat, Int.reduceEq, false_implies, true_implies, Int.reduceNeg, Int.cast_ofNat_Int, mS_0, mS_1, mS_2, mS_3, mS_4, mS_5, mS_u0, mS_u1, mS_u2, mS_u3, mS_u4, mS_u5, g0, g1, g2, g3, g4, g5, l1, l2, l3, l5, p1, p2, p3, p4, p5, sn_0, sn_9, at_0, at_9, fl_sn, fl_at, fl_usn, fl_uat, fl_a, fl_ua, reduceIte, Nat.reduceEqDiff, true_or, or_true, Int.reduceLE, Int.reduceLT, wr_s, wn_1, wn_2, wn_5, wn_6, wn_8, wn_12, wn_14, wn_18, wn_24, wn_30, wn_32, wn_38, wn_44, FF_15, FF_16, FF_u, FF_ne, FF_r15, FF_r16, uF_at, uF_ne, not_true_eq_false, not_false_eq_true, implies_true]
  by_cases hx : 0 ≤ x ∧ x ≤ 19
  · rw [bi_1 hx]
    simp only [if_pos hx] at hq
    refine ⟨fun _ => ?_, fun h => absurd (by decide) h⟩
    refine tG_at hd kMod_order_17 ?_
    simp (disch := omega) only [bMod_order_17, rn, sm, lg, lt_, cmpP, tk, pr_, pu, swl, cs, Nat.reduceAdd, Nat.reduceLeDiff, Nat.zero_le, Nat.le_refl, true_and, and_true, Int.toNat_natCast, Int.reduceToNat, Int.reduceEq, false_implies, true_implies, Int.reduceNeg, Int.cast_ofNat_Int, mS_0, mS_1, mS_2, mS_3, mS_4, mS_5, mS_u0, mS_u1, mS_u2, mS_u3, mS_u4, mS_u5, g0, g1, g2, g3, g4, g5, l1, l2, l3, l5, p1, p2, p3, p4, p5, sn_0, sn_9, at_0, at_9, fl_sn, fl_at, fl_usn, fl_uat, fl_a, fl_ua, reduceIte, Nat.reduceEqDiff, true_or, or_true, Int.reduceLE, Int.reduceLT, wr_s, wn_1, wn_2, wn_5, wn_6, wn_8, wn_12, wn_14, wn_18, wn_24, wn_30, wn_32, wn_38, wn_44, FF_15, FF_16, FF_u, FF_ne, FF_r15, FF_r16, uF_at, uF_ne, not_true_eq_false, not_false_eq_true, implies_true]
    refine c_keeps (by omega) hM0.FF ?_
    refine tG_at hd kMod_order_21 ?_
    simp only [bMod_order_21, rn, sm, lg, lt_, cmpP, tk, pr_, pu, swl, cs, Nat.reduceAdd, Nat.reduceLeDiff, Nat.zero_le, Nat.le_refl, true_and, and_true, Int.toNat_natCast, Int.reduceToNat, Int.reduceEq, false_implies, true_implies, Int.reduceNeg, Int.cast_ofNat_Int]
    have fin : ∀ (Y : NT) (h c : Int) (H : Nat → Int) (l i v : Int), (∀ h' c' K' H', Q (some (.inl v)) Γ (mS V M (FF (uF F 0 0) h' c') T (fl X.1 X.2.1 X.2.2) K' S H')) → tG w d nMod_order 77 [some (.inr (.inl M)), some (.inl x), some (.inl l), some (.inl v), some (.inl i)] [] Γ (mS V M (FF (uF F 0 0) h c) T (fl Y.1 Y.2.1 Y.2.2) (cpi (fl X.1 X.2.1 X.2.2) K 2226) S H) 0 0 Q := by
      intro Y h c H l i v hv
      refine tG_at hd kMod_order_77 ?_
      simp (disch := omega) only [bMod_order_77, rn, sm, lg, lt_, cmpP, tk, pr_, pu, swl, cs, Nat.reduceAdd, Nat.reduceLeDiff, Nat.zero_le, Nat.le_refl, true_and, and_true, Int.toNat_natCast, Int.reduceToNat, Int.reduceEq, false_implies, true_implies, Int.reduceNeg, Int.cast_ofNat_Int, mS_0, mS_1, mS_2, mS_3, mS_4, mS_5, mS_u0, mS_u1, mS_u2, mS_u3, mS_u4, mS_u5, g0, g1, g2, g3, g4, g5, l1, l2, l3, l5, p1, p2, p3, p4, p5, sn_0, sn_9, at_0, at_9, fl_sn, fl_at, fl_usn, fl_uat, fl_a, fl_ua, reduceIte, Nat.reduceEqDiff, true_or, or_true, Int.reduceLE, Int.reduceLT, wr_s, wn_1, wn_2, wn_5, wn_6, wn_8, wn_12, wn_14, wn_18, wn_24, wn_30, wn_32, wn_38, wn_44, FF_15, FF_16, FF_u, FF_ne, FF_r15, FF_r16, uF_at, uF_ne, not_true_eq_false, not_false_eq_true, implies_true]
      refine c_back (by omega) hM0.FF ?_
      rw [cpi_fl]
      refine tG_at hd kMod_order_81 ?_
      simp only [bMod_order_81, rn, sm, lg, lt_, cmpP, tk, pr_, pu, swl, cs, Nat.reduceAdd, Nat.reduceLeDiff, Nat.zero_le, Nat.le_refl, true_and, and_true, Int.toNat_natCast, Int.reduceToNat, Int.reduceEq, false_implies, true_implies, Int.reduceNeg, Int.cast_ofNat_Int]
      exact hv _ _ _ _
    have key : ∀ (r i k W : Nat) (l : Int) (Y : NT) (h c : Int) (H : Nat → Int), i + r = 200 → (0 ≤ l ∧ l ≤ 19) → GJ n k W Y → W + 14 * r ≤ 1000000000 → (∀ h' c' K' H', Q (some (.inl (ordF n r l Y))) Γ (mS V M (FF (uF F 0 0) h' c') T (fl X.1 X.2.1 X.2.2) K' S H')) → tG w d nMod_order 28 [some (.inr (.inl M)), some (.inl x), some (.inl l), some (.inl (-1)), some (.inl (i : Int))] [] Γ (mS V M (FF (uF F 0 0) h c) T (fl Y.1 Y.2.1 Y.2.2) (cpi (fl X.1 X.2.1 X.2.2) K 2226) S H) 0 0 Q := by
      intro r
      induction r with
      | zero =>
        intro i k W l Y h c H hi hl gY hWr hq
        simp only [ordF] at hq
        refine tG_at hd kMod_order_28 ?_
        simp only [bMod_order_28, rn, sm, lg, lt_, cmpP, tk, pr_, pu, swl, cs, Nat.reduceAdd, Nat.reduceLeDiff, Nat.zero_le, Nat.le_refl, true_and, and_true, Int.toNat_natCast, Int.reduceToNat, Int.reduceEq, false_implies, true_implies, Int.reduceNeg, Int.cast_ofNat_Int]
        refine ⟨fun _ => ?_, fun h => absurd (by omega) h⟩
        exact fin Y h c H l i _ hq
      | succ r ih =>
        intro i k W l Y h c H hi hl gY hWr hq
        simp only [ordF] at hq
        refine tG_at hd kMod_order_28 ?_
        simp only [bMod_order_28, rn, sm, lg, lt_, cmpP, tk, pr_, pu, swl, cs, Nat.reduceAdd, Nat.reduceLeDiff, Nat.zero_le, Nat.le_refl, true_and, and_true, Int.toNat_natCast, Int.reduceToNat, Int.reduceEq, false_implies, true_implies, Int.reduceNeg, Int.cast_ofNat_Int]
        refine ⟨fun h => absurd h (by omega), fun _ => ?_⟩
        refine tG_at hd kMod_order_36 ?_
        simp (disch := omega) only [bMod_order_36, rn, sm, lg, lt_, cmpP, tk, pr_, pu, swl, cs, Nat.reduceAdd, Nat.reduceLeDiff, Nat.zero_le, Nat.le_refl, true_and, and_true, Int.toNat_natCast, Int.reduceToNat, Int.reduceEq, false_implies, true_implies, Int.reduceNeg, Int.cast_ofNat_Int, reduceIte, Int.reduceLT, Int.reduceLE, true_or, or_true, not_true_eq_false, not_false_eq_true, implies_true]
        refine tG_at hd kMod_order_41 ?_
        simp (disch := omega) only [bMod_order_41, rn, sm, lg, lt_, cmpP, tk, pr_, pu, swl, cs, Nat.reduceAdd, Nat.reduceLeDiff, Nat.zero_le, Nat.le_refl, true_and, and_true, Int.toNat_natCast, Int.reduceToNat, Int.reduceEq, false_implies, true_implies, Int.reduceNeg, Int.cast_ofNat_Int, mS_0, mS_1, mS_2, mS_3, mS_4, mS_5, mS_u0, mS_u1, mS_u2, mS_u3, mS_u4, mS_u5, g0, g1, g2, g3, g4, g5, l1, l2, l3, l5, p1, p2, p3, p4, p5, sn_0, sn_9, at_0, at_9, fl_sn, fl_at, fl_usn, fl_uat, fl_a, fl_ua, reduceIte, Nat.reduceEqDiff, true_or, or_true, Int.reduceLE, Int.reduceLT, wr_s, wn_1, wn_2, wn_5, wn_6, wn_8, wn_12, wn_14, wn_18, wn_24, wn_30, wn_32, wn_38, wn_44, FF_15, FF_16, FF_u, FF_ne, FF_r15, FF_r16, uF_at, uF_ne, not_true_eq_false, not_false_eq_true, implies_true]
        refine c_settlesOnce (by omega) hM0 gY (by omega) (fun h0 h' c' => ?_) (fun h1 H' => ?_)
        · rw [if_pos h0] at hq
          refine tG_at hd kMod_order_45 ?_
          simp (disch := omega) only [bMod_order_45, rn, sm, lg, lt_, cmpP, tk, pr_, pu, swl, cs, Nat.reduceAdd, Nat.reduceLeDiff, Nat.zero_le, Nat.le_refl, true_and, and_true, Int.toNat_natCast, Int.reduceToNat, Int.reduceEq, false_implies, true_implies, Int.reduceNeg, Int.cast_ofNat_Int, reduceIte, Int.reduceLT, Int.reduceLE, true_or, or_true, not_true_eq_false, not_false_eq_true, implies_true]
          exact fin _ _ _ _ _ _ _ hq
        · rw [if_neg (by omega)] at hq
          obtain ⟨k', g'⟩ := gY.once (by omega)
          refine tG_at hd kMod_order_45 ?_
          simp (disch := omega) only [bMod_order_45, rn, sm, lg, lt_, cmpP, tk, pr_, pu, swl, cs, Nat.reduceAdd, Nat.reduceLeDiff, Nat.zero_le, Nat.le_refl, true_and, and_true, Int.toNat_natCast, Int.reduceToNat, Int.reduceEq, false_implies, true_implies, Int.reduceNeg, Int.cast_ofNat_Int, reduceIte, Int.reduceLT, Int.reduceLE, true_or, or_true, not_true_eq_false, not_false_eq_true, implies_true]
          refine tG_at hd kMod_order_48 ?_
          simp (disch := omega) only [bMod_order_48, rn, sm, lg, lt_, cmpP, tk, pr_, pu, swl, cs, Nat.reduceAdd, Nat.reduceLeDiff, Nat.zero_le, Nat.le_refl, true_and, and_true, Int.toNat_natCast, Int.reduceToNat, Int.reduceEq, false_implies, true_implies, Int.reduceNeg, Int.cast_ofNat_Int, mS_0, mS_1, mS_2, mS_3, mS_4, mS_5, mS_u0, mS_u1, mS_u2, mS_u3, mS_u4, mS_u5, g0, g1, g2, g3, g4, g5, l1, l2, l3, l5, p1, p2, p3, p4, p5, sn_0, sn_9, at_0, at_9, fl_sn, fl_at, fl_usn, fl_uat, fl_a, fl_ua, reduceIte, Nat.reduceEqDiff, true_or, or_true, Int.reduceLE, Int.reduceLT, wr_s, wn_1, wn_2, wn_5, wn_6, wn_8, wn_12, wn_14, wn_18, wn_24, wn_30, wn_32, wn_38, wn_44, FF_15, FF_16, FF_u, FF_ne, FF_r15, FF_r16, uF_at, uF_ne, not_true_eq_false, not_false_eq_true, implies_true]
          refine ⟨fun hc => ?_, fun hc => ?_⟩
          · rw [if_neg hc] at hq
            refine tG_at hd kMod_order_59 ?_
            simp only [bMod_order_59, rn, sm, lg, lt_, cmpP, tk, pr_, pu, swl, cs, Nat.reduceAdd, Nat.reduceLeDiff, Nat.zero_le, Nat.le_refl, true_and, and_true, Int.toNat_natCast, Int.reduceToNat, Int.reduceEq, false_implies, true_implies, Int.reduceNeg, Int.cast_ofNat_Int]
            refine ⟨fun hl0 => ?_, fun hl0 => ?_⟩
            · rw [if_neg hl0] at hq
              refine tG_at hd kMod_order_68 ?_
              simp only [bMod_order_68, rn, sm, lg, lt_, cmpP, tk, pr_, pu, swl, cs, Nat.reduceAdd, Nat.reduceLeDiff, Nat.zero_le, Nat.le_refl, true_and, and_true, Int.toNat_natCast, Int.reduceToNat, Int.reduceEq, false_implies, true_implies, Int.reduceNeg, Int.cast_ofNat_Int]
              rw [show l + -1 = l - 1 by omega, wr_id (by omega) (by omega)]
              refine tG_at hd kMod_order_71 ?_
              simp (disch := omega) only [bMod_order_71, rn, sm, lg, lt_, cmpP, tk, pr_, pu, swl, cs, Nat.reduceAdd, Nat.reduceLeDiff, Nat.zero_le, Nat.le_refl, true_and, and_true, Int.toNat_natCast, Int.reduceToNat, Int.reduceEq, false_implies, true_implies, Int.reduceNeg, Int.cast_ofNat_Int, reduceIte, Int.reduceLT, Int.reduceLE, true_or, or_true, not_true_eq_false, not_false_eq_true, implies_true, wr_s]
              exact ih (i + 1) k' (W + 14) (l - 1) _ _ _ _ (by omega) (by omega) g' (by omega) hq
            · rw [if_pos (by omega)] at hq
              refine tG_at hd kMod_order_63 ?_
              simp (disch := omega) only [bMod_order_63, rn, sm, lg, lt_, cmpP, tk, pr_, pu, swl, cs, Nat.reduceAdd, Nat.reduceLeDiff, Nat.zero_le, Nat.le_refl, true_and, and_true, Int.toNat_natCast, Int.reduceToNat, Int.reduceEq, false_implies, true_implies, Int.reduceNeg, Int.cast_ofNat_Int, mS_0, mS_1, mS_2, mS_3, mS_4, mS_5, mS_u0, mS_u1, mS_u2, mS_u3, mS_u4, mS_u5, g0, g1, g2, g3, g4, g5, l1, l2, l3, l5, p1, p2, p3, p4, p5, sn_0, sn_9, at_0, at_9, fl_sn, fl_at, fl_usn, fl_uat, fl_a, fl_ua, reduceIte, Nat.reduceEqDiff, true_or, or_true, Int.reduceLE, Int.reduceLT, wr_s, wn_1, wn_2, wn_5, wn_6, wn_8, wn_12, wn_14, wn_18, wn_24, wn_30, wn_32, wn_38, wn_44, FF_15, FF_16, FF_u, FF_ne, FF_r15, FF_r16, uF_at, uF_ne, not_true_eq_false, not_false_eq_true, implies_true]
              refine tG_at hd kMod_order_68 ?_
              simp (disch := omega) only [bMod_order_68, rn, sm, lg, lt_, cmpP, tk, pr_, pu, swl, cs, Nat.reduceAdd, Nat.reduceLeDiff, Nat.zero_le, Nat.le_refl, true_and, and_true, Int.toNat_natCast, Int.reduceToNat, Int.reduceEq, false_implies, true_implies, Int.reduceNeg, Int.cast_ofNat_Int, reduceIte, Int.reduceLT, Int.reduceLE, true_or, or_true, not_true_eq_false, not_false_eq_true, implies_true]
              refine tG_at hd kMod_order_71 ?_
              simp (disch := omega) only [bMod_order_71, rn, sm, lg, lt_, cmpP, tk, pr_, pu, swl, cs, Nat.reduceAdd, Nat.reduceLeDiff, Nat.zero_le, Nat.le_refl, true_and, and_true, Int.toNat_natCast, Int.reduceToNat, Int.reduceEq, false_implies, true_implies, Int.reduceNeg, Int.cast_ofNat_Int, reduceIte, Int.reduceLT, Int.reduceLE, true_or, or_true, not_true_eq_false, not_false_eq_true, implies_true, wr_s]
              refine tG_at hd kMod_order_28 ?_
              simp only [bMod_order_28, rn, sm, lg, lt_, cmpP, tk, pr_, pu, swl, cs, Nat.reduceAdd, Nat.reduceLeDiff, Nat.zero_le, Nat.le_refl, true_and, and_true, Int.toNat_natCast, Int.reduceToNat, Int.reduceEq, false_implies, true_implies, Int.reduceNeg, Int.cast_ofNat_Int]
              refine ⟨fun _ => fin _ _ _ _ _ _ _ hq, fun _ => ?_⟩
              refine tG_at hd kMod_order_36 ?_
              simp only [bMod_order_36, rn, sm, lg, lt_, cmpP, tk, pr_, pu, swl, cs, Nat.reduceAdd, Nat.reduceLeDiff, Nat.zero_le, Nat.le_refl, true_and, and_true, Int.toNat_natCast, Int.reduceToNat, Int.reduceEq, false_implies, true_implies, Int.reduceNeg, Int.cast_ofNat_Int]
              exact ⟨fun _ => fin _ _ _ _ _ _ _ hq, fun h => absurd hc h⟩
          · rw [if_pos (by omega)] at hq
            refine tG_at hd kMod_order_56 ?_
            simp only [bMod_order_56, rn, sm, lg, lt_, cmpP, tk, pr_, pu, swl, cs, Nat.reduceAdd, Nat.reduceLeDiff, Nat.zero_le, Nat.le_refl, true_and, and_true, Int.toNat_natCast, Int.reduceToNat, Int.reduceEq, false_implies, true_implies, Int.reduceNeg, Int.cast_ofNat_Int]
            refine tG_at hd kMod_order_71 ?_
            simp (disch := omega) only [bMod_order_71, rn, sm, lg, lt_, cmpP, tk, pr_, pu, swl, cs, Nat.reduceAdd, Nat.reduceLeDiff, Nat.zero_le, Nat.le_refl, true_and, and_true, Int.toNat_natCast, Int.reduceToNat, Int.reduceEq, false_implies, true_implies, Int.reduceNeg, Int.cast_ofNat_Int, reduceIte, Int.reduceLT, Int.reduceLE, true_or, or_true, not_true_eq_false, not_false_eq_true, implies_true, wr_s]
            exact ih (i + 1) k' (W + 14) l _ _ _ _ (by omega) hl g' (by omega) hq
    exact key 200 0 k W x X _ _ _ (by omega) hx g (by omega) hq
  · rw [bi_0 hx]
    simp only [if_neg hx] at hq
    refine ⟨fun h => absurd rfl h, fun _ => ?_⟩
    refine tG_at hd kMod_order_15 ?_
    simp only [bMod_order_15, rn, sm, lg, lt_, cmpP, tk, pr_, pu, swl, cs, Nat.reduceAdd, Nat.reduceLeDiff, Nat.zero_le, Nat.le_refl, true_and, and_true, Int.toNat_natCast, Int.reduceToNat, Int.reduceEq, false_implies, true_implies, Int.reduceNeg, Int.cast_ofNat_Int]
    exact hq _ _ _ _
end MD
