/-! the reference reads a text -/
theorem cd_mem : wl (wl (27 * si_ 109 101 109 98 101 114) + 19) = codR wMem := by
  simp (disch := omega) only [si_, th_, fo_, wl_id]
  rfl
theorem cd_ran : fo_ 114 97 110 107 = codR wRan := by
  simp (disch := omega) only [si_, th_, fo_, wl_id]
  rfl
theorem cd_ask : th_ 97 115 107 = codR wAsk := by
  simp (disch := omega) only [si_, th_, fo_, wl_id]
  rfl
theorem cd_lea : wl (wl (27 * fo_ 108 101 97 118) + 5) = codR wLea := by
  simp (disch := omega) only [si_, th_, fo_, wl_id]
  rfl
theorem cd_sus : wl (wl (27 * si_ 115 117 115 112 101 99) + 20) = codR wSus := by
  simp (disch := omega) only [si_, th_, fo_, wl_id]
  rfl
theorem cd_sen : fo_ 115 101 110 100 = codR wSen := by
  simp (disch := omega) only [si_, th_, fo_, wl_id]
  rfl
theorem cd_los : fo_ 108 111 115 101 = codR wLos := by
  simp (disch := omega) only [si_, th_, fo_, wl_id]
  rfl
theorem cd_set : si_ 115 101 116 116 108 101 = codR wSet := by
  simp (disch := omega) only [si_, th_, fo_, wl_id]
  rfl
theorem actF_y {n k : Nat} {t x y y' : Int} {X : NT} (h3 : t ≠ 3) (h4 : t ≠ 4) : actF n k t x y X = actF n k t x y' X := by
  unfold actF
  rw [if_neg h3, if_neg h3, if_neg h4, if_neg h4]
section MD
variable {w : WP} {d : Nat} {Γ : GM} {V : VH} {Q : QT} {M : Nat} {F T N K S H : Nat → Int} {L p : Nat}
theorem c_readMembers (hd7 : 7 ≤ d) (hM : ML Γ M F) (hL : L ≤ 640) (hp : p ≤ L) (hT : TKs F T L p) (hN : ∀ j, 2226 ≤ j → N j = 0)
    (hq0 : ∀ fk pl : Nat, rdM T L p = .inl (fk, pl) → ∀ F' N', (∀ j, 2226 ≤ j → N' j = 0) → eqI F F' → F' 8 = (fk : Int) → F' 9 = (pl : Int) → Q (some (.inl 0)) Γ (mS V M F' T N' K S H))
    (hq1 : ∀ n p1 : Nat, rdM T L p = .inr (n, p1) → ∀ F', eqI F F' → F' 8 = F 8 → F' 19 = F 19 → TKs F' T L p1 → Q (some (.inl 1)) Γ (mS V M F' T (fl (begN n (fun _ => 0)).1 (begN n (fun _ => 0)).2.1 (begN n (fun _ => 0)).2.2) K S H)) :
    tC w d nMod_readMembers [.inr (.inl M)] Γ (mS V M F T N K S H) Q := by
  have hd : 4 ≤ d := by omega
  obtain ⟨⟨g0, g1, g2, g3, g4, g5⟩, ⟨l1, l2, l3, -, l5⟩, p1, p2, p3, p4, p5⟩ := id hM
  obtain ⟨t3, t5, t6, t4, t7, t10⟩ := id hT
  refine tC_enter (nL := 1) (by decide +kernel) (by decide +kernel) rfl (Nat.le_of_ble_eq_true rfl) (fun hok => ?_)
  simp only [ent]
  refine tG_at hd kMod_readMembers_0 ?_
  simp (disch := omega) only [bMod_readMembers_0, rn, sm, lg, lt_, cmpP, tk, pr_, pu, swl, cs, Nat.reduceAdd, Nat.reduceLeDiff, Nat.zero_le, Nat.le_refl, true_and, and_true, Int.toNat_natCast, Int.reduceToNat, Int.reduceEq, false_implies, true_implies, Int.reduceNeg, Int.cast_ofNat_Int, mS_0, mS_1, mS_2, mS_3, mS_4, mS_5, mS_u0, mS_u1, mS_u2, mS_u3, mS_u4, mS_u5, g0, g1, g2, g3, g4, g5, l1, l2, l3, l5, p1, p2, p3, p4, p5, sn_0, sn_9, at_0, at_9, fl_sn, fl_at, fl_usn, fl_uat, fl_a, fl_ua, uF, reduceIte, Nat.reduceEqDiff, true_or, or_true, Int.reduceLE, Int.reduceLT, wr_s, wn_1, wn_2, wn_5, wn_6, wn_8, wn_12, wn_14, wn_18, wn_24, wn_30, wn_32, wn_38, wn_44]
  refine c_isW (by omega) hM hT cd_mem (by decide) (by decide) ?_
  by_cases hw : isW T L p wMem
  · rw [bi_1 hw]
    have hE := tkE_b (T := T) hp (by rw [hw.1]; omega)
    refine tG_at hd kMod_readMembers_27 ?_
    simp (disch := omega) only [bMod_readMembers_27, rn, sm, lg, lt_, cmpP, tk, pr_, pu, swl, cs, Nat.reduceAdd, Nat.reduceLeDiff, Nat.zero_le, Nat.le_refl, true_and, and_true, Int.toNat_natCast, Int.reduceToNat, Int.reduceEq, false_implies, true_implies, Int.reduceNeg, Int.cast_ofNat_Int, reduceIte, Int.reduceLT, Int.reduceLE, true_or, or_true, not_true_eq_false, not_false_eq_true, implies_true]
    refine tG_at hd kMod_readMembers_36 ?_
    simp (disch := omega) only [bMod_readMembers_36, rn, sm, lg, lt_, cmpP, tk, pr_, pu, swl, cs, Nat.reduceAdd, Nat.reduceLeDiff, Nat.zero_le, Nat.le_refl, true_and, and_true, Int.toNat_natCast, Int.reduceToNat, Int.reduceEq, false_implies, true_implies, Int.reduceNeg, Int.cast_ofNat_Int, mS_0, mS_1, mS_2, mS_3, mS_4, mS_5, mS_u0, mS_u1, mS_u2, mS_u3, mS_u4, mS_u5, g0, g1, g2, g3, g4, g5, l1, l2, l3, l5, p1, p2, p3, p4, p5, sn_0, sn_9, at_0, at_9, fl_sn, fl_at, fl_usn, fl_uat, fl_a, fl_ua, uF, reduceIte, Nat.reduceEqDiff, true_or, or_true, Int.reduceLE, Int.reduceLT, wr_s, wn_1, wn_2, wn_5, wn_6, wn_8, wn_12, wn_14, wn_18, wn_24, wn_30, wn_32, wn_38, wn_44]
    refine c_go2 (by omega) hM hL (p := tkE T L p) hE.2.1 t3 (t4 (by rw [hw.1]; omega)) (fun F1 eo1 tk1 => ?_)
    have e1 : eqI F F1 := eo1.I (by rw [tk1.1, t3])
    have e18 : F1 8 = F 8 := eo1 8 (by omega) (by omega) (by omega) (by omega) (by omega) (by omega)
    have e119 : F1 19 = F 19 := eo1 19 (by omega) (by omega) (by omega) (by omega) (by omega) (by omega)
    have hM1 := e1.ML hM
    refine tG_at hd kMod_readMembers_40 ?_
    simp (disch := omega) only [bMod_readMembers_40, rn, sm, lg, lt_, cmpP, tk, pr_, pu, swl, cs, Nat.reduceAdd, Nat.reduceLeDiff, Nat.zero_le, Nat.le_refl, true_and, and_true, Int.toNat_natCast, Int.reduceToNat, Int.reduceEq, false_implies, true_implies, Int.reduceNeg, Int.cast_ofNat_Int, mS_0, mS_1, mS_2, mS_3, mS_4, mS_5, mS_u0, mS_u1, mS_u2, mS_u3, mS_u4, mS_u5, g0, g1, g2, g3, g4, g5, l1, l2, l3, l5, p1, p2, p3, p4, p5, sn_0, sn_9, at_0, at_9, fl_sn, fl_at, fl_usn, fl_uat, fl_a, fl_ua, uF, reduceIte, Nat.reduceEqDiff, true_or, or_true, Int.reduceLE, Int.reduceLT, wr_s, wn_1, wn_2, wn_5, wn_6, wn_8, wn_12, wn_14, wn_18, wn_24, wn_30, wn_32, wn_38, wn_44]
    refine c_told (by omega) hM1 hL hE.2.1 tk1 (fun fk pl hr F2 e2 e28 e29 => ?_) (fun n z1 hr F2 e2 e28 e219 e218 tk2 => ?_)
    · refine tG_at hd kMod_readMembers_47 ?_
      simp (disch := omega) only [bMod_readMembers_47, rn, sm, lg, lt_, cmpP, tk, pr_, pu, swl, cs, Nat.reduceAdd, Nat.reduceLeDiff, Nat.zero_le, Nat.le_refl, true_and, and_true, Int.toNat_natCast, Int.reduceToNat, Int.reduceEq, false_implies, true_implies, Int.reduceNeg, Int.cast_ofNat_Int, reduceIte, Int.reduceLT, Int.reduceLE, true_or, or_true, not_true_eq_false, not_false_eq_true, implies_true]
      refine tG_at hd kMod_readMembers_50 ?_
      simp only [bMod_readMembers_50, rn, sm, lg, lt_, cmpP, tk, pr_, pu, swl, cs, Nat.reduceAdd, Nat.reduceLeDiff, Nat.zero_le, Nat.le_refl, true_and, and_true, Int.toNat_natCast, Int.reduceToNat, Int.reduceEq, false_implies, true_implies, Int.reduceNeg, Int.cast_ofNat_Int]
      refine ⟨Or.inl trivial, hq0 fk pl ?_ F2 N hN (e1.tr e2) e28 e29⟩
      unfold rdM
      rw [if_pos hw, hr]
    · have hM2 := e2.ML hM1
      have q18 := e218
      have ok := rdN_ok hr
      have hE1 := tkE_b (T := T) hE.2.1 (by rw [ok.1]; omega)
      rw [← ok.2.2.2.1] at hE1
      refine tG_at hd kMod_readMembers_47 ?_
      simp (disch := omega) only [bMod_readMembers_47, rn, sm, lg, lt_, cmpP, tk, pr_, pu, swl, cs, Nat.reduceAdd, Nat.reduceLeDiff, Nat.zero_le, Nat.le_refl, true_and, and_true, Int.toNat_natCast, Int.reduceToNat, Int.reduceEq, false_implies, true_implies, Int.reduceNeg, Int.cast_ofNat_Int, reduceIte, Int.reduceLT, Int.reduceLE, true_or, or_true, not_true_eq_false, not_false_eq_true, implies_true]
      refine tG_at hd kMod_readMembers_52 ?_
      simp (disch := omega) only [bMod_readMembers_52, rn, sm, lg, lt_, cmpP, tk, pr_, pu, swl, cs, Nat.reduceAdd, Nat.reduceLeDiff, Nat.zero_le, Nat.le_refl, true_and, and_true, Int.toNat_natCast, Int.reduceToNat, Int.reduceEq, false_implies, true_implies, Int.reduceNeg, Int.cast_ofNat_Int, mS_0, g0, q18]
      refine c_begins (by omega) hM2 (by omega) (by omega) hN ?_
      refine tG_at hd kMod_readMembers_60 ?_
      simp (disch := omega) only [bMod_readMembers_60, rn, sm, lg, lt_, cmpP, tk, pr_, pu, swl, cs, Nat.reduceAdd, Nat.reduceLeDiff, Nat.zero_le, Nat.le_refl, true_and, and_true, Int.toNat_natCast, Int.reduceToNat, Int.reduceEq, false_implies, true_implies, Int.reduceNeg, Int.cast_ofNat_Int, mS_0, mS_1, mS_2, mS_3, mS_4, mS_5, mS_u0, mS_u1, mS_u2, mS_u3, mS_u4, mS_u5, g0, g1, g2, g3, g4, g5, l1, l2, l3, l5, p1, p2, p3, p4, p5, sn_0, sn_9, at_0, at_9, fl_sn, fl_at, fl_usn, fl_uat, fl_a, fl_ua, uF, reduceIte, Nat.reduceEqDiff, true_or, or_true, Int.reduceLE, Int.reduceLT, wr_s, wn_1, wn_2, wn_5, wn_6, wn_8, wn_12, wn_14, wn_18, wn_24, wn_30, wn_32, wn_38, wn_44]
      refine c_readEnd (by omega) hM2 hL hE1.2.1 tk2 (fun fk pl hr2 F3 e3 e38 e39 => ?_) (fun z2 hr2 F3 e3 e38 e319 tk3 => ?_)
      · refine tG_at hd kMod_readMembers_64 ?_
        simp only [bMod_readMembers_64, rn, sm, lg, lt_, cmpP, tk, pr_, pu, swl, cs, Nat.reduceAdd, Nat.reduceLeDiff, Nat.zero_le, Nat.le_refl, true_and, and_true, Int.toNat_natCast, Int.reduceToNat, Int.reduceEq, false_implies, true_implies, Int.reduceNeg, Int.cast_ofNat_Int]
        refine ⟨Or.inl trivial, hq0 fk pl ?_ F3 _ (fun j hj => fl_hi hj) ((e1.tr e2).tr e3) e38 e39⟩
        unfold rdM
        rw [if_pos hw, hr]
        dsimp only
        rw [hr2]
      · refine tG_at hd kMod_readMembers_64 ?_
        simp only [bMod_readMembers_64, rn, sm, lg, lt_, cmpP, tk, pr_, pu, swl, cs, Nat.reduceAdd, Nat.reduceLeDiff, Nat.zero_le, Nat.le_refl, true_and, and_true, Int.toNat_natCast, Int.reduceToNat, Int.reduceEq, false_implies, true_implies, Int.reduceNeg, Int.cast_ofNat_Int]
        refine ⟨Or.inr trivial, hq1 n z2 ?_ F3 ((e1.tr e2).tr e3) (by rw [e38, e28, e18]) (by rw [e319, e219, e119]) tk3⟩
        unfold rdM
        rw [if_pos hw, hr]
        dsimp only
        rw [hr2]
  · rw [bi_0 hw]
    refine tG_at hd kMod_readMembers_27 ?_
    simp (disch := omega) only [bMod_readMembers_27, rn, sm, lg, lt_, cmpP, tk, pr_, pu, swl, cs, Nat.reduceAdd, Nat.reduceLeDiff, Nat.zero_le, Nat.le_refl, true_and, and_true, Int.toNat_natCast, Int.reduceToNat, Int.reduceEq, false_implies, true_implies, Int.reduceNeg, Int.cast_ofNat_Int, reduceIte, Int.reduceLT, Int.reduceLE, true_or, or_true, not_true_eq_false, not_false_eq_true, implies_true]
    refine tG_at hd kMod_readMembers_30 ?_
    simp (disch := omega) only [bMod_readMembers_30, rn, sm, lg, lt_, cmpP, tk, pr_, pu, swl, cs, Nat.reduceAdd, Nat.reduceLeDiff, Nat.zero_le, Nat.le_refl, true_and, and_true, Int.toNat_natCast, Int.reduceToNat, Int.reduceEq, false_implies, true_implies, Int.reduceNeg, Int.cast_ofNat_Int, mS_0, mS_1, mS_2, mS_3, mS_4, mS_5, mS_u0, mS_u1, mS_u2, mS_u3, mS_u4, mS_u5, g0, g1, g2, g3, g4, g5, l1, l2, l3, l5, p1, p2, p3, p4, p5, sn_0, sn_9, at_0, at_9, fl_sn, fl_at, fl_usn, fl_uat, fl_a, fl_ua, uF, reduceIte, Nat.reduceEqDiff, true_or, or_true, Int.reduceLE, Int.reduceLT, wr_s, wn_1, wn_2, wn_5, wn_6, wn_8, wn_12, wn_14, wn_18, wn_24, wn_30, wn_32, wn_38, wn_44]
    refine c_bad (by omega) hM hT (fun F' e1 e2 e3 => ?_)
    rw [show (if tkK T L p = 1 then 1 else (1 : Int)) = 1 by split <;> rfl] at e2
    refine tG_at hd kMod_readMembers_35 ?_
    simp only [bMod_readMembers_35, rn, sm, lg, lt_, cmpP, tk, pr_, pu, swl, cs, Nat.reduceAdd, Nat.reduceLeDiff, Nat.zero_le, Nat.le_refl, true_and, and_true, Int.toNat_natCast, Int.reduceToNat, Int.reduceEq, false_implies, true_implies, Int.reduceNeg, Int.cast_ofNat_Int]
    exact ⟨Or.inl trivial, hq0 1 _ (if_neg hw) F' N hN e1 e2 e3⟩
theorem c_isRank (hd5 : 5 ≤ d) (hM : ML Γ M F) (hT : TKs F T L p) (hq : Q (some (.inl (bi (isW T L p wRan)))) Γ (mS V M F T N K S H)) : tC w d nMod_isRank [.inr (.inl M)] Γ (mS V M F T N K S H) Q := by
  have hd : 4 ≤ d := by omega
  obtain ⟨⟨g0, g1, g2, g3, g4, g5⟩, ⟨l1, l2, l3, -, l5⟩, p1, p2, p3, p4, p5⟩ := id hM
  refine tC_enter (nL := 1) (by decide +kernel) (by decide +kernel) rfl (Nat.le_of_ble_eq_true rfl) (fun hok => ?_)
  simp only [ent]
  refine tG_at hd kMod_isRank_0 ?_
  simp (disch := omega) only [bMod_isRank_0, rn, sm, lg, lt_, cmpP, tk, pr_, pu, swl, cs, Nat.reduceAdd, Nat.reduceLeDiff, Nat.zero_le, Nat.le_refl, true_and, and_true, Int.toNat_natCast, Int.reduceToNat, Int.reduceEq, false_implies, true_implies, Int.reduceNeg, Int.cast_ofNat_Int, mS_0, mS_1, mS_2, mS_3, mS_4, mS_5, mS_u0, mS_u1, mS_u2, mS_u3, mS_u4, mS_u5, g0, g1, g2, g3, g4, g5, l1, l2, l3, l5, p1, p2, p3, p4, p5, sn_0, sn_9, at_0, at_9, fl_sn, fl_at, fl_usn, fl_uat, fl_a, fl_ua, uF, reduceIte, Nat.reduceEqDiff, true_or, or_true, Int.reduceLE, Int.reduceLT, wr_s, wn_1, wn_2, wn_5, wn_6, wn_8, wn_12, wn_14, wn_18, wn_24, wn_30, wn_32, wn_38, wn_44]
  refine c_isW (by omega) hM hT cd_ran (by decide) (by decide) ?_
  refine tG_at hd kMod_isRank_15 ?_
  simp only [bMod_isRank_15, rn, sm, lg, lt_, cmpP, tk, pr_, pu, swl, cs, Nat.reduceAdd, Nat.reduceLeDiff, Nat.zero_le, Nat.le_refl, true_and, and_true, Int.toNat_natCast, Int.reduceToNat, Int.reduceEq, false_implies, true_implies, Int.reduceNeg, Int.cast_ofNat_Int]
  by_cases hw : isW T L p wRan
  · rw [bi_1 hw] at hq ⊢
    exact ⟨Or.inr rfl, hq⟩
  · rw [bi_0 hw] at hq ⊢
    exact ⟨Or.inl rfl, hq⟩
theorem c_readRank (hd7 : 7 ≤ d) (hM : ML Γ M F) (hL : L ≤ 640) (hp : p ≤ L) (hT : TKs F T L p) (hw : isW T L p wRan) {n c : Nat} {r : Nat → Int} (hn2 : 2 ≤ n) (hn6 : n ≤ 6) (hc : F 19 = (c : Int)) (hc2 : c ≤ 20)
    (hq0 : ∀ fk pl : Nat, rdK T L n c p = .inl (fk, pl) → ∀ F' N', (∀ j, 2226 ≤ j → N' j = 0) → eqI F F' → F' 8 = (fk : Int) → F' 9 = (pl : Int) → Q (some (.inl 0)) Γ (mS V M F' T N' K S H))
    (hq1 : ∀ x v p1 : Nat, rdK T L n c p = .inr (x, v, p1) → ∀ F', eqI F F' → F' 8 = F 8 → F' 19 = ((c + 1 : Nat) : Int) → TKs F' T L p1 → Q (some (.inl 1)) Γ (mS V M F' T (fl (begN n (u1 r x (v : Int))).1 (begN n (u1 r x (v : Int))).2.1 (begN n (u1 r x (v : Int))).2.2) K S H)) :
    tC w d nMod_readRank [.inr (.inl M)] Γ (mS V M F T (fl (begN n r).1 (begN n r).2.1 (begN n r).2.2) K S H) Q := by
  have hd : 4 ≤ d := by omega
  have n0 : (begN n r).1 0 = (n : Int) := by simp [begN]
  obtain ⟨⟨g0, g1, g2, g3, g4, g5⟩, ⟨l1, l2, l3, -, l5⟩, p1, p2, p3, p4, p5⟩ := id hM
  obtain ⟨t3, t5, t6, t4, t7, t10⟩ := id hT
  refine tC_enter (nL := 3) (by decide +kernel) (by decide +kernel) rfl (Nat.le_of_ble_eq_true rfl) (fun hok => ?_)
  simp only [ent]
  refine tG_at hd kMod_readRank_0 ?_
  simp (disch := omega) only [bMod_readRank_0, rn, sm, lg, lt_, cmpP, tk, pr_, pu, swl, cs, Nat.reduceAdd, Nat.reduceLeDiff, Nat.zero_le, Nat.le_refl, true_and, and_true, Int.toNat_natCast, Int.reduceToNat, Int.reduceEq, false_implies, true_implies, Int.reduceNeg, Int.cast_ofNat_Int, mS_0, mS_1, mS_2, mS_3, mS_4, mS_5, mS_u0, mS_u1, mS_u2, mS_u3, mS_u4, mS_u5, g0, g1, g2, g3, g4, g5, l1, l2, l3, l5, p1, p2, p3, p4, p5, sn_0, sn_9, at_0, at_9, fl_sn, fl_at, fl_usn, fl_uat, fl_a, fl_ua, uF, reduceIte, Nat.reduceEqDiff, true_or, or_true, Int.reduceLE, Int.reduceLT, wr_s, wn_1, wn_2, wn_5, wn_6, wn_8, wn_12, wn_14, wn_18, wn_24, wn_30, wn_32, wn_38, wn_44, hc]
  refine ⟨fun hz => ?_, fun hz => ?_⟩
  · have hcn : c ≠ 20 := by omega
    have hE := tkE_b (T := T) hp (by rw [hw.1]; omega)
    refine tG_at hd kMod_readRank_15 ?_
    simp (disch := omega) only [bMod_readRank_15, rn, sm, lg, lt_, cmpP, tk, pr_, pu, swl, cs, Nat.reduceAdd, Nat.reduceLeDiff, Nat.zero_le, Nat.le_refl, true_and, and_true, Int.toNat_natCast, Int.reduceToNat, Int.reduceEq, false_implies, true_implies, Int.reduceNeg, Int.cast_ofNat_Int, mS_0, mS_1, mS_2, mS_3, mS_4, mS_5, mS_u0, mS_u1, mS_u2, mS_u3, mS_u4, mS_u5, g0, g1, g2, g3, g4, g5, l1, l2, l3, l5, p1, p2, p3, p4, p5, sn_0, sn_9, at_0, at_9, fl_sn, fl_at, fl_usn, fl_uat, fl_a, fl_ua, uF, reduceIte, Nat.reduceEqDiff, true_or, or_true, Int.reduceLE, Int.reduceLT, wr_s, wn_1, wn_2, wn_5, wn_6, wn_8, wn_12, wn_14, wn_18, wn_24, wn_30, wn_32, wn_38, wn_44]
    refine c_go2 (by omega) hM hL (p := tkE T L p) hE.2.1 t3 (t4 (by rw [hw.1]; omega)) (fun F1 eo1 tk1 => ?_)
    have e1 : eqI F F1 := eo1.I (by rw [tk1.1, t3])
    have e18 : F1 8 = F 8 := eo1 8 (by omega) (by omega) (by omega) (by omega) (by omega) (by omega)
    have e119 : F1 19 = F 19 := eo1 19 (by omega) (by omega) (by omega) (by omega) (by omega) (by omega)
    have hM1 := e1.ML hM
    have p2' : F1 11 = ((M + 2 : Nat) : Int) := by rw [e1 11 (by omega)]; exact p2
    refine tG_at hd kMod_readRank_19 ?_
    simp (disch := omega) only [bMod_readRank_19, rn, sm, lg, lt_, cmpP, tk, pr_, pu, swl, cs, Nat.reduceAdd, Nat.reduceLeDiff, Nat.zero_le, Nat.le_refl, true_and, and_true, Int.toNat_natCast, Int.reduceToNat, Int.reduceEq, false_implies, true_implies, Int.reduceNeg, Int.cast_ofNat_Int, mS_0, mS_1, mS_2, mS_3, mS_4, mS_5, mS_u0, mS_u1, mS_u2, mS_u3, mS_u4, mS_u5, g0, g1, g2, g3, g4, g5, l1, l2, l3, l5, p1, p2, p3, p4, p5, sn_0, sn_9, at_0, at_9, fl_sn, fl_at, fl_usn, fl_uat, fl_a, fl_ua, uF, reduceIte, Nat.reduceEqDiff, true_or, or_true, Int.reduceLE, Int.reduceLT, wr_s, wn_1, wn_2, wn_5, wn_6, wn_8, wn_12, wn_14, wn_18, wn_24, wn_30, wn_32, wn_38, wn_44, p2', n0, wr_p]
    refine c_told (by omega) hM1 hL hE.2.1 tk1 (fun fk pl hr F2 e2 e28 e29 => ?_) (fun x z1 hr F2 e2 e28 e219 e218 tk2 => ?_)
    · refine tG_at hd kMod_readRank_32 ?_
      simp (disch := omega) only [bMod_readRank_32, rn, sm, lg, lt_, cmpP, tk, pr_, pu, swl, cs, Nat.reduceAdd, Nat.reduceLeDiff, Nat.zero_le, Nat.le_refl, true_and, and_true, Int.toNat_natCast, Int.reduceToNat, Int.reduceEq, false_implies, true_implies, Int.reduceNeg, Int.cast_ofNat_Int, reduceIte, Int.reduceLT, Int.reduceLE, true_or, or_true, not_true_eq_false, not_false_eq_true, implies_true]
      refine tG_at hd kMod_readRank_35 ?_
      simp only [bMod_readRank_35, rn, sm, lg, lt_, cmpP, tk, pr_, pu, swl, cs, Nat.reduceAdd, Nat.reduceLeDiff, Nat.zero_le, Nat.le_refl, true_and, and_true, Int.toNat_natCast, Int.reduceToNat, Int.reduceEq, false_implies, true_implies, Int.reduceNeg, Int.cast_ofNat_Int]
      refine ⟨Or.inl trivial, hq0 fk pl ?_ F2 _ (fun j hj => fl_hi hj) (e1.tr e2) e28 e29⟩
      unfold rdK
      rw [if_neg hcn, hr]
    · have hM2 := e2.ML hM1
      have ok := rdN_ok hr
      have hE1 := tkE_b (T := T) hE.2.1 (by rw [ok.1]; omega)
      rw [← ok.2.2.2.1] at hE1
      have hxn : x < n := by omega
      refine tG_at hd kMod_readRank_32 ?_
      simp (disch := omega) only [bMod_readRank_32, rn, sm, lg, lt_, cmpP, tk, pr_, pu, swl, cs, Nat.reduceAdd, Nat.reduceLeDiff, Nat.zero_le, Nat.le_refl, true_and, and_true, Int.toNat_natCast, Int.reduceToNat, Int.reduceEq, false_implies, true_implies, Int.reduceNeg, Int.cast_ofNat_Int, reduceIte, Int.reduceLT, Int.reduceLE, true_or, or_true, not_true_eq_false, not_false_eq_true, implies_true]
      refine tG_at hd kMod_readRank_37 ?_
      simp (disch := omega) only [bMod_readRank_37, rn, sm, lg, lt_, cmpP, tk, pr_, pu, swl, cs, Nat.reduceAdd, Nat.reduceLeDiff, Nat.zero_le, Nat.le_refl, true_and, and_true, Int.toNat_natCast, Int.reduceToNat, Int.reduceEq, false_implies, true_implies, Int.reduceNeg, Int.cast_ofNat_Int, mS_0, g0, e218]
      refine c_told (by omega) hM2 hL hE1.2.1 tk2 (fun fk pl hr2 F3 e3 e38 e39 => ?_) (fun v z2 hr2 F3 e3 e38 e319 e318 tk3 => ?_)
      · refine tG_at hd kMod_readRank_49 ?_
        simp (disch := omega) only [bMod_readRank_49, rn, sm, lg, lt_, cmpP, tk, pr_, pu, swl, cs, Nat.reduceAdd, Nat.reduceLeDiff, Nat.zero_le, Nat.le_refl, true_and, and_true, Int.toNat_natCast, Int.reduceToNat, Int.reduceEq, false_implies, true_implies, Int.reduceNeg, Int.cast_ofNat_Int, reduceIte, Int.reduceLT, Int.reduceLE, true_or, or_true, not_true_eq_false, not_false_eq_true, implies_true]
        refine tG_at hd kMod_readRank_52 ?_
        simp only [bMod_readRank_52, rn, sm, lg, lt_, cmpP, tk, pr_, pu, swl, cs, Nat.reduceAdd, Nat.reduceLeDiff, Nat.zero_le, Nat.le_refl, true_and, and_true, Int.toNat_natCast, Int.reduceToNat, Int.reduceEq, false_implies, true_implies, Int.reduceNeg, Int.cast_ofNat_Int]
        refine ⟨Or.inl trivial, hq0 fk pl ?_ F3 _ (fun j hj => fl_hi hj) ((e1.tr e2).tr e3) e38 e39⟩
        unfold rdK
        rw [if_neg hcn, hr]
        dsimp only
        rw [hr2]
      · have hM3 := e3.ML hM2
        have ok2 := rdN_ok hr2
        have hE2 := tkE_b (T := T) hE1.2.1 (by rw [ok2.1]; omega)
        rw [← ok2.2.2.2.1] at hE2
        have p2'' : F3 11 = ((M + 2 : Nat) : Int) := by rw [e3 11 (by omega), e2 11 (by omega), p2']
        refine tG_at hd kMod_readRank_49 ?_
        simp (disch := omega) only [bMod_readRank_49, rn, sm, lg, lt_, cmpP, tk, pr_, pu, swl, cs, Nat.reduceAdd, Nat.reduceLeDiff, Nat.zero_le, Nat.le_refl, true_and, and_true, Int.toNat_natCast, Int.reduceToNat, Int.reduceEq, false_implies, true_implies, Int.reduceNeg, Int.cast_ofNat_Int, reduceIte, Int.reduceLT, Int.reduceLE, true_or, or_true, not_true_eq_false, not_false_eq_true, implies_true]
        refine tG_at hd kMod_readRank_54 ?_
        simp only [bMod_readRank_54, rn, sm, lg, lt_, cmpP, tk, pr_, pu, swl, cs, Nat.reduceAdd, Nat.reduceLeDiff, Nat.zero_le, Nat.le_refl, true_and, and_true, Int.toNat_natCast, Int.reduceToNat, Int.reduceEq, false_implies, true_implies, Int.reduceNeg, Int.cast_ofNat_Int]
        refine tG_loop (fun i => [some (.inr (.inl M)), some (.inl (x : Int)), some (.inl (i : Int))]) (fun i V' => V' = mS V M F3 T (fl (begN n r).1 (fun m j => if m < i ∧ j = 12 + x then (v : Int) else (begN n r).2.1 m j) (begN n r).2.2) K S H) n ?_ ?_ 0 _ (Nat.zero_le _) (by congr 2)
        · intro i V' hi hV k1
          subst hV
          refine tG_at hd kMod_readRank_56 ?_
          simp (disch := omega) only [bMod_readRank_56, rn, sm, lg, lt_, cmpP, tk, pr_, pu, swl, cs, Nat.reduceAdd, Nat.reduceLeDiff, Nat.zero_le, Nat.le_refl, true_and, and_true, Int.toNat_natCast, Int.reduceToNat, Int.reduceEq, false_implies, true_implies, Int.reduceNeg, Int.cast_ofNat_Int, mS_0, mS_1, mS_2, mS_3, mS_4, mS_5, mS_u0, mS_u1, mS_u2, mS_u3, mS_u4, mS_u5, g0, g1, g2, g3, g4, g5, l1, l2, l3, l5, p1, p2, p3, p4, p5, sn_0, sn_9, at_0, at_9, fl_sn, fl_at, fl_usn, fl_uat, fl_a, fl_ua, uF, reduceIte, Nat.reduceEqDiff, true_or, or_true, Int.reduceLE, Int.reduceLT, wr_s, wn_1, wn_2, wn_5, wn_6, wn_8, wn_12, wn_14, wn_18, wn_24, wn_30, wn_32, wn_38, wn_44, p2'', n0]
          refine ⟨fun h => absurd h (by omega), fun _ => ?_⟩
          refine tG_at hd kMod_readRank_66 ?_
          simp (disch := omega) only [bMod_readRank_66, rn, sm, lg, lt_, cmpP, tk, pr_, pu, swl, cs, Nat.reduceAdd, Nat.reduceLeDiff, Nat.zero_le, Nat.le_refl, true_and, and_true, Int.toNat_natCast, Int.reduceToNat, Int.reduceEq, false_implies, true_implies, Int.reduceNeg, Int.cast_ofNat_Int, mS_0, mS_1, mS_2, mS_3, mS_4, mS_5, mS_u0, mS_u1, mS_u2, mS_u3, mS_u4, mS_u5, g0, g1, g2, g3, g4, g5, l1, l2, l3, l5, p1, p2, p3, p4, p5, sn_0, sn_9, at_0, at_9, fl_sn, fl_at, fl_usn, fl_uat, fl_a, fl_ua, uF, reduceIte, Nat.reduceEqDiff, true_or, or_true, Int.reduceLE, Int.reduceLT, wr_s, wn_1, wn_2, wn_5, wn_6, wn_8, wn_12, wn_14, wn_18, wn_24, wn_30, wn_32, wn_38, wn_44, p2'', e318]
          refine k1 _ ?_
          congr 2
          funext m j
          unfold u2
          by_cases hm : m = i ∧ j = 12 + x
          · rw [if_pos hm, if_pos (by omega)]
          · rw [if_neg hm]
            dsimp only
            by_cases hm2 : m < i ∧ j = 12 + x
            · rw [if_pos hm2, if_pos (by omega)]
            · rw [if_neg hm2, if_neg (by omega)]
        · intro V' hV
          subst hV
          refine tG_at hd kMod_readRank_56 ?_
          simp (disch := omega) only [bMod_readRank_56, rn, sm, lg, lt_, cmpP, tk, pr_, pu, swl, cs, Nat.reduceAdd, Nat.reduceLeDiff, Nat.zero_le, Nat.le_refl, true_and, and_true, Int.toNat_natCast, Int.reduceToNat, Int.reduceEq, false_implies, true_implies, Int.reduceNeg, Int.cast_ofNat_Int, mS_0, mS_1, mS_2, mS_3, mS_4, mS_5, mS_u0, mS_u1, mS_u2, mS_u3, mS_u4, mS_u5, g0, g1, g2, g3, g4, g5, l1, l2, l3, l5, p1, p2, p3, p4, p5, sn_0, sn_9, at_0, at_9, fl_sn, fl_at, fl_usn, fl_uat, fl_a, fl_ua, uF, reduceIte, Nat.reduceEqDiff, true_or, or_true, Int.reduceLE, Int.reduceLT, wr_s, wn_1, wn_2, wn_5, wn_6, wn_8, wn_12, wn_14, wn_18, wn_24, wn_30, wn_32, wn_38, wn_44, p2'', n0]
          refine ⟨fun _ => ?_, fun h => absurd (by omega) h⟩
          have eN : fl (begN n r).1 (fun m j => if m < n ∧ j = 12 + x then (v : Int) else (begN n r).2.1 m j) (begN n r).2.2 = fl (begN n (u1 r x (v : Int))).1 (begN n (u1 r x (v : Int))).2.1 (begN n (u1 r x (v : Int))).2.2 := by
            rw [show (begN n (u1 r x (v : Int))).1 = (begN n r).1 from rfl, show (begN n (u1 r x (v : Int))).2.2 = (begN n r).2.2 from rfl]
            refine fl_bb (fun m hm j hj => ?_)
            unfold begN
            dsimp only
            by_cases hnm : n ≤ m
            · rw [if_neg (by omega), if_pos hnm, if_pos hnm]
            · rw [if_neg hnm, if_neg hnm]
              by_cases hj2 : j = 12 + x
              · subst hj2
                rw [if_pos (by omega), if_neg (by omega), if_neg (by omega), if_pos (by omega), show 12 + x - 12 = x by omega, u1_at]
              · rw [if_neg (by omega)]
                by_cases hj3 : 12 ≤ j ∧ j < 18
                · rw [if_neg (by omega), if_neg (by omega), if_pos hj3, if_neg (by omega), if_neg (by omega), if_pos hj3, u1_ne (by omega)]
                · rw [if_neg hj3, if_neg hj3]
          rw [eN]
          have e319c : F3 19 = (c : Int) := by rw [e319, e219, e119, hc]
          refine tG_at hd kMod_readRank_89 ?_
          simp (disch := omega) only [bMod_readRank_89, rn, sm, lg, lt_, cmpP, tk, pr_, pu, swl, cs, Nat.reduceAdd, Nat.reduceLeDiff, Nat.zero_le, Nat.le_refl, true_and, and_true, Int.toNat_natCast, Int.reduceToNat, Int.reduceEq, false_implies, true_implies, Int.reduceNeg, Int.cast_ofNat_Int, mS_0, mS_u0, g0, e319c, wr_s]
          have hM4 : ML Γ M (uF F3 19 ((c + 1 : Nat) : Int)) := hM3.uF (by omega)
          refine c_readEnd (by omega) hM4 hL hE2.2.1 (tk3.u (by omega)) (fun fk pl hr3 F4 e4 e48 e49 => ?_) (fun z3 hr3 F4 e4 e48 e419 tk4 => ?_)
          · refine tG_at hd kMod_readRank_103 ?_
            simp only [bMod_readRank_103, rn, sm, lg, lt_, cmpP, tk, pr_, pu, swl, cs, Nat.reduceAdd, Nat.reduceLeDiff, Nat.zero_le, Nat.le_refl, true_and, and_true, Int.toNat_natCast, Int.reduceToNat, Int.reduceEq, false_implies, true_implies, Int.reduceNeg, Int.cast_ofNat_Int]
            refine ⟨Or.inl trivial, hq0 fk pl ?_ F4 _ (fun j hj => fl_hi hj) (((((e1.tr e2).tr e3).u (by omega)).tr e4)) e48 e49⟩
            unfold rdK
            rw [if_neg hcn, hr]
            dsimp only
            rw [hr2]
            dsimp only
            rw [hr3]
          · refine tG_at hd kMod_readRank_103 ?_
            simp only [bMod_readRank_103, rn, sm, lg, lt_, cmpP, tk, pr_, pu, swl, cs, Nat.reduceAdd, Nat.reduceLeDiff, Nat.zero_le, Nat.le_refl, true_and, and_true, Int.toNat_natCast, Int.reduceToNat, Int.reduceEq, false_implies, true_implies, Int.reduceNeg, Int.cast_ofNat_Int]
            refine ⟨Or.inr trivial, hq1 x v z3 ?_ F4 (((((e1.tr e2).tr e3).u (by omega)).tr e4)) (by rw [e48, uF_ne (by omega), e38, e28, e18]) (by rw [e419, uF_at]) tk4⟩
            unfold rdK
            rw [if_neg hcn, hr]
            dsimp only
            rw [hr2]
            dsimp only
            rw [hr3]
  · refine tG_at hd kMod_readRank_9 ?_
    simp (disch := omega) only [bMod_readRank_9, rn, sm, lg, lt_, cmpP, tk, pr_, pu, swl, cs, Nat.reduceAdd, Nat.reduceLeDiff, Nat.zero_le, Nat.le_refl, true_and, and_true, Int.toNat_natCast, Int.reduceToNat, Int.reduceEq, false_implies, true_implies, Int.reduceNeg, Int.cast_ofNat_Int, mS_0, mS_1, mS_2, mS_3, mS_4, mS_5, mS_u0, mS_u1, mS_u2, mS_u3, mS_u4, mS_u5, g0, g1, g2, g3, g4, g5, l1, l2, l3, l5, p1, p2, p3, p4, p5, sn_0, sn_9, at_0, at_9, fl_sn, fl_at, fl_usn, fl_uat, fl_a, fl_ua, uF, reduceIte, Nat.reduceEqDiff, true_or, or_true, Int.reduceLE, Int.reduceLT, wr_s, wn_1, wn_2, wn_5, wn_6, wn_8, wn_12, wn_14, wn_18, wn_24, wn_30, wn_32, wn_38, wn_44]
    refine c_bad (by omega) hM hT (fun F' e1 e2 e3 => ?_)
    rw [if_neg (by rw [hw.1]; omega)] at e2
    refine tG_at hd kMod_readRank_14 ?_
    simp only [bMod_readRank_14, rn, sm, lg, lt_, cmpP, tk, pr_, pu, swl, cs, Nat.reduceAdd, Nat.reduceLeDiff, Nat.zero_le, Nat.le_refl, true_and, and_true, Int.toNat_natCast, Int.reduceToNat, Int.reduceEq, false_implies, true_implies, Int.reduceNeg, Int.cast_ofNat_Int]
    exact ⟨Or.inl trivial, hq0 3 _ (if_pos (by omega)) F' _ (fun j hj => fl_hi hj) e1 e2 e3⟩
theorem c_actHere (hd5 : 5 ≤ d) (hM : ML Γ M F) (hT : TKs F T L p) (hq : Q (some (.inl (if actK T L p = 6 then -1 else (actK T L p : Int)))) Γ (mS V M F T N K S H)) : tC w d nMod_actHere [.inr (.inl M)] Γ (mS V M F T N K S H) Q := by
  have hd : 4 ≤ d := by omega
  obtain ⟨⟨g0, g1, g2, g3, g4, g5⟩, ⟨l1, l2, l3, -, l5⟩, p1, p2, p3, p4, p5⟩ := id hM
  unfold actK at hq
  refine tC_enter (nL := 1) (by decide +kernel) (by decide +kernel) rfl (Nat.le_of_ble_eq_true rfl) (fun hok => ?_)
  simp only [ent]
  refine tG_at hd kMod_actHere_0 ?_
  simp (disch := omega) only [bMod_actHere_0, rn, sm, lg, lt_, cmpP, tk, pr_, pu, swl, cs, Nat.reduceAdd, Nat.reduceLeDiff, Nat.zero_le, Nat.le_refl, true_and, and_true, Int.toNat_natCast, Int.reduceToNat, Int.reduceEq, false_implies, true_implies, Int.reduceNeg, Int.cast_ofNat_Int, mS_0, mS_1, mS_2, mS_3, mS_4, mS_5, mS_u0, mS_u1, mS_u2, mS_u3, mS_u4, mS_u5, g0, g1, g2, g3, g4, g5, l1, l2, l3, l5, p1, p2, p3, p4, p5, sn_0, sn_9, at_0, at_9, fl_sn, fl_at, fl_usn, fl_uat, fl_a, fl_ua, uF, reduceIte, Nat.reduceEqDiff, true_or, or_true, Int.reduceLE, Int.reduceLT, wr_s, wn_1, wn_2, wn_5, wn_6, wn_8, wn_12, wn_14, wn_18, wn_24, wn_30, wn_32, wn_38, wn_44]
  refine c_isW (by omega) hM hT cd_ask (by decide) (by decide) ?_
  by_cases h0 : isW T L p wAsk
  · rw [bi_1 h0]
    simp only [if_pos h0] at hq
    refine tG_at hd kMod_actHere_13 ?_
    simp (disch := omega) only [bMod_actHere_13, rn, sm, lg, lt_, cmpP, tk, pr_, pu, swl, cs, Nat.reduceAdd, Nat.reduceLeDiff, Nat.zero_le, Nat.le_refl, true_and, and_true, Int.toNat_natCast, Int.reduceToNat, Int.reduceEq, false_implies, true_implies, Int.reduceNeg, Int.cast_ofNat_Int, reduceIte, Int.reduceLT, Int.reduceLE, true_or, or_true, not_true_eq_false, not_false_eq_true, implies_true]
    refine tG_at hd kMod_actHere_16 ?_
    simp only [bMod_actHere_16, rn, sm, lg, lt_, cmpP, tk, pr_, pu, swl, cs, Nat.reduceAdd, Nat.reduceLeDiff, Nat.zero_le, Nat.le_refl, true_and, and_true, Int.toNat_natCast, Int.reduceToNat, Int.reduceEq, false_implies, true_implies, Int.reduceNeg, Int.cast_ofNat_Int]
    exact hq
  · rw [bi_0 h0]
    simp only [if_neg h0] at hq
    refine tG_at hd kMod_actHere_13 ?_
    simp (disch := omega) only [bMod_actHere_13, rn, sm, lg, lt_, cmpP, tk, pr_, pu, swl, cs, Nat.reduceAdd, Nat.reduceLeDiff, Nat.zero_le, Nat.le_refl, true_and, and_true, Int.toNat_natCast, Int.reduceToNat, Int.reduceEq, false_implies, true_implies, Int.reduceNeg, Int.cast_ofNat_Int, reduceIte, Int.reduceLT, Int.reduceLE, true_or, or_true, not_true_eq_false, not_false_eq_true, implies_true]
    refine tG_at hd kMod_actHere_18 ?_
    simp (disch := omega) only [bMod_actHere_18, rn, sm, lg, lt_, cmpP, tk, pr_, pu, swl, cs, Nat.reduceAdd, Nat.reduceLeDiff, Nat.zero_le, Nat.le_refl, true_and, and_true, Int.toNat_natCast, Int.reduceToNat, Int.reduceEq, false_implies, true_implies, Int.reduceNeg, Int.cast_ofNat_Int, mS_0, mS_1, mS_2, mS_3, mS_4, mS_5, mS_u0, mS_u1, mS_u2, mS_u3, mS_u4, mS_u5, g0, g1, g2, g3, g4, g5, l1, l2, l3, l5, p1, p2, p3, p4, p5, sn_0, sn_9, at_0, at_9, fl_sn, fl_at, fl_usn, fl_uat, fl_a, fl_ua, uF, reduceIte, Nat.reduceEqDiff, true_or, or_true, Int.reduceLE, Int.reduceLT, wr_s, wn_1, wn_2, wn_5, wn_6, wn_8, wn_12, wn_14, wn_18, wn_24, wn_30, wn_32, wn_38, wn_44]
    refine c_isW (by omega) hM hT cd_lea (by decide) (by decide) ?_
    by_cases h1 : isW T L p wLea
    · rw [bi_1 h1]
      simp only [if_pos h1] at hq
      refine tG_at hd kMod_actHere_41 ?_
      simp (disch := omega) only [bMod_actHere_41, rn, sm, lg, lt_, cmpP, tk, pr_, pu, swl, cs, Nat.reduceAdd, Nat.reduceLeDiff, Nat.zero_le, Nat.le_refl, true_and, and_true, Int.toNat_natCast, Int.reduceToNat, Int.reduceEq, false_implies, true_implies, Int.reduceNeg, Int.cast_ofNat_Int, reduceIte, Int.reduceLT, Int.reduceLE, true_or, or_true, not_true_eq_false, not_false_eq_true, implies_true]
      refine tG_at hd kMod_actHere_44 ?_
      simp only [bMod_actHere_44, rn, sm, lg, lt_, cmpP, tk, pr_, pu, swl, cs, Nat.reduceAdd, Nat.reduceLeDiff, Nat.zero_le, Nat.le_refl, true_and, and_true, Int.toNat_natCast, Int.reduceToNat, Int.reduceEq, false_implies, true_implies, Int.reduceNeg, Int.cast_ofNat_Int]
      exact hq
    · rw [bi_0 h1]
      simp only [if_neg h1] at hq
      refine tG_at hd kMod_actHere_41 ?_
      simp (disch := omega) only [bMod_actHere_41, rn, sm, lg, lt_, cmpP, tk, pr_, pu, swl, cs, Nat.reduceAdd, Nat.reduceLeDiff, Nat.zero_le, Nat.le_refl, true_and, and_true, Int.toNat_natCast, Int.reduceToNat, Int.reduceEq, false_implies, true_implies, Int.reduceNeg, Int.cast_ofNat_Int, reduceIte, Int.reduceLT, Int.reduceLE, true_or, or_true, not_true_eq_false, not_false_eq_true, implies_true]
      refine tG_at hd kMod_actHere_46 ?_
      simp (disch := omega) only [bMod_actHere_46, rn, sm, lg, lt_, cmpP, tk, pr_, pu, swl, cs, Nat.reduceAdd, Nat.reduceLeDiff, Nat.zero_le, Nat.le_refl, true_and, and_true, Int.toNat_natCast, Int.reduceToNat, Int.reduceEq, false_implies, true_implies, Int.reduceNeg, Int.cast_ofNat_Int, mS_0, mS_1, mS_2, mS_3, mS_4, mS_5, mS_u0, mS_u1, mS_u2, mS_u3, mS_u4, mS_u5, g0, g1, g2, g3, g4, g5, l1, l2, l3, l5, p1, p2, p3, p4, p5, sn_0, sn_9, at_0, at_9, fl_sn, fl_at, fl_usn, fl_uat, fl_a, fl_ua, uF, reduceIte, Nat.reduceEqDiff, true_or, or_true, Int.reduceLE, Int.reduceLT, wr_s, wn_1, wn_2, wn_5, wn_6, wn_8, wn_12, wn_14, wn_18, wn_24, wn_30, wn_32, wn_38, wn_44]
      refine c_isW (by omega) hM hT cd_sus (by decide) (by decide) ?_
      by_cases h2 : isW T L p wSus
      · rw [bi_1 h2]
        simp only [if_pos h2] at hq
        refine tG_at hd kMod_actHere_73 ?_
        simp (disch := omega) only [bMod_actHere_73, rn, sm, lg, lt_, cmpP, tk, pr_, pu, swl, cs, Nat.reduceAdd, Nat.reduceLeDiff, Nat.zero_le, Nat.le_refl, true_and, and_true, Int.toNat_natCast, Int.reduceToNat, Int.reduceEq, false_implies, true_implies, Int.reduceNeg, Int.cast_ofNat_Int, reduceIte, Int.reduceLT, Int.reduceLE, true_or, or_true, not_true_eq_false, not_false_eq_true, implies_true]
        refine tG_at hd kMod_actHere_76 ?_
        simp only [bMod_actHere_76, rn, sm, lg, lt_, cmpP, tk, pr_, pu, swl, cs, Nat.reduceAdd, Nat.reduceLeDiff, Nat.zero_le, Nat.le_refl, true_and, and_true, Int.toNat_natCast, Int.reduceToNat, Int.reduceEq, false_implies, true_implies, Int.reduceNeg, Int.cast_ofNat_Int]
        exact hq
      · rw [bi_0 h2]
        simp only [if_neg h2] at hq
        refine tG_at hd kMod_actHere_73 ?_
        simp (disch := omega) only [bMod_actHere_73, rn, sm, lg, lt_, cmpP, tk, pr_, pu, swl, cs, Nat.reduceAdd, Nat.reduceLeDiff, Nat.zero_le, Nat.le_refl, true_and, and_true, Int.toNat_natCast, Int.reduceToNat, Int.reduceEq, false_implies, true_implies, Int.reduceNeg, Int.cast_ofNat_Int, reduceIte, Int.reduceLT, Int.reduceLE, true_or, or_true, not_true_eq_false, not_false_eq_true, implies_true]
        refine tG_at hd kMod_actHere_78 ?_
        simp (disch := omega) only [bMod_actHere_78, rn, sm, lg, lt_, cmpP, tk, pr_, pu, swl, cs, Nat.reduceAdd, Nat.reduceLeDiff, Nat.zero_le, Nat.le_refl, true_and, and_true, Int.toNat_natCast, Int.reduceToNat, Int.reduceEq, false_implies, true_implies, Int.reduceNeg, Int.cast_ofNat_Int, mS_0, mS_1, mS_2, mS_3, mS_4, mS_5, mS_u0, mS_u1, mS_u2, mS_u3, mS_u4, mS_u5, g0, g1, g2, g3, g4, g5, l1, l2, l3, l5, p1, p2, p3, p4, p5, sn_0, sn_9, at_0, at_9, fl_sn, fl_at, fl_usn, fl_uat, fl_a, fl_ua, uF, reduceIte, Nat.reduceEqDiff, true_or, or_true, Int.reduceLE, Int.reduceLT, wr_s, wn_1, wn_2, wn_5, wn_6, wn_8, wn_12, wn_14, wn_18, wn_24, wn_30, wn_32, wn_38, wn_44]
        refine c_isW (by omega) hM hT cd_sen (by decide) (by decide) ?_
        by_cases h3 : isW T L p wSen
        · rw [bi_1 h3]
          simp only [if_pos h3] at hq
          refine tG_at hd kMod_actHere_93 ?_
          simp (disch := omega) only [bMod_actHere_93, rn, sm, lg, lt_, cmpP, tk, pr_, pu, swl, cs, Nat.reduceAdd, Nat.reduceLeDiff, Nat.zero_le, Nat.le_refl, true_and, and_true, Int.toNat_natCast, Int.reduceToNat, Int.reduceEq, false_implies, true_implies, Int.reduceNeg, Int.cast_ofNat_Int, reduceIte, Int.reduceLT, Int.reduceLE, true_or, or_true, not_true_eq_false, not_false_eq_true, implies_true]
          refine tG_at hd kMod_actHere_96 ?_
          simp only [bMod_actHere_96, rn, sm, lg, lt_, cmpP, tk, pr_, pu, swl, cs, Nat.reduceAdd, Nat.reduceLeDiff, Nat.zero_le, Nat.le_refl, true_and, and_true, Int.toNat_natCast, Int.reduceToNat, Int.reduceEq, false_implies, true_implies, Int.reduceNeg, Int.cast_ofNat_Int]
          exact hq
        · rw [bi_0 h3]
          simp only [if_neg h3] at hq
          refine tG_at hd kMod_actHere_93 ?_
          simp (disch := omega) only [bMod_actHere_93, rn, sm, lg, lt_, cmpP, tk, pr_, pu, swl, cs, Nat.reduceAdd, Nat.reduceLeDiff, Nat.zero_le, Nat.le_refl, true_and, and_true, Int.toNat_natCast, Int.reduceToNat, Int.reduceEq, false_implies, true_implies, Int.reduceNeg, Int.cast_ofNat_Int, reduceIte, Int.reduceLT, Int.reduceLE, true_or, or_true, not_true_eq_false, not_false_eq_true, implies_true]
          refine tG_at hd kMod_actHere_98 ?_
          simp (disch := omega) only [bMod_actHere_98, rn, sm, lg, lt_, cmpP, tk, pr_, pu, swl, cs, Nat.reduceAdd, Nat.reduceLeDiff, Nat.zero_le, Nat.le_refl, true_and, and_true, Int.toNat_natCast, Int.reduceToNat, Int.reduceEq, false_implies, true_implies, Int.reduceNeg, Int.cast_ofNat_Int, mS_0, mS_1, mS_2, mS_3, mS_4, mS_5, mS_u0, mS_u1, mS_u2, mS_u3, mS_u4, mS_u5, g0, g1, g2, g3, g4, g5, l1, l2, l3, l5, p1, p2, p3, p4, p5, sn_0, sn_9, at_0, at_9, fl_sn, fl_at, fl_usn, fl_uat, fl_a, fl_ua, uF, reduceIte, Nat.reduceEqDiff, true_or, or_true, Int.reduceLE, Int.reduceLT, wr_s, wn_1, wn_2, wn_5, wn_6, wn_8, wn_12, wn_14, wn_18, wn_24, wn_30, wn_32, wn_38, wn_44]
          refine c_isW (by omega) hM hT cd_los (by decide) (by decide) ?_
          by_cases h4 : isW T L p wLos
          · rw [bi_1 h4]
            simp only [if_pos h4] at hq
            refine tG_at hd kMod_actHere_113 ?_
            simp (disch := omega) only [bMod_actHere_113, rn, sm, lg, lt_, cmpP, tk, pr_, pu, swl, cs, Nat.reduceAdd, Nat.reduceLeDiff, Nat.zero_le, Nat.le_refl, true_and, and_true, Int.toNat_natCast, Int.reduceToNat, Int.reduceEq, false_implies, true_implies, Int.reduceNeg, Int.cast_ofNat_Int, reduceIte, Int.reduceLT, Int.reduceLE, true_or, or_true, not_true_eq_false, not_false_eq_true, implies_true]
            refine tG_at hd kMod_actHere_116 ?_
            simp only [bMod_actHere_116, rn, sm, lg, lt_, cmpP, tk, pr_, pu, swl, cs, Nat.reduceAdd, Nat.reduceLeDiff, Nat.zero_le, Nat.le_refl, true_and, and_true, Int.toNat_natCast, Int.reduceToNat, Int.reduceEq, false_implies, true_implies, Int.reduceNeg, Int.cast_ofNat_Int]
            exact hq
          · rw [bi_0 h4]
            simp only [if_neg h4] at hq
            refine tG_at hd kMod_actHere_113 ?_
            simp (disch := omega) only [bMod_actHere_113, rn, sm, lg, lt_, cmpP, tk, pr_, pu, swl, cs, Nat.reduceAdd, Nat.reduceLeDiff, Nat.zero_le, Nat.le_refl, true_and, and_true, Int.toNat_natCast, Int.reduceToNat, Int.reduceEq, false_implies, true_implies, Int.reduceNeg, Int.cast_ofNat_Int, reduceIte, Int.reduceLT, Int.reduceLE, true_or, or_true, not_true_eq_false, not_false_eq_true, implies_true]
            refine tG_at hd kMod_actHere_118 ?_
            simp (disch := omega) only [bMod_actHere_118, rn, sm, lg, lt_, cmpP, tk, pr_, pu, swl, cs, Nat.reduceAdd, Nat.reduceLeDiff, Nat.zero_le, Nat.le_refl, true_and, and_true, Int.toNat_natCast, Int.reduceToNat, Int.reduceEq, false_implies, true_implies, Int.reduceNeg, Int.cast_ofNat_Int, mS_0, mS_1, mS_2, mS_3, mS_4, mS_5, mS_u0, mS_u1, mS_u2, mS_u3, mS_u4, mS_u5, g0, g1, g2, g3, g4, g5, l1, l2, l3, l5, p1, p2, p3, p4, p5, sn_0, sn_9, at_0, at_9, fl_sn, fl_at, fl_usn, fl_uat, fl_a, fl_ua, uF, reduceIte, Nat.reduceEqDiff, true_or, or_true, Int.reduceLE, Int.reduceLT, wr_s, wn_1, wn_2, wn_5, wn_6, wn_8, wn_12, wn_14, wn_18, wn_24, wn_30, wn_32, wn_38, wn_44]
            refine c_isW (by omega) hM hT cd_set (by decide) (by decide) ?_
            by_cases h5 : isW T L p wSet
            · rw [bi_1 h5]
              simp only [if_pos h5] at hq
              refine tG_at hd kMod_actHere_137 ?_
              simp (disch := omega) only [bMod_actHere_137, rn, sm, lg, lt_, cmpP, tk, pr_, pu, swl, cs, Nat.reduceAdd, Nat.reduceLeDiff, Nat.zero_le, Nat.le_refl, true_and, and_true, Int.toNat_natCast, Int.reduceToNat, Int.reduceEq, false_implies, true_implies, Int.reduceNeg, Int.cast_ofNat_Int, reduceIte, Int.reduceLT, Int.reduceLE, true_or, or_true, not_true_eq_false, not_false_eq_true, implies_true]
              refine tG_at hd kMod_actHere_140 ?_
              simp only [bMod_actHere_140, rn, sm, lg, lt_, cmpP, tk, pr_, pu, swl, cs, Nat.reduceAdd, Nat.reduceLeDiff, Nat.zero_le, Nat.le_refl, true_and, and_true, Int.toNat_natCast, Int.reduceToNat, Int.reduceEq, false_implies, true_implies, Int.reduceNeg, Int.cast_ofNat_Int]
              refine tG_at hd kMod_actHere_145 ?_
              simp only [bMod_actHere_145, rn, sm, lg, lt_, cmpP, tk, pr_, pu, swl, cs, Nat.reduceAdd, Nat.reduceLeDiff, Nat.zero_le, Nat.le_refl, true_and, and_true, Int.toNat_natCast, Int.reduceToNat, Int.reduceEq, false_implies, true_implies, Int.reduceNeg, Int.cast_ofNat_Int]
              exact hq
            · rw [bi_0 h5]
              simp only [if_neg h5] at hq
              refine tG_at hd kMod_actHere_137 ?_
              simp (disch := omega) only [bMod_actHere_137, rn, sm, lg, lt_, cmpP, tk, pr_, pu, swl, cs, Nat.reduceAdd, Nat.reduceLeDiff, Nat.zero_le, Nat.le_refl, true_and, and_true, Int.toNat_natCast, Int.reduceToNat, Int.reduceEq, false_implies, true_implies, Int.reduceNeg, Int.cast_ofNat_Int, reduceIte, Int.reduceLT, Int.reduceLE, true_or, or_true, not_true_eq_false, not_false_eq_true, implies_true]
              refine tG_at hd kMod_actHere_144 ?_
              simp only [bMod_actHere_144, rn, sm, lg, lt_, cmpP, tk, pr_, pu, swl, cs, Nat.reduceAdd, Nat.reduceLeDiff, Nat.zero_le, Nat.le_refl, true_and, and_true, Int.toNat_natCast, Int.reduceToNat, Int.reduceEq, false_implies, true_implies, Int.reduceNeg, Int.cast_ofNat_Int]
              refine tG_at hd kMod_actHere_145 ?_
              simp only [bMod_actHere_145, rn, sm, lg, lt_, cmpP, tk, pr_, pu, swl, cs, Nat.reduceAdd, Nat.reduceLeDiff, Nat.zero_le, Nat.le_refl, true_and, and_true, Int.toNat_natCast, Int.reduceToNat, Int.reduceEq, false_implies, true_implies, Int.reduceNeg, Int.cast_ofNat_Int]
              exact hq
end MD
