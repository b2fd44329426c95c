section RE
variable {T : Nat → Int} {L p : Nat}
theorem tkS_le (hp : p ≤ L) : tkS T L p ≤ L := by
  have := tkB_b (T := T) hp
  unfold tkS
  split <;> omega
theorem rdN_e {lo hi : Int} {fk pl : Nat} (hp : p ≤ L) (h : rdN T L p lo hi = .inl (fk, pl)) : pl ≤ L := by
  have := tkS_le (T := T) hp
  unfold rdN at h
  split at h
  · split at h
    · cases h
    · cases h; exact this
  · cases h; exact this
theorem rdS_e {fk pl : Nat} (hp : p ≤ L) (h : rdS T L p = .inl (fk, pl)) : pl ≤ L := by
  have := tkS_le (T := T) hp
  unfold rdS at h
  split at h
  · cases h
  · cases h; exact this
theorem rdN_p {lo hi : Int} {v p1 : Nat} (hp : p ≤ L) (h : rdN T L p lo hi = .inr (v, p1)) : p1 ≤ L := by
  have ok := rdN_ok h
  have := tkE_b (T := T) hp (by rw [ok.1]; omega)
  rw [ok.2.2.2.1]
  exact this.2.1
theorem rdM_e {fk pl : Nat} (hp : p ≤ L) (h : rdM T L p = .inl (fk, pl)) : pl ≤ L := by
  unfold rdM at h
  split at h
  · next hw =>
    have w1 := (wrd_b hp hw).2
    cases h1 : rdN T L (tkE T L p) 2 6 with
    | inl e => rw [h1] at h; cases h; exact rdN_e w1 h1
    | inr v =>
      obtain ⟨n1, p1⟩ := v
      rw [h1] at h
      dsimp only at h
      cases h2 : rdS T L p1 with
      | inl e => rw [h2] at h; cases h; exact rdS_e (rdN_p w1 h1) h2
      | inr p2 => rw [h2] at h; cases h
  · cases h; exact tkS_le hp
theorem rdK_e {n c fk pl : Nat} (hp : p ≤ L) (h0 : tkK T L p = 2) (h : rdK T L n c p = .inl (fk, pl)) : pl ≤ L := by
  have w1 := (tkE_b (T := T) hp (by rw [h0]; omega)).2.1
  unfold rdK at h
  split at h
  · cases h; exact tkS_le hp
  · cases h1 : rdN T L (tkE T L p) 0 ((n : Int) - 1) with
    | inl e => rw [h1] at h; cases h; exact rdN_e w1 h1
    | inr v =>
      obtain ⟨n1, p1⟩ := v
      rw [h1] at h
      dsimp only at h
      have w2 := rdN_p w1 h1
      cases h2 : rdN T L p1 0 9 with
      | inl e => rw [h2] at h; cases h; exact rdN_e w2 h2
      | inr v =>
        obtain ⟨n2, p2⟩ := v
        rw [h2] at h
        dsimp only at h
        cases h3 : rdS T L p2 with
        | inl e => rw [h3] at h; cases h; exact rdS_e (rdN_p w2 h2) h3
        | inr p3 => rw [h3] at h; cases h
theorem rdA_e {fk pl : Nat} (hp : p ≤ L) (h : rdA T L p = .inl (fk, pl)) : pl ≤ L := by
  unfold rdA at h
  split at h
  · cases h; exact tkS_le hp
  · next hk =>
    obtain ⟨l, hl, hw⟩ := actK_w hk
    have w1 := (wrd_b hp hw).2
    cases h1 : rdN T L (tkE T L p) (if actK T L p = 5 then 1 else 0) 99 with
    | inl e => rw [h1] at h; cases h; exact rdN_e w1 h1
    | inr v =>
      obtain ⟨n1, p1⟩ := v
      rw [h1] at h
      dsimp only at h
      have w2 := rdN_p w1 h1
      split at h
      · cases h2 : rdN T L p1 0 99 with
        | inl e => rw [h2] at h; cases h; exact rdN_e w2 h2
        | inr v =>
          obtain ⟨n2, p2⟩ := v
          rw [h2] at h
          dsimp only at h
          cases h3 : rdS T L p2 with
          | inl e => rw [h3] at h; cases h; exact rdS_e (rdN_p w2 h2) h3
          | inr p3 => rw [h3] at h; cases h
      · cases h3 : rdS T L p1 with
        | inl e => rw [h3] at h; cases h; exact rdS_e w2 h3
        | inr p3 => rw [h3] at h; cases h
end RE
section MD
variable {w : WP} {d : Nat} {Γ : GM} {V : VH} {Q : QT} {M : Nat} {F T N K S H : Nat → Int} {L p n k W : Nat} {X : NT}
theorem c_readAct (hd11 : 11 ≤ d) (hM : ML Γ M F) (hL : L ≤ 640) (hp : p ≤ L) (hT : TKs F T L p) (g : GJ n k W X) (hW : W + 1400 ≤ 1000000000)
    (hq0 : ∀ fk pl : Nat, rdA T L p = .inl (fk, pl) → ∀ F', eqI F F' → F' 8 = (fk : Int) → F' 9 = (pl : Int) → Q (some (.inl 0)) Γ (mS V M F' T (fl X.1 X.2.1 X.2.2) K S H))
    (hq4 : ∀ t a b pl z : Nat, rdA T L p = .inr (t, a, b, pl, z) → (actF n k t a b X).1 < 0 → ∀ F' H', eqI F F' → F' 8 = 4 → F' 9 = (pl : Int) → Q (some (.inl 0)) Γ (mS V M F' T (fl (actF n k t a b X).2.1 (actF n k t a b X).2.2.1 (actF n k t a b X).2.2.2) K S H'))
    (hq1 : ∀ t a b pl z : Nat, rdA T L p = .inr (t, a, b, pl, z) → ¬ (actF n k t a b X).1 < 0 → ∀ F' H', eqI F F' → F' 8 = F 8 → TKs F' T L z → Q (some (.inl 1)) Γ (mS V M F' T (fl (actF n k t a b X).2.1 (actF n k t a b X).2.2.1 (actF n k t a b X).2.2.2) K S H')) :
    tC w d nMod_readAct [.inr (.inl M)] Γ (mS V M F T (fl X.1 X.2.1 X.2.2) K S H) Q := by
  have hd : 4 ≤ d := by omega
  obtain ⟨⟨g0, g1, g2, g3, g4, g5⟩, ⟨l1, l2, l3, -, l5⟩, p1, p2, p3, p4, p5⟩ := id hM
  obtain ⟨t3, t5, t6, t4, t7, t10⟩ := id hT
  refine tC_enter (nL := 3) (by decide +kernel) (by decide +kernel) rfl (Nat.le_of_ble_eq_true rfl) (fun hok => ?_)
  simp only [ent]
  refine tG_at hd kMod_readAct_0 ?_
  simp (disch := omega) only [bMod_readAct_0, rn, sm, lg, lt_, cmpP, tk, pr_, pu, swl, cs, Nat.reduceAdd, Nat.reduceLeDiff, Nat.zero_le, Nat.le_refl, true_and, and_true, Int.toNat_natCast, Int.reduceToNat, Int.reduceEq, false_implies, true_implies, Int.reduceNeg, Int.cast_ofNat_Int, mS_0, mS_1, mS_2, mS_3, mS_4, mS_5, mS_u0, mS_u1, mS_u2, mS_u3, mS_u4, mS_u5, g0, g1, g2, g3, g4, g5, l1, l2, l3, l5, p1, p2, p3, p4, p5, sn_0, sn_9, at_0, at_9, fl_sn, fl_at, fl_usn, fl_uat, fl_a, fl_ua, uF, reduceIte, Nat.reduceEqDiff, true_or, or_true, Int.reduceLE, Int.reduceLT, wr_s, wn_1, wn_2, wn_5, wn_6, wn_8, wn_12, wn_14, wn_18, wn_24, wn_30, wn_32, wn_38, wn_44]
  refine c_actHere (by omega) hM hT ?_
  have hk6 := actK_le (T := T) (L := L) (p := p)
  by_cases hk : actK T L p = 6
  · rw [if_pos hk]
    refine tG_at hd kMod_readAct_4 ?_
    simp (disch := omega) only [bMod_readAct_4, rn, sm, lg, lt_, cmpP, tk, pr_, pu, swl, cs, Nat.reduceAdd, Nat.reduceLeDiff, Nat.zero_le, Nat.le_refl, true_and, and_true, Int.toNat_natCast, Int.reduceToNat, Int.reduceEq, false_implies, true_implies, Int.reduceNeg, Int.cast_ofNat_Int, reduceIte, Int.reduceLT, Int.reduceLE, true_or, or_true, not_true_eq_false, not_false_eq_true, implies_true]
    refine tG_at hd kMod_readAct_10 ?_
    simp (disch := omega) only [bMod_readAct_10, rn, sm, lg, lt_, cmpP, tk, pr_, pu, swl, cs, Nat.reduceAdd, Nat.reduceLeDiff, Nat.zero_le, Nat.le_refl, true_and, and_true, Int.toNat_natCast, Int.reduceToNat, Int.reduceEq, false_implies, true_implies, Int.reduceNeg, Int.cast_ofNat_Int, mS_0, mS_1, mS_2, mS_3, mS_4, mS_5, mS_u0, mS_u1, mS_u2, mS_u3, mS_u4, mS_u5, g0, g1, g2, g3, g4, g5, l1, l2, l3, l5, p1, p2, p3, p4, p5, sn_0, sn_9, at_0, at_9, fl_sn, fl_at, fl_usn, fl_uat, fl_a, fl_ua, uF, reduceIte, Nat.reduceEqDiff, true_or, or_true, Int.reduceLE, Int.reduceLT, wr_s, wn_1, wn_2, wn_5, wn_6, wn_8, wn_12, wn_14, wn_18, wn_24, wn_30, wn_32, wn_38, wn_44]
    refine c_bad (by omega) hM hT (fun F' e1 e2 e3 => ?_)
    rw [show (if tkK T L p = 1 then 1 else (1 : Int)) = 1 by split <;> rfl] at e2
    refine tG_at hd kMod_readAct_15 ?_
    simp only [bMod_readAct_15, rn, sm, lg, lt_, cmpP, tk, pr_, pu, swl, cs, Nat.reduceAdd, Nat.reduceLeDiff, Nat.zero_le, Nat.le_refl, true_and, and_true, Int.toNat_natCast, Int.reduceToNat, Int.reduceEq, false_implies, true_implies, Int.reduceNeg, Int.cast_ofNat_Int]
    exact ⟨Or.inl trivial, hq0 1 _ (if_pos hk) F' e1 e2 e3⟩
  · rw [if_neg hk]
    obtain ⟨l, hl, hw⟩ := actK_w hk
    have hE := tkE_b (T := T) hp (by rw [hw.1]; omega)
    obtain ⟨t, ht⟩ : ∃ t, actK T L p = t := ⟨_, rfl⟩
    rw [ht] at hk hk6 ⊢
    have hrd : rdA T L p = match rdN T L (tkE T L p) (if t = 5 then 1 else 0) 99 with
        | .inl e => .inl e
        | .inr (a, p1) =>
          if t = 3 ∨ t = 4 then
            (match rdN T L p1 0 99 with
            | .inl e => .inl e
            | .inr (b, p2) => match rdS T L p2 with
              | .inl e => .inl e
              | .inr p3 => .inr (t, a, b, tkS T L p2, p3))
          else match rdS T L p1 with
            | .inl e => .inl e
            | .inr p3 => .inr (t, a, 0, tkS T L p1, p3) := by
      unfold rdA
      rw [ht, if_neg hk]
      rfl
    refine tG_at hd kMod_readAct_4 ?_
    simp only [bMod_readAct_4, rn, sm, lg, lt_, cmpP, tk, pr_, pu, swl, cs, Nat.reduceAdd, Nat.reduceLeDiff, Nat.zero_le, Nat.le_refl, true_and, and_true, Int.toNat_natCast, Int.reduceToNat, Int.reduceEq, false_implies, true_implies, Int.reduceNeg, Int.cast_ofNat_Int]
    refine ⟨fun _ => ?_, fun h => absurd (by omega) h⟩
    refine tG_at hd kMod_readAct_16 ?_
    simp (disch := omega) only [bMod_readAct_16, rn, sm, lg, lt_, cmpP, tk, pr_, pu, swl, cs, Nat.reduceAdd, Nat.reduceLeDiff, Nat.zero_le, Nat.le_refl, true_and, and_true, Int.toNat_natCast, Int.reduceToNat, Int.reduceEq, false_implies, true_implies, Int.reduceNeg, Int.cast_ofNat_Int, mS_0, mS_1, mS_2, mS_3, mS_4, mS_5, mS_u0, mS_u1, mS_u2, mS_u3, mS_u4, mS_u5, g0, g1, g2, g3, g4, g5, l1, l2, l3, l5, p1, p2, p3, p4, p5, sn_0, sn_9, at_0, at_9, fl_sn, fl_at, fl_usn, fl_uat, fl_a, fl_ua, uF, reduceIte, Nat.reduceEqDiff, true_or, or_true, Int.reduceLE, Int.reduceLT, wr_s, wn_1, wn_2, wn_5, wn_6, wn_8, wn_12, wn_14, wn_18, wn_24, wn_30, wn_32, wn_38, wn_44]
    refine c_go2 (by omega) hM hL (p := tkE T L p) hE.2.1 t3 (t4 (by rw [hw.1]; omega)) (fun F1 eo1 tk1 => ?_)
    have e1 : eqI F F1 := eo1.I (by rw [tk1.1, t3])
    have e18 : F1 8 = F 8 := eo1 8 (by omega) (by omega) (by omega) (by omega) (by omega) (by omega)
    have hM1 := e1.ML hM
    -- behind the numbers: the sign, the act
    have sgn : ∀ (F3 : Nat → Int) (a b got z : Nat), eqI F F3 → F3 8 = F 8 → F3 18 = (got : Int) → z ≤ L → TKs F3 T L z → (t = 5 → 1 ≤ a ∧ a ≤ 99) → (t = 3 ∨ t = 4 → got = b) → (rdA T L p = match rdS T L z with | .inl e => .inl e | .inr p3 => .inr (t, a, b, tkS T L z, p3)) → tG w d nMod_readAct 68 [some (.inr (.inl M)), some (.inl (t : Int)), some (.inl (a : Int))] [] Γ (mS V M F3 T (fl X.1 X.2.1 X.2.2) K S H) 0 0 Q := by
      intro F3 a b got z e3 e38 e318 hz tk3 ha hgb hr
      have hM3 := e3.ML hM
      obtain ⟨s3, s5, s6, s4, -, -⟩ := id tk3
      refine tG_at hd kMod_readAct_68 ?_
      simp (disch := omega) only [bMod_readAct_68, rn, sm, lg, lt_, cmpP, tk, pr_, pu, swl, cs, Nat.reduceAdd, Nat.reduceLeDiff, Nat.zero_le, Nat.le_refl, true_and, and_true, Int.toNat_natCast, Int.reduceToNat, Int.reduceEq, false_implies, true_implies, Int.reduceNeg, Int.cast_ofNat_Int, mS_0, mS_1, mS_2, mS_3, mS_4, mS_5, mS_u0, mS_u1, mS_u2, mS_u3, mS_u4, mS_u5, g0, g1, g2, g3, g4, g5, l1, l2, l3, l5, p1, p2, p3, p4, p5, sn_0, sn_9, at_0, at_9, fl_sn, fl_at, fl_usn, fl_uat, fl_a, fl_ua, uF, reduceIte, Nat.reduceEqDiff, true_or, or_true, Int.reduceLE, Int.reduceLT, wr_s, wn_1, wn_2, wn_5, wn_6, wn_8, wn_12, wn_14, wn_18, wn_24, wn_30, wn_32, wn_38, wn_44, s6]
      refine ⟨fun hzz => ?_, fun hzz => ?_⟩
      · have hk4 : tkK T L z = 4 := by omega
        have hS : rdS T L z = .inr (tkE T L z) := if_pos hk4
        rw [hS] at hr
        have hEz := tkE_b (T := T) hz (by omega)
        have ey : actF n k t a got X = actF n k t a b X := by
          by_cases h34 : t = 3 ∨ t = 4
          · rw [hgb h34]
          · exact actF_y (by omega) (by omega)
        refine tG_at hd kMod_readAct_82 ?_
        simp (disch := omega) only [bMod_readAct_82, rn, sm, lg, lt_, cmpP, tk, pr_, pu, swl, cs, Nat.reduceAdd, Nat.reduceLeDiff, Nat.zero_le, Nat.le_refl, true_and, and_true, Int.toNat_natCast, Int.reduceToNat, Int.reduceEq, false_implies, true_implies, Int.reduceNeg, Int.cast_ofNat_Int, mS_0, g0, e318]
        rw [← FF_self (F := F3)]
        refine c_does (by omega) hM3 g (by omega) (fun h => by have := ha (by omega); omega) hW (fun h' c' H' => ?_)
        rw [ey]
        have e4 : eqI F (FF F3 h' c') := e3.FF
        have hM4 := e4.ML hM
        have tk4 : TKs (FF F3 h' c') T L z := (tk3.u (by omega)).u (by omega)
        refine tG_at hd kMod_readAct_92 ?_
        simp only [bMod_readAct_92, rn, sm, lg, lt_, cmpP, tk, pr_, pu, swl, cs, Nat.reduceAdd, Nat.reduceLeDiff, Nat.zero_le, Nat.le_refl, true_and, and_true, Int.toNat_natCast, Int.reduceToNat, Int.reduceEq, false_implies, true_implies, Int.reduceNeg, Int.cast_ofNat_Int]
        refine ⟨fun hge => ?_, fun hlt => ?_⟩
        · refine tG_at hd kMod_readAct_101 ?_
          simp (disch := omega) only [bMod_readAct_101, rn, sm, lg, lt_, cmpP, tk, pr_, pu, swl, cs, Nat.reduceAdd, Nat.reduceLeDiff, Nat.zero_le, Nat.le_refl, true_and, and_true, Int.toNat_natCast, Int.reduceToNat, Int.reduceEq, false_implies, true_implies, Int.reduceNeg, Int.cast_ofNat_Int, mS_0, mS_1, mS_2, mS_3, mS_4, mS_5, mS_u0, mS_u1, mS_u2, mS_u3, mS_u4, mS_u5, g0, g1, g2, g3, g4, g5, l1, l2, l3, l5, p1, p2, p3, p4, p5, sn_0, sn_9, at_0, at_9, fl_sn, fl_at, fl_usn, fl_uat, fl_a, fl_ua, uF, reduceIte, Nat.reduceEqDiff, true_or, or_true, Int.reduceLE, Int.reduceLT, wr_s, wn_1, wn_2, wn_5, wn_6, wn_8, wn_12, wn_14, wn_18, wn_24, wn_30, wn_32, wn_38, wn_44]
          refine c_go2 (by omega) hM4 hL (p := tkE T L z) hEz.2.1 tk4.1 (tk4.2.2.2.1 (by omega)) (fun F5 eo5 tk5 => ?_)
          refine tG_at hd kMod_readAct_105 ?_
          simp only [bMod_readAct_105, rn, sm, lg, lt_, cmpP, tk, pr_, pu, swl, cs, Nat.reduceAdd, Nat.reduceLeDiff, Nat.zero_le, Nat.le_refl, true_and, and_true, Int.toNat_natCast, Int.reduceToNat, Int.reduceEq, false_implies, true_implies, Int.reduceNeg, Int.cast_ofNat_Int]
          refine ⟨Or.inr trivial, hq1 t a b _ _ hr (by omega) F5 _ (e4.tr (eo5.I (by rw [tk5.1, tk4.1]))) ?_ tk5⟩
          rw [eo5 8 (by omega) (by omega) (by omega) (by omega) (by omega) (by omega), FF_ne (by omega) (by omega), e38]
        · refine tG_at hd kMod_readAct_95 ?_
          simp (disch := omega) only [bMod_readAct_95, rn, sm, lg, lt_, cmpP, tk, pr_, pu, swl, cs, Nat.reduceAdd, Nat.reduceLeDiff, Nat.zero_le, Nat.le_refl, true_and, and_true, Int.toNat_natCast, Int.reduceToNat, Int.reduceEq, false_implies, true_implies, Int.reduceNeg, Int.cast_ofNat_Int, mS_0, mS_1, mS_2, mS_3, mS_4, mS_5, mS_u0, mS_u1, mS_u2, mS_u3, mS_u4, mS_u5, g0, g1, g2, g3, g4, g5, l1, l2, l3, l5, p1, p2, p3, p4, p5, sn_0, sn_9, at_0, at_9, fl_sn, fl_at, fl_usn, fl_uat, fl_a, fl_ua, uF, reduceIte, Nat.reduceEqDiff, true_or, or_true, Int.reduceLE, Int.reduceLT, wr_s, wn_1, wn_2, wn_5, wn_6, wn_8, wn_12, wn_14, wn_18, wn_24, wn_30, wn_32, wn_38, wn_44]
          refine c_bad (by omega) hM4 tk4 (fun F' e1 e2 e3 => ?_)
          rw [if_neg (by omega)] at e2
          refine tG_at hd kMod_readAct_100 ?_
          simp only [bMod_readAct_100, rn, sm, lg, lt_, cmpP, tk, pr_, pu, swl, cs, Nat.reduceAdd, Nat.reduceLeDiff, Nat.zero_le, Nat.le_refl, true_and, and_true, Int.toNat_natCast, Int.reduceToNat, Int.reduceEq, false_implies, true_implies, Int.reduceNeg, Int.cast_ofNat_Int]
          exact ⟨Or.inl trivial, hq4 t a b _ _ hr (by omega) F' _ (e4.tr e1) e2 e3⟩
      · have hS : rdS T L z = .inl (1, tkS T L z) := if_neg (by omega)
        rw [hS] at hr
        refine tG_at hd kMod_readAct_76 ?_
        simp (disch := omega) only [bMod_readAct_76, rn, sm, lg, lt_, cmpP, tk, pr_, pu, swl, cs, Nat.reduceAdd, Nat.reduceLeDiff, Nat.zero_le, Nat.le_refl, true_and, and_true, Int.toNat_natCast, Int.reduceToNat, Int.reduceEq, false_implies, true_implies, Int.reduceNeg, Int.cast_ofNat_Int, mS_0, mS_1, mS_2, mS_3, mS_4, mS_5, mS_u0, mS_u1, mS_u2, mS_u3, mS_u4, mS_u5, g0, g1, g2, g3, g4, g5, l1, l2, l3, l5, p1, p2, p3, p4, p5, sn_0, sn_9, at_0, at_9, fl_sn, fl_at, fl_usn, fl_uat, fl_a, fl_ua, uF, reduceIte, Nat.reduceEqDiff, true_or, or_true, Int.reduceLE, Int.reduceLT, wr_s, wn_1, wn_2, wn_5, wn_6, wn_8, wn_12, wn_14, wn_18, wn_24, wn_30, wn_32, wn_38, wn_44]
        refine c_bad (by omega) hM3 tk3 (fun F' e1 e2 e4 => ?_)
        rw [show (if tkK T L z = 1 then 1 else (1 : Int)) = 1 by split <;> rfl] at e2
        refine tG_at hd kMod_readAct_81 ?_
        simp only [bMod_readAct_81, rn, sm, lg, lt_, cmpP, tk, pr_, pu, swl, cs, Nat.reduceAdd, Nat.reduceLeDiff, Nat.zero_le, Nat.le_refl, true_and, and_true, Int.toNat_natCast, Int.reduceToNat, Int.reduceEq, false_implies, true_implies, Int.reduceNeg, Int.cast_ofNat_Int]
        exact ⟨Or.inl trivial, hq0 1 _ hr F' (e3.tr e1) e2 e4⟩
    have nums : ∀ lo : Int, lo = (if t = 5 then 1 else 0) → tG w d nMod_readAct 31 [some (.inr (.inl M)), some (.inl (t : Int)), none] [.inl lo, .inr (.inl M)] Γ (mS V M F1 T (fl X.1 X.2.1 X.2.2) K S H) 0 0 Q := by
      intro lo hlo
      refine tG_at hd kMod_readAct_31 ?_
      simp (disch := omega) only [bMod_readAct_31, rn, sm, lg, lt_, cmpP, tk, pr_, pu, swl, cs, Nat.reduceAdd, Nat.reduceLeDiff, Nat.zero_le, Nat.le_refl, true_and, and_true, Int.toNat_natCast, Int.reduceToNat, Int.reduceEq, false_implies, true_implies, Int.reduceNeg, Int.cast_ofNat_Int, mS_0, mS_1, mS_2, mS_3, mS_4, mS_5, mS_u0, mS_u1, mS_u2, mS_u3, mS_u4, mS_u5, g0, g1, g2, g3, g4, g5, l1, l2, l3, l5, p1, p2, p3, p4, p5, sn_0, sn_9, at_0, at_9, fl_sn, fl_at, fl_usn, fl_uat, fl_a, fl_ua, uF, reduceIte, Nat.reduceEqDiff, true_or, or_true, Int.reduceLE, Int.reduceLT, wr_s, wn_1, wn_2, wn_5, wn_6, wn_8, wn_12, wn_14, wn_18, wn_24, wn_30, wn_32, wn_38, wn_44]
      rw [hlo]
      refine c_told (by omega) hM1 hL hE.2.1 tk1 (fun fk pl hr F2 e2 e28 e29 => ?_) (fun a z1 hr F2 e2 e28 e219 e218 tk2 => ?_)
      · rw [hr] at hrd
        refine tG_at hd kMod_readAct_36 ?_
        simp (disch := omega) only [bMod_readAct_36, rn, sm, lg, lt_, cmpP, tk, pr_, pu, swl, cs, Nat.reduceAdd, Nat.reduceLeDiff, Nat.zero_le, Nat.le_refl, true_and, and_true, Int.toNat_natCast, Int.reduceToNat, Int.reduceEq, false_implies, true_implies, Int.reduceNeg, Int.cast_ofNat_Int, reduceIte, Int.reduceLT, Int.reduceLE, true_or, or_true, not_true_eq_false, not_false_eq_true, implies_true]
        refine tG_at hd kMod_readAct_39 ?_
        simp only [bMod_readAct_39, rn, sm, lg, lt_, cmpP, tk, pr_, pu, swl, cs, Nat.reduceAdd, Nat.reduceLeDiff, Nat.zero_le, Nat.le_refl, true_and, and_true, Int.toNat_natCast, Int.reduceToNat, Int.reduceEq, false_implies, true_implies, Int.reduceNeg, Int.cast_ofNat_Int]
        exact ⟨Or.inl trivial, hq0 fk pl hrd F2 (e1.tr e2) e28 e29⟩
      · rw [hr] at hrd
        dsimp only at hrd
        have hM2 := e2.ML hM1
        have ok := rdN_ok hr
        have hE1 := tkE_b (T := T) hE.2.1 (by rw [ok.1]; omega)
        rw [← ok.2.2.2.1] at hE1
        have ha : t = 5 → 1 ≤ a ∧ a ≤ 99 := fun h => by
          have h1 := ok.2.1
          rw [if_pos h] at h1
          have h2 := ok.2.2.1
          omega
        refine tG_at hd kMod_readAct_36 ?_
        simp (disch := omega) only [bMod_readAct_36, rn, sm, lg, lt_, cmpP, tk, pr_, pu, swl, cs, Nat.reduceAdd, Nat.reduceLeDiff, Nat.zero_le, Nat.le_refl, true_and, and_true, Int.toNat_natCast, Int.reduceToNat, Int.reduceEq, false_implies, true_implies, Int.reduceNeg, Int.cast_ofNat_Int, reduceIte, Int.reduceLT, Int.reduceLE, true_or, or_true, not_true_eq_false, not_false_eq_true, implies_true]
        have two_ : t = 3 ∨ t = 4 → tG w d nMod_readAct 56 [some (.inr (.inl M)), some (.inl (t : Int)), some (.inl (a : Int))] [] Γ (mS V M F2 T (fl X.1 X.2.1 X.2.2) K S H) 0 0 Q := by
          intro h34
          rw [if_pos h34] at hrd
          refine tG_at hd kMod_readAct_56 ?_
          simp (disch := omega) only [bMod_readAct_56, rn, sm, lg, lt_, cmpP, tk, pr_, pu, swl, cs, Nat.reduceAdd, Nat.reduceLeDiff, Nat.zero_le, Nat.le_refl, true_and, and_true, Int.toNat_natCast, Int.reduceToNat, Int.reduceEq, false_implies, true_implies, Int.reduceNeg, Int.cast_ofNat_Int, mS_0, mS_1, mS_2, mS_3, mS_4, mS_5, mS_u0, mS_u1, mS_u2, mS_u3, mS_u4, mS_u5, g0, g1, g2, g3, g4, g5, l1, l2, l3, l5, p1, p2, p3, p4, p5, sn_0, sn_9, at_0, at_9, fl_sn, fl_at, fl_usn, fl_uat, fl_a, fl_ua, uF, reduceIte, Nat.reduceEqDiff, true_or, or_true, Int.reduceLE, Int.reduceLT, wr_s, wn_1, wn_2, wn_5, wn_6, wn_8, wn_12, wn_14, wn_18, wn_24, wn_30, wn_32, wn_38, wn_44]
          refine c_told (by omega) hM2 hL hE1.2.1 tk2 (fun fk pl hr2 F3 e3 e38 e39 => ?_) (fun b z2 hr2 F3 e3 e38 e319 e318 tk3 => ?_)
          · rw [hr2] at hrd
            refine tG_at hd kMod_readAct_63 ?_
            simp (disch := omega) only [bMod_readAct_63, rn, sm, lg, lt_, cmpP, tk, pr_, pu, swl, cs, Nat.reduceAdd, Nat.reduceLeDiff, Nat.zero_le, Nat.le_refl, true_and, and_true, Int.toNat_natCast, Int.reduceToNat, Int.reduceEq, false_implies, true_implies, Int.reduceNeg, Int.cast_ofNat_Int, reduceIte, Int.reduceLT, Int.reduceLE, true_or, or_true, not_true_eq_false, not_false_eq_true, implies_true]
            refine tG_at hd kMod_readAct_66 ?_
            simp only [bMod_readAct_66, rn, sm, lg, lt_, cmpP, tk, pr_, pu, swl, cs, Nat.reduceAdd, Nat.reduceLeDiff, Nat.zero_le, Nat.le_refl, true_and, and_true, Int.toNat_natCast, Int.reduceToNat, Int.reduceEq, false_implies, true_implies, Int.reduceNeg, Int.cast_ofNat_Int]
            exact ⟨Or.inl trivial, hq0 fk pl hrd F3 ((e1.tr e2).tr e3) e38 e39⟩
          · rw [hr2] at hrd
            dsimp only at hrd
            have ok2 := rdN_ok hr2
            have hE2 := tkE_b (T := T) hE1.2.1 (by rw [ok2.1]; omega)
            rw [← ok2.2.2.2.1] at hE2
            refine tG_at hd kMod_readAct_63 ?_
            simp (disch := omega) only [bMod_readAct_63, rn, sm, lg, lt_, cmpP, tk, pr_, pu, swl, cs, Nat.reduceAdd, Nat.reduceLeDiff, Nat.zero_le, Nat.le_refl, true_and, and_true, Int.toNat_natCast, Int.reduceToNat, Int.reduceEq, false_implies, true_implies, Int.reduceNeg, Int.cast_ofNat_Int, reduceIte, Int.reduceLT, Int.reduceLE, true_or, or_true, not_true_eq_false, not_false_eq_true, implies_true]
            exact sgn F3 a b b z2 ((e1.tr e2).tr e3) (by rw [e38, e28, e18]) e318 hE2.2.1 tk3 ha (fun _ => rfl) hrd
        refine tG_at hd kMod_readAct_41 ?_
        simp (disch := omega) only [bMod_readAct_41, rn, sm, lg, lt_, cmpP, tk, pr_, pu, swl, cs, Nat.reduceAdd, Nat.reduceLeDiff, Nat.zero_le, Nat.le_refl, true_and, and_true, Int.toNat_natCast, Int.reduceToNat, Int.reduceEq, false_implies, true_implies, Int.reduceNeg, Int.cast_ofNat_Int, mS_0, g0, e218]
        refine ⟨fun h3 => two_ (by omega), fun h3 => ?_⟩
        refine tG_at hd kMod_readAct_51 ?_
        simp only [bMod_readAct_51, rn, sm, lg, lt_, cmpP, tk, pr_, pu, swl, cs, Nat.reduceAdd, Nat.reduceLeDiff, Nat.zero_le, Nat.le_refl, true_and, and_true, Int.toNat_natCast, Int.reduceToNat, Int.reduceEq, false_implies, true_implies, Int.reduceNeg, Int.cast_ofNat_Int]
        refine ⟨fun h4 => ?_, fun h4 => two_ (by omega)⟩
        rw [if_neg (by omega)] at hrd
        exact sgn F2 a 0 a z1 (e1.tr e2) (by rw [e28, e18]) e218 hE1.2.1 tk2 ha (fun h => by omega) hrd
    refine tG_at hd kMod_readAct_20 ?_
    simp only [bMod_readAct_20, rn, sm, lg, lt_, cmpP, tk, pr_, pu, swl, cs, Nat.reduceAdd, Nat.reduceLeDiff, Nat.zero_le, Nat.le_refl, true_and, and_true, Int.toNat_natCast, Int.reduceToNat, Int.reduceEq, false_implies, true_implies, Int.reduceNeg, Int.cast_ofNat_Int]
    refine ⟨fun h5 => ?_, fun h5 => ?_⟩
    · refine tG_at hd kMod_readAct_30 ?_
      simp only [bMod_readAct_30, rn, sm, lg, lt_, cmpP, tk, pr_, pu, swl, cs, Nat.reduceAdd, Nat.reduceLeDiff, Nat.zero_le, Nat.le_refl, true_and, and_true, Int.toNat_natCast, Int.reduceToNat, Int.reduceEq, false_implies, true_implies, Int.reduceNeg, Int.cast_ofNat_Int]
      exact nums 0 (by rw [if_neg (by omega)])
    · refine tG_at hd kMod_readAct_26 ?_
      simp only [bMod_readAct_26, rn, sm, lg, lt_, cmpP, tk, pr_, pu, swl, cs, Nat.reduceAdd, Nat.reduceLeDiff, Nat.zero_le, Nat.le_refl, true_and, and_true, Int.toNat_natCast, Int.reduceToNat, Int.reduceEq, false_implies, true_implies, Int.reduceNeg, Int.cast_ofNat_Int]
      exact nums 1 (by rw [if_pos (by omega)])
theorem cpi_z {A : Nat → Int} {B C : Nat → Nat → Int} {K N : Nat → Int} (hN : ∀ j, 2226 ≤ j → N j = 0) : cpi (cpi (fl A B C) K 2226) N 2226 = fl A B C := by
  funext j
  unfold cpi
  by_cases h : j < 2226
  · rw [if_pos h, if_pos h]
  · rw [if_neg h, fl_hi (by omega), hN j (by omega)]
/-- THE REFERENCE'S text() -/
theorem c_text (hd12 : 12 ≤ d) (hM : ML Γ M F) (hL : L ≤ 640) (hF : F 2 = (L : Int)) (g : GJ n k W X)
    (hq0 : ∀ fk pl : Nat, pl ≤ 640 → texF T L = .inl (fk, pl) → ∀ F' K' H', ML Γ M F' → F' 0 = 0 → F' 2 = 0 → F' 8 = (fk : Int) → F' 14 = F 14 → Q (some (.inl (-1 - (pl : Int)))) Γ (mS V M F' T (fl X.1 X.2.1 X.2.2) K' S H'))
    (hq1 : ∀ c X', texF T L = .inr (c, X') → ∀ F' K' H', ML Γ M F' → F' 0 = 0 → F' 2 = 0 → F' 8 = 0 → F' 14 = 0 → Q (some (.inl (c : Int))) Γ (mS V M F' T (fl X'.1 X'.2.1 X'.2.2) K' S H')) :
    tC w d nMod_text [.inr (.inl M)] Γ (mS V M F T (fl X.1 X.2.1 X.2.2) K S H) Q := by
  have hd : 4 ≤ d := by omega
  obtain ⟨⟨g0, g1, g2, g3, g4, g5⟩, ⟨l1, l2, l3, -, l5⟩, p1, p2, p3, p4, p5⟩ := id hM
  refine tC_enter (nL := 3) (by decide +kernel) (by decide +kernel) rfl (Nat.le_of_ble_eq_true rfl) (fun hok => ?_)
  simp only [ent]
  refine tG_at hd kMod_text_0 ?_
  simp (disch := omega) only [bMod_text_0, rn, sm, lg, lt_, cmpP, tk, pr_, pu, swl, cs, Nat.reduceAdd, Nat.reduceLeDiff, Nat.zero_le, Nat.le_refl, true_and, and_true, Int.toNat_natCast, Int.reduceToNat, Int.reduceEq, false_implies, true_implies, Int.reduceNeg, Int.cast_ofNat_Int, mS_0, mS_u0, g0, uF_ne, hF]
  obtain ⟨F1, hF1⟩ : ∃ F1, uF (uF (uF (uF (uF (uF F 0 0) 3 (L : Int)) 2 0) 8 0) 4 0) 19 0 = F1 := ⟨_, rfl⟩
  rw [hF1]
  have f0 : F1 0 = 0 := by rw [← hF1]; simp [uF]
  have f2 : F1 2 = 0 := by rw [← hF1]; simp [uF]
  have f3 : F1 3 = (L : Int) := by rw [← hF1]; simp [uF]
  have f4 : F1 4 = 0 := by rw [← hF1]; simp [uF]
  have f8 : F1 8 = 0 := by rw [← hF1]; simp [uF]
  have f14 : F1 14 = F 14 := by rw [← hF1]; simp [uF]
  have f19 : F1 19 = 0 := by rw [← hF1]; simp [uF]
  have hM1 : ML Γ M F1 := by
    rw [← hF1]
    exact (((((hM.uF (by omega)).uF (by omega)).uF (by omega)).uF (by omega)).uF (by omega)).uF (by omega)
  clear hF1
  have p2' := hM1.2.2.2.1
  have p3' := hM1.2.2.2.2.1
  refine tG_loop (fun i => [some (.inr (.inl M)), some (.inl 0), some (.inl (i : Int))]) (fun i V' => V' = mS V M F1 T (fl X.1 X.2.1 X.2.2) (cpi (fl X.1 X.2.1 X.2.2) K i) S H) 2226 ?_ ?_ 0 _ (Nat.zero_le _) (by rw [cpi_0])
  · intro i V' hi hV k1
    subst hV
    have h0 : (0 : Int) ≤ (i : Int) := by omega
    have h1 : (i : Int) < 2226 := by omega
    refine tG_at hd kMod_text_37 ?_
    simp only [bMod_text_37, rn, sm, lg, lt_, cmpP, tk, pr_, pu, swl, cs, Nat.reduceAdd, Nat.reduceLeDiff, Nat.zero_le, Nat.le_refl, true_and, and_true, Int.toNat_natCast, Int.reduceToNat, Int.reduceEq, false_implies, true_implies, Int.reduceNeg, Int.cast_ofNat_Int]
    refine ⟨fun h => absurd h (by omega), fun _ => ?_⟩
    refine tG_at hd kMod_text_44 ?_
    simp (disch := omega) only [bMod_text_44, rn, sm, lg, lt_, cmpP, tk, pr_, pu, swl, cs, Nat.reduceAdd, Nat.reduceLeDiff, Nat.zero_le, Nat.le_refl, true_and, and_true, Int.toNat_natCast, Int.reduceToNat, Int.reduceEq, false_implies, true_implies, Int.reduceNeg, Int.cast_ofNat_Int, mS_0, mS_1, mS_2, mS_3, mS_4, mS_5, mS_u0, mS_u1, mS_u2, mS_u3, mS_u4, mS_u5, g0, g1, g2, g3, g4, g5, l1, l2, l3, l5, p1, p2, p3, p4, p5, sn_0, sn_9, at_0, at_9, fl_sn, fl_at, fl_usn, fl_uat, fl_a, fl_ua, uF, reduceIte, Nat.reduceEqDiff, true_or, or_true, Int.reduceLE, Int.reduceLT, wr_s, wn_1, wn_2, wn_5, wn_6, wn_8, wn_12, wn_14, wn_18, wn_24, wn_30, wn_32, wn_38, wn_44, h0, h1, cpi_s, p2', p3']
    exact k1 _ rfl
  · intro V' hV
    subst hV
    refine tG_at hd kMod_text_37 ?_
    simp only [bMod_text_37, rn, sm, lg, lt_, cmpP, tk, pr_, pu, swl, cs, Nat.reduceAdd, Nat.reduceLeDiff, Nat.zero_le, Nat.le_refl, true_and, and_true, Int.toNat_natCast, Int.reduceToNat, Int.reduceEq, false_implies, true_implies, Int.reduceNeg, Int.cast_ofNat_Int]
    refine ⟨fun _ => ?_, fun h => absurd (by omega) h⟩
    generalize hK1 : cpi (fl X.1 X.2.1 X.2.2) K 2226 = K1
    -- the two ends
    have bad_ : ∀ (fk pl : Nat) (F' N' H' : Nat → Int) (a : Int), texF T L = .inl (fk, pl) → pl ≤ 640 → (∀ j, 2226 ≤ j → N' j = 0) → eqI F1 F' → F' 8 = (fk : Int) → F' 9 = (pl : Int) → tG w d nMod_text 112 [some (.inr (.inl M)), some (.inl a), some (.inl 0)] [] Γ (mS V M F' T N' K1 S H') 0 0 Q := by
      intro fk pl F' N' H' a ht hpl hN' e1 e8 e9
      have hM' := e1.ML hM1
      refine tG_at hd kMod_text_112 ?_
      simp (disch := omega) only [bMod_text_112, rn, sm, lg, lt_, cmpP, tk, pr_, pu, swl, cs, Nat.reduceAdd, Nat.reduceLeDiff, Nat.zero_le, Nat.le_refl, true_and, and_true, Int.toNat_natCast, Int.reduceToNat, Int.reduceEq, false_implies, true_implies, Int.reduceNeg, Int.cast_ofNat_Int, reduceIte, Int.reduceLT, Int.reduceLE, true_or, or_true, not_true_eq_false, not_false_eq_true, implies_true]
      refine tG_at hd kMod_text_116 ?_
      simp (disch := omega) only [bMod_text_116, rn, sm, lg, lt_, cmpP, tk, pr_, pu, swl, cs, Nat.reduceAdd, Nat.reduceLeDiff, Nat.zero_le, Nat.le_refl, true_and, and_true, Int.toNat_natCast, Int.reduceToNat, Int.reduceEq, false_implies, true_implies, Int.reduceNeg, Int.cast_ofNat_Int, mS_0, mS_1, mS_2, mS_3, mS_4, mS_5, mS_u0, mS_u1, mS_u2, mS_u3, mS_u4, mS_u5, g0, g1, g2, g3, g4, g5, l1, l2, l3, l5, p1, p2, p3, p4, p5, sn_0, sn_9, at_0, at_9, fl_sn, fl_at, fl_usn, fl_uat, fl_a, fl_ua, uF, reduceIte, Nat.reduceEqDiff, true_or, or_true, Int.reduceLE, Int.reduceLT, wr_s, wn_1, wn_2, wn_5, wn_6, wn_8, wn_12, wn_14, wn_18, wn_24, wn_30, wn_32, wn_38, wn_44]
      refine c_back (by omega) hM' ?_
      rw [← hK1, cpi_z hN', hK1]
      refine tG_at hd kMod_text_120 ?_
      simp (disch := omega) only [bMod_text_120, rn, sm, lg, lt_, cmpP, tk, pr_, pu, swl, cs, Nat.reduceAdd, Nat.reduceLeDiff, Nat.zero_le, Nat.le_refl, true_and, and_true, Int.toNat_natCast, Int.reduceToNat, Int.reduceEq, false_implies, true_implies, Int.reduceNeg, Int.cast_ofNat_Int, mS_0, g0, e9]
      rw [wr_id (by omega) (by omega)]
      exact hq0 fk pl hpl ht F' K1 H' hM' (by rw [e1 0 (by omega)]; exact f0) (by rw [e1 2 (by omega)]; exact f2) e8 (by rw [e1 14 (by omega)]; exact f14)
    -- the acts
    have acts : ∀ (f c p k W : Nat) (Y : NT) (F' H' : Nat → Int) {n : Nat}, c + f = 101 → p ≤ L → 10 + 6 * c ≤ p → p ≤ 600 → GJ n k W Y → 9 ≤ W → W + 1400 * f ≤ 1000000000 → texF T L = exA T L n f c p Y → eqI F1 F' → F' 8 = 0 → TKs F' T L p → tG w d nMod_text 90 [some (.inr (.inl M)), some (.inl (c : Int)), some (.inl 1)] [] Γ (mS V M F' T (fl Y.1 Y.2.1 Y.2.2) K1 S H') 0 0 Q := by
      intro f
      induction f with
      | zero => intro c p k W Y F' H' n hc hp hp2 hp3; omega
      | succ f ih =>
        intro c p k W Y F' H' n hc hp hp2 hp3 gY h9 hW ht e1 e8 tq
        have hM' := e1.ML hM1
        have hk5 : (Y.1 5).toNat = k := by rw [gY.1.A.2.1, Int.toNat_natCast]
        unfold exA at ht
        rw [hk5] at ht
        have t6 := tq.2.2.1
        refine tG_at hd kMod_text_90 ?_
        simp (disch := omega) only [bMod_text_90, rn, sm, lg, lt_, cmpP, tk, pr_, pu, swl, cs, Nat.reduceAdd, Nat.reduceLeDiff, Nat.zero_le, Nat.le_refl, true_and, and_true, Int.toNat_natCast, Int.reduceToNat, Int.reduceEq, false_implies, true_implies, Int.reduceNeg, Int.cast_ofNat_Int, reduceIte, Int.reduceLT, Int.reduceLE, true_or, or_true, not_true_eq_false, not_false_eq_true, implies_true]
        refine tG_at hd kMod_text_94 ?_
        simp (disch := omega) only [bMod_text_94, rn, sm, lg, lt_, cmpP, tk, pr_, pu, swl, cs, Nat.reduceAdd, Nat.reduceLeDiff, Nat.zero_le, Nat.le_refl, true_and, and_true, Int.toNat_natCast, Int.reduceToNat, Int.reduceEq, false_implies, true_implies, Int.reduceNeg, Int.cast_ofNat_Int, mS_0, mS_1, mS_2, mS_3, mS_4, mS_5, mS_u0, mS_u1, mS_u2, mS_u3, mS_u4, mS_u5, g0, g1, g2, g3, g4, g5, l1, l2, l3, l5, p1, p2, p3, p4, p5, sn_0, sn_9, at_0, at_9, fl_sn, fl_at, fl_usn, fl_uat, fl_a, fl_ua, uF, reduceIte, Nat.reduceEqDiff, true_or, or_true, Int.reduceLE, Int.reduceLT, wr_s, wn_1, wn_2, wn_5, wn_6, wn_8, wn_12, wn_14, wn_18, wn_24, wn_30, wn_32, wn_38, wn_44, t6]
        refine ⟨fun hz => ?_, fun hz => ?_⟩
        · rw [if_pos (by omega)] at ht
          refine tG_at hd kMod_text_112 ?_
          simp (disch := omega) only [bMod_text_112, rn, sm, lg, lt_, cmpP, tk, pr_, pu, swl, cs, Nat.reduceAdd, Nat.reduceLeDiff, Nat.zero_le, Nat.le_refl, true_and, and_true, Int.toNat_natCast, Int.reduceToNat, Int.reduceEq, false_implies, true_implies, Int.reduceNeg, Int.cast_ofNat_Int, reduceIte, Int.reduceLT, Int.reduceLE, true_or, or_true, not_true_eq_false, not_false_eq_true, implies_true]
          refine tG_at hd kMod_text_127 ?_
          simp (disch := omega) only [bMod_text_127, rn, sm, lg, lt_, cmpP, tk, pr_, pu, swl, cs, Nat.reduceAdd, Nat.reduceLeDiff, Nat.zero_le, Nat.le_refl, true_and, and_true, Int.toNat_natCast, Int.reduceToNat, Int.reduceEq, false_implies, true_implies, Int.reduceNeg, Int.cast_ofNat_Int, mS_u0, g0]
          exact hq1 c Y ht (uF F' 14 0) K1 H' (hM'.uF (by omega)) (by rw [uF_ne (by omega), e1 0 (by omega)]; exact f0) (by rw [uF_ne (by omega), e1 2 (by omega)]; exact f2) (by rw [uF_ne (by omega)]; exact e8) uF_at
        · rw [if_neg (by omega)] at ht
          refine tG_at hd kMod_text_101 ?_
          simp (disch := omega) only [bMod_text_101, rn, sm, lg, lt_, cmpP, tk, pr_, pu, swl, cs, Nat.reduceAdd, Nat.reduceLeDiff, Nat.zero_le, Nat.le_refl, true_and, and_true, Int.toNat_natCast, Int.reduceToNat, Int.reduceEq, false_implies, true_implies, Int.reduceNeg, Int.cast_ofNat_Int, mS_0, mS_1, mS_2, mS_3, mS_4, mS_5, mS_u0, mS_u1, mS_u2, mS_u3, mS_u4, mS_u5, g0, g1, g2, g3, g4, g5, l1, l2, l3, l5, p1, p2, p3, p4, p5, sn_0, sn_9, at_0, at_9, fl_sn, fl_at, fl_usn, fl_uat, fl_a, fl_ua, uF, reduceIte, Nat.reduceEqDiff, true_or, or_true, Int.reduceLE, Int.reduceLT, wr_s, wn_1, wn_2, wn_5, wn_6, wn_8, wn_12, wn_14, wn_18, wn_24, wn_30, wn_32, wn_38, wn_44]
          have hW14 : W + 1400 ≤ 1000000000 := Nat.le_trans (Nat.add_le_add_left (by rw [Nat.mul_add]; exact Nat.le_add_left _ _) _) hW
          refine c_readAct (d := d - 1) (by omega) hM' hL hp tq gY hW14 (fun fk pl hr F2 e2 e28 e29 => ?_) (fun t a b pl z hr hlt F2 H2 e2 e28 e29 => ?_) (fun t a b pl z hr hge F2 H2 e2 e28 tk2 => ?_)
          · rw [hr] at ht
            refine tG_at hd kMod_text_105 ?_
            simp (disch := omega) only [bMod_text_105, rn, sm, lg, lt_, cmpP, tk, pr_, pu, swl, cs, Nat.reduceAdd, Nat.reduceLeDiff, Nat.zero_le, Nat.le_refl, true_and, and_true, Int.toNat_natCast, Int.reduceToNat, Int.reduceEq, false_implies, true_implies, Int.reduceNeg, Int.cast_ofNat_Int, reduceIte, Int.reduceLT, Int.reduceLE, true_or, or_true, not_true_eq_false, not_false_eq_true, implies_true]
            refine tG_at hd kMod_text_90 ?_
            simp (disch := omega) only [bMod_text_90, rn, sm, lg, lt_, cmpP, tk, pr_, pu, swl, cs, Nat.reduceAdd, Nat.reduceLeDiff, Nat.zero_le, Nat.le_refl, true_and, and_true, Int.toNat_natCast, Int.reduceToNat, Int.reduceEq, false_implies, true_implies, Int.reduceNeg, Int.cast_ofNat_Int]
            refine ⟨?_, fun h => absurd trivial h⟩
            refine bad_ fk pl F2 _ _ _ ht ?_ (fun j hj => fl_hi hj) (e1.tr e2) e28 e29
            exact Nat.le_trans (rdA_e hp hr) hL
          · rw [hr] at ht
            dsimp only at ht
            rw [if_pos hlt] at ht
            have ok := rdA_ok hp hr
            refine tG_at hd kMod_text_105 ?_
            simp (disch := omega) only [bMod_text_105, rn, sm, lg, lt_, cmpP, tk, pr_, pu, swl, cs, Nat.reduceAdd, Nat.reduceLeDiff, Nat.zero_le, Nat.le_refl, true_and, and_true, Int.toNat_natCast, Int.reduceToNat, Int.reduceEq, false_implies, true_implies, Int.reduceNeg, Int.cast_ofNat_Int, reduceIte, Int.reduceLT, Int.reduceLE, true_or, or_true, not_true_eq_false, not_false_eq_true, implies_true]
            refine tG_at hd kMod_text_90 ?_
            simp (disch := omega) only [bMod_text_90, rn, sm, lg, lt_, cmpP, tk, pr_, pu, swl, cs, Nat.reduceAdd, Nat.reduceLeDiff, Nat.zero_le, Nat.le_refl, true_and, and_true, Int.toNat_natCast, Int.reduceToNat, Int.reduceEq, false_implies, true_implies, Int.reduceNeg, Int.cast_ofNat_Int]
            refine ⟨?_, fun h => absurd trivial h⟩
            exact bad_ 4 pl F2 _ _ _ ht (by omega) (fun j hj => fl_hi hj) (e1.tr e2) e28 e29
          · rw [hr] at ht
            dsimp only at ht
            rw [if_neg hge] at ht
            have ok := rdA_ok hp hr
            obtain ⟨k', g'⟩ := gY.act (t := t) (x := a) (y := b) (Or.inr (Or.inr (Or.inr (Or.inr (Or.inr (Int.ofNat_le.mpr ok.2.1)))))) h9 hW14
            refine tG_at hd kMod_text_105 ?_
            simp (disch := omega) only [bMod_text_105, rn, sm, lg, lt_, cmpP, tk, pr_, pu, swl, cs, Nat.reduceAdd, Nat.reduceLeDiff, Nat.zero_le, Nat.le_refl, true_and, and_true, Int.toNat_natCast, Int.reduceToNat, Int.reduceEq, false_implies, true_implies, Int.reduceNeg, Int.cast_ofNat_Int, reduceIte, Int.reduceLT, Int.reduceLE, true_or, or_true, not_true_eq_false, not_false_eq_true, implies_true, wr_s]
            exact ih (c + 1) z k' (W + 1400) _ F2 H2 (by omega) ok.2.2.2.2.1 (by omega) ok.2.2.2.2.2.1 g' (by omega) (by omega) ht (e1.tr e2) (by rw [e28, e8]) tk2
    -- the ranks
    have ranks : ∀ (f c p : Nat) (r : Nat → Int) (F' : Nat → Int) {n : Nat}, c + f = 22 → c ≤ 20 → p ≤ L → 10 ≤ p → p ≤ 600 → 2 ≤ n → n ≤ 6 → (∀ j, j < 6 → 0 ≤ r j ∧ r j ≤ 9) → (texF T L = match rkL T L n f c r p with | .inl e => .inl e | .inr (r, p1) => exA T L n 101 0 p1 (begN n r)) → eqI F1 F' → F' 8 = 0 → F' 19 = (c : Int) → TKs F' T L p → tG w d nMod_text 71 [some (.inr (.inl M)), some (.inl 0), some (.inl 1)] [] Γ (mS V M F' T (fl (begN n r).1 (begN n r).2.1 (begN n r).2.2) K1 S H) 0 0 Q := by
      intro f
      induction f with
      | zero => intro c p r F' n hc hc2; omega
      | succ f ih =>
        intro c p r F' n hc hc2 hp hp1 hp2 hn2 hn6 hr9 ht e1 e8 e19 tq
        have hM' := e1.ML hM1
        unfold rkL at ht
        refine tG_at hd kMod_text_71 ?_
        simp (disch := omega) only [bMod_text_71, rn, sm, lg, lt_, cmpP, tk, pr_, pu, swl, cs, Nat.reduceAdd, Nat.reduceLeDiff, Nat.zero_le, Nat.le_refl, true_and, and_true, Int.toNat_natCast, Int.reduceToNat, Int.reduceEq, false_implies, true_implies, Int.reduceNeg, Int.cast_ofNat_Int, reduceIte, Int.reduceLT, Int.reduceLE, true_or, or_true, not_true_eq_false, not_false_eq_true, implies_true]
        refine tG_at hd kMod_text_75 ?_
        simp (disch := omega) only [bMod_text_75, rn, sm, lg, lt_, cmpP, tk, pr_, pu, swl, cs, Nat.reduceAdd, Nat.reduceLeDiff, Nat.zero_le, Nat.le_refl, true_and, and_true, Int.toNat_natCast, Int.reduceToNat, Int.reduceEq, false_implies, true_implies, Int.reduceNeg, Int.cast_ofNat_Int, mS_0, mS_1, mS_2, mS_3, mS_4, mS_5, mS_u0, mS_u1, mS_u2, mS_u3, mS_u4, mS_u5, g0, g1, g2, g3, g4, g5, l1, l2, l3, l5, p1, p2, p3, p4, p5, sn_0, sn_9, at_0, at_9, fl_sn, fl_at, fl_usn, fl_uat, fl_a, fl_ua, uF, reduceIte, Nat.reduceEqDiff, true_or, or_true, Int.reduceLE, Int.reduceLT, wr_s, wn_1, wn_2, wn_5, wn_6, wn_8, wn_12, wn_14, wn_18, wn_24, wn_30, wn_32, wn_38, wn_44]
        refine c_isRank (by omega) hM' tq ?_
        by_cases hw : isW T L p wRan
        · rw [bi_1 hw]
          rw [if_pos hw] at ht
          refine tG_at hd kMod_text_79 ?_
          simp (disch := omega) only [bMod_text_79, rn, sm, lg, lt_, cmpP, tk, pr_, pu, swl, cs, Nat.reduceAdd, Nat.reduceLeDiff, Nat.zero_le, Nat.le_refl, true_and, and_true, Int.toNat_natCast, Int.reduceToNat, Int.reduceEq, false_implies, true_implies, Int.reduceNeg, Int.cast_ofNat_Int, reduceIte, Int.reduceLT, Int.reduceLE, true_or, or_true, not_true_eq_false, not_false_eq_true, implies_true]
          refine tG_at hd kMod_text_82 ?_
          simp (disch := omega) only [bMod_text_82, rn, sm, lg, lt_, cmpP, tk, pr_, pu, swl, cs, Nat.reduceAdd, Nat.reduceLeDiff, Nat.zero_le, Nat.le_refl, true_and, and_true, Int.toNat_natCast, Int.reduceToNat, Int.reduceEq, false_implies, true_implies, Int.reduceNeg, Int.cast_ofNat_Int, mS_0, mS_1, mS_2, mS_3, mS_4, mS_5, mS_u0, mS_u1, mS_u2, mS_u3, mS_u4, mS_u5, g0, g1, g2, g3, g4, g5, l1, l2, l3, l5, p1, p2, p3, p4, p5, sn_0, sn_9, at_0, at_9, fl_sn, fl_at, fl_usn, fl_uat, fl_a, fl_ua, uF, reduceIte, Nat.reduceEqDiff, true_or, or_true, Int.reduceLE, Int.reduceLT, wr_s, wn_1, wn_2, wn_5, wn_6, wn_8, wn_12, wn_14, wn_18, wn_24, wn_30, wn_32, wn_38, wn_44]
          refine c_readRank (d := d - 1) (by omega) hM' hL hp tq hw hn2 hn6 e19 hc2 (fun fk pl hr F2 N2 hN2 e2 e28 e29 => ?_) (fun x v z hr F2 e2 e28 e219 tk2 => ?_)
          · rw [hr] at ht
            refine tG_at hd kMod_text_86 ?_
            simp (disch := omega) only [bMod_text_86, rn, sm, lg, lt_, cmpP, tk, pr_, pu, swl, cs, Nat.reduceAdd, Nat.reduceLeDiff, Nat.zero_le, Nat.le_refl, true_and, and_true, Int.toNat_natCast, Int.reduceToNat, Int.reduceEq, false_implies, true_implies, Int.reduceNeg, Int.cast_ofNat_Int, reduceIte, Int.reduceLT, Int.reduceLE, true_or, or_true, not_true_eq_false, not_false_eq_true, implies_true]
            refine tG_at hd kMod_text_71 ?_
            simp (disch := omega) only [bMod_text_71, rn, sm, lg, lt_, cmpP, tk, pr_, pu, swl, cs, Nat.reduceAdd, Nat.reduceLeDiff, Nat.zero_le, Nat.le_refl, true_and, and_true, Int.toNat_natCast, Int.reduceToNat, Int.reduceEq, false_implies, true_implies, Int.reduceNeg, Int.cast_ofNat_Int, reduceIte, Int.reduceLT, Int.reduceLE, true_or, or_true, not_true_eq_false, not_false_eq_true, implies_true]
            refine tG_at hd kMod_text_90 ?_
            simp (disch := omega) only [bMod_text_90, rn, sm, lg, lt_, cmpP, tk, pr_, pu, swl, cs, Nat.reduceAdd, Nat.reduceLeDiff, Nat.zero_le, Nat.le_refl, true_and, and_true, Int.toNat_natCast, Int.reduceToNat, Int.reduceEq, false_implies, true_implies, Int.reduceNeg, Int.cast_ofNat_Int, reduceIte, Int.reduceLT, Int.reduceLE, true_or, or_true, not_true_eq_false, not_false_eq_true, implies_true]
            exact bad_ fk pl F2 N2 _ _ ht (Nat.le_trans (rdK_e hp hw.1 hr) hL) hN2 (e1.tr e2) e28 e29
          · rw [hr] at ht
            have ok := rdK_ok hp hw.1 hr
            refine tG_at hd kMod_text_86 ?_
            simp (disch := omega) only [bMod_text_86, rn, sm, lg, lt_, cmpP, tk, pr_, pu, swl, cs, Nat.reduceAdd, Nat.reduceLeDiff, Nat.zero_le, Nat.le_refl, true_and, and_true, Int.toNat_natCast, Int.reduceToNat, Int.reduceEq, false_implies, true_implies, Int.reduceNeg, Int.cast_ofNat_Int, reduceIte, Int.reduceLT, Int.reduceLE, true_or, or_true, not_true_eq_false, not_false_eq_true, implies_true]
            refine ih (c + 1) z (u1 r x (v : Int)) F2 (by omega) (by omega) ok.2.2.2.2.1 (by omega) ok.2.2.2.2.2 hn2 hn6 (fun j hj => ?_) ht (e1.tr e2) (by rw [e28, e8]) e219 tk2
            by_cases e : j = x
            · subst e; rw [u1_at]; omega
            · rw [u1_ne e]; exact hr9 j hj
        · rw [bi_0 hw]
          rw [if_neg hw] at ht
          refine tG_at hd kMod_text_79 ?_
          simp (disch := omega) only [bMod_text_79, rn, sm, lg, lt_, cmpP, tk, pr_, pu, swl, cs, Nat.reduceAdd, Nat.reduceLeDiff, Nat.zero_le, Nat.le_refl, true_and, and_true, Int.toNat_natCast, Int.reduceToNat, Int.reduceEq, false_implies, true_implies, Int.reduceNeg, Int.cast_ofNat_Int, reduceIte, Int.reduceLT, Int.reduceLE, true_or, or_true, not_true_eq_false, not_false_eq_true, implies_true]
          exact acts 101 0 p 0 9 (begN n r) F' H (by omega) hp (by omega) hp2 (GJ.beg hn2 hn6 hr9) (by omega) (by omega) ht e1 e8 tq
    refine tG_at hd kMod_text_62 ?_
    simp (disch := omega) only [bMod_text_62, rn, sm, lg, lt_, cmpP, tk, pr_, pu, swl, cs, Nat.reduceAdd, Nat.reduceLeDiff, Nat.zero_le, Nat.le_refl, true_and, and_true, Int.toNat_natCast, Int.reduceToNat, Int.reduceEq, false_implies, true_implies, Int.reduceNeg, Int.cast_ofNat_Int, mS_0, mS_1, mS_2, mS_3, mS_4, mS_5, mS_u0, mS_u1, mS_u2, mS_u3, mS_u4, mS_u5, g0, g1, g2, g3, g4, g5, l1, l2, l3, l5, p1, p2, p3, p4, p5, sn_0, sn_9, at_0, at_9, fl_sn, fl_at, fl_usn, fl_uat, fl_a, fl_ua, uF, reduceIte, Nat.reduceEqDiff, true_or, or_true, Int.reduceLE, Int.reduceLT, wr_s, wn_1, wn_2, wn_5, wn_6, wn_8, wn_12, wn_14, wn_18, wn_24, wn_30, wn_32, wn_38, wn_44]
    refine c_go2 (by omega) hM1 hL (p := 0) (Nat.zero_le _) f3 f4 (fun F2 eo2 tk2 => ?_)
    have e2 : eqI F1 F2 := eo2.I (by rw [tk2.1, f3])
    have e28 : F2 8 = F1 8 := eo2 8 (by omega) (by omega) (by omega) (by omega) (by omega) (by omega)
    have e219 : F2 19 = F1 19 := eo2 19 (by omega) (by omega) (by omega) (by omega) (by omega) (by omega)
    have hM2 := e2.ML hM1
    refine tG_at hd kMod_text_66 ?_
    simp (disch := omega) only [bMod_text_66, rn, sm, lg, lt_, cmpP, tk, pr_, pu, swl, cs, Nat.reduceAdd, Nat.reduceLeDiff, Nat.zero_le, Nat.le_refl, true_and, and_true, Int.toNat_natCast, Int.reduceToNat, Int.reduceEq, false_implies, true_implies, Int.reduceNeg, Int.cast_ofNat_Int, mS_0, mS_1, mS_2, mS_3, mS_4, mS_5, mS_u0, mS_u1, mS_u2, mS_u3, mS_u4, mS_u5, g0, g1, g2, g3, g4, g5, l1, l2, l3, l5, p1, p2, p3, p4, p5, sn_0, sn_9, at_0, at_9, fl_sn, fl_at, fl_usn, fl_uat, fl_a, fl_ua, uF, reduceIte, Nat.reduceEqDiff, true_or, or_true, Int.reduceLE, Int.reduceLT, wr_s, wn_1, wn_2, wn_5, wn_6, wn_8, wn_12, wn_14, wn_18, wn_24, wn_30, wn_32, wn_38, wn_44]
    refine c_readMembers (d := d - 1) (by omega) hM2 hL (Nat.zero_le _) tk2 (fun j hj => fl_hi hj) (fun fk pl hr F3 N3 hN3 e3 e38 e39 => ?_) (fun n z hr F3 e3 e38 e319 tk3 => ?_)
    · have ht : texF T L = .inl (fk, pl) := by unfold texF; rw [hr]
      refine tG_at hd kMod_text_70 ?_
      simp (disch := omega) only [bMod_text_70, rn, sm, lg, lt_, cmpP, tk, pr_, pu, swl, cs, Nat.reduceAdd, Nat.reduceLeDiff, Nat.zero_le, Nat.le_refl, true_and, and_true, Int.toNat_natCast, Int.reduceToNat, Int.reduceEq, false_implies, true_implies, Int.reduceNeg, Int.cast_ofNat_Int, reduceIte, Int.reduceLT, Int.reduceLE, true_or, or_true, not_true_eq_false, not_false_eq_true, implies_true]
      refine tG_at hd kMod_text_71 ?_
      simp (disch := omega) only [bMod_text_71, rn, sm, lg, lt_, cmpP, tk, pr_, pu, swl, cs, Nat.reduceAdd, Nat.reduceLeDiff, Nat.zero_le, Nat.le_refl, true_and, and_true, Int.toNat_natCast, Int.reduceToNat, Int.reduceEq, false_implies, true_implies, Int.reduceNeg, Int.cast_ofNat_Int, reduceIte, Int.reduceLT, Int.reduceLE, true_or, or_true, not_true_eq_false, not_false_eq_true, implies_true]
      refine tG_at hd kMod_text_90 ?_
      simp (disch := omega) only [bMod_text_90, rn, sm, lg, lt_, cmpP, tk, pr_, pu, swl, cs, Nat.reduceAdd, Nat.reduceLeDiff, Nat.zero_le, Nat.le_refl, true_and, and_true, Int.toNat_natCast, Int.reduceToNat, Int.reduceEq, false_implies, true_implies, Int.reduceNeg, Int.cast_ofNat_Int, reduceIte, Int.reduceLT, Int.reduceLE, true_or, or_true, not_true_eq_false, not_false_eq_true, implies_true]
      exact bad_ fk pl F3 N3 _ _ ht (Nat.le_trans (rdM_e (Nat.zero_le _) hr) hL) hN3 (e2.tr e3) e38 e39
    · have ok := rdM_ok (Nat.zero_le _) hr
      refine tG_at hd kMod_text_70 ?_
      simp (disch := omega) only [bMod_text_70, rn, sm, lg, lt_, cmpP, tk, pr_, pu, swl, cs, Nat.reduceAdd, Nat.reduceLeDiff, Nat.zero_le, Nat.le_refl, true_and, and_true, Int.toNat_natCast, Int.reduceToNat, Int.reduceEq, false_implies, true_implies, Int.reduceNeg, Int.cast_ofNat_Int, reduceIte, Int.reduceLT, Int.reduceLE, true_or, or_true, not_true_eq_false, not_false_eq_true, implies_true]
      refine ranks 22 0 z (fun _ => 0) F3 (by omega) (by omega) ok.2.2.2.1 (by omega) ok.2.2.2.2 ok.1 ok.2.1 (fun j _ => by omega) ?_ (e2.tr e3) (by rw [e38, e28, f8]) (by rw [e319, e219, f19]; rfl) tk3
      unfold texF
      rw [hr]
      rfl
end MD
