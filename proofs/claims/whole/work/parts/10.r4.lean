/-! the reference: keeping and undoing -/
def cpi (N K : Nat → Int) (i : Nat) : Nat → Int := fun j => if j < i then N j else K j
theorem cpi_s {N K : Nat → Int} {i : Nat} : u1 (cpi N K i) i (N i) = cpi N K (i + 1) := by
  funext j
  unfold cpi
  by_cases hj : j = i
  · subst hj; rw [u1_at, if_pos (by omega)]
  · rw [u1_ne hj]
    by_cases h : j < i
    · rw [if_pos h, if_pos (by omega)]
    · rw [if_neg h, if_neg (by omega)]
theorem cpi_0 {N K : Nat → Int} : cpi N K 0 = K := funext fun j => if_neg (by omega)
theorem fl_hi {A : Nat → Int} {B C : Nat → Nat → Int} {j : Nat} (h : 2226 ≤ j) : fl A B C j = 0 := by
  unfold fl
  rw [if_neg (by omega), if_neg (by omega), if_neg (by omega)]
theorem cpi_fl {A A' : Nat → Int} {B C B' C' : Nat → Nat → Int} {K : Nat → Int} : cpi (cpi (fl A B C) K 2226) (fl A' B' C') 2226 = fl A B C := by
  funext j
  unfold cpi
  by_cases h : j < 2226
  · rw [if_pos h, if_pos h]
  · rw [if_neg h, fl_hi (by omega), fl_hi (by omega)]
/-- the nets that are kept -/
def SN (q : Nat) (S : Nat → Int) (Y : Nat → NT) : Prop := ∀ i, i < q → ∀ j, j < 2226 → S (2226 * i + j) = fl (Y i).1 (Y i).2.1 (Y i).2.2 j
def snQ (q : Nat) : Nat := if q = 10 then 10 else q + 1
def snY (q : Nat) (X : NT) (Y : Nat → NT) : Nat → NT := fun i => if i = snQ q - 1 then X else if q = 10 then Y (i + 1) else Y i
section MD
variable {w : WP} {d : Nat} {Γ : GM} {V : VH} {Q : QT} {M : Nat} {F T N K S H : Nat → Int} {h c : Int} {n k W : Nat} {X : NT}
theorem c_keeps (hd : 4 ≤ d) (hM : ML Γ M F) (hq : Q none Γ (mS V M F T N (cpi N K 2226) S H)) : tC w d nMod_keeps [.inr (.inl M)] Γ (mS V M F T N K S H) Q := by
  obtain ⟨⟨g0, g1, g2, g3, g4, g5⟩, ⟨l1, l2, l3, -, l5⟩, p1, p2, p3, p4, p5⟩ := id hM
  refine tC_enter (nL := 2) (by decide +kernel) (by decide +kernel) rfl (Nat.le_of_ble_eq_true rfl) (fun hok => ?_)
  simp only [ent]
  refine tG_at hd kMod_keeps_0 ?_
  simp only [bMod_keeps_0, rn, sm, lg, lt_, cmpP, tk, pr_, pu, swl, cs, Nat.reduceAdd, Nat.reduceLeDiff, Nat.zero_le, Nat.le_refl, true_and, and_true, Int.toNat_natCast, Int.reduceToNat, Int.reduceEq, false_implies, true_implies, Int.reduceNeg, Int.cast_ofNat_Int]
  refine tG_loop (fun i => [some (.inr (.inl M)), some (.inl (i : Int))]) (fun i V' => V' = mS V M F T N (cpi N K i) S H) 2226 ?_ ?_ 0 _ (Nat.zero_le _) (by rw [cpi_0])
  · intro i V' hi hV k1
    subst hV
    have h0 : (0 : Int) ≤ (i : Int) := by omega
    have h1 : (i : Int) < 2226 := by omega
    refine tG_at hd kMod_keeps_2 ?_
    simp only [bMod_keeps_2, rn, sm, lg, lt_, cmpP, tk, pr_, pu, swl, cs, Nat.reduceAdd, Nat.reduceLeDiff, Nat.zero_le, Nat.le_refl, true_and, and_true, Int.toNat_natCast, Int.reduceToNat, Int.reduceEq, false_implies, true_implies, Int.reduceNeg, Int.cast_ofNat_Int]
    refine ⟨fun h => absurd h (by omega), fun _ => ?_⟩
    refine tG_at hd kMod_keeps_9 ?_
    simp (disch := omega) only [bMod_keeps_9, rn, sm, lg, lt_, cmpP, tk, pr_, pu, swl, cs, Nat.reduceAdd, Nat.reduceLeDiff, Nat.zero_le, Nat.le_refl, true_and, and_true, Int.toNat_natCast, Int.reduceToNat, Int.reduceEq, false_implies, true_implies, Int.reduceNeg, Int.cast_ofNat_Int, mS_0, mS_1, mS_2, mS_3, mS_4, mS_5, mS_u0, mS_u1, mS_u2, mS_u3, mS_u4, mS_u5, g0, g1, g2, g3, g4, g5, l1, l2, l3, l5, p1, p2, p3, p4, p5, sn_0, sn_9, at_0, at_9, fl_sn, fl_at, fl_usn, fl_uat, fl_a, fl_ua, uF, reduceIte, Nat.reduceEqDiff, true_or, or_true, Int.reduceLE, Int.reduceLT, wr_s, wn_1, wn_2, wn_5, wn_6, wn_8, wn_12, wn_14, wn_18, wn_24, wn_30, wn_32, wn_38, wn_44, h0, h1, cpi_s]
    exact k1 _ rfl
  · intro V' hV
    subst hV
    refine tG_at hd kMod_keeps_2 ?_
    simp only [bMod_keeps_2, rn, sm, lg, lt_, cmpP, tk, pr_, pu, swl, cs, Nat.reduceAdd, Nat.reduceLeDiff, Nat.zero_le, Nat.le_refl, true_and, and_true, Int.toNat_natCast, Int.reduceToNat, Int.reduceEq, false_implies, true_implies, Int.reduceNeg, Int.cast_ofNat_Int]
    refine ⟨fun _ => ?_, fun h => absurd (by omega) h⟩
    refine tG_at hd kMod_keeps_27 ?_
    simp only [bMod_keeps_27, rn, sm, lg, lt_, cmpP, tk, pr_, pu, swl, cs, Nat.reduceAdd, Nat.reduceLeDiff, Nat.zero_le, Nat.le_refl, true_and, and_true, Int.toNat_natCast, Int.reduceToNat, Int.reduceEq, false_implies, true_implies, Int.reduceNeg, Int.cast_ofNat_Int]
    exact hq
theorem c_back (hd : 4 ≤ d) (hM : ML Γ M F) (hq : Q none Γ (mS V M F T (cpi K N 2226) K S H)) : tC w d nMod_back [.inr (.inl M)] Γ (mS V M F T N K S H) Q := by
  obtain ⟨⟨g0, g1, g2, g3, g4, g5⟩, ⟨l1, l2, l3, -, l5⟩, p1, p2, p3, p4, p5⟩ := id hM
  refine tC_enter (nL := 2) (by decide +kernel) (by decide +kernel) rfl (Nat.le_of_ble_eq_true rfl) (fun hok => ?_)
  simp only [ent]
  refine tG_at hd kMod_back_0 ?_
  simp only [bMod_back_0, rn, sm, lg, lt_, cmpP, tk, pr_, pu, swl, cs, Nat.reduceAdd, Nat.reduceLeDiff, Nat.zero_le, Nat.le_refl, true_and, and_true, Int.toNat_natCast, Int.reduceToNat, Int.reduceEq, false_implies, true_implies, Int.reduceNeg, Int.cast_ofNat_Int]
  refine tG_loop (fun i => [some (.inr (.inl M)), some (.inl (i : Int))]) (fun i V' => V' = mS V M F T (cpi K N i) K S H) 2226 ?_ ?_ 0 _ (Nat.zero_le _) (by rw [cpi_0])
  · intro i V' hi hV k1
    subst hV
    have h0 : (0 : Int) ≤ (i : Int) := by omega
    have h1 : (i : Int) < 2226 := by omega
    refine tG_at hd kMod_back_2 ?_
    simp only [bMod_back_2, rn, sm, lg, lt_, cmpP, tk, pr_, pu, swl, cs, Nat.reduceAdd, Nat.reduceLeDiff, Nat.zero_le, Nat.le_refl, true_and, and_true, Int.toNat_natCast, Int.reduceToNat, Int.reduceEq, false_implies, true_implies, Int.reduceNeg, Int.cast_ofNat_Int]
    refine ⟨fun h => absurd h (by omega), fun _ => ?_⟩
    refine tG_at hd kMod_back_9 ?_
    simp (disch := omega) only [bMod_back_9, rn, sm, lg, lt_, cmpP, tk, pr_, pu, swl, cs, Nat.reduceAdd, Nat.reduceLeDiff, Nat.zero_le, Nat.le_refl, true_and, and_true, Int.toNat_natCast, Int.reduceToNat, Int.reduceEq, false_implies, true_implies, Int.reduceNeg, Int.cast_ofNat_Int, mS_0, mS_1, mS_2, mS_3, mS_4, mS_5, mS_u0, mS_u1, mS_u2, mS_u3, mS_u4, mS_u5, g0, g1, g2, g3, g4, g5, l1, l2, l3, l5, p1, p2, p3, p4, p5, sn_0, sn_9, at_0, at_9, fl_sn, fl_at, fl_usn, fl_uat, fl_a, fl_ua, uF, reduceIte, Nat.reduceEqDiff, true_or, or_true, Int.reduceLE, Int.reduceLT, wr_s, wn_1, wn_2, wn_5, wn_6, wn_8, wn_12, wn_14, wn_18, wn_24, wn_30, wn_32, wn_38, wn_44, h0, h1, cpi_s]
    exact k1 _ rfl
  · intro V' hV
    subst hV
    refine tG_at hd kMod_back_2 ?_
    simp only [bMod_back_2, rn, sm, lg, lt_, cmpP, tk, pr_, pu, swl, cs, Nat.reduceAdd, Nat.reduceLeDiff, Nat.zero_le, Nat.le_refl, true_and, and_true, Int.toNat_natCast, Int.reduceToNat, Int.reduceEq, false_implies, true_implies, Int.reduceNeg, Int.cast_ofNat_Int]
    refine ⟨fun _ => ?_, fun h => absurd (by omega) h⟩
    refine tG_at hd kMod_back_27 ?_
    simp only [bMod_back_27, rn, sm, lg, lt_, cmpP, tk, pr_, pu, swl, cs, Nat.reduceAdd, Nat.reduceLeDiff, Nat.zero_le, Nat.le_refl, true_and, and_true, Int.toNat_natCast, Int.reduceToNat, Int.reduceEq, false_implies, true_implies, Int.reduceNeg, Int.cast_ofNat_Int]
    exact hq
def shS (S : Nat → Int) (i : Nat) : Nat → Int := fun j => if j < i then S (j + 2226) else S j
theorem shS_s {S : Nat → Int} {i : Nat} : u1 (shS S i) i (S (i + 2226)) = shS S (i + 1) := by
  funext j
  unfold shS
  by_cases hj : j = i
  · subst hj; rw [u1_at, if_pos (by omega)]
  · rw [u1_ne hj]
    by_cases h : j < i
    · rw [if_pos h, if_pos (by omega)]
    · rw [if_neg h, if_neg (by omega)]
theorem shS_g {S : Nat → Int} {i : Nat} : shS S i (i + 2226) = S (i + 2226) := if_neg (by omega)
def puS (S K : Nat → Int) (q i : Nat) : Nat → Int := fun j => if 2226 * q ≤ j ∧ j < 2226 * q + i then K (j - 2226 * q) else S j
theorem puS_s {S K : Nat → Int} {q i : Nat} : u1 (puS S K q i) (2226 * q + i) (K i) = puS S K q (i + 1) := by
  funext j
  unfold puS
  by_cases hj : j = 2226 * q + i
  · subst hj; rw [u1_at, if_pos (by omega), show 2226 * q + i - 2226 * q = i by omega]
  · rw [u1_ne hj]
    by_cases h : 2226 * q ≤ j ∧ j < 2226 * q + i
    · rw [if_pos h, if_pos (by omega)]
    · rw [if_neg h, if_neg (by omega)]
theorem c_snap (hd : 4 ≤ d) (hM : ML Γ M F) {q : Nat} (hq10 : q ≤ 10) (hF : F 14 = (q : Int)) {Y : Nat → NT} (hS : SN q S Y) (hK : ∀ j, j < 2226 → K j = fl X.1 X.2.1 X.2.2 j)
    (hq : ∀ S', SN (snQ q) S' (snY q X Y) → Q none Γ (mS V M (uF F 14 ((snQ q : Nat) : Int)) T N K S' H)) : tC w d nMod_snap [.inr (.inl M)] Γ (mS V M F T N K S H) Q := by
  obtain ⟨⟨g0, g1, g2, g3, g4, g5⟩, ⟨l1, l2, l3, -, l5⟩, p1, p2, p3, p4, p5⟩ := id hM
  have l4 := hM.2.1.2.2.2.1
  have key : ∀ (S1 : Nat → Int) (q1 : Nat) (F1 : Nat → Int) (x : Option TV), q1 ≤ 9 → q1 + 1 = snQ q → F1 11 = F 11 ∧ F1 12 = F 12 ∧ F1 13 = F 13 → F1 14 = (q1 : Int) → uF F1 14 ((q1 + 1 : Nat) : Int) = uF F 14 ((q1 + 1 : Nat) : Int) → (∀ i, i < q1 → ∀ j, j < 2226 → S1 (2226 * i + j) = fl (snY q X Y i).1 (snY q X Y i).2.1 (snY q X Y i).2.2 j) → tG w d nMod_snap 50 [some (.inr (.inl M)), x] [] Γ (mS V M F1 T N K S1 H) 0 0 Q := by
    intro S1 q1 F1 x hq1 hq2 hp hF1 hF2 hS1
    have p2' : F1 11 = ((M + 2 : Nat) : Int) := by rw [hp.1, p2]
    have p3' : F1 12 = ((M + 3 : Nat) : Int) := by rw [hp.2.1, p3]
    have p4' : F1 13 = ((M + 4 : Nat) : Int) := by rw [hp.2.2, p4]
    have st : tG w d nMod_snap 52 [some (.inr (.inl M)), some (.inl ((0 : Nat) : Int))] [] Γ (mS V M F1 T N K S1 H) 0 0 Q := by
      refine tG_loop (fun i => [some (.inr (.inl M)), some (.inl (i : Int))]) (fun i V' => V' = mS V M F1 T N K (puS S1 K q1 i) H) 2226 ?_ ?_ 0 _ (Nat.zero_le _) (by congr 1; funext j; exact (if_neg (by omega)).symm)
      · intro i V' hi hV k1
        subst hV
        have h0 : (0 : Int) ≤ (i : Int) := by omega
        have h1 : (i : Int) < 2226 := by omega
        have h2 : wr (wr (2226 * (q1 : Int)) + (i : Int)) = ((2226 * q1 + i : Nat) : Int) := by
          rw [wr_id (x := 2226 * (q1 : Int)) (by omega) (by omega), wr_id (by omega) (by omega)]; omega
        have h3 : (0 : Int) ≤ ((2226 * q1 + i : Nat) : Int) := by omega
        have h4 : ((2226 * q1 + i : Nat) : Int) < 22260 := by omega
        refine tG_at hd kMod_snap_52 ?_
        simp only [bMod_snap_52, rn, sm, lg, lt_, cmpP, tk, pr_, pu, swl, cs, Nat.reduceAdd, Nat.reduceLeDiff, Nat.zero_le, Nat.le_refl, true_and, and_true, Int.toNat_natCast, Int.reduceToNat, Int.reduceEq, false_implies, true_implies, Int.reduceNeg, Int.cast_ofNat_Int]
        refine ⟨fun h => absurd h (by omega), fun _ => ?_⟩
        refine tG_at hd kMod_snap_59 ?_
        simp (disch := omega) only [bMod_snap_59, rn, sm, lg, lt_, cmpP, tk, pr_, pu, swl, cs, Nat.reduceAdd, Nat.reduceLeDiff, Nat.zero_le, Nat.le_refl, true_and, and_true, Int.toNat_natCast, Int.reduceToNat, Int.reduceEq, false_implies, true_implies, Int.reduceNeg, Int.cast_ofNat_Int, mS_0, mS_1, mS_2, mS_3, mS_4, mS_5, mS_u0, mS_u1, mS_u2, mS_u3, mS_u4, mS_u5, g0, g1, g2, g3, g4, g5, l1, l2, l3, l5, p1, p2, p3, p4, p5, sn_0, sn_9, at_0, at_9, fl_sn, fl_at, fl_usn, fl_uat, fl_a, fl_ua, uF, reduceIte, Nat.reduceEqDiff, true_or, or_true, Int.reduceLE, Int.reduceLT, wr_s, wn_1, wn_2, wn_5, wn_6, wn_8, wn_12, wn_14, wn_18, wn_24, wn_30, wn_32, wn_38, wn_44, h0, h1, hF1, h2, h3, h4, l4, p2', p3', p4', puS_s]
        exact k1 _ rfl
      · intro V' hV
        subst hV
        refine tG_at hd kMod_snap_52 ?_
        simp only [bMod_snap_52, rn, sm, lg, lt_, cmpP, tk, pr_, pu, swl, cs, Nat.reduceAdd, Nat.reduceLeDiff, Nat.zero_le, Nat.le_refl, true_and, and_true, Int.toNat_natCast, Int.reduceToNat, Int.reduceEq, false_implies, true_implies, Int.reduceNeg, Int.cast_ofNat_Int]
        refine ⟨fun _ => ?_, fun h => absurd (by omega) h⟩
        refine tG_at hd kMod_snap_86 ?_
        simp (disch := omega) only [bMod_snap_86, rn, sm, lg, lt_, cmpP, tk, pr_, pu, swl, cs, Nat.reduceAdd, Nat.reduceLeDiff, Nat.zero_le, Nat.le_refl, true_and, and_true, Int.toNat_natCast, Int.reduceToNat, Int.reduceEq, false_implies, true_implies, Int.reduceNeg, Int.cast_ofNat_Int, mS_0, mS_u0, g0, hF1, wr_s, hF2]
        rw [hq2]
        refine hq _ (fun i hi j hj => ?_)
        by_cases hiq : i = q1
        · subst hiq
          unfold puS snY
          rw [if_pos (by omega), if_pos (by omega), show 2226 * i + j - 2226 * i = j by omega]
          exact hK j hj
        · have := hS1 i (by omega) j hj
          unfold puS
          rw [if_neg (by omega)]
          exact this
    by_cases hx : ∃ v, x = some v
    · obtain ⟨v, rfl⟩ := hx
      match v with
      | .inl v =>
        refine tG_at hd kMod_snap_50 ?_
        simp only [bMod_snap_50, rn, sm, lg, lt_, cmpP, tk, pr_, pu, swl, cs, Nat.reduceAdd, Nat.reduceLeDiff, Nat.zero_le, Nat.le_refl, true_and, and_true, Int.toNat_natCast, Int.reduceToNat, Int.reduceEq, false_implies, true_implies, Int.reduceNeg, Int.cast_ofNat_Int]
        exact st
      | .inr (.inl v) =>
        refine tG_at hd kMod_snap_50 ?_
        simp only [bMod_snap_50, rn, sm, lg, lt_, cmpP, tk, pr_, pu, swl, cs, Nat.reduceAdd, Nat.reduceLeDiff, Nat.zero_le, Nat.le_refl, true_and, and_true, Int.toNat_natCast, Int.reduceToNat, Int.reduceEq, false_implies, true_implies, Int.reduceNeg, Int.cast_ofNat_Int]
        exact st
      | .inr (.inr v) =>
        refine tG_at hd kMod_snap_50 ?_
        simp only [bMod_snap_50, rn, sm, lg, lt_, cmpP, tk, pr_, pu, swl, cs, Nat.reduceAdd, Nat.reduceLeDiff, Nat.zero_le, Nat.le_refl, true_and, and_true, Int.toNat_natCast, Int.reduceToNat, Int.reduceEq, false_implies, true_implies, Int.reduceNeg, Int.cast_ofNat_Int]
        exact st
    · have : x = none := by
        cases x with
        | none => rfl
        | some v => exact absurd ⟨v, rfl⟩ hx
      subst this
      refine tG_at hd kMod_snap_50 ?_
      simp only [bMod_snap_50, rn, sm, lg, lt_, cmpP, tk, pr_, pu, swl, cs, Nat.reduceAdd, Nat.reduceLeDiff, Nat.zero_le, Nat.le_refl, true_and, and_true, Int.toNat_natCast, Int.reduceToNat, Int.reduceEq, false_implies, true_implies, Int.reduceNeg, Int.cast_ofNat_Int]
      exact st
  refine tC_enter (nL := 2) (by decide +kernel) (by decide +kernel) rfl (Nat.le_of_ble_eq_true rfl) (fun hok => ?_)
  simp only [ent]
  refine tG_at hd kMod_snap_0 ?_
  simp (disch := omega) only [bMod_snap_0, rn, sm, lg, lt_, cmpP, tk, pr_, pu, swl, cs, Nat.reduceAdd, Nat.reduceLeDiff, Nat.zero_le, Nat.le_refl, true_and, and_true, Int.toNat_natCast, Int.reduceToNat, Int.reduceEq, false_implies, true_implies, Int.reduceNeg, Int.cast_ofNat_Int, mS_0, mS_1, mS_2, mS_3, mS_4, mS_5, mS_u0, mS_u1, mS_u2, mS_u3, mS_u4, mS_u5, g0, g1, g2, g3, g4, g5, l1, l2, l3, l5, p1, p2, p3, p4, p5, sn_0, sn_9, at_0, at_9, fl_sn, fl_at, fl_usn, fl_uat, fl_a, fl_ua, uF, reduceIte, Nat.reduceEqDiff, true_or, or_true, Int.reduceLE, Int.reduceLT, wr_s, wn_1, wn_2, wn_5, wn_6, wn_8, wn_12, wn_14, wn_18, wn_24, wn_30, wn_32, wn_38, wn_44, hF]
  refine ⟨fun hz => ?_, fun hz => ?_⟩
  · have hq1 : q ≠ 10 := by omega
    refine key S q F _ (by omega) (by unfold snQ; rw [if_neg hq1]) ⟨rfl, rfl, rfl⟩ hF rfl (fun i hi j hj => ?_)
    rw [hS i hi j hj]
    unfold snY snQ
    rw [if_neg hq1, if_neg hq1, if_neg (by omega)]
  · have hq1 : q = 10 := by omega
    refine tG_at hd kMod_snap_9 ?_
    simp only [bMod_snap_9, rn, sm, lg, lt_, cmpP, tk, pr_, pu, swl, cs, Nat.reduceAdd, Nat.reduceLeDiff, Nat.zero_le, Nat.le_refl, true_and, and_true, Int.toNat_natCast, Int.reduceToNat, Int.reduceEq, false_implies, true_implies, Int.reduceNeg, Int.cast_ofNat_Int]
    refine tG_loop (fun i => [some (.inr (.inl M)), some (.inl (i : Int))]) (fun i V' => V' = mS V M F T N K (shS S i) H) 20034 ?_ ?_ 0 _ (Nat.zero_le _) (by congr 1)
    · intro i V' hi hV k1
      subst hV
      have h0 : (0 : Int) ≤ (i : Int) := by omega
      have h1 : (i : Int) < 22260 := by omega
      have h2 : wr ((i : Int) + 2226) = ((i + 2226 : Nat) : Int) := by
        rw [wr_id (by omega) (by omega)]; omega
      have h3 : (0 : Int) ≤ ((i + 2226 : Nat) : Int) := by omega
      have h4 : ((i + 2226 : Nat) : Int) < 22260 := by omega
      refine tG_at hd kMod_snap_11 ?_
      simp only [bMod_snap_11, rn, sm, lg, lt_, cmpP, tk, pr_, pu, swl, cs, Nat.reduceAdd, Nat.reduceLeDiff, Nat.zero_le, Nat.le_refl, true_and, and_true, Int.toNat_natCast, Int.reduceToNat, Int.reduceEq, false_implies, true_implies, Int.reduceNeg, Int.cast_ofNat_Int]
      refine ⟨fun h => absurd h (by omega), fun _ => ?_⟩
      refine tG_at hd kMod_snap_18 ?_
      simp (disch := omega) only [bMod_snap_18, rn, sm, lg, lt_, cmpP, tk, pr_, pu, swl, cs, Nat.reduceAdd, Nat.reduceLeDiff, Nat.zero_le, Nat.le_refl, true_and, and_true, Int.toNat_natCast, Int.reduceToNat, Int.reduceEq, false_implies, true_implies, Int.reduceNeg, Int.cast_ofNat_Int, mS_0, mS_1, mS_2, mS_3, mS_4, mS_5, mS_u0, mS_u1, mS_u2, mS_u3, mS_u4, mS_u5, g0, g1, g2, g3, g4, g5, l1, l2, l3, l5, p1, p2, p3, p4, p5, sn_0, sn_9, at_0, at_9, fl_sn, fl_at, fl_usn, fl_uat, fl_a, fl_ua, uF, reduceIte, Nat.reduceEqDiff, true_or, or_true, Int.reduceLE, Int.reduceLT, wr_s, wn_1, wn_2, wn_5, wn_6, wn_8, wn_12, wn_14, wn_18, wn_24, wn_30, wn_32, wn_38, wn_44, h0, h1, h2, h3, h4, l4, shS_g, shS_s]
      exact k1 _ rfl
    · intro V' hV
      subst hV
      refine tG_at hd kMod_snap_11 ?_
      simp only [bMod_snap_11, rn, sm, lg, lt_, cmpP, tk, pr_, pu, swl, cs, Nat.reduceAdd, Nat.reduceLeDiff, Nat.zero_le, Nat.le_refl, true_and, and_true, Int.toNat_natCast, Int.reduceToNat, Int.reduceEq, false_implies, true_implies, Int.reduceNeg, Int.cast_ofNat_Int]
      refine ⟨fun _ => ?_, fun h => absurd (by omega) h⟩
      refine tG_at hd kMod_snap_40 ?_
      simp (disch := omega) only [bMod_snap_40, rn, sm, lg, lt_, cmpP, tk, pr_, pu, swl, cs, Nat.reduceAdd, Nat.reduceLeDiff, Nat.zero_le, Nat.le_refl, true_and, and_true, Int.toNat_natCast, Int.reduceToNat, Int.reduceEq, false_implies, true_implies, Int.reduceNeg, Int.cast_ofNat_Int, mS_0, mS_u0, g0, hF]
      rw [wr_id (by omega) (by omega), show (q : Int) - 1 = ((9 : Nat) : Int) by omega]
      refine key _ 9 _ _ (by omega) (by unfold snQ; rw [if_pos hq1]) ⟨uF_ne (by omega), uF_ne (by omega), uF_ne (by omega)⟩ uF_at ?_ (fun i hi j hj => ?_)
      · funext j
        unfold uF
        by_cases hj : j = 14
        · rw [if_pos hj, if_pos hj]
        · rw [if_neg hj, if_neg hj, if_neg hj]
      · unfold shS snY snQ
        rw [if_pos (by omega), if_pos hq1, if_neg (by omega), if_pos hq1, show 2226 * i + j + 2226 = 2226 * (i + 1) + j by omega]
        exact hS (i + 1) (by omega) j hj
theorem c_byHand (hd11 : 11 ≤ d) (hM : ML Γ M F) {t x y : Int} (g : GJ n k W X) (ht : 0 ≤ t ∧ t ≤ 5) (hx : t = 5 → 0 ≤ x ∧ x ≤ 99) (hW : W + 1400 ≤ 1000000000) {q : Nat} (hq10 : q ≤ 10) (hF : F 14 = (q : Int)) {Y : Nat → NT} (hS : SN q S Y)
    (hq : ∀ h' c' K' S' H' q' Y', (0 ≤ (actF n k t x y X).1 → q' = snQ q ∧ Y' = snY q X Y) → ((actF n k t x y X).1 < 0 → q' = q ∧ Y' = Y) → SN q' S' Y' → Q (some (.inl (actF n k t x y X).1)) Γ (mS V M (FF (uF (uF F 0 0) 14 ((q' : Nat) : Int)) h' c') T (fl (actF n k t x y X).2.1 (actF n k t x y X).2.2.1 (actF n k t x y X).2.2.2) K' S' H')) :
    tC w d nMod_byHand [.inr (.inl M), .inl t, .inl x, .inl y] Γ (mS V M (FF F h c) T (fl X.1 X.2.1 X.2.2) K S H) Q := by
  have hd : 4 ≤ d := by omega
  obtain ⟨⟨g0, g1, g2, g3, g4, g5⟩, ⟨l1, l2, l3, -, l5⟩, p1, p2, p3, p4, p5⟩ := id hM
  have hM0 : ML Γ M (uF F 0 0) := hM.uF (by omega)
  refine tC_enter (nL := 5) (by decide +kernel) (by decide +kernel) rfl (Nat.le_of_ble_eq_true rfl) (fun hok => ?_)
  simp only [ent]
  refine tG_at hd kMod_byHand_0 ?_
  simp (disch := omega) only [bMod_byHand_0, rn, sm, lg, lt_, cmpP, tk, pr_, pu, swl, cs, Nat.reduceAdd, Nat.reduceLeDiff, Nat.zero_le, Nat.le_refl, true_and, and_true, Int.toNat_natCast, Int.reduceToNat, Int.reduceEq, false_implies, true_implies, Int.reduceNeg, Int.cast_ofNat_Int, mS_0, mS_1, mS_2, mS_3, mS_4, mS_5, mS_u0, mS_u1, mS_u2, mS_u3, mS_u4, mS_u5, g0, g1, g2, g3, g4, g5, l1, l2, l3, l5, p1, p2, p3, p4, p5, sn_0, sn_9, at_0, at_9, fl_sn, fl_at, fl_usn, fl_uat, fl_a, fl_ua, reduceIte, Nat.reduceEqDiff, true_or, or_true, Int.reduceLE, Int.reduceLT, wr_s, wn_1, wn_2, wn_5, wn_6, wn_8, wn_12, wn_14, wn_18, wn_24, wn_30, wn_32, wn_38, wn_44, FF_15, FF_16, FF_u, FF_ne, FF_r15, FF_r16, uF_at, uF_ne, not_true_eq_false, not_false_eq_true, implies_true]
  refine c_keeps (by omega) hM0.FF ?_
  refine tG_at hd kMod_byHand_9 ?_
  simp (disch := omega) only [bMod_byHand_9, rn, sm, lg, lt_, cmpP, tk, pr_, pu, swl, cs, Nat.reduceAdd, Nat.reduceLeDiff, Nat.zero_le, Nat.le_refl, true_and, and_true, Int.toNat_natCast, Int.reduceToNat, Int.reduceEq, false_implies, true_implies, Int.reduceNeg, Int.cast_ofNat_Int, mS_0, mS_1, mS_2, mS_3, mS_4, mS_5, mS_u0, mS_u1, mS_u2, mS_u3, mS_u4, mS_u5, g0, g1, g2, g3, g4, g5, l1, l2, l3, l5, p1, p2, p3, p4, p5, sn_0, sn_9, at_0, at_9, fl_sn, fl_at, fl_usn, fl_uat, fl_a, fl_ua, reduceIte, Nat.reduceEqDiff, true_or, or_true, Int.reduceLE, Int.reduceLT, wr_s, wn_1, wn_2, wn_5, wn_6, wn_8, wn_12, wn_14, wn_18, wn_24, wn_30, wn_32, wn_38, wn_44, FF_15, FF_16, FF_u, FF_ne, FF_r15, FF_r16, uF_at, uF_ne, not_true_eq_false, not_false_eq_true, implies_true]
  refine c_does (by omega) hM0 g ht hx hW (fun h' c' H' => ?_)
  refine tG_at hd kMod_byHand_16 ?_
  simp (disch := omega) only [bMod_byHand_16, rn, sm, lg, lt_, cmpP, tk, pr_, pu, swl, cs, Nat.reduceAdd, Nat.reduceLeDiff, Nat.zero_le, Nat.le_refl, true_and, and_true, Int.toNat_natCast, Int.reduceToNat, Int.reduceEq, false_implies, true_implies, Int.reduceNeg, Int.cast_ofNat_Int, reduceIte, Int.reduceLT, Int.reduceLE, true_or, or_true, not_true_eq_false, not_false_eq_true, implies_true]
  have e14 : uF F 0 0 14 = (q : Int) := by rw [uF_ne (by omega)]; exact hF
  refine ⟨fun hz => ?_, fun hz => ?_⟩
  · refine tG_at hd kMod_byHand_27 ?_
    simp only [bMod_byHand_27, rn, sm, lg, lt_, cmpP, tk, pr_, pu, swl, cs, Nat.reduceAdd, Nat.reduceLeDiff, Nat.zero_le, Nat.le_refl, true_and, and_true, Int.toNat_natCast, Int.reduceToNat, Int.reduceEq, false_implies, true_implies, Int.reduceNeg, Int.cast_ofNat_Int]
    have := hq h' c' (cpi (fl X.1 X.2.1 X.2.2) K 2226) S H' q Y (fun h => absurd hz (by omega)) (fun _ => ⟨rfl, rfl⟩) hS
    rw [show uF (uF F 0 0) 14 (q : Int) = uF F 0 0 from funext fun j => by by_cases hj : j = 14 <;> simp [uF, hj, hF]] at this
    exact this
  · refine tG_at hd kMod_byHand_23 ?_
    simp (disch := omega) only [bMod_byHand_23, rn, sm, lg, lt_, cmpP, tk, pr_, pu, swl, cs, Nat.reduceAdd, Nat.reduceLeDiff, Nat.zero_le, Nat.le_refl, true_and, and_true, Int.toNat_natCast, Int.reduceToNat, Int.reduceEq, false_implies, true_implies, Int.reduceNeg, Int.cast_ofNat_Int, mS_0, mS_1, mS_2, mS_3, mS_4, mS_5, mS_u0, mS_u1, mS_u2, mS_u3, mS_u4, mS_u5, g0, g1, g2, g3, g4, g5, l1, l2, l3, l5, p1, p2, p3, p4, p5, sn_0, sn_9, at_0, at_9, fl_sn, fl_at, fl_usn, fl_uat, fl_a, fl_ua, reduceIte, Nat.reduceEqDiff, true_or, or_true, Int.reduceLE, Int.reduceLT, wr_s, wn_1, wn_2, wn_5, wn_6, wn_8, wn_12, wn_14, wn_18, wn_24, wn_30, wn_32, wn_38, wn_44, FF_15, FF_16, FF_u, FF_ne, FF_r15, FF_r16, uF_at, uF_ne, not_true_eq_false, not_false_eq_true, implies_true]
    refine c_snap (by omega) hM0.FF hq10 (by rw [FF_ne (by omega) (by omega)]; exact e14) (X := X) hS (fun j hj => if_pos hj) (fun S' hS' => ?_)
    refine tG_at hd kMod_byHand_27 ?_
    simp only [bMod_byHand_27, rn, sm, lg, lt_, cmpP, tk, pr_, pu, swl, cs, Nat.reduceAdd, Nat.reduceLeDiff, Nat.zero_le, Nat.le_refl, true_and, and_true, Int.toNat_natCast, Int.reduceToNat, Int.reduceEq, false_implies, true_implies, Int.reduceNeg, Int.cast_ofNat_Int]
    rw [FF_u (by omega) (by omega)]
    exact hq _ _ _ _ _ _ _ (fun _ => ⟨rfl, rfl⟩) (fun h => absurd hz (by omega)) hS'
end MD
