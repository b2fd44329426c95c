noncomputable def wldF (n k : Nat) (X : NT) (a b : Int) : Int :=
  if fst_ X.2.2 a b 0 k = -1 then -1
  else if (delF n (fst_ X.2.2 a b 0 k).toNat X).2.2.2 ≠ -1 then 1
  else if (delF n (fst_ X.2.2 a b 0 k).toNat X).2.2.1 ≠ 0 then 2
  else if X.1 1 < (delF n (fst_ X.2.2 a b 0 k).toNat X).2.1.1 1 then 3 else 0
noncomputable def sooF (n m : Nat) : Nat → Nat → NT → Int
  | 0, i, X => if X.2.1 m 3 = 0 then -2 else (i : Int)
  | r + 1, i, X => if X.2.1 m 3 = 0 then (if (onceF n X).1 = 0 then -2 else sooF n m r (i + 1) (onceF n X).2.1) else (i : Int)
noncomputable def ordF (n : Nat) : Nat → Int → NT → Int
  | 0, _, _ => -1
  | r + 1, l, X => if (onceF n X).1 = 0 then -1 else if (onceF n X).2.2.2 = -1 then ordF n r l (onceF n X).2.1 else if l = 0 then (onceF n X).2.2.2 else ordF n r (l - 1) (onceF n X).2.1
theorem levF_o {n m i : Nat} {X : NT} {h c : Int} (hi : i ≠ m) : (levF n m X h c).2.1.2.1 i = X.2.1 i := by
  unfold levF handF
  split
  · split
    · exact (uR_ne hi).trans (uR_ne hi)
    · exact (uR_ne hi).trans (uR_ne hi)
  · exact uR_ne hi
theorem lvF_3 {n m : Nat} {X : NT} (h : X.2.1 m 3 = 0) : ∀ i, (lvF n i X).2.1 m 3 = 0
  | 0 => h
  | i + 1 => by
    have ih := lvF_3 (n := n) h i
    unfold lvF
    split
    · next h1 =>
      by_cases hm : m = i
      · subst hm; omega
      · rw [levF_o hm]; exact ih
    · exact ih
theorem onceF_01 {n : Nat} {X : NT} : (onceF n X).1 = 0 ∨ (onceF n X).1 = 1 := by
  unfold onceF
  split
  · exact Or.inl rfl
  · exact Or.inr rfl
theorem onceF_3 {n m : Nat} {X : NT} (h : X.2.1 m 3 = 0) (h0 : (onceF n X).1 = 0) : (onceF n X).2.1.2.1 m 3 = 0 := by
  unfold onceF at h0 ⊢
  split
  · exact lvF_3 h n
  · next h1 => rw [if_neg h1] at h0; exact absurd h0 (by decide : ¬ (1 : Int) = 0)
section MD
variable {w : WP} {d : Nat} {Γ : GM} {V : VH} {Q : QT} {M : Nat} {F T N K S H : Nat → Int} {h c : Int} {n k W : Nat} {X : NT}
theorem c_refuse (hd : 4 ≤ d) (hM : ML Γ M F) (hq : Q (some (.inl 0)) Γ (mS V M (uF F 0 1) T N K S H)) : tC w d nMod_refuse [.inr (.inl M)] Γ (mS V M F T N K S H) Q := by
  obtain ⟨⟨g0, g1, g2, g3, g4, g5⟩, ⟨l1, l2, l3, -, l5⟩, p1, p2, p3, p4, p5⟩ := id hM
  refine tC_enter (nL := 1) (by decide +kernel) (by decide +kernel) rfl (Nat.le_of_ble_eq_true rfl) (fun hok => ?_)
  simp only [ent]
  refine tG_at hd kMod_refuse_0 ?_
  simp (disch := omega) only [bMod_refuse_0, rn, sm, lg, lt_, cmpP, tk, pr_, pu, swl, cs, Nat.reduceAdd, Nat.reduceLeDiff, Nat.zero_le, Nat.le_refl, true_and, and_true, Int.toNat_natCast, Int.reduceToNat, Int.reduceEq, false_implies, true_implies, Int.reduceNeg, Int.cast_ofNat_Int, mS_u0, g0]
  exact hq
theorem c_thrown (hd : 4 ≤ d) (hM : ML Γ M F) (hq : Q (some (.inl (F 0))) Γ (mS V M F T N K S H)) : tC w d nMod_thrown [.inr (.inl M)] Γ (mS V M F T N K S H) Q := by
  obtain ⟨⟨g0, g1, g2, g3, g4, g5⟩, ⟨l1, l2, l3, -, l5⟩, p1, p2, p3, p4, p5⟩ := id hM
  refine tC_enter (nL := 1) (by decide +kernel) (by decide +kernel) rfl (Nat.le_of_ble_eq_true rfl) (fun hok => ?_)
  simp only [ent]
  refine tG_at hd kMod_thrown_0 ?_
  simp (disch := omega) only [bMod_thrown_0, rn, sm, lg, lt_, cmpP, tk, pr_, pu, swl, cs, Nat.reduceAdd, Nat.reduceLeDiff, Nat.zero_le, Nat.le_refl, true_and, and_true, Int.toNat_natCast, Int.reduceToNat, Int.reduceEq, false_implies, true_implies, Int.reduceNeg, Int.cast_ofNat_Int, mS_0, g0]
  exact hq
theorem c_fault (hd : 4 ≤ d) (hM : ML Γ M F) (hq : Q (some (.inl (F 8))) Γ (mS V M (uF F 0 0) T N K S H)) : tC w d nMod_fault [.inr (.inl M)] Γ (mS V M F T N K S H) Q := by
  obtain ⟨⟨g0, g1, g2, g3, g4, g5⟩, ⟨l1, l2, l3, -, l5⟩, p1, p2, p3, p4, p5⟩ := id hM
  refine tC_enter (nL := 1) (by decide +kernel) (by decide +kernel) rfl (Nat.le_of_ble_eq_true rfl) (fun hok => ?_)
  simp only [ent]
  refine tG_at hd kMod_fault_0 ?_
  simp (disch := omega) only [bMod_fault_0, rn, sm, lg, lt_, cmpP, tk, pr_, pu, swl, cs, Nat.reduceAdd, Nat.reduceLeDiff, Nat.zero_le, Nat.le_refl, true_and, and_true, Int.toNat_natCast, Int.reduceToNat, Int.reduceEq, false_implies, true_implies, Int.reduceNeg, Int.cast_ofNat_Int, mS_0, mS_u0, g0, uF_ne]
  exact hq
theorem c_end (hd : 4 ≤ d) (hM : ML Γ M F) {L : Nat} (hF2 : F 2 = (L : Int)) {x : Int} (hq : if 0 ≤ x ∧ x ≤ L then Q (some (.inl 1)) Γ (mS V M (uF (uF F 0 0) 2 x) T N K S H) else Q (some (.inl 0)) Γ (mS V M (uF F 0 0) T N K S H)) : tC w d nMod_end [.inr (.inl M), .inl x] Γ (mS V M F T N K S H) Q := by
  obtain ⟨⟨g0, g1, g2, g3, g4, g5⟩, ⟨l1, l2, l3, -, l5⟩, p1, p2, p3, p4, p5⟩ := id hM
  refine tC_enter (nL := 2) (by decide +kernel) (by decide +kernel) rfl (Nat.le_of_ble_eq_true rfl) (fun hok => ?_)
  simp only [ent]
  have no : ¬ (0 ≤ x ∧ x ≤ L) → tG w d nMod_end 17 [some (.inr (.inl M)), some (.inl x)] [] Γ (mS V M (uF F 0 0) T N K S H) 0 0 Q := by
    intro hno
    rw [if_neg hno] at hq
    refine tG_at hd kMod_end_17 ?_
    simp only [bMod_end_17, rn, sm, lg, lt_, cmpP, tk, pr_, pu, swl, cs, Nat.reduceAdd, Nat.reduceLeDiff, Nat.zero_le, Nat.le_refl, true_and, and_true, Int.toNat_natCast, Int.reduceToNat, Int.reduceEq, false_implies, true_implies, Int.reduceNeg, Int.cast_ofNat_Int]
    exact ⟨Or.inl trivial, hq⟩
  refine tG_at hd kMod_end_0 ?_
  simp (disch := omega) only [bMod_end_0, rn, sm, lg, lt_, cmpP, tk, pr_, pu, swl, cs, Nat.reduceAdd, Nat.reduceLeDiff, Nat.zero_le, Nat.le_refl, true_and, and_true, Int.toNat_natCast, Int.reduceToNat, Int.reduceEq, false_implies, true_implies, Int.reduceNeg, Int.cast_ofNat_Int, mS_0, mS_u0, g0, uF_ne]
  refine ⟨fun hz => no (by omega), fun hz => ?_⟩
  refine tG_at hd kMod_end_9 ?_
  simp (disch := omega) only [bMod_end_9, rn, sm, lg, lt_, cmpP, tk, pr_, pu, swl, cs, Nat.reduceAdd, Nat.reduceLeDiff, Nat.zero_le, Nat.le_refl, true_and, and_true, Int.toNat_natCast, Int.reduceToNat, Int.reduceEq, false_implies, true_implies, Int.reduceNeg, Int.cast_ofNat_Int, mS_0, mS_u0, g0, uF_ne, hF2]
  refine ⟨fun hz2 => ?_, fun hz2 => no (by omega)⟩
  rw [if_pos (by omega)] at hq
  refine tG_at hd kMod_end_19 ?_
  simp (disch := omega) only [bMod_end_19, rn, sm, lg, lt_, cmpP, tk, pr_, pu, swl, cs, Nat.reduceAdd, Nat.reduceLeDiff, Nat.zero_le, Nat.le_refl, true_and, and_true, Int.toNat_natCast, Int.reduceToNat, Int.reduceEq, false_implies, true_implies, Int.reduceNeg, Int.cast_ofNat_Int, mS_0, mS_u0, g0]
  exact ⟨Or.inr trivial, hq⟩
theorem c_member (hd5 : 5 ≤ d) (hM : ML Γ M F) (g : GJ n k W X) {m x : Int} (hq : if memO n m x then Q (some (.inl (memV (X.2.1 m.toNat) m.toNat x))) Γ (mS V M (uF F 0 0) T (fl X.1 X.2.1 X.2.2) K S H) else Q (some (.inl 0)) Γ (mS V M (uF F 0 1) T (fl X.1 X.2.1 X.2.2) K S H)) : tC w d nMod_member [.inr (.inl M), .inl m, .inl x] Γ (mS V M F T (fl X.1 X.2.1 X.2.2) K S H) Q := by
  have hd : 4 ≤ d := by omega
  obtain ⟨n0, n5, hn2, hn6, hk41, hW⟩ := g.1.A
  have hM0 : ML Γ M (uF F 0 0) := hM.uF (by omega)
  obtain ⟨⟨g0, g1, g2, g3, g4, g5⟩, ⟨l1, l2, l3, -, l5⟩, p1, p2, p3, p4, p5⟩ := id hM
  refine tC_enter (nL := 4) (by decide +kernel) (by decide +kernel) rfl (Nat.le_of_ble_eq_true rfl) (fun hok => ?_)
  simp only [ent]
  have okx := ok_i (x := x) hok (by simp)
  have key : ∀ by_ : Int, (by_ = 0 ∨ by_ = 1) → (by_ = 1 ↔ (10 ≤ x ∧ x < 40 ∧ x % 10 < n)) → tG w d nMod_member 33 [some (.inr (.inl M)), some (.inl m), some (.inl x), none] [.inl by_] Γ (mS V M (uF F 0 0) T (fl X.1 X.2.1 X.2.2) K S H) 0 0 Q := by
    intro by_ hb01 hby
    have no : ¬ memO n m x → tG w d nMod_member 56 [some (.inr (.inl M)), some (.inl m), some (.inl x), some (.inl by_)] [] Γ (mS V M (uF F 0 0) T (fl X.1 X.2.1 X.2.2) K S H) 0 0 Q := by
      intro hno
      rw [if_neg hno] at hq
      refine tG_at hd kMod_member_56 ?_
      simp (disch := omega) only [bMod_member_56, rn, sm, lg, lt_, cmpP, tk, pr_, pu, swl, cs, Nat.reduceAdd, Nat.reduceLeDiff, Nat.zero_le, Nat.le_refl, true_and, and_true, Int.toNat_natCast, Int.reduceToNat, Int.reduceEq, false_implies, true_implies, Int.reduceNeg, Int.cast_ofNat_Int, mS_0, mS_1, mS_2, mS_3, mS_4, mS_5, mS_u0, mS_u1, mS_u2, mS_u3, mS_u4, mS_u5, g0, g1, g2, g3, g4, g5, l1, l2, l3, l5, p1, p2, p3, p4, p5, sn_0, sn_9, at_0, at_9, fl_sn, fl_at, fl_usn, fl_uat, fl_a, fl_ua, reduceIte, Nat.reduceEqDiff, true_or, or_true, Int.reduceLE, Int.reduceLT, wr_s, wn_1, wn_2, wn_5, wn_6, wn_8, wn_12, wn_14, wn_18, wn_24, wn_30, wn_32, wn_38, wn_44, FF_15, FF_16, FF_u, FF_ne, FF_r15, FF_r16, uF_at, uF_ne, not_true_eq_false, not_false_eq_true, implies_true]
      refine c_refuse (by omega) hM0 ?_
      rw [show uF (uF F 0 0) 0 1 = uF F 0 1 from funext fun j => by by_cases hj : j = 0 <;> simp [uF, hj]]
      refine tG_at hd kMod_member_60 ?_
      simp only [bMod_member_60, rn, sm, lg, lt_, cmpP, tk, pr_, pu, swl, cs, Nat.reduceAdd, Nat.reduceLeDiff, Nat.zero_le, Nat.le_refl, true_and, and_true, Int.toNat_natCast, Int.reduceToNat, Int.reduceEq, false_implies, true_implies, Int.reduceNeg, Int.cast_ofNat_Int]
      exact hq
    have yes : memO n m x → tG w d nMod_member 61 [some (.inr (.inl M)), some (.inl m), some (.inl x), some (.inl by_)] [] Γ (mS V M (uF F 0 0) T (fl X.1 X.2.1 X.2.2) K S H) 0 0 Q := by
      intro hye
      rw [if_pos hye] at hq
      obtain ⟨i, rfl⟩ : ∃ i : Nat, m = (i : Int) := ⟨m.toNat, by have := hye.1; omega⟩
      have hi : i < n := by have := hye.1; omega
      have hx2 := hye.2
      rw [Int.toNat_natCast] at hq
      refine tG_at hd kMod_member_61 ?_
      simp only [bMod_member_61, rn, sm, lg, lt_, cmpP, tk, pr_, pu, swl, cs, Nat.reduceAdd, Nat.reduceLeDiff, Nat.zero_le, Nat.le_refl, true_and, and_true, Int.toNat_natCast, Int.reduceToNat, Int.reduceEq, false_implies, true_implies, Int.reduceNeg, Int.cast_ofNat_Int]
      refine ⟨fun hz => ?_, fun hz => ?_, fun hz => ?_, fun hz => ?_, fun hz => ?_, fun hz => ?_, fun hz => ?_, fun hz => ?_, fun hz => ?_, fun hz => ?_⟩
      · have h10 : 10 ≤ x ∧ x < 40 ∧ x % 10 < n := by omega
        obtain ⟨v, hv⟩ : ∃ v : Nat, x % 10 = (v : Int) := ⟨(x % 10).toNat, by omega⟩
        unfold memV at hq
        rw [if_neg (by omega), if_neg (by omega), if_neg (by omega), if_neg (by omega), if_neg (by omega), if_neg (by omega), if_neg (by omega), if_neg (by omega), if_neg (by omega), hv, Int.toNat_natCast] at hq
        have hr : bRem x 10 = (v : Int) := by rw [bRem_10 (by omega) (by omega), hv]
        refine tG_at hd kMod_member_182 ?_
        simp (disch := omega) only [bMod_member_182, rn, sm, lg, lt_, cmpP, tk, pr_, pu, swl, cs, Nat.reduceAdd, Nat.reduceLeDiff, Nat.zero_le, Nat.le_refl, true_and, and_true, Int.toNat_natCast, Int.reduceToNat, Int.reduceEq, false_implies, true_implies, Int.reduceNeg, Int.cast_ofNat_Int, mS_0, mS_1, mS_2, mS_3, mS_4, mS_5, mS_u0, mS_u1, mS_u2, mS_u3, mS_u4, mS_u5, g0, g1, g2, g3, g4, g5, l1, l2, l3, l5, p1, p2, p3, p4, p5, sn_0, sn_9, at_0, at_9, fl_sn, fl_at, fl_usn, fl_uat, fl_a, fl_ua, reduceIte, Nat.reduceEqDiff, true_or, or_true, Int.reduceLE, Int.reduceLT, wr_s, wn_1, wn_2, wn_5, wn_6, wn_8, wn_12, wn_14, wn_18, wn_24, wn_30, wn_32, wn_38, wn_44, FF_15, FF_16, FF_u, FF_ne, FF_r15, FF_r16, uF_at, uF_ne, not_true_eq_false, not_false_eq_true, implies_true]
        refine ⟨fun h20 => ?_, fun h20 => ?_⟩
        · refine tG_at hd kMod_member_195 ?_
          simp only [bMod_member_195, rn, sm, lg, lt_, cmpP, tk, pr_, pu, swl, cs, Nat.reduceAdd, Nat.reduceLeDiff, Nat.zero_le, Nat.le_refl, true_and, and_true, Int.toNat_natCast, Int.reduceToNat, Int.reduceEq, false_implies, true_implies, Int.reduceNeg, Int.cast_ofNat_Int]
          refine ⟨fun h30 => ?_, fun h30 => ?_⟩
          · rw [if_neg (by omega), if_neg (by omega)] at hq
            refine tG_at hd kMod_member_206 ?_
            simp only [bMod_member_206, rn, sm, lg, lt_, cmpP, tk, pr_, pu, swl, cs, Nat.reduceAdd, Nat.reduceLeDiff, Nat.zero_le, Nat.le_refl, true_and, and_true, Int.toNat_natCast, Int.reduceToNat, Int.reduceEq, false_implies, true_implies, Int.reduceNeg, Int.cast_ofNat_Int]
            refine tG_at hd kMod_member_208 ?_
            simp (disch := omega) only [bMod_member_208, rn, sm, lg, lt_, cmpP, tk, pr_, pu, swl, cs, Nat.reduceAdd, Nat.reduceLeDiff, Nat.zero_le, Nat.le_refl, true_and, and_true, Int.toNat_natCast, Int.reduceToNat, Int.reduceEq, false_implies, true_implies, Int.reduceNeg, Int.cast_ofNat_Int, mS_0, mS_1, mS_2, mS_3, mS_4, mS_5, mS_u0, mS_u1, mS_u2, mS_u3, mS_u4, mS_u5, g0, g1, g2, g3, g4, g5, l1, l2, l3, l5, p1, p2, p3, p4, p5, sn_0, sn_9, at_0, at_9, fl_sn, fl_at, fl_usn, fl_uat, fl_a, fl_ua, reduceIte, Nat.reduceEqDiff, true_or, or_true, Int.reduceLE, Int.reduceLT, wr_s, wn_1, wn_2, wn_5, wn_6, wn_8, wn_12, wn_14, wn_18, wn_24, wn_30, wn_32, wn_38, wn_44, FF_15, FF_16, FF_u, FF_ne, FF_r15, FF_r16, uF_at, uF_ne, not_true_eq_false, not_false_eq_true, implies_true, hr, ne_eq, Int.reduceEq]
            exact hq
          · rw [if_neg (by omega), if_pos (by omega)] at hq
            refine tG_at hd kMod_member_201 ?_
            simp only [bMod_member_201, rn, sm, lg, lt_, cmpP, tk, pr_, pu, swl, cs, Nat.reduceAdd, Nat.reduceLeDiff, Nat.zero_le, Nat.le_refl, true_and, and_true, Int.toNat_natCast, Int.reduceToNat, Int.reduceEq, false_implies, true_implies, Int.reduceNeg, Int.cast_ofNat_Int]
            refine tG_at hd kMod_member_208 ?_
            simp (disch := omega) only [bMod_member_208, rn, sm, lg, lt_, cmpP, tk, pr_, pu, swl, cs, Nat.reduceAdd, Nat.reduceLeDiff, Nat.zero_le, Nat.le_refl, true_and, and_true, Int.toNat_natCast, Int.reduceToNat, Int.reduceEq, false_implies, true_implies, Int.reduceNeg, Int.cast_ofNat_Int, mS_0, mS_1, mS_2, mS_3, mS_4, mS_5, mS_u0, mS_u1, mS_u2, mS_u3, mS_u4, mS_u5, g0, g1, g2, g3, g4, g5, l1, l2, l3, l5, p1, p2, p3, p4, p5, sn_0, sn_9, at_0, at_9, fl_sn, fl_at, fl_usn, fl_uat, fl_a, fl_ua, reduceIte, Nat.reduceEqDiff, true_or, or_true, Int.reduceLE, Int.reduceLT, wr_s, wn_1, wn_2, wn_5, wn_6, wn_8, wn_12, wn_14, wn_18, wn_24, wn_30, wn_32, wn_38, wn_44, FF_15, FF_16, FF_u, FF_ne, FF_r15, FF_r16, uF_at, uF_ne, not_true_eq_false, not_false_eq_true, implies_true, hr, ne_eq, Int.reduceEq]
            exact hq
        · rw [if_pos (by omega)] at hq
          refine tG_at hd kMod_member_190 ?_
          simp only [bMod_member_190, rn, sm, lg, lt_, cmpP, tk, pr_, pu, swl, cs, Nat.reduceAdd, Nat.reduceLeDiff, Nat.zero_le, Nat.le_refl, true_and, and_true, Int.toNat_natCast, Int.reduceToNat, Int.reduceEq, false_implies, true_implies, Int.reduceNeg, Int.cast_ofNat_Int]
          refine tG_at hd kMod_member_208 ?_
          simp (disch := omega) only [bMod_member_208, rn, sm, lg, lt_, cmpP, tk, pr_, pu, swl, cs, Nat.reduceAdd, Nat.reduceLeDiff, Nat.zero_le, Nat.le_refl, true_and, and_true, Int.toNat_natCast, Int.reduceToNat, Int.reduceEq, false_implies, true_implies, Int.reduceNeg, Int.cast_ofNat_Int, mS_0, mS_1, mS_2, mS_3, mS_4, mS_5, mS_u0, mS_u1, mS_u2, mS_u3, mS_u4, mS_u5, g0, g1, g2, g3, g4, g5, l1, l2, l3, l5, p1, p2, p3, p4, p5, sn_0, sn_9, at_0, at_9, fl_sn, fl_at, fl_usn, fl_uat, fl_a, fl_ua, reduceIte, Nat.reduceEqDiff, true_or, or_true, Int.reduceLE, Int.reduceLT, wr_s, wn_1, wn_2, wn_5, wn_6, wn_8, wn_12, wn_14, wn_18, wn_24, wn_30, wn_32, wn_38, wn_44, FF_15, FF_16, FF_u, FF_ne, FF_r15, FF_r16, uF_at, uF_ne, not_true_eq_false, not_false_eq_true, implies_true, hr, ne_eq, Int.reduceEq]
          exact hq
      all_goals (first | subst hz | (have hz' : x = _ := hz; subst hz'))
      all_goals simp only [memV, Int.reduceAdd, Int.reduceEq, reduceIte] at hq
      · refine tG_at hd kMod_member_112 ?_
        simp (disch := omega) only [bMod_member_112, rn, sm, lg, lt_, cmpP, tk, pr_, pu, swl, cs, Nat.reduceAdd, Nat.reduceLeDiff, Nat.zero_le, Nat.le_refl, true_and, and_true, Int.toNat_natCast, Int.reduceToNat, Int.reduceEq, false_implies, true_implies, Int.reduceNeg, Int.cast_ofNat_Int, mS_0, mS_1, mS_2, mS_3, mS_4, mS_5, mS_u0, mS_u1, mS_u2, mS_u3, mS_u4, mS_u5, g0, g1, g2, g3, g4, g5, l1, l2, l3, l5, p1, p2, p3, p4, p5, sn_0, sn_9, at_0, at_9, fl_sn, fl_at, fl_usn, fl_uat, fl_a, fl_ua, reduceIte, Nat.reduceEqDiff, true_or, or_true, Int.reduceLE, Int.reduceLT, wr_s, wn_1, wn_2, wn_5, wn_6, wn_8, wn_12, wn_14, wn_18, wn_24, wn_30, wn_32, wn_38, wn_44, FF_15, FF_16, FF_u, FF_ne, FF_r15, FF_r16, uF_at, uF_ne, not_true_eq_false, not_false_eq_true, implies_true]
        exact hq
      · refine tG_at hd kMod_member_122 ?_
        simp (disch := omega) only [bMod_member_122, rn, sm, lg, lt_, cmpP, tk, pr_, pu, swl, cs, Nat.reduceAdd, Nat.reduceLeDiff, Nat.zero_le, Nat.le_refl, true_and, and_true, Int.toNat_natCast, Int.reduceToNat, Int.reduceEq, false_implies, true_implies, Int.reduceNeg, Int.cast_ofNat_Int, mS_0, mS_1, mS_2, mS_3, mS_4, mS_5, mS_u0, mS_u1, mS_u2, mS_u3, mS_u4, mS_u5, g0, g1, g2, g3, g4, g5, l1, l2, l3, l5, p1, p2, p3, p4, p5, sn_0, sn_9, at_0, at_9, fl_sn, fl_at, fl_usn, fl_uat, fl_a, fl_ua, reduceIte, Nat.reduceEqDiff, true_or, or_true, Int.reduceLE, Int.reduceLT, wr_s, wn_1, wn_2, wn_5, wn_6, wn_8, wn_12, wn_14, wn_18, wn_24, wn_30, wn_32, wn_38, wn_44, FF_15, FF_16, FF_u, FF_ne, FF_r15, FF_r16, uF_at, uF_ne, not_true_eq_false, not_false_eq_true, implies_true]
        exact hq
      · refine tG_at hd kMod_member_132 ?_
        simp (disch := omega) only [bMod_member_132, rn, sm, lg, lt_, cmpP, tk, pr_, pu, swl, cs, Nat.reduceAdd, Nat.reduceLeDiff, Nat.zero_le, Nat.le_refl, true_and, and_true, Int.toNat_natCast, Int.reduceToNat, Int.reduceEq, false_implies, true_implies, Int.reduceNeg, Int.cast_ofNat_Int, mS_0, mS_1, mS_2, mS_3, mS_4, mS_5, mS_u0, mS_u1, mS_u2, mS_u3, mS_u4, mS_u5, g0, g1, g2, g3, g4, g5, l1, l2, l3, l5, p1, p2, p3, p4, p5, sn_0, sn_9, at_0, at_9, fl_sn, fl_at, fl_usn, fl_uat, fl_a, fl_ua, reduceIte, Nat.reduceEqDiff, true_or, or_true, Int.reduceLE, Int.reduceLT, wr_s, wn_1, wn_2, wn_5, wn_6, wn_8, wn_12, wn_14, wn_18, wn_24, wn_30, wn_32, wn_38, wn_44, FF_15, FF_16, FF_u, FF_ne, FF_r15, FF_r16, uF_at, uF_ne, not_true_eq_false, not_false_eq_true, implies_true]
        exact hq
      · refine tG_at hd kMod_member_139 ?_
        simp (disch := omega) only [bMod_member_139, rn, sm, lg, lt_, cmpP, tk, pr_, pu, swl, cs, Nat.reduceAdd, Nat.reduceLeDiff, Nat.zero_le, Nat.le_refl, true_and, and_true, Int.toNat_natCast, Int.reduceToNat, Int.reduceEq, false_implies, true_implies, Int.reduceNeg, Int.cast_ofNat_Int, mS_0, mS_1, mS_2, mS_3, mS_4, mS_5, mS_u0, mS_u1, mS_u2, mS_u3, mS_u4, mS_u5, g0, g1, g2, g3, g4, g5, l1, l2, l3, l5, p1, p2, p3, p4, p5, sn_0, sn_9, at_0, at_9, fl_sn, fl_at, fl_usn, fl_uat, fl_a, fl_ua, reduceIte, Nat.reduceEqDiff, true_or, or_true, Int.reduceLE, Int.reduceLT, wr_s, wn_1, wn_2, wn_5, wn_6, wn_8, wn_12, wn_14, wn_18, wn_24, wn_30, wn_32, wn_38, wn_44, FF_15, FF_16, FF_u, FF_ne, FF_r15, FF_r16, uF_at, uF_ne, not_true_eq_false, not_false_eq_true, implies_true]
        exact hq
      · refine tG_at hd kMod_member_146 ?_
        simp (disch := omega) only [bMod_member_146, rn, sm, lg, lt_, cmpP, tk, pr_, pu, swl, cs, Nat.reduceAdd, Nat.reduceLeDiff, Nat.zero_le, Nat.le_refl, true_and, and_true, Int.toNat_natCast, Int.reduceToNat, Int.reduceEq, false_implies, true_implies, Int.reduceNeg, Int.cast_ofNat_Int, mS_0, mS_1, mS_2, mS_3, mS_4, mS_5, mS_u0, mS_u1, mS_u2, mS_u3, mS_u4, mS_u5, g0, g1, g2, g3, g4, g5, l1, l2, l3, l5, p1, p2, p3, p4, p5, sn_0, sn_9, at_0, at_9, fl_sn, fl_at, fl_usn, fl_uat, fl_a, fl_ua, reduceIte, Nat.reduceEqDiff, true_or, or_true, Int.reduceLE, Int.reduceLT, wr_s, wn_1, wn_2, wn_5, wn_6, wn_8, wn_12, wn_14, wn_18, wn_24, wn_30, wn_32, wn_38, wn_44, FF_15, FF_16, FF_u, FF_ne, FF_r15, FF_r16, uF_at, uF_ne, not_true_eq_false, not_false_eq_true, implies_true]
        exact hq
      · refine tG_at hd kMod_member_153 ?_
        simp (disch := omega) only [bMod_member_153, rn, sm, lg, lt_, cmpP, tk, pr_, pu, swl, cs, Nat.reduceAdd, Nat.reduceLeDiff, Nat.zero_le, Nat.le_refl, true_and, and_true, Int.toNat_natCast, Int.reduceToNat, Int.reduceEq, false_implies, true_implies, Int.reduceNeg, Int.cast_ofNat_Int, mS_0, mS_1, mS_2, mS_3, mS_4, mS_5, mS_u0, mS_u1, mS_u2, mS_u3, mS_u4, mS_u5, g0, g1, g2, g3, g4, g5, l1, l2, l3, l5, p1, p2, p3, p4, p5, sn_0, sn_9, at_0, at_9, fl_sn, fl_at, fl_usn, fl_uat, fl_a, fl_ua, reduceIte, Nat.reduceEqDiff, true_or, or_true, Int.reduceLE, Int.reduceLT, wr_s, wn_1, wn_2, wn_5, wn_6, wn_8, wn_12, wn_14, wn_18, wn_24, wn_30, wn_32, wn_38, wn_44, FF_15, FF_16, FF_u, FF_ne, FF_r15, FF_r16, uF_at, uF_ne, not_true_eq_false, not_false_eq_true, implies_true]
        exact hq
      · refine tG_at hd kMod_member_160 ?_
        simp (disch := omega) only [bMod_member_160, rn, sm, lg, lt_, cmpP, tk, pr_, pu, swl, cs, Nat.reduceAdd, Nat.reduceLeDiff, Nat.zero_le, Nat.le_refl, true_and, and_true, Int.toNat_natCast, Int.reduceToNat, Int.reduceEq, false_implies, true_implies, Int.reduceNeg, Int.cast_ofNat_Int, mS_0, mS_1, mS_2, mS_3, mS_4, mS_5, mS_u0, mS_u1, mS_u2, mS_u3, mS_u4, mS_u5, g0, g1, g2, g3, g4, g5, l1, l2, l3, l5, p1, p2, p3, p4, p5, sn_0, sn_9, at_0, at_9, fl_sn, fl_at, fl_usn, fl_uat, fl_a, fl_ua, reduceIte, Nat.reduceEqDiff, true_or, or_true, Int.reduceLE, Int.reduceLT, wr_s, wn_1, wn_2, wn_5, wn_6, wn_8, wn_12, wn_14, wn_18, wn_24, wn_30, wn_32, wn_38, wn_44, FF_15, FF_16, FF_u, FF_ne, FF_r15, FF_r16, uF_at, uF_ne, not_true_eq_false, not_false_eq_true, implies_true]
        exact hq
      · refine tG_at hd kMod_member_168 ?_
        simp (disch := omega) only [bMod_member_168, rn, sm, lg, lt_, cmpP, tk, pr_, pu, swl, cs, Nat.reduceAdd, Nat.reduceLeDiff, Nat.zero_le, Nat.le_refl, true_and, and_true, Int.toNat_natCast, Int.reduceToNat, Int.reduceEq, false_implies, true_implies, Int.reduceNeg, Int.cast_ofNat_Int, mS_0, mS_1, mS_2, mS_3, mS_4, mS_5, mS_u0, mS_u1, mS_u2, mS_u3, mS_u4, mS_u5, g0, g1, g2, g3, g4, g5, l1, l2, l3, l5, p1, p2, p3, p4, p5, sn_0, sn_9, at_0, at_9, fl_sn, fl_at, fl_usn, fl_uat, fl_a, fl_ua, reduceIte, Nat.reduceEqDiff, true_or, or_true, Int.reduceLE, Int.reduceLT, wr_s, wn_1, wn_2, wn_5, wn_6, wn_8, wn_12, wn_14, wn_18, wn_24, wn_30, wn_32, wn_38, wn_44, FF_15, FF_16, FF_u, FF_ne, FF_r15, FF_r16, uF_at, uF_ne, not_true_eq_false, not_false_eq_true, implies_true]
        exact hq
      · refine tG_at hd kMod_member_175 ?_
        simp (disch := omega) only [bMod_member_175, rn, sm, lg, lt_, cmpP, tk, pr_, pu, swl, cs, Nat.reduceAdd, Nat.reduceLeDiff, Nat.zero_le, Nat.le_refl, true_and, and_true, Int.toNat_natCast, Int.reduceToNat, Int.reduceEq, false_implies, true_implies, Int.reduceNeg, Int.cast_ofNat_Int, mS_0, mS_1, mS_2, mS_3, mS_4, mS_5, mS_u0, mS_u1, mS_u2, mS_u3, mS_u4, mS_u5, g0, g1, g2, g3, g4, g5, l1, l2, l3, l5, p1, p2, p3, p4, p5, sn_0, sn_9, at_0, at_9, fl_sn, fl_at, fl_usn, fl_uat, fl_a, fl_ua, reduceIte, Nat.reduceEqDiff, true_or, or_true, Int.reduceLE, Int.reduceLT, wr_s, wn_1, wn_2, wn_5, wn_6, wn_8, wn_12, wn_14, wn_18, wn_24, wn_30, wn_32, wn_38, wn_44, FF_15, FF_16, FF_u, FF_ne, FF_r15, FF_r16, uF_at, uF_ne, not_true_eq_false, not_false_eq_true, implies_true]
        exact hq
    refine tG_at hd kMod_member_33 ?_
    simp (disch := omega) only [bMod_member_33, rn, sm, lg, lt_, cmpP, tk, pr_, pu, swl, cs, Nat.reduceAdd, Nat.reduceLeDiff, Nat.zero_le, Nat.le_refl, true_and, and_true, Int.toNat_natCast, Int.reduceToNat, Int.reduceEq, false_implies, true_implies, Int.reduceNeg, Int.cast_ofNat_Int, mS_0, mS_1, mS_2, mS_3, mS_4, mS_5, mS_u0, mS_u1, mS_u2, mS_u3, mS_u4, mS_u5, g0, g1, g2, g3, g4, g5, l1, l2, l3, l5, p1, p2, p3, p4, p5, sn_0, sn_9, at_0, at_9, fl_sn, fl_at, fl_usn, fl_uat, fl_a, fl_ua, reduceIte, Nat.reduceEqDiff, true_or, or_true, Int.reduceLE, Int.reduceLT, wr_s, wn_1, wn_2, wn_5, wn_6, wn_8, wn_12, wn_14, wn_18, wn_24, wn_30, wn_32, wn_38, wn_44, FF_15, FF_16, FF_u, FF_ne, FF_r15, FF_r16, uF_at, uF_ne, not_true_eq_false, not_false_eq_true, implies_true, n0, wr_p]
    by_cases hm : 0 ≤ m ∧ m ≤ (n : Int) - 1
    · rw [bi_1 hm]
      refine ⟨fun h => absurd h (by decide), fun _ => ?_⟩
      refine tG_at hd kMod_member_42 ?_
      simp only [bMod_member_42, rn, sm, lg, lt_, cmpP, tk, pr_, pu, swl, cs, Nat.reduceAdd, Nat.reduceLeDiff, Nat.zero_le, Nat.le_refl, true_and, and_true, Int.toNat_natCast, Int.reduceToNat, Int.reduceEq, false_implies, true_implies, Int.reduceNeg, Int.cast_ofNat_Int]
      by_cases hx : 0 ≤ x ∧ x ≤ 8
      · rw [bi_1 hx]
        exact ⟨fun _ => yes ⟨by omega, Or.inl hx⟩, fun h => absurd (by decide) h⟩
      · rw [bi_0 hx]
        refine ⟨fun h => absurd rfl h, fun _ => ?_⟩
        refine tG_at hd kMod_member_52 ?_
        simp only [bMod_member_52, rn, sm, lg, lt_, cmpP, tk, pr_, pu, swl, cs, Nat.reduceAdd, Nat.reduceLeDiff, Nat.zero_le, Nat.le_refl, true_and, and_true, Int.toNat_natCast, Int.reduceToNat, Int.reduceEq, false_implies, true_implies, Int.reduceNeg, Int.cast_ofNat_Int]
        exact ⟨fun hz => yes ⟨by omega, Or.inr (hby.mp (by omega))⟩, fun hz => no (fun h => by have := hby.mpr (h.2.resolve_left hx); omega)⟩
    · rw [bi_0 hm]
      exact ⟨fun _ => no (fun h => by have := h.1; omega), fun h => absurd rfl h⟩
  have z : ¬ (10 ≤ x ∧ x < 40 ∧ x % 10 < n) → tG w d nMod_member 32 [some (.inr (.inl M)), some (.inl m), some (.inl x), none] [] Γ (mS V M (uF F 0 0) T (fl X.1 X.2.1 X.2.2) K S H) 0 0 Q := by
    intro hz
    refine tG_at hd kMod_member_32 ?_
    simp only [bMod_member_32, rn, sm, lg, lt_, cmpP, tk, pr_, pu, swl, cs, Nat.reduceAdd, Nat.reduceLeDiff, Nat.zero_le, Nat.le_refl, true_and, and_true, Int.toNat_natCast, Int.reduceToNat, Int.reduceEq, false_implies, true_implies, Int.reduceNeg, Int.cast_ofNat_Int]
    exact key 0 (Or.inl rfl) ⟨fun h => absurd h (by decide), fun h => absurd h hz⟩
  refine tG_at hd kMod_member_0 ?_
  simp (disch := omega) only [bMod_member_0, rn, sm, lg, lt_, cmpP, tk, pr_, pu, swl, cs, Nat.reduceAdd, Nat.reduceLeDiff, Nat.zero_le, Nat.le_refl, true_and, and_true, Int.toNat_natCast, Int.reduceToNat, Int.reduceEq, false_implies, true_implies, Int.reduceNeg, Int.cast_ofNat_Int, mS_u0, g0]
  refine ⟨fun hz => z (by omega), fun hz => ?_⟩
  refine tG_at hd kMod_member_11 ?_
  simp only [bMod_member_11, rn, sm, lg, lt_, cmpP, tk, pr_, pu, swl, cs, Nat.reduceAdd, Nat.reduceLeDiff, Nat.zero_le, Nat.le_refl, true_and, and_true, Int.toNat_natCast, Int.reduceToNat, Int.reduceEq, false_implies, true_implies, Int.reduceNeg, Int.cast_ofNat_Int]
  refine ⟨fun hz => z (by omega), fun hz2 => ?_⟩
  have hr : bRem x 10 = x % 10 := bRem_10 (by omega) (by omega)
  refine tG_at hd kMod_member_17 ?_
  simp (disch := omega) only [bMod_member_17, rn, sm, lg, lt_, cmpP, tk, pr_, pu, swl, cs, Nat.reduceAdd, Nat.reduceLeDiff, Nat.zero_le, Nat.le_refl, true_and, and_true, Int.toNat_natCast, Int.reduceToNat, Int.reduceEq, false_implies, true_implies, Int.reduceNeg, Int.cast_ofNat_Int, mS_0, mS_1, mS_2, mS_3, mS_4, mS_5, mS_u0, mS_u1, mS_u2, mS_u3, mS_u4, mS_u5, g0, g1, g2, g3, g4, g5, l1, l2, l3, l5, p1, p2, p3, p4, p5, sn_0, sn_9, at_0, at_9, fl_sn, fl_at, fl_usn, fl_uat, fl_a, fl_ua, reduceIte, Nat.reduceEqDiff, true_or, or_true, Int.reduceLE, Int.reduceLT, wr_s, wn_1, wn_2, wn_5, wn_6, wn_8, wn_12, wn_14, wn_18, wn_24, wn_30, wn_32, wn_38, wn_44, FF_15, FF_16, FF_u, FF_ne, FF_r15, FF_r16, uF_at, uF_ne, not_true_eq_false, not_false_eq_true, implies_true, hr, n0, wr_p, ne_eq, Int.reduceEq]
  by_cases hb : 0 ≤ x % 10 ∧ x % 10 ≤ (n : Int) - 1
  · rw [bi_1 hb]
    refine ⟨fun h => absurd h (by decide), fun _ => ?_⟩
    refine tG_at hd kMod_member_28 ?_
    simp only [bMod_member_28, rn, sm, lg, lt_, cmpP, tk, pr_, pu, swl, cs, Nat.reduceAdd, Nat.reduceLeDiff, Nat.zero_le, Nat.le_refl, true_and, and_true, Int.toNat_natCast, Int.reduceToNat, Int.reduceEq, false_implies, true_implies, Int.reduceNeg, Int.cast_ofNat_Int]
    exact key 1 (Or.inr rfl) ⟨fun _ => by omega, fun _ => rfl⟩
  · rw [bi_0 hb]
    exact ⟨fun _ => z (by omega), fun h => absurd rfl h⟩
end MD
