section MD
variable {w : WP} {d : Nat} {Γ : GM} {V : VH} {Q : QT} {M : Nat} {F T K S H A : Nat → Int} {B C : Nat → Nat → Int}
def hR (r H : Nat → Int) : Nat → Int := fun j => if j < 30 then r j else H j
theorem hR_at {r H : Nat → Int} {j : Nat} (h : j < 30) : hR r H j = r j := if_pos h
theorem c_takesMessage (hd : 4 ≤ d) (hM : ML Γ M F) {k n : Nat} (hn : A 5 = (n : Int)) (hn6 : n < 60) (hk : k < n) (hq : Q none Γ (mS V M F T (fl (u1 A 5 ((n - 1 : Nat) : Int)) B (shC C k n)) K S (hR (C k) H))) : tC w d nMod_takesMessage [.inr (.inl M), .inl (k : Int)] Γ (mS V M F T (fl A B C) K S H) Q := by
  obtain ⟨⟨g0, g1, g2, g3, g4, g5⟩, ⟨l1, l2, l3, -, l5⟩, p1, p2, p3, p4, p5⟩ := id hM
  refine tC_enter (nL := 3) (by decide +kernel) (by decide +kernel) rfl (Nat.le_of_ble_eq_true rfl) (fun hok => ?_)
  simp only [ent]
  refine tG_at hd kMod_takesMessage_0 ?_
  simp (disch := omega) only [bMod_takesMessage_0, rn, sm, lg, lt_, cmpP, tk, pr_, pu, swl, cs, Nat.reduceAdd, Nat.reduceLeDiff, Nat.zero_le, Nat.le_refl, true_and, and_true, Int.toNat_natCast, Int.reduceToNat, Int.reduceEq, false_implies, true_implies, Int.reduceNeg, Int.cast_ofNat_Int, mS_0, mS_1, mS_2, mS_3, mS_4, mS_5, mS_u0, mS_u1, mS_u2, mS_u3, mS_u4, mS_u5, g0, g1, g2, g3, g4, g5, l1, l2, l3, l5, p1, p2, p3, p4, p5, sn_0, sn_9, at_0, at_9, fl_sn, fl_at, fl_usn, fl_uat, fl_a, fl_ua, uF, reduceIte, Nat.reduceEqDiff, true_or, or_true, Int.reduceLE, Int.reduceLT, wr_s, wn_1, wn_2, wn_5, wn_6, wn_8, wn_12, wn_14, wn_18, wn_24, wn_30, wn_32, wn_38, wn_44]
  refine tG_loop (fun i => [some (.inr (.inl M)), some (.inl (k : Int)), some (.inl (i : Int))]) (fun i V' => V' = mS V M F T (fl A B C) K S (fun j => if j < i then C k j else H j)) 30 ?_ ?_ 0 _ (Nat.zero_le _) ?_
  · intro i V' hi hV k1
    subst hV
    refine tG_at hd kMod_takesMessage_2 ?_
    simp only [bMod_takesMessage_2, rn, sm, lg, lt_, cmpP, tk, pr_, pu, swl, cs, Nat.reduceAdd, Nat.reduceLeDiff, Nat.zero_le, Nat.le_refl, true_and, and_true, Int.toNat_natCast, Int.reduceToNat, Int.reduceEq, false_implies, true_implies, Int.reduceNeg, Int.cast_ofNat_Int]
    refine ⟨fun h => absurd h (by omega), fun _ => ?_⟩
    refine tG_at hd kMod_takesMessage_8 ?_
    simp (disch := omega) only [bMod_takesMessage_8, rn, sm, lg, lt_, cmpP, tk, pr_, pu, swl, cs, Nat.reduceAdd, Nat.reduceLeDiff, Nat.zero_le, Nat.le_refl, true_and, and_true, Int.toNat_natCast, Int.reduceToNat, Int.reduceEq, false_implies, true_implies, Int.reduceNeg, Int.cast_ofNat_Int, mS_0, mS_1, mS_2, mS_3, mS_4, mS_5, mS_u0, mS_u1, mS_u2, mS_u3, mS_u4, mS_u5, g0, g1, g2, g3, g4, g5, l1, l2, l3, l5, p1, p2, p3, p4, p5, sn_0, sn_9, at_0, at_9, fl_sn, fl_at, fl_usn, fl_uat, fl_a, fl_ua, uF, reduceIte, Nat.reduceEqDiff, true_or, or_true, Int.reduceLE, Int.reduceLT, wr_s, wn_1, wn_2, wn_5, wn_6, wn_8, wn_12, wn_14, wn_18, wn_24, wn_30, wn_32, wn_38, wn_44]
    refine ⟨by omega, by omega, k1 _ ?_⟩
    congr 1
    funext j
    by_cases hj : j = i
    · subst hj
      rw [u1_at, if_pos (by omega)]
    · rw [u1_ne hj]
      by_cases h2 : j < i
      · rw [if_pos h2, if_pos (by omega)]
      · rw [if_neg h2, if_neg (by omega)]
  · intro V' hV
    subst hV
    refine tG_at hd kMod_takesMessage_2 ?_
    simp only [bMod_takesMessage_2, rn, sm, lg, lt_, cmpP, tk, pr_, pu, swl, cs, Nat.reduceAdd, Nat.reduceLeDiff, Nat.zero_le, Nat.le_refl, true_and, and_true, Int.toNat_natCast, Int.reduceToNat, Int.reduceEq, false_implies, true_implies, Int.reduceNeg, Int.cast_ofNat_Int]
    refine ⟨fun _ => ?_, fun h => absurd (show ¬ ((30 : Nat) : Int) < 30 by omega) h⟩
    refine tG_at hd kMod_takesMessage_30 ?_
    simp (disch := omega) only [bMod_takesMessage_30, rn, sm, lg, lt_, cmpP, tk, pr_, pu, swl, cs, Nat.reduceAdd, Nat.reduceLeDiff, Nat.zero_le, Nat.le_refl, true_and, and_true, Int.toNat_natCast, Int.reduceToNat, Int.reduceEq, false_implies, true_implies, Int.reduceNeg, Int.cast_ofNat_Int, mS_0, mS_1, mS_2, mS_3, mS_4, mS_5, mS_u0, mS_u1, mS_u2, mS_u3, mS_u4, mS_u5, g0, g1, g2, g3, g4, g5, l1, l2, l3, l5, p1, p2, p3, p4, p5, sn_0, sn_9, at_0, at_9, fl_sn, fl_at, fl_usn, fl_uat, fl_a, fl_ua, uF, reduceIte, Nat.reduceEqDiff, true_or, or_true, Int.reduceLE, Int.reduceLT, wr_s, wn_1, wn_2, wn_5, wn_6, wn_8, wn_12, wn_14, wn_18, wn_24, wn_30, wn_32, wn_38, wn_44]
    have e0 : sn_ (k : Int) 0 = ((426 + 30 * k + 0 : Nat) : Int) := sn_eq (k := k) (x := 0) (by omega)
    have e9 : wr ((n : Int) - 1) = ((n - 1 : Nat) : Int) := by
      rw [wr_id (by omega) (by omega)]
      omega
    have e8 : sn_ ((n - 1 : Nat) : Int) 0 = ((426 + 30 * (n - 1) + 0 : Nat) : Int) := sn_eq (k := n - 1) (x := 0) (by omega)
    rw [e0]
    refine tG_loop (fun t => [some (.inr (.inl M)), some (.inl (k : Int)), some (.inl ((426 + 30 * k + t : Nat) : Int))]) (fun t V' => V' = mS V M F T (fl A B (fun j l => if 30 * k ≤ 30 * j + l ∧ 30 * j + l < 30 * k + t ∧ l < 30 then C (j + 1) l else C j l)) K S (hR (C k) H)) (30 * (n - 1 - k)) ?_ ?_ 0 _ (Nat.zero_le _) ?_
    · intro t V' ht hV k1
      subst hV
      refine tG_at hd kMod_takesMessage_36 ?_
      simp (disch := omega) only [bMod_takesMessage_36, rn, sm, lg, lt_, cmpP, tk, pr_, pu, swl, cs, Nat.reduceAdd, Nat.reduceLeDiff, Nat.zero_le, Nat.le_refl, true_and, and_true, Int.toNat_natCast, Int.reduceToNat, Int.reduceEq, false_implies, true_implies, Int.reduceNeg, Int.cast_ofNat_Int, mS_0, mS_1, mS_2, mS_3, mS_4, mS_5, mS_u0, mS_u1, mS_u2, mS_u3, mS_u4, mS_u5, g0, g1, g2, g3, g4, g5, l1, l2, l3, l5, p1, p2, p3, p4, p5, sn_0, sn_9, at_0, at_9, fl_sn, fl_at, fl_usn, fl_uat, fl_a, fl_ua, uF, reduceIte, Nat.reduceEqDiff, true_or, or_true, Int.reduceLE, Int.reduceLT, wr_s, wn_1, wn_2, wn_5, wn_6, wn_8, wn_12, wn_14, wn_18, wn_24, wn_30, wn_32, wn_38, wn_44, hn, e9, e8]
      refine ⟨fun h => absurd h (by omega), fun _ => ?_⟩
      have e1 : wr (((426 + 30 * k + t : Nat) : Int) + 30) = ((426 + 30 * (k + t / 30 + 1) + t % 30 : Nat) : Int) := by
        rw [wr_id (by omega) (by omega)]
        omega
      have e2 : 426 + 30 * k + t = 426 + 30 * (k + t / 30) + t % 30 := by omega
      have e3 := wr_s (k := 426 + 30 * k + t) (by omega)
      refine tG_at hd kMod_takesMessage_52 ?_
      simp (disch := omega) only [bMod_takesMessage_52, rn, sm, lg, lt_, cmpP, tk, pr_, pu, swl, cs, Nat.reduceAdd, Nat.reduceLeDiff, Nat.zero_le, Nat.le_refl, true_and, and_true, Int.toNat_natCast, Int.reduceToNat, Int.reduceEq, false_implies, true_implies, Int.reduceNeg, Int.cast_ofNat_Int, mS_0, mS_1, mS_2, mS_3, mS_4, mS_5, mS_u0, mS_u1, mS_u2, mS_u3, mS_u4, mS_u5, g0, g1, g2, g3, g4, g5, l1, l2, l3, l5, p1, p2, p3, p4, p5, sn_0, sn_9, at_0, at_9, fl_sn, fl_at, fl_usn, fl_uat, fl_a, fl_ua, uF, reduceIte, Nat.reduceEqDiff, true_or, or_true, Int.reduceLE, Int.reduceLT, wr_s, wn_1, wn_2, wn_5, wn_6, wn_8, wn_12, wn_14, wn_18, wn_24, wn_30, wn_32, wn_38, wn_44, e1, e3, fl_c]
      refine ⟨by omega, by omega, by omega, by omega, ?_⟩
      rw [e2, fl_uc (by omega) (by omega), ← e2]
      refine k1 _ ?_
      congr 2
      funext j l
      unfold u2
      by_cases hj : j = k + t / 30 ∧ l = t % 30
      · obtain ⟨hj1, hj2⟩ := hj
        subst hj1; subst hj2
        rw [if_pos ⟨rfl, rfl⟩, if_neg (by omega), if_pos (by omega)]
      · rw [if_neg hj]
        dsimp only
        by_cases h2 : 30 * k ≤ 30 * j + l ∧ 30 * j + l < 30 * k + t ∧ l < 30
        · rw [if_pos h2, if_pos (by omega)]
        · rw [if_neg h2, if_neg (by omega)]
    · intro V' hV
      subst hV
      refine tG_at hd kMod_takesMessage_36 ?_
      simp (disch := omega) only [bMod_takesMessage_36, rn, sm, lg, lt_, cmpP, tk, pr_, pu, swl, cs, Nat.reduceAdd, Nat.reduceLeDiff, Nat.zero_le, Nat.le_refl, true_and, and_true, Int.toNat_natCast, Int.reduceToNat, Int.reduceEq, false_implies, true_implies, Int.reduceNeg, Int.cast_ofNat_Int, mS_0, mS_1, mS_2, mS_3, mS_4, mS_5, mS_u0, mS_u1, mS_u2, mS_u3, mS_u4, mS_u5, g0, g1, g2, g3, g4, g5, l1, l2, l3, l5, p1, p2, p3, p4, p5, sn_0, sn_9, at_0, at_9, fl_sn, fl_at, fl_usn, fl_uat, fl_a, fl_ua, uF, reduceIte, Nat.reduceEqDiff, true_or, or_true, Int.reduceLE, Int.reduceLT, wr_s, wn_1, wn_2, wn_5, wn_6, wn_8, wn_12, wn_14, wn_18, wn_24, wn_30, wn_32, wn_38, wn_44, hn, e9, e8]
      refine ⟨fun _ => ?_, fun h => absurd (by omega) h⟩
      refine tG_at hd kMod_takesMessage_73 ?_
      simp (disch := omega) only [bMod_takesMessage_73, rn, sm, lg, lt_, cmpP, tk, pr_, pu, swl, cs, Nat.reduceAdd, Nat.reduceLeDiff, Nat.zero_le, Nat.le_refl, true_and, and_true, Int.toNat_natCast, Int.reduceToNat, Int.reduceEq, false_implies, true_implies, Int.reduceNeg, Int.cast_ofNat_Int, mS_0, mS_1, mS_2, mS_3, mS_4, mS_5, mS_u0, mS_u1, mS_u2, mS_u3, mS_u4, mS_u5, g0, g1, g2, g3, g4, g5, l1, l2, l3, l5, p1, p2, p3, p4, p5, sn_0, sn_9, at_0, at_9, fl_sn, fl_at, fl_usn, fl_uat, fl_a, fl_ua, uF, reduceIte, Nat.reduceEqDiff, true_or, or_true, Int.reduceLE, Int.reduceLT, wr_s, wn_1, wn_2, wn_5, wn_6, wn_8, wn_12, wn_14, wn_18, wn_24, wn_30, wn_32, wn_38, wn_44, hn, e9]
      rw [fl_cc (C' := shC C k n)]
      · exact hq
      · intro j hj l hl
        unfold shC
        by_cases h2 : k ≤ j ∧ j + 1 < n
        · rw [if_pos h2, if_pos (by omega)]
        · rw [if_neg h2, if_neg (by omega)]
    · congr 2
      funext j l
      rw [if_neg (by omega)]
  · congr 1
/-- a message to all others -/
def saF (m : Nat) (c x y : Int) : Nat → (Nat → Int) → (Nat → Nat → Int) → (Nat → Int) × (Nat → Nat → Int)
  | 0, A, C => (A, C)
  | b + 1, A, C => if b = m then saF m c x y b A C else (u1 (saF m c x y b A C).1 5 ((saF m c x y b A C).1 5 + 1), uR (saF m c x y b A C).2 ((saF m c x y b A C).1 5).toNat (mrow (m : Int) (b : Int) c x y (fun _ => 0)))
theorem saF_n {m : Nat} {c x y : Int} {A : Nat → Int} {C : Nat → Nat → Int} : ∀ b, (∀ j, j ≠ 5 → (saF m c x y b A C).1 j = A j) ∧ A 5 ≤ (saF m c x y b A C).1 5 ∧ (saF m c x y b A C).1 5 ≤ A 5 + b
  | 0 => ⟨fun _ _ => rfl, by simp [saF], by simp [saF]⟩
  | b + 1 => by
    obtain ⟨h1, h2, h3⟩ := saF_n (m := m) (c := c) (x := x) (y := y) (A := A) (C := C) b
    by_cases hb : b = m
    · simp only [saF, if_pos hb]
      exact ⟨h1, h2, by omega⟩
    · simp only [saF, if_neg hb]
      refine ⟨fun j hj => ?_, ?_, ?_⟩
      · rw [u1_ne hj]; exact h1 j hj
      · rw [u1_at]; omega
      · rw [u1_at]; omega
theorem c_sendsAll (hd5 : 5 ≤ d) (hM : ML Γ M F) {m n k : Nat} (hn : A 0 = (n : Int)) (hn6 : n ≤ 6) (hk : A 5 = (k : Int)) (hk6 : k + n < 60) {c x y : Int} (hq : Q none Γ (mS V M F T (fl (saF m c x y n A C).1 B (saF m c x y n A C).2) K S H)) : tC w d nMod_sendsAll [.inr (.inl M), .inl (m : Int), .inl c, .inl x, .inl y] Γ (mS V M F T (fl A B C) K S H) Q := by
  have hd : 4 ≤ d := by omega
  obtain ⟨⟨g0, g1, g2, g3, g4, g5⟩, ⟨l1, l2, l3, -, l5⟩, p1, p2, p3, p4, p5⟩ := id hM
  refine tC_enter (nL := 6) (by decide +kernel) (by decide +kernel) rfl (Nat.le_of_ble_eq_true rfl) (fun hok => ?_)
  simp only [ent]
  refine tG_at hd kMod_sendsAll_0 ?_
  simp (disch := omega) only [bMod_sendsAll_0, rn, sm, lg, lt_, cmpP, tk, pr_, pu, swl, cs, Nat.reduceAdd, Nat.reduceLeDiff, Nat.zero_le, Nat.le_refl, true_and, and_true, Int.toNat_natCast, Int.reduceToNat, Int.reduceEq, false_implies, true_implies, Int.reduceNeg, Int.cast_ofNat_Int, mS_0, mS_1, mS_2, mS_3, mS_4, mS_5, mS_u0, mS_u1, mS_u2, mS_u3, mS_u4, mS_u5, g0, g1, g2, g3, g4, g5, l1, l2, l3, l5, p1, p2, p3, p4, p5, sn_0, sn_9, at_0, at_9, fl_sn, fl_at, fl_usn, fl_uat, fl_a, fl_ua, uF, reduceIte, Nat.reduceEqDiff, true_or, or_true, Int.reduceLE, Int.reduceLT, wr_s, wn_1, wn_2, wn_5, wn_6, wn_8, wn_12, wn_14, wn_18, wn_24, wn_30, wn_32, wn_38, wn_44]
  refine tG_loop (fun i => [some (.inr (.inl M)), some (.inl (m : Int)), some (.inl c), some (.inl x), some (.inl y), some (.inl (i : Int))]) (fun i V' => V' = mS V M F T (fl (saF m c x y i A C).1 B (saF m c x y i A C).2) K S H) n ?_ ?_ 0 _ (Nat.zero_le _) ?_
  · intro i V' hi hV k1
    subst hV
    obtain ⟨h1, h2, h3⟩ := saF_n (m := m) (c := c) (x := x) (y := y) (A := A) (C := C) i
    have h0 := h1 0 (by omega)
    rw [hn] at h0
    obtain ⟨q, hq5⟩ : ∃ q : Nat, (saF m c x y i A C).1 5 = (q : Int) := ⟨((saF m c x y i A C).1 5).toNat, by omega⟩
    refine tG_at hd kMod_sendsAll_3 ?_
    simp (disch := omega) only [bMod_sendsAll_3, rn, sm, lg, lt_, cmpP, tk, pr_, pu, swl, cs, Nat.reduceAdd, Nat.reduceLeDiff, Nat.zero_le, Nat.le_refl, true_and, and_true, Int.toNat_natCast, Int.reduceToNat, Int.reduceEq, false_implies, true_implies, Int.reduceNeg, Int.cast_ofNat_Int, mS_0, mS_1, mS_2, mS_3, mS_4, mS_5, mS_u0, mS_u1, mS_u2, mS_u3, mS_u4, mS_u5, g0, g1, g2, g3, g4, g5, l1, l2, l3, l5, p1, p2, p3, p4, p5, sn_0, sn_9, at_0, at_9, fl_sn, fl_at, fl_usn, fl_uat, fl_a, fl_ua, uF, reduceIte, Nat.reduceEqDiff, true_or, or_true, Int.reduceLE, Int.reduceLT, wr_s, wn_1, wn_2, wn_5, wn_6, wn_8, wn_12, wn_14, wn_18, wn_24, wn_30, wn_32, wn_38, wn_44, h0]
    refine ⟨fun h => absurd h (by omega), fun _ => ?_⟩
    refine tG_at hd kMod_sendsAll_14 ?_
    simp only [bMod_sendsAll_14, rn, sm, lg, lt_, cmpP, tk, pr_, pu, swl, cs, Nat.reduceAdd, Nat.reduceLeDiff, Nat.zero_le, Nat.le_refl, true_and, and_true, Int.toNat_natCast, Int.reduceToNat, Int.reduceEq, false_implies, true_implies, Int.reduceNeg, Int.cast_ofNat_Int]
    by_cases him : i = m
    · refine ⟨fun _ => ?_, fun h => absurd (by omega) h⟩
      refine tG_at hd kMod_sendsAll_31 ?_
      simp (disch := omega) only [bMod_sendsAll_31, rn, sm, lg, lt_, cmpP, tk, pr_, pu, swl, cs, Nat.reduceAdd, Nat.reduceLeDiff, Nat.zero_le, Nat.le_refl, true_and, and_true, Int.toNat_natCast, Int.reduceToNat, Int.reduceEq, false_implies, true_implies, Int.reduceNeg, Int.cast_ofNat_Int, mS_0, mS_1, mS_2, mS_3, mS_4, mS_5, mS_u0, mS_u1, mS_u2, mS_u3, mS_u4, mS_u5, g0, g1, g2, g3, g4, g5, l1, l2, l3, l5, p1, p2, p3, p4, p5, sn_0, sn_9, at_0, at_9, fl_sn, fl_at, fl_usn, fl_uat, fl_a, fl_ua, uF, reduceIte, Nat.reduceEqDiff, true_or, or_true, Int.reduceLE, Int.reduceLT, wr_s, wn_1, wn_2, wn_5, wn_6, wn_8, wn_12, wn_14, wn_18, wn_24, wn_30, wn_32, wn_38, wn_44]
      refine k1 _ ?_
      simp only [saF, if_pos him]
    · refine ⟨fun h => absurd h (by omega), fun _ => ?_⟩
      refine tG_at hd kMod_sendsAll_20 ?_
      simp (disch := omega) only [bMod_sendsAll_20, rn, sm, lg, lt_, cmpP, tk, pr_, pu, swl, cs, Nat.reduceAdd, Nat.reduceLeDiff, Nat.zero_le, Nat.le_refl, true_and, and_true, Int.toNat_natCast, Int.reduceToNat, Int.reduceEq, false_implies, true_implies, Int.reduceNeg, Int.cast_ofNat_Int, mS_0, mS_1, mS_2, mS_3, mS_4, mS_5, mS_u0, mS_u1, mS_u2, mS_u3, mS_u4, mS_u5, g0, g1, g2, g3, g4, g5, l1, l2, l3, l5, p1, p2, p3, p4, p5, sn_0, sn_9, at_0, at_9, fl_sn, fl_at, fl_usn, fl_uat, fl_a, fl_ua, uF, reduceIte, Nat.reduceEqDiff, true_or, or_true, Int.reduceLE, Int.reduceLT, wr_s, wn_1, wn_2, wn_5, wn_6, wn_8, wn_12, wn_14, wn_18, wn_24, wn_30, wn_32, wn_38, wn_44]
      refine c_sends (by omega) hM hq5 (by omega) ?_
      refine tG_at hd kMod_sendsAll_31 ?_
      simp (disch := omega) only [bMod_sendsAll_31, rn, sm, lg, lt_, cmpP, tk, pr_, pu, swl, cs, Nat.reduceAdd, Nat.reduceLeDiff, Nat.zero_le, Nat.le_refl, true_and, and_true, Int.toNat_natCast, Int.reduceToNat, Int.reduceEq, false_implies, true_implies, Int.reduceNeg, Int.cast_ofNat_Int, mS_0, mS_1, mS_2, mS_3, mS_4, mS_5, mS_u0, mS_u1, mS_u2, mS_u3, mS_u4, mS_u5, g0, g1, g2, g3, g4, g5, l1, l2, l3, l5, p1, p2, p3, p4, p5, sn_0, sn_9, at_0, at_9, fl_sn, fl_at, fl_usn, fl_uat, fl_a, fl_ua, uF, reduceIte, Nat.reduceEqDiff, true_or, or_true, Int.reduceLE, Int.reduceLT, wr_s, wn_1, wn_2, wn_5, wn_6, wn_8, wn_12, wn_14, wn_18, wn_24, wn_30, wn_32, wn_38, wn_44]
      refine k1 _ ?_
      simp only [saF, if_neg him, hq5, Int.toNat_natCast]
      congr 3
  · intro V' hV
    subst hV
    have h0 := (saF_n (m := m) (c := c) (x := x) (y := y) (A := A) (C := C) n).1 0 (by omega)
    rw [hn] at h0
    refine tG_at hd kMod_sendsAll_3 ?_
    simp (disch := omega) only [bMod_sendsAll_3, rn, sm, lg, lt_, cmpP, tk, pr_, pu, swl, cs, Nat.reduceAdd, Nat.reduceLeDiff, Nat.zero_le, Nat.le_refl, true_and, and_true, Int.toNat_natCast, Int.reduceToNat, Int.reduceEq, false_implies, true_implies, Int.reduceNeg, Int.cast_ofNat_Int, mS_0, mS_1, mS_2, mS_3, mS_4, mS_5, mS_u0, mS_u1, mS_u2, mS_u3, mS_u4, mS_u5, g0, g1, g2, g3, g4, g5, l1, l2, l3, l5, p1, p2, p3, p4, p5, sn_0, sn_9, at_0, at_9, fl_sn, fl_at, fl_usn, fl_uat, fl_a, fl_ua, uF, reduceIte, Nat.reduceEqDiff, true_or, or_true, Int.reduceLE, Int.reduceLT, wr_s, wn_1, wn_2, wn_5, wn_6, wn_8, wn_12, wn_14, wn_18, wn_24, wn_30, wn_32, wn_38, wn_44, h0]
    refine ⟨fun _ => ?_, fun h => absurd (by omega) h⟩
    refine tG_at hd kMod_sendsAll_37 ?_
    simp only [bMod_sendsAll_37, rn, sm, lg, lt_, cmpP, tk, pr_, pu, swl, cs, Nat.reduceAdd, Nat.reduceLeDiff, Nat.zero_le, Nat.le_refl, true_and, and_true, Int.toNat_natCast, Int.reduceToNat, Int.reduceEq, false_implies, true_implies, Int.reduceNeg, Int.cast_ofNat_Int]
    exact hq
  · rfl
end MD
