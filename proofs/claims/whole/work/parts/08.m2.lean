section MD
variable {w : WP} {d : Nat} {Γ : GM} {V : VH} {Q : QT} {M : Nat} {F T K S H A : Nat → Int} {B C : Nat → Nat → Int}
theorem c_comesIn (hd : 4 ≤ d) (hM : ML Γ M F) {m : Nat} (hm : m < 6) {x : Int} {L : Nat} (hL : B m 31 = (L : Int)) (hL6 : L < 6) (hq : Q none Γ (mS V M F T (fl A (uR B m (inR (B m) x)) C) K S H)) : tC w d nMod_comesIn [.inr (.inl M), .inl (m : Int), .inl x] Γ (mS V M F T (fl A B C) K S H) Q := by
  obtain ⟨⟨g0, g1, g2, g3, g4, g5⟩, ⟨l1, l2, l3, -, l5⟩, p1, p2, p3, p4, p5⟩ := id hM
  refine tC_enter (nL := 4) (by decide +kernel) (by decide +kernel) rfl (Nat.le_of_ble_eq_true rfl) (fun hok => ?_)
  simp only [ent]
  refine tG_at hd kMod_comesIn_0 ?_
  simp (disch := omega) only [bMod_comesIn_0, rn, sm, lg, lt_, cmpP, tk, pr_, pu, swl, cs, Nat.reduceAdd, Nat.reduceLeDiff, Nat.zero_le, Nat.le_refl, true_and, and_true, Int.toNat_natCast, Int.reduceToNat, Int.reduceEq, false_implies, true_implies, Int.reduceNeg, Int.cast_ofNat_Int, mS_0, mS_1, mS_2, mS_3, mS_4, mS_5, mS_u0, mS_u1, mS_u2, mS_u3, mS_u4, mS_u5, g0, g1, g2, g3, g4, g5, l1, l2, l3, l5, p1, p2, p3, p4, p5, sn_0, sn_9, at_0, at_9, fl_sn, fl_at, fl_usn, fl_uat, fl_a, fl_ua, uF, reduceIte, Nat.reduceEqDiff, true_or, or_true, Int.reduceLE, Int.reduceLT, wr_s, wn_1, wn_2, wn_5, wn_6, wn_8, wn_12, wn_14, wn_18, wn_24, wn_30, wn_32, wn_38, wn_44, u2_is, uR_uR, uR_at, hL, u1_ne, u1_at]
  rw [show u1 (u1 (u1 (B m) (38 + L) x) (44 + L) 0) 31 ((L + 1 : Nat) : Int) = inR (B m) x from ?_]
  · exact hq
  · funext j
    unfold inR
    rw [hL, Int.toNat_natCast]
    by_cases h1 : j = 31
    · subst h1
      rw [u1_at, if_pos rfl]
      omega
    · rw [u1_ne h1, if_neg h1]
      by_cases h2 : j = 38 + L
      · subst h2
        rw [u1_ne (by omega), u1_at, if_pos rfl]
      · rw [if_neg h2]
        by_cases h3 : j = 44 + L
        · subst h3
          rw [u1_at, if_pos rfl]
        · rw [u1_ne h3, u1_ne h2, if_neg h3]
theorem c_urge (hd : 4 ≤ d) (hM : ML Γ M F) {m k : Nat} (hm : m < 6) (hk : k < 6) {q : Nat} (hq6 : B m (38 + k) = (q : Int)) (hq7 : q < 6) (hs : -1000000 ≤ urg (B m) k ∧ urg (B m) k ≤ 2000000000) (hq : Q (some (.inl (urg (B m) k))) Γ (mS V M F T (fl A B C) K S H)) : tC w d nMod_urge [.inr (.inl M), .inl (m : Int), .inl (k : Int)] Γ (mS V M F T (fl A B C) K S H) Q := by
  obtain ⟨⟨g0, g1, g2, g3, g4, g5⟩, ⟨l1, l2, l3, -, l5⟩, p1, p2, p3, p4, p5⟩ := id hM
  refine tC_enter (nL := 3) (by decide +kernel) (by decide +kernel) rfl (Nat.le_of_ble_eq_true rfl) (fun hok => ?_)
  simp only [ent]
  refine tG_at hd kMod_urge_0 ?_
  simp (disch := omega) only [bMod_urge_0, rn, sm, lg, lt_, cmpP, tk, pr_, pu, swl, cs, Nat.reduceAdd, Nat.reduceLeDiff, Nat.zero_le, Nat.le_refl, true_and, and_true, Int.toNat_natCast, Int.reduceToNat, Int.reduceEq, false_implies, true_implies, Int.reduceNeg, Int.cast_ofNat_Int, mS_0, mS_1, mS_2, mS_3, mS_4, mS_5, mS_u0, mS_u1, mS_u2, mS_u3, mS_u4, mS_u5, g0, g1, g2, g3, g4, g5, l1, l2, l3, l5, p1, p2, p3, p4, p5, sn_0, sn_9, at_0, at_9, fl_sn, fl_at, fl_usn, fl_uat, fl_a, fl_ua, uF, reduceIte, Nat.reduceEqDiff, true_or, or_true, Int.reduceLE, Int.reduceLT, wr_s, wn_1, wn_2, wn_5, wn_6, wn_8, wn_12, wn_14, wn_18, wn_24, wn_30, wn_32, wn_38, wn_44, hq6]
  have e : wr (B m (12 + q) + B m (44 + k)) = urg (B m) k := by
    have : urg (B m) k = B m (12 + q) + B m (44 + k) := by
      unfold urg
      rw [hq6, Int.toNat_natCast]
    rw [← this]
    exact wr_id (by omega) (by omega)
  rw [e]
  exact hq
def outP (b : Nat → Int) (k i : Nat) : Nat → Int := fun j => if 38 + k ≤ j ∧ j < 38 + i ∨ 44 + k ≤ j ∧ j < 44 + i then b (j + 1) else b j
theorem outP_31 {b : Nat → Int} {k i : Nat} : outP b k i 31 = b 31 := if_neg (by omega)
theorem wz_38 {x : Nat} (h : x < 100) : wr (((38 + x : Nat) : Int) + 1) = ((38 + x + 1 : Nat) : Int) := wr_s (by omega)
theorem wz_44 {x : Nat} (h : x < 100) : wr (((44 + x : Nat) : Int) + 1) = ((44 + x + 1 : Nat) : Int) := wr_s (by omega)
theorem c_takesOut (hd : 4 ≤ d) (hM : ML Γ M F) {m k L : Nat} (hm : m < 6) (hL : B m 31 = (L : Int)) (hL6 : L ≤ 6) (hk : k < L) (hq : Q none Γ (mS V M F T (fl A (uR B m (outR (B m) k)) C) K S H)) : tC w d nMod_takesOut [.inr (.inl M), .inl (m : Int), .inl (k : Int)] Γ (mS V M F T (fl A B C) K S H) Q := by
  obtain ⟨⟨g0, g1, g2, g3, g4, g5⟩, ⟨l1, l2, l3, -, l5⟩, p1, p2, p3, p4, p5⟩ := id hM
  refine tC_enter (nL := 4) (by decide +kernel) (by decide +kernel) rfl (Nat.le_of_ble_eq_true rfl) (fun hok => ?_)
  simp only [ent]
  refine tG_at hd kMod_takesOut_0 ?_
  simp (disch := omega) only [bMod_takesOut_0, rn, sm, lg, lt_, cmpP, tk, pr_, pu, swl, cs, Nat.reduceAdd, Nat.reduceLeDiff, Nat.zero_le, Nat.le_refl, true_and, and_true, Int.toNat_natCast, Int.reduceToNat, Int.reduceEq, false_implies, true_implies, Int.reduceNeg, Int.cast_ofNat_Int, mS_0, mS_1, mS_2, mS_3, mS_4, mS_5, mS_u0, mS_u1, mS_u2, mS_u3, mS_u4, mS_u5, g0, g1, g2, g3, g4, g5, l1, l2, l3, l5, p1, p2, p3, p4, p5, sn_0, sn_9, at_0, at_9, fl_sn, fl_at, fl_usn, fl_uat, fl_a, fl_ua, uF, reduceIte, Nat.reduceEqDiff, true_or, or_true, Int.reduceLE, Int.reduceLT, wr_s, wn_1, wn_2, wn_5, wn_6, wn_8, wn_12, wn_14, wn_18, wn_24, wn_30, wn_32, wn_38, wn_44]
  refine tG_loop (fun i => [some (.inr (.inl M)), some (.inl (m : Int)), some (.inl (k : Int)), some (.inl (i : Int))]) (fun i V' => k ≤ i ∧ V' = mS V M F T (fl A (uR B m (outP (B m) k i)) C) K S H) (L - 1) ?_ ?_ k _ (by omega) ?_
  · intro i V' hi hV k1
    obtain ⟨hki, hV⟩ := hV
    subst hV
    refine tG_at hd kMod_takesOut_2 ?_
    simp (disch := omega) only [bMod_takesOut_2, rn, sm, lg, lt_, cmpP, tk, pr_, pu, swl, cs, Nat.reduceAdd, Nat.reduceLeDiff, Nat.zero_le, Nat.le_refl, true_and, and_true, Int.toNat_natCast, Int.reduceToNat, Int.reduceEq, false_implies, true_implies, Int.reduceNeg, Int.cast_ofNat_Int, mS_0, mS_1, mS_2, mS_3, mS_4, mS_5, mS_u0, mS_u1, mS_u2, mS_u3, mS_u4, mS_u5, g0, g1, g2, g3, g4, g5, l1, l2, l3, l5, p1, p2, p3, p4, p5, sn_0, sn_9, at_0, at_9, fl_sn, fl_at, fl_usn, fl_uat, fl_a, fl_ua, uF, reduceIte, Nat.reduceEqDiff, true_or, or_true, Int.reduceLE, Int.reduceLT, wr_s, wn_1, wn_2, wn_5, wn_6, wn_8, wn_12, wn_14, wn_18, wn_24, wn_30, wn_32, wn_38, wn_44, uR_at, outP_31, hL]
    refine ⟨fun h => absurd h (by omega), fun _ => ?_⟩
    refine tG_at hd kMod_takesOut_15 ?_
    simp (disch := omega) only [bMod_takesOut_15, rn, sm, lg, lt_, cmpP, tk, pr_, pu, swl, cs, Nat.reduceAdd, Nat.reduceLeDiff, Nat.zero_le, Nat.le_refl, true_and, and_true, Int.toNat_natCast, Int.reduceToNat, Int.reduceEq, false_implies, true_implies, Int.reduceNeg, Int.cast_ofNat_Int, mS_0, mS_1, mS_2, mS_3, mS_4, mS_5, mS_u0, mS_u1, mS_u2, mS_u3, mS_u4, mS_u5, g0, g1, g2, g3, g4, g5, l1, l2, l3, l5, p1, p2, p3, p4, p5, sn_0, sn_9, at_0, at_9, fl_sn, fl_at, fl_usn, fl_uat, fl_a, fl_ua, uF, reduceIte, Nat.reduceEqDiff, true_or, or_true, Int.reduceLE, Int.reduceLT, wr_s, wn_1, wn_2, wn_5, wn_6, wn_8, wn_12, wn_14, wn_18, wn_24, wn_30, wn_32, wn_38, wn_44, uR_at, u2_uR, wz_38, wz_44]
    refine k1 _ ⟨Nat.le_succ_of_le hki, ?_⟩
    congr 3
    funext j
    unfold outP
    by_cases h1 : j = 44 + i
    · subst h1
      rw [u1_at, u1_ne (by omega), if_neg (by omega), if_pos (by omega)]
    · rw [u1_ne h1]
      by_cases h2 : j = 38 + i
      · subst h2
        rw [u1_at, if_neg (by omega), if_pos (by omega)]
      · rw [u1_ne h2]
        by_cases h3 : 38 + k ≤ j ∧ j < 38 + i ∨ 44 + k ≤ j ∧ j < 44 + i
        · rw [if_pos h3, if_pos (by omega)]
        · rw [if_neg h3, if_neg (by omega)]
  · intro V' hV
    obtain ⟨-, hV⟩ := hV
    subst hV
    refine tG_at hd kMod_takesOut_2 ?_
    simp (disch := omega) only [bMod_takesOut_2, rn, sm, lg, lt_, cmpP, tk, pr_, pu, swl, cs, Nat.reduceAdd, Nat.reduceLeDiff, Nat.zero_le, Nat.le_refl, true_and, and_true, Int.toNat_natCast, Int.reduceToNat, Int.reduceEq, false_implies, true_implies, Int.reduceNeg, Int.cast_ofNat_Int, mS_0, mS_1, mS_2, mS_3, mS_4, mS_5, mS_u0, mS_u1, mS_u2, mS_u3, mS_u4, mS_u5, g0, g1, g2, g3, g4, g5, l1, l2, l3, l5, p1, p2, p3, p4, p5, sn_0, sn_9, at_0, at_9, fl_sn, fl_at, fl_usn, fl_uat, fl_a, fl_ua, uF, reduceIte, Nat.reduceEqDiff, true_or, or_true, Int.reduceLE, Int.reduceLT, wr_s, wn_1, wn_2, wn_5, wn_6, wn_8, wn_12, wn_14, wn_18, wn_24, wn_30, wn_32, wn_38, wn_44, uR_at, outP_31, hL]
    refine ⟨fun _ => ?_, fun h => absurd (by omega) h⟩
    have e1 : wr ((L : Int) - 1) = ((L - 1 : Nat) : Int) := by
      rw [wr_id (by omega) (by omega)]
      omega
    refine tG_at hd kMod_takesOut_69 ?_
    simp (disch := omega) only [bMod_takesOut_69, rn, sm, lg, lt_, cmpP, tk, pr_, pu, swl, cs, Nat.reduceAdd, Nat.reduceLeDiff, Nat.zero_le, Nat.le_refl, true_and, and_true, Int.toNat_natCast, Int.reduceToNat, Int.reduceEq, false_implies, true_implies, Int.reduceNeg, Int.cast_ofNat_Int, mS_0, mS_1, mS_2, mS_3, mS_4, mS_5, mS_u0, mS_u1, mS_u2, mS_u3, mS_u4, mS_u5, g0, g1, g2, g3, g4, g5, l1, l2, l3, l5, p1, p2, p3, p4, p5, sn_0, sn_9, at_0, at_9, fl_sn, fl_at, fl_usn, fl_uat, fl_a, fl_ua, uF, reduceIte, Nat.reduceEqDiff, true_or, or_true, Int.reduceLE, Int.reduceLT, wr_s, wn_1, wn_2, wn_5, wn_6, wn_8, wn_12, wn_14, wn_18, wn_24, wn_30, wn_32, wn_38, wn_44, uR_at, outP_31, hL, u2_uR, e1, u1_at, u1_ne]
    rw [show u1 (u1 (u1 (outP (B m) k (L - 1)) 31 ((L - 1 : Nat) : Int)) (38 + (L - 1)) 0) (44 + (L - 1)) 0 = outR (B m) k from ?_]
    · exact hq
    · funext j
      unfold outR outP
      rw [hL, Int.toNat_natCast]
      by_cases h1 : j = 44 + (L - 1)
      · subst h1
        rw [u1_at, if_neg (by omega), if_neg (by omega), if_pos (by omega), if_neg (by omega), if_pos (by omega)]
      · rw [u1_ne h1]
        by_cases h2 : j = 38 + (L - 1)
        · subst h2
          rw [u1_at, if_neg (by omega), if_pos (by omega), if_neg (by omega), if_pos (by omega)]
        · rw [u1_ne h2]
          by_cases h3 : j = 31
          · subst h3
            rw [u1_at, if_pos rfl]
            omega
          · rw [u1_ne h3, if_neg h3]
            by_cases h4 : 38 + k ≤ j ∧ j < 38 + (L - 1)
            · rw [if_pos (Or.inl h4), if_pos (by omega), if_pos (by omega)]
            · by_cases h5 : 44 + k ≤ j ∧ j < 44 + (L - 1)
              · rw [if_pos (Or.inr h5), if_neg (by omega), if_pos (by omega), if_pos (by omega)]
              · rw [if_neg (by omega)]
                by_cases h6 : 38 ≤ j ∧ j < 44 ∧ k ≤ j - 38
                · rw [if_pos h6, if_neg (by omega), if_neg (by omega)]
                · rw [if_neg h6]
                  by_cases h7 : 44 ≤ j ∧ j < 50 ∧ k ≤ j - 44
                  · rw [if_pos h7, if_neg (by omega), if_neg (by omega)]
                  · rw [if_neg h7]
  · refine ⟨Nat.le_refl _, ?_⟩
    rw [show outP (B m) k k = B m from funext fun j => if_neg (by omega), uR_eq]
/-- to LEAVE, but for the handing on -/
def levR (m : Nat) (b : Nat → Int) : Nat → Int := if 0 < b 30 then u1 (u1 (u1 b 3 0) 0 (b (6 + m))) (32 + m) (b (6 + m)) else u1 (u1 b 3 0) 0 (b (6 + m))
theorem c_leaves (hd : 4 ≤ d) (hM : ML Γ M F) {m : Nat} (hm : m < 6) {t : Nat} (ht : A 4 = (t : Int)) (ht2 : t < 2000000000) (hq : Q none Γ (mS V M F T (fl (u1 A 4 ((t + 1 : Nat) : Int)) (uR B m (levR m (B m))) C) K S H)) : tC w d nMod_leaves [.inr (.inl M), .inl (m : Int)] Γ (mS V M F T (fl A B C) K S H) Q := by
  obtain ⟨⟨g0, g1, g2, g3, g4, g5⟩, ⟨l1, l2, l3, -, l5⟩, p1, p2, p3, p4, p5⟩ := id hM
  refine tC_enter (nL := 2) (by decide +kernel) (by decide +kernel) rfl (Nat.le_of_ble_eq_true rfl) (fun hok => ?_)
  simp only [ent]
  unfold levR at hq
  refine tG_at hd kMod_leaves_0 ?_
  simp (disch := omega) only [bMod_leaves_0, rn, sm, lg, lt_, cmpP, tk, pr_, pu, swl, cs, Nat.reduceAdd, Nat.reduceLeDiff, Nat.zero_le, Nat.le_refl, true_and, and_true, Int.toNat_natCast, Int.reduceToNat, Int.reduceEq, false_implies, true_implies, Int.reduceNeg, Int.cast_ofNat_Int, mS_0, mS_1, mS_2, mS_3, mS_4, mS_5, mS_u0, mS_u1, mS_u2, mS_u3, mS_u4, mS_u5, g0, g1, g2, g3, g4, g5, l1, l2, l3, l5, p1, p2, p3, p4, p5, sn_0, sn_9, at_0, at_9, fl_sn, fl_at, fl_usn, fl_uat, fl_a, fl_ua, uF, reduceIte, Nat.reduceEqDiff, true_or, or_true, Int.reduceLE, Int.reduceLT, wr_s, wn_1, wn_2, wn_5, wn_6, wn_8, wn_12, wn_14, wn_18, wn_24, wn_30, wn_32, wn_38, wn_44, u2_is, uR_uR, uR_at, u1_ne, u1_at, ht]
  by_cases hb : 0 < B m 30
  · rw [bi_1 hb]
    rw [if_pos hb] at hq
    refine ⟨fun h => absurd h (by decide), fun _ => ?_⟩
    refine tG_at hd kMod_leaves_48 ?_
    simp (disch := omega) only [bMod_leaves_48, rn, sm, lg, lt_, cmpP, tk, pr_, pu, swl, cs, Nat.reduceAdd, Nat.reduceLeDiff, Nat.zero_le, Nat.le_refl, true_and, and_true, Int.toNat_natCast, Int.reduceToNat, Int.reduceEq, false_implies, true_implies, Int.reduceNeg, Int.cast_ofNat_Int, mS_0, mS_1, mS_2, mS_3, mS_4, mS_5, mS_u0, mS_u1, mS_u2, mS_u3, mS_u4, mS_u5, g0, g1, g2, g3, g4, g5, l1, l2, l3, l5, p1, p2, p3, p4, p5, sn_0, sn_9, at_0, at_9, fl_sn, fl_at, fl_usn, fl_uat, fl_a, fl_ua, uF, reduceIte, Nat.reduceEqDiff, true_or, or_true, Int.reduceLE, Int.reduceLT, wr_s, wn_1, wn_2, wn_5, wn_6, wn_8, wn_12, wn_14, wn_18, wn_24, wn_30, wn_32, wn_38, wn_44, u2_is, uR_uR, uR_at, u1_ne, u1_at, ht]
    refine tG_at hd kMod_leaves_67 ?_
    simp only [bMod_leaves_67, rn, sm, lg, lt_, cmpP, tk, pr_, pu, swl, cs, Nat.reduceAdd, Nat.reduceLeDiff, Nat.zero_le, Nat.le_refl, true_and, and_true, Int.toNat_natCast, Int.reduceToNat, Int.reduceEq, false_implies, true_implies, Int.reduceNeg, Int.cast_ofNat_Int]
    exact hq
  · rw [bi_0 hb]
    rw [if_neg hb] at hq
    refine ⟨fun _ => ?_, fun h => absurd rfl h⟩
    refine tG_at hd kMod_leaves_67 ?_
    simp only [bMod_leaves_67, rn, sm, lg, lt_, cmpP, tk, pr_, pu, swl, cs, Nat.reduceAdd, Nat.reduceLeDiff, Nat.zero_le, Nat.le_refl, true_and, and_true, Int.toNat_natCast, Int.reduceToNat, Int.reduceEq, false_implies, true_implies, Int.reduceNeg, Int.cast_ofNat_Int]
    exact hq
/-- the first message from one to another one -/
def fst_ (C : Nat → Nat → Int) (a b : Int) : Nat → Nat → Int
  | _, 0 => -1
  | k, r + 1 => if C k 0 = a ∧ C k 1 = b then (k : Int) else fst_ C a b (k + 1) r
theorem c_firstOf (hd : 4 ≤ d) (hM : ML Γ M F) {n : Nat} (hn : A 5 = (n : Int)) (hn6 : n < 60) {a b : Int} (hq : Q (some (.inl (fst_ C a b 0 n))) Γ (mS V M F T (fl A B C) K S H)) : tC w d nMod_firstOf [.inr (.inl M), .inl a, .inl b] Γ (mS V M F T (fl A B C) K S H) Q := by
  obtain ⟨⟨g0, g1, g2, g3, g4, g5⟩, ⟨l1, l2, l3, -, l5⟩, p1, p2, p3, p4, p5⟩ := id hM
  refine tC_enter (nL := 4) (by decide +kernel) (by decide +kernel) rfl (Nat.le_of_ble_eq_true rfl) (fun hok => ?_)
  simp only [ent]
  refine tG_at hd kMod_firstOf_0 ?_
  simp (disch := omega) only [bMod_firstOf_0, rn, sm, lg, lt_, cmpP, tk, pr_, pu, swl, cs, Nat.reduceAdd, Nat.reduceLeDiff, Nat.zero_le, Nat.le_refl, true_and, and_true, Int.toNat_natCast, Int.reduceToNat, Int.reduceEq, false_implies, true_implies, Int.reduceNeg, Int.cast_ofNat_Int, mS_0, mS_1, mS_2, mS_3, mS_4, mS_5, mS_u0, mS_u1, mS_u2, mS_u3, mS_u4, mS_u5, g0, g1, g2, g3, g4, g5, l1, l2, l3, l5, p1, p2, p3, p4, p5, sn_0, sn_9, at_0, at_9, fl_sn, fl_at, fl_usn, fl_uat, fl_a, fl_ua, uF, reduceIte, Nat.reduceEqDiff, true_or, or_true, Int.reduceLE, Int.reduceLT, wr_s, wn_1, wn_2, wn_5, wn_6, wn_8, wn_12, wn_14, wn_18, wn_24, wn_30, wn_32, wn_38, wn_44]
  have key : ∀ r k : Nat, k + r = n → Q (some (.inl (fst_ C a b k r))) Γ (mS V M F T (fl A B C) K S H) → tG w d nMod_firstOf 2 [some (.inr (.inl M)), some (.inl a), some (.inl b), some (.inl (k : Int))] [] Γ (mS V M F T (fl A B C) K S H) 0 0 Q := by
    intro r
    induction r with
    | zero =>
      intro k hk hq
      refine tG_at hd kMod_firstOf_2 ?_
      simp (disch := omega) only [bMod_firstOf_2, rn, sm, lg, lt_, cmpP, tk, pr_, pu, swl, cs, Nat.reduceAdd, Nat.reduceLeDiff, Nat.zero_le, Nat.le_refl, true_and, and_true, Int.toNat_natCast, Int.reduceToNat, Int.reduceEq, false_implies, true_implies, Int.reduceNeg, Int.cast_ofNat_Int, mS_0, mS_1, mS_2, mS_3, mS_4, mS_5, mS_u0, mS_u1, mS_u2, mS_u3, mS_u4, mS_u5, g0, g1, g2, g3, g4, g5, l1, l2, l3, l5, p1, p2, p3, p4, p5, sn_0, sn_9, at_0, at_9, fl_sn, fl_at, fl_usn, fl_uat, fl_a, fl_ua, uF, reduceIte, Nat.reduceEqDiff, true_or, or_true, Int.reduceLE, Int.reduceLT, wr_s, wn_1, wn_2, wn_5, wn_6, wn_8, wn_12, wn_14, wn_18, wn_24, wn_30, wn_32, wn_38, wn_44, hn]
      refine ⟨fun _ => ?_, fun h => absurd (by omega) h⟩
      refine tG_at hd kMod_firstOf_48 ?_
      simp only [bMod_firstOf_48, rn, sm, lg, lt_, cmpP, tk, pr_, pu, swl, cs, Nat.reduceAdd, Nat.reduceLeDiff, Nat.zero_le, Nat.le_refl, true_and, and_true, Int.toNat_natCast, Int.reduceToNat, Int.reduceEq, false_implies, true_implies, Int.reduceNeg, Int.cast_ofNat_Int]
      exact hq
    | succ r ih =>
      intro k hk hq
      have kn : ¬ (C k 0 = a ∧ C k 1 = b) → tG w d nMod_firstOf 42 [some (.inr (.inl M)), some (.inl a), some (.inl b), some (.inl (k : Int))] [] Γ (mS V M F T (fl A B C) K S H) 0 0 Q := by
        intro hx
        refine tG_at hd kMod_firstOf_42 ?_
        simp (disch := omega) only [bMod_firstOf_42, rn, sm, lg, lt_, cmpP, tk, pr_, pu, swl, cs, Nat.reduceAdd, Nat.reduceLeDiff, Nat.zero_le, Nat.le_refl, true_and, and_true, Int.toNat_natCast, Int.reduceToNat, Int.reduceEq, false_implies, true_implies, Int.reduceNeg, Int.cast_ofNat_Int, mS_0, mS_1, mS_2, mS_3, mS_4, mS_5, mS_u0, mS_u1, mS_u2, mS_u3, mS_u4, mS_u5, g0, g1, g2, g3, g4, g5, l1, l2, l3, l5, p1, p2, p3, p4, p5, sn_0, sn_9, at_0, at_9, fl_sn, fl_at, fl_usn, fl_uat, fl_a, fl_ua, uF, reduceIte, Nat.reduceEqDiff, true_or, or_true, Int.reduceLE, Int.reduceLT, wr_s, wn_1, wn_2, wn_5, wn_6, wn_8, wn_12, wn_14, wn_18, wn_24, wn_30, wn_32, wn_38, wn_44]
        refine ih (k + 1) (by omega) ?_
        rw [show fst_ C a b k (r + 1) = fst_ C a b (k + 1) r from if_neg hx] at hq
        exact hq
      refine tG_at hd kMod_firstOf_2 ?_
      simp (disch := omega) only [bMod_firstOf_2, rn, sm, lg, lt_, cmpP, tk, pr_, pu, swl, cs, Nat.reduceAdd, Nat.reduceLeDiff, Nat.zero_le, Nat.le_refl, true_and, and_true, Int.toNat_natCast, Int.reduceToNat, Int.reduceEq, false_implies, true_implies, Int.reduceNeg, Int.cast_ofNat_Int, mS_0, mS_1, mS_2, mS_3, mS_4, mS_5, mS_u0, mS_u1, mS_u2, mS_u3, mS_u4, mS_u5, g0, g1, g2, g3, g4, g5, l1, l2, l3, l5, p1, p2, p3, p4, p5, sn_0, sn_9, at_0, at_9, fl_sn, fl_at, fl_usn, fl_uat, fl_a, fl_ua, uF, reduceIte, Nat.reduceEqDiff, true_or, or_true, Int.reduceLE, Int.reduceLT, wr_s, wn_1, wn_2, wn_5, wn_6, wn_8, wn_12, wn_14, wn_18, wn_24, wn_30, wn_32, wn_38, wn_44, hn]
      refine ⟨fun h => absurd h (by omega), fun _ => ?_⟩
      refine tG_at hd kMod_firstOf_12 ?_
      simp (disch := omega) only [bMod_firstOf_12, rn, sm, lg, lt_, cmpP, tk, pr_, pu, swl, cs, Nat.reduceAdd, Nat.reduceLeDiff, Nat.zero_le, Nat.le_refl, true_and, and_true, Int.toNat_natCast, Int.reduceToNat, Int.reduceEq, false_implies, true_implies, Int.reduceNeg, Int.cast_ofNat_Int, mS_0, mS_1, mS_2, mS_3, mS_4, mS_5, mS_u0, mS_u1, mS_u2, mS_u3, mS_u4, mS_u5, g0, g1, g2, g3, g4, g5, l1, l2, l3, l5, p1, p2, p3, p4, p5, sn_0, sn_9, at_0, at_9, fl_sn, fl_at, fl_usn, fl_uat, fl_a, fl_ua, uF, reduceIte, Nat.reduceEqDiff, true_or, or_true, Int.reduceLE, Int.reduceLT, wr_s, wn_1, wn_2, wn_5, wn_6, wn_8, wn_12, wn_14, wn_18, wn_24, wn_30, wn_32, wn_38, wn_44]
      refine ⟨fun h => kn (fun q => h q.1), fun h1 => ?_⟩
      refine tG_at hd kMod_firstOf_26 ?_
      simp (disch := omega) only [bMod_firstOf_26, rn, sm, lg, lt_, cmpP, tk, pr_, pu, swl, cs, Nat.reduceAdd, Nat.reduceLeDiff, Nat.zero_le, Nat.le_refl, true_and, and_true, Int.toNat_natCast, Int.reduceToNat, Int.reduceEq, false_implies, true_implies, Int.reduceNeg, Int.cast_ofNat_Int, mS_0, mS_1, mS_2, mS_3, mS_4, mS_5, mS_u0, mS_u1, mS_u2, mS_u3, mS_u4, mS_u5, g0, g1, g2, g3, g4, g5, l1, l2, l3, l5, p1, p2, p3, p4, p5, sn_0, sn_9, at_0, at_9, fl_sn, fl_at, fl_usn, fl_uat, fl_a, fl_ua, uF, reduceIte, Nat.reduceEqDiff, true_or, or_true, Int.reduceLE, Int.reduceLT, wr_s, wn_1, wn_2, wn_5, wn_6, wn_8, wn_12, wn_14, wn_18, wn_24, wn_30, wn_32, wn_38, wn_44]
      refine ⟨fun h => kn (fun q => h q.2), fun h2 => ?_⟩
      refine tG_at hd kMod_firstOf_40 ?_
      simp only [bMod_firstOf_40, rn, sm, lg, lt_, cmpP, tk, pr_, pu, swl, cs, Nat.reduceAdd, Nat.reduceLeDiff, Nat.zero_le, Nat.le_refl, true_and, and_true, Int.toNat_natCast, Int.reduceToNat, Int.reduceEq, false_implies, true_implies, Int.reduceNeg, Int.cast_ofNat_Int]
      rw [show fst_ C a b k (r + 1) = (k : Int) from if_pos ⟨Decidable.not_not.mp h1, Decidable.not_not.mp h2⟩] at hq
      exact hq
  exact key _ 0 (by omega) hq
end MD
