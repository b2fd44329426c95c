/-! THE LAW: member's call -/
def bLaw_law_281 : List EN := [(281, .aload_n 1, 1, 0, 0, 0, []), (282, .aload_n 0, 1, 0, 0, 0, []), (283, .iload 4, 2, 0, 0, 0, []), (285, .iconst 1, 1, 0, 0, 0, []), (286, .iadd, 1, 0, 0, 0, []), (287, .iaload, 1, 0, 0, 0, []), (288, .aload_n 0, 1, 0, 0, 0, []), (289, .iload 4, 2, 0, 0, 0, []), (291, .iconst 2, 1, 0, 0, 0, []), (292, .iadd, 1, 0, 0, 0, []), (293, .iaload, 1, 0, 0, 0, []), (294, .aload_n 3, 1, 0, 0, 0, [])]
theorem kLaw_law_281 : okb (mth nLaw_law) 281 bLaw_law_281 = true := by decide +kernel
theorem memV_nn {n k W : Nat} {X : NT} (g : GJ n k W X) (rw_ : RW n X.2.1) {m x : Int} (h : memO n m x) : 0 ≤ memV (X.2.1 m.toNat) m.toNat x := by
  obtain ⟨⟨q0, q1⟩, hx⟩ := h
  have hm : m.toNat < n := by omega
  obtain ⟨-, -, -, h6, -, -⟩ := g.1.A
  obtain ⟨⟨a0, -⟩, ⟨a1, -⟩, a2, a3, ⟨a4, -⟩, a6, a12, ⟨a30, -⟩, -, -⟩ := g.1.row hm
  obtain ⟨v, ev, -, -⟩ := g.1.2.2.1 _ hm
  have b6 := (a6 m.toNat (by omega)).1
  have b12 := (a12 m.toNat (by omega)).1
  unfold memV
  rcases hx with hx | ⟨h1, h2, h3⟩
  · by_cases c0 : x = 0
    · rw [if_pos c0]; exact b12
    rw [if_neg c0]
    by_cases c1 : x = 1
    · rw [if_pos c1]; exact b6
    rw [if_neg c1]
    by_cases c2 : x = 2
    · rw [if_pos c2]; exact a0
    rw [if_neg c2]
    by_cases c3 : x = 3
    · rw [if_pos c3]; omega
    rw [if_neg c3]
    by_cases c4 : x = 4
    · rw [if_pos c4]; omega
    rw [if_neg c4]
    by_cases c5 : x = 5
    · rw [if_pos c5]; omega
    rw [if_neg c5]
    by_cases c6 : x = 6
    · rw [if_pos c6]; exact a30
    rw [if_neg c6]
    by_cases c7 : x = 7
    · rw [if_pos c7]; exact a4
    rw [if_neg c7, if_pos (by omega), ev]
    omega
  · have d6 := (a6 (x % 10).toNat (by omega)).1
    have d12 := (a12 (x % 10).toNat (by omega)).1
    have d18 := rw_ _ hm (x % 10).toNat (by omega)
    rw [if_neg (by omega), if_neg (by omega), if_neg (by omega), if_neg (by omega), if_neg (by omega), if_neg (by omega), if_neg (by omega), if_neg (by omega), if_neg (by omega)]
    by_cases c0 : x < 20
    · rw [if_pos c0]; exact d6
    rw [if_neg c0]
    by_cases c1 : x < 30
    · rw [if_pos c1]; exact d12
    rw [if_neg c1]
    exact d18
theorem tG_less {w : WP} {d n pc : Nat} {ls ls' : LT} {st : List TV} {Γ : GM} {V : VH} {uc us : Nat} {Q : QT} (h : tG w d n pc ls' st Γ V uc us Q) (hl : ls'.length = ls.length) (hs : ∀ (i : Nat) (v : TV), ls'[i]? = some (some v) → ls[i]? = some (some v)) : tG w d n pc ls st Γ V uc us Q := by
  intro p e s m args below meth c H locs lsr X hL hst hR hS hu hv
  exact h p e s m args below meth c H locs lsr X ⟨hL.1, hL.2.1, hl.trans hL.2.2.1, fun i v hi => hL.2.2.2 i v (hs i v hi)⟩ hst hR hS hu hv
theorem ls_56 {a b c d e : Option TV} {y z : Option TV} : ∀ (i : Nat) (v : TV), ([a, b, c, d, e, none, none] : LT)[i]? = some (some v) → ([a, b, c, d, e, y, z] : LT)[i]? = some (some v)
  | 0, _, h => h
  | 1, _, h => h
  | 2, _, h => h
  | 3, _, h => h
  | 4, _, h => h
  | 5, _, h => by cases h
  | 6, _, h => by cases h
  | i + 7, v, h => by simp at h
section LW
variable {w : WP} {Γ Γ' : GM} {V V' : VH} {Q : QT} {bb Ls x M W W' nn i uc us : Nat}
theorem lc_member (hi : 6 * i + 6 ≤ Ls) (hLs : Ls ≤ 3072) (J : JI w Γ V bb Ls x M W) (hW1 : W + 1400 ≤ W') (hW2 : W' + 2800 ≤ 1000000000) (hW3 : 150000 ≤ W') (huc : uc + 292 ≤ 674013) (hus : us + 1786 ≤ 7074066) (kn : KN_ w Q bb Ls x M W' i uc us) : tG w 13 nLaw_law 281 (lsL bb x M i) [] Γ V uc us Q := by
  have hd : 4 ≤ 13 := by omega
  obtain ⟨L, T, fk, n, k, X, c, Y, hC, hMI, ⟨b16, bL0⟩, ⟨g12, l12⟩, hbx, hxM⟩ := id J
  obtain ⟨F, K, S, H, hM, m0, m1, m2, m3, m4, m5, f2, f8, f14, hS⟩ := id hMI
  have bL : (Γ.2.1 bb : Int) = (Ls : Int) := by rw [bL0]
  have g8 := hC.k8
  have g9 := hM.1.1
  have h10 := hC.c10
  have hL6 := hC.ln
  obtain ⟨ad0, n0, v3, hof, hnn⟩ : ∃ ad0 : Nat, Γ.1 ad0 = 4 ∧ V x 3 = (ad0 : Int) ∧ (∀ (a b : Int) (Q : QT), Q (some (.inl (if memO n a b then memV (X.2.1 a.toNat) a.toNat b else -1))) Γ V → tC w 10 nNet_ofMember [.inr (.inl ad0), .inl a, .inl b] Γ V Q) ∧ (∀ a b : Int, memO n a b → 0 ≤ memV (X.2.1 a.toNat) a.toNat b) := by
    obtain ⟨⟨c1, c2, c3⟩, cs_, ⟨⟨z0, z1, z2⟩, cl, kd, st, sp, v, T', ct0, ct1, ct2⟩, cc, ad, tb, hh, ch, ch10, ⟨⟨g8, g1, g15, g10⟩, ⟨v0, v1, v2, v3, v4, v5⟩, u0, u1, u2⟩, ly, cm⟩ := id hC
    have eN := (ly.1 0 (by omega)).2.2.1.eq
    refine ⟨ad 0, (ly.1 0 (by omega)).1.1.1, v3, fun a b Q hq => ?_, fun a b h => memV_nn cm.1.1 cm.1.2.1 h⟩
    rw [← eN]
    refine k_ofMember (by omega) (ly.1 0 (by omega)).1 cm.1.1 cm.1.2.2 ?_
    rw [eN]
    exact hq
  have hz : M + 6 ≤ Γ.2.2 := hC.1.2.1
  have e2 : (((6 * i : Nat) : Int) + 2).toNat = 6 * i + 2 := by omega
  refine tG_at hd kLaw_law_281 ?_
  simp (disch := omega) only [bLaw_law_281, rn, sm, lg, lt_, cmpP, tk, pr_, pu, swl, cs, Nat.reduceAdd, Nat.reduceLeDiff, Nat.zero_le, Nat.le_refl, true_and, and_true, Int.toNat_natCast, Int.reduceToNat, Int.reduceEq, false_implies, true_implies, Int.reduceNeg, Int.cast_ofNat_Int, g8, g9, b16, bL, reduceIte, Nat.reduceEqDiff, true_or, or_true, Int.reduceLE, Int.reduceLT, Int.reduceAdd, Int.reduceSub, Int.reduceMul, not_true_eq_false, not_false_eq_true, implies_true, nat_s, wr_id, uR_at, uR_uR, u1_at, u1_ne, uf_at, uf_ne, iltT, iltF, ileT, ieqT, ieqF, e2]
  refine L_member (o := ad0) g8 (by rw [v3]; rfl) n0 (hof _ _) g12 l12 (show uc + 1 ≤ 674013 by omega) (show us + 6 ≤ 7074066 by omega) (fun hne => ?_) (fun he z hz2 => ?_)
  · by_cases hO : memO n (V bb (6 * i + 1)) (V bb (6 * i + 2))
    · rw [if_pos hO]
      obtain ⟨r, hr⟩ : ∃ r, memV (X.2.1 (V bb (6 * i + 1)).toNat) (V bb (6 * i + 1)).toNat (V bb (6 * i + 2)) = r := ⟨_, rfl⟩
      rw [hr]
      obtain ⟨V1, hV1⟩ : ∃ V1, V1 = up V (M + 6) 0 r := ⟨_, rfl⟩
      rw [← hV1]
      have fr : ∀ b j, b ≠ M + 6 → V1 b j = V b j := fun b j h => by rw [hV1]; exact up_ne h
      have so : V1 (M + 6) 0 = r := by rw [hV1]; exact up_at
      have sc : ∀ j, V1 bb j = V bb j := fun j => fr bb j (by omega)
      have em := mS_id (fun j => (fr M j (by omega)).trans (m0 j)) (fun j => (fr (M + 1) j (by omega)).trans (m1 j)) (fun j => (fr (M + 2) j (by omega)).trans (m2 j)) (fun j => (fr (M + 3) j (by omega)).trans (m3 j)) (fun j => (fr (M + 4) j (by omega)).trans (m4 j)) (fun j => (fr (M + 5) j (by omega)).trans (m5 j))
      have hC1 : CI w Γ V1 x (M + 6) L T fk n k W X c Y := hC.fr (fun b j hb => fr b j (by omega))
      refine tG_at hd kLaw_law_298 ?_
      simp (disch := omega) only [bLaw_law_298, rn, sm, lg, lt_, cmpP, tk, pr_, pu, swl, cs, Nat.reduceAdd, Nat.reduceLeDiff, Nat.zero_le, Nat.le_refl, true_and, and_true, Int.toNat_natCast, Int.reduceToNat, Int.reduceEq, false_implies, true_implies, Int.reduceNeg, Int.cast_ofNat_Int, g8, g9, b16, bL, reduceIte, Nat.reduceEqDiff, true_or, or_true, Int.reduceLE, Int.reduceLT, Int.reduceAdd, Int.reduceSub, Int.reduceMul, not_true_eq_false, not_false_eq_true, implies_true, nat_s, wr_id, uR_at, uR_uR, u1_at, u1_ne, uf_at, uf_ne, iltT, iltF, ileT, ieqT, ieqF, sc, e2]
      rw [← em]
      refine c_member (by omega) hM hC.g ?_
      rw [if_pos hO, hr]
      refine tG_at hd kLaw_law_316 ?_
      simp (disch := omega) only [bLaw_law_316, rn, sm, lg, lt_, cmpP, tk, pr_, pu, swl, cs, Nat.reduceAdd, Nat.reduceLeDiff, Nat.zero_le, Nat.le_refl, true_and, and_true, Int.toNat_natCast, Int.reduceToNat, Int.reduceEq, false_implies, true_implies, Int.reduceNeg, Int.cast_ofNat_Int, g8, g9, b16, bL, reduceIte, Nat.reduceEqDiff, true_or, or_true, Int.reduceLE, Int.reduceLT, Int.reduceAdd, Int.reduceSub, Int.reduceMul, not_true_eq_false, not_false_eq_true, implies_true, nat_s, wr_id, uR_at, uR_uR, u1_at, u1_ne, uf_at, uf_ne, iltT, iltF, ileT, ieqT, ieqF]
      refine c_thrown (by omega) (hM.uF (by omega)) ?_
      rw [uF_at]
      refine tG_at hd kLaw_law_322 ?_
      simp (disch := omega) only [bLaw_law_322, rn, sm, lg, lt_, cmpP, tk, pr_, pu, swl, cs, Nat.reduceAdd, Nat.reduceLeDiff, Nat.zero_le, Nat.le_refl, true_and, and_true, Int.toNat_natCast, Int.reduceToNat, Int.reduceEq, false_implies, true_implies, Int.reduceNeg, Int.cast_ofNat_Int, g8, g9, b16, bL, reduceIte, Nat.reduceEqDiff, true_or, or_true, Int.reduceLE, Int.reduceLT, Int.reduceAdd, Int.reduceSub, Int.reduceMul, not_true_eq_false, not_false_eq_true, implies_true, nat_s, wr_id, uR_at, uR_uR, u1_at, u1_ne, uf_at, uf_ne, iltT, iltF, ileT, ieqT, ieqF]
      refine tG_at hd kLaw_law_329 ?_
      simp (disch := omega) only [bLaw_law_329, rn, sm, lg, lt_, cmpP, tk, pr_, pu, swl, cs, Nat.reduceAdd, Nat.reduceLeDiff, Nat.zero_le, Nat.le_refl, true_and, and_true, Int.toNat_natCast, Int.reduceToNat, Int.reduceEq, false_implies, true_implies, Int.reduceNeg, Int.cast_ofNat_Int, g8, g9, b16, bL, reduceIte, Nat.reduceEqDiff, true_or, or_true, Int.reduceLE, Int.reduceLT, Int.reduceAdd, Int.reduceSub, Int.reduceMul, not_true_eq_false, not_false_eq_true, implies_true, nat_s, wr_id, uR_at, uR_uR, u1_at, u1_ne, uf_at, uf_ne, iltT, iltF, ileT, ieqT, ieqF]
      refine tG_at hd kLaw_law_334 ?_
      simp (disch := omega) only [bLaw_law_334, rn, sm, lg, lt_, cmpP, tk, pr_, pu, swl, cs, Nat.reduceAdd, Nat.reduceLeDiff, Nat.zero_le, Nat.le_refl, true_and, and_true, Int.toNat_natCast, Int.reduceToNat, Int.reduceEq, false_implies, true_implies, Int.reduceNeg, Int.cast_ofNat_Int, g8, g9, b16, bL, reduceIte, Nat.reduceEqDiff, true_or, or_true, Int.reduceLE, Int.reduceLT, Int.reduceAdd, Int.reduceSub, Int.reduceMul, not_true_eq_false, not_false_eq_true, implies_true, nat_s, wr_id, uR_at, uR_uR, u1_at, u1_ne, uf_at, uf_ne, iltT, iltF, ileT, ieqT, ieqF, mS_o, so, g12, l12]
      refine tG_at hd kLaw_law_346 ?_
      simp (disch := omega) only [bLaw_law_346, rn, sm, lg, lt_, cmpP, tk, pr_, pu, swl, cs, Nat.reduceAdd, Nat.reduceLeDiff, Nat.zero_le, Nat.le_refl, true_and, and_true, Int.toNat_natCast, Int.reduceToNat, Int.reduceEq, false_implies, true_implies, Int.reduceNeg, Int.cast_ofNat_Int, g8, g9, b16, bL, reduceIte, Nat.reduceEqDiff, true_or, or_true, Int.reduceLE, Int.reduceLT, Int.reduceAdd, Int.reduceSub, Int.reduceMul, not_true_eq_false, not_false_eq_true, implies_true, nat_s, wr_id, uR_at, uR_uR, u1_at, u1_ne, uf_at, uf_ne, iltT, iltF, ileT, ieqT, ieqF]
      exact tG_less (kn Γ _ (uc + 1) (us + 6) ((JI.mk' hC1 (hM.uF (by omega)) ((uF_ne (by omega)).trans f2) ((uF_ne (by omega)).trans f8) ((uF_ne (by omega)).trans f14) hS ⟨b16, bL0⟩ ⟨g12, l12⟩ hbx hxM).mono (by omega) (by omega)) (by omega) (by omega)) rfl ls_56
    · exact absurd (if_neg hO) hne
  · have hO : ¬ memO n (V bb (6 * i + 1)) (V bb (6 * i + 2)) := fun h => by
      rw [if_pos h] at he
      have := hnn _ _ h
      omega
    obtain ⟨Γ2, hΓ⟩ : ∃ Γ2 : GM, Γ2 = (Γ.1, Γ.2.1, z) := ⟨_, rfl⟩
    rw [← hΓ]
    have gx : GX Γ Γ2 (z - Γ.2.2) := by
      rw [hΓ]
      exact ⟨show z = Γ.2.2 + (z - Γ.2.2) by omega, fun t _ => ⟨rfl, rfl⟩⟩
    have hC1 := hC.gx gx
    have hM1 : ML Γ2 M F := by rw [hΓ]; exact hM
    have b16 : Γ2.1 bb = 16 := by rw [hΓ]; exact b16
    have bL0 : Γ2.2.1 bb = Ls := by rw [hΓ]; exact bL0
    have bL : (Γ2.2.1 bb : Int) = (Ls : Int) := by rw [bL0]
    have g12 : Γ2.1 (M + 6) = 12 := by rw [hΓ]; exact g12
    have l12 : Γ2.2.1 (M + 6) = 1 := by rw [hΓ]; exact l12
    have g8 := hC1.k8
    have g9 := hM1.1.1
    have em := mS_id m0 m1 m2 m3 m4 m5
    refine tG_at hd kLaw_law_298 ?_
    simp (disch := omega) only [bLaw_law_298, rn, sm, lg, lt_, cmpP, tk, pr_, pu, swl, cs, Nat.reduceAdd, Nat.reduceLeDiff, Nat.zero_le, Nat.le_refl, true_and, and_true, Int.toNat_natCast, Int.reduceToNat, Int.reduceEq, false_implies, true_implies, Int.reduceNeg, Int.cast_ofNat_Int, g8, g9, b16, bL, reduceIte, Nat.reduceEqDiff, true_or, or_true, Int.reduceLE, Int.reduceLT, Int.reduceAdd, Int.reduceSub, Int.reduceMul, not_true_eq_false, not_false_eq_true, implies_true, nat_s, wr_id, uR_at, uR_uR, u1_at, u1_ne, uf_at, uf_ne, iltT, iltF, ileT, ieqT, ieqF, e2]
    rw [← em]
    refine c_member (by omega) hM1 hC.g ?_
    rw [if_neg (by rw [em]; exact hO)]
    refine tG_at hd kLaw_law_316 ?_
    simp (disch := omega) only [bLaw_law_316, rn, sm, lg, lt_, cmpP, tk, pr_, pu, swl, cs, Nat.reduceAdd, Nat.reduceLeDiff, Nat.zero_le, Nat.le_refl, true_and, and_true, Int.toNat_natCast, Int.reduceToNat, Int.reduceEq, false_implies, true_implies, Int.reduceNeg, Int.cast_ofNat_Int, g8, g9, b16, bL, reduceIte, Nat.reduceEqDiff, true_or, or_true, Int.reduceLE, Int.reduceLT, Int.reduceAdd, Int.reduceSub, Int.reduceMul, not_true_eq_false, not_false_eq_true, implies_true, nat_s, wr_id, uR_at, uR_uR, u1_at, u1_ne, uf_at, uf_ne, iltT, iltF, ileT, ieqT, ieqF]
    refine c_thrown (by omega) (hM1.uF (by omega)) ?_
    rw [uF_at]
    refine tG_at hd kLaw_law_322 ?_
    simp (disch := omega) only [bLaw_law_322, rn, sm, lg, lt_, cmpP, tk, pr_, pu, swl, cs, Nat.reduceAdd, Nat.reduceLeDiff, Nat.zero_le, Nat.le_refl, true_and, and_true, Int.toNat_natCast, Int.reduceToNat, Int.reduceEq, false_implies, true_implies, Int.reduceNeg, Int.cast_ofNat_Int, g8, g9, b16, bL, reduceIte, Nat.reduceEqDiff, true_or, or_true, Int.reduceLE, Int.reduceLT, Int.reduceAdd, Int.reduceSub, Int.reduceMul, not_true_eq_false, not_false_eq_true, implies_true, nat_s, wr_id, uR_at, uR_uR, u1_at, u1_ne, uf_at, uf_ne, iltT, iltF, ileT, ieqT, ieqF]
    refine tG_at hd kLaw_law_329 ?_
    simp (disch := omega) only [bLaw_law_329, rn, sm, lg, lt_, cmpP, tk, pr_, pu, swl, cs, Nat.reduceAdd, Nat.reduceLeDiff, Nat.zero_le, Nat.le_refl, true_and, and_true, Int.toNat_natCast, Int.reduceToNat, Int.reduceEq, false_implies, true_implies, Int.reduceNeg, Int.cast_ofNat_Int, g8, g9, b16, bL, reduceIte, Nat.reduceEqDiff, true_or, or_true, Int.reduceLE, Int.reduceLT, Int.reduceAdd, Int.reduceSub, Int.reduceMul, not_true_eq_false, not_false_eq_true, implies_true, nat_s, wr_id, uR_at, uR_uR, u1_at, u1_ne, uf_at, uf_ne, iltT, iltF, ileT, ieqT, ieqF]
    refine tG_at hd kLaw_law_346 ?_
    simp (disch := omega) only [bLaw_law_346, rn, sm, lg, lt_, cmpP, tk, pr_, pu, swl, cs, Nat.reduceAdd, Nat.reduceLeDiff, Nat.zero_le, Nat.le_refl, true_and, and_true, Int.toNat_natCast, Int.reduceToNat, Int.reduceEq, false_implies, true_implies, Int.reduceNeg, Int.cast_ofNat_Int, g8, g9, b16, bL, reduceIte, Nat.reduceEqDiff, true_or, or_true, Int.reduceLE, Int.reduceLT, Int.reduceAdd, Int.reduceSub, Int.reduceMul, not_true_eq_false, not_false_eq_true, implies_true, nat_s, wr_id, uR_at, uR_uR, u1_at, u1_ne, uf_at, uf_ne, iltT, iltF, ileT, ieqT, ieqF]
    exact tG_less (kn Γ2 _ (uc + 1) (us + 6) ((JI.mk' hC1 (hM1.uF (by omega)) ((uF_ne (by omega)).trans f2) ((uF_ne (by omega)).trans f8) ((uF_ne (by omega)).trans f14) hS ⟨b16, bL0⟩ ⟨g12, l12⟩ hbx hxM).mono (by omega) (by omega)) (by omega) (by omega)) rfl ls_56
end LW
