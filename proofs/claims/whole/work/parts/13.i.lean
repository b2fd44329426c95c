/-! THE CLASS: undo, text -/
section NC
variable {w : WP} {d : Nat} {Γ : GM} {V : VH} {Q : QT} {o m e s : Nat} {A A2 : Nat → Int} {B S B2 S2 : Nat → Nat → Int} {q q2 : Nat → Nat} {n W k : Nat} {X : NT}
theorem k_netBegin1 (hd6 : 6 ≤ d) (hN : NK Γ o) {a : Nat} {r : Nat → Int} (ha : a < o ∨ o + 292 ≤ a) (hk : Γ.1 a = 10) (hl : (Γ.2.1 a : Int) = 6) (hr : ∀ j, j < 6 → V a j = r j) (hn6 : n ≤ 6) (hQ : QP q)
    (hq : ∀ A' B', RN n 9 A' B' S q (begN n r) → Q none Γ (nP V o A' B' S q)) : tC w d nNet_begin [.inr (.inl o), .inl (n : Int), .inr (.inl a)] Γ (nP V o A B S q) Q := by
  have hd : 4 ≤ d := by omega
  obtain ⟨⟨kg0, kg1, kg2⟩, ⟨kl1, kl2⟩, ⟨km0, km1, km2, km3, km4, km5, km6, km7, km8⟩, ⟨kk1, kk2, kk3, kk4, kk6, kk7, kk8⟩, ⟨kx0, kx1, kx2, kx3, kx4⟩, ⟨ky2, ky3, ky4⟩⟩ := id hN
  refine tC_enter (nL := 4) (by decide +kernel) (by decide +kernel) rfl (Nat.le_of_ble_eq_true rfl) (fun hok => ?_)
  simp only [ent]
  refine tG_at hd kNet_begin_0 ?_
  simp (disch := omega) only [bNet_begin_0, rn, sm, lg, lt_, cmpP, tk, pr_, pu, swl, cs, Nat.reduceAdd, Nat.reduceLeDiff, Nat.zero_le, Nat.le_refl, true_and, and_true, Int.toNat_natCast, Int.reduceToNat, Int.reduceEq, false_implies, true_implies, Int.reduceNeg, Int.cast_ofNat_Int, n_r0, n_r1, n_r2, n_r3, n_w3, n_r4, n_w4, n_r5, n_w5, n_r6, n_w6, n_r7, n_w7, n_r8, n_w8, n_r9, n_w9, n_r10, n_w10, n_all, n_mail, nP_ut, nP_um, n_m0, n_m1, n_m2, n_m3, n_m4, n_m5, n_u5, n_m6, n_u6, n_m7, n_u7, n_m8, n_u8, n_m9, n_u9, n_m10, n_u10, n_m11, n_u11, n_m12, n_u12, n_a1, n_b1, n_a2, n_b2, n_a3, n_b3, n_a4, n_b4, n_a6, n_b6, n_a7, n_b7, n_a8, n_b8, n_p0, n_p1, n_p2, n_p3, n_q3, n_p4, n_q4, n_g0, n_g1, n_h1, n_g2, n_h2, n_g3, n_h3, n_g4, n_h4, n_g5, n_h5, n_k0, n_k1, n_k2, n_k3, n_k4, n_l2, n_l3, n_l4, kg0, kg1, kg2, kl1, kl2, km0, km1, km2, km3, km4, km5, km6, km7, km8, kk1, kk2, kk3, kk4, kk6, kk7, kk8, kx0, kx1, kx2, kx3, kx4, ky2, ky3, ky4, reduceIte, Nat.reduceEqDiff, true_or, or_true, Int.reduceLE, Int.reduceLT, Int.reduceAdd, Int.reduceSub, Int.reduceMul, not_true_eq_false, not_false_eq_true, implies_true, nat_s, wr_id, uR_at, uR_uR, u1_at, u1_ne, uf_at, uf_ne, iltT, iltF, ileT, ieqT, ieqF]
  obtain ⟨A', hA'⟩ : ∃ A', A' = u1 (u1 (u1 (u1 (u1 (u1 (u1 (u1 A 0 (n : Int)) 5 0) 1 0) 2 0) 3 0) 4 0) 6 0) 7 (-1) := ⟨_, rfl⟩
  rw [← hA']
  have eA : ∀ j, j < 6 → A' j = (begN n r).1 j := by
    intro j hj
    rw [hA']
    show _ = if j = 0 then (n : Int) else 0
    unfold u1
    clear hN kg0 kg1 kg2 kl1 kl2 km0 km1 km2 km3 km4 km5 km6 km7 km8 kk1 kk2 kk3 kk4 kk6 kk7 kk8 kx0 kx1 kx2 kx3 kx4 ky2 ky3 ky4
    grind (splits := 40)
  have eA6 : A' 6 = 0 := by rw [hA']; rfl
  refine tG_loop (fun i => [some (.inr (.inl o)), some (.inl (n : Int)), some (.inr (.inl a)), some (.inl (i : Int))]) (fun i V' => ∃ B', V' = nP V o A' B' S q ∧ ∀ j, j < i → ∃ c, B' j = begB r c) 6 ?_ ?_ 0 _ (Nat.zero_le _) ⟨B, rfl, fun j hj => absurd hj (by omega)⟩
  · intro i V' hi hV k1
    obtain ⟨B', hV, hB'⟩ := hV
    subst hV
    refine tG_at hd kNet_begin_42 ?_
    simp (disch := omega) only [bNet_begin_42, rn, sm, lg, lt_, cmpP, tk, pr_, pu, swl, cs, Nat.reduceAdd, Nat.reduceLeDiff, Nat.zero_le, Nat.le_refl, true_and, and_true, Int.toNat_natCast, Int.reduceToNat, Int.reduceEq, false_implies, true_implies, Int.reduceNeg, Int.cast_ofNat_Int, n_r0, n_r1, n_r2, n_r3, n_w3, n_r4, n_w4, n_r5, n_w5, n_r6, n_w6, n_r7, n_w7, n_r8, n_w8, n_r9, n_w9, n_r10, n_w10, n_all, n_mail, nP_ut, nP_um, n_m0, n_m1, n_m2, n_m3, n_m4, n_m5, n_u5, n_m6, n_u6, n_m7, n_u7, n_m8, n_u8, n_m9, n_u9, n_m10, n_u10, n_m11, n_u11, n_m12, n_u12, n_a1, n_b1, n_a2, n_b2, n_a3, n_b3, n_a4, n_b4, n_a6, n_b6, n_a7, n_b7, n_a8, n_b8, n_p0, n_p1, n_p2, n_p3, n_q3, n_p4, n_q4, n_g0, n_g1, n_h1, n_g2, n_h2, n_g3, n_h3, n_g4, n_h4, n_g5, n_h5, n_k0, n_k1, n_k2, n_k3, n_k4, n_l2, n_l3, n_l4, kg0, kg1, kg2, kl1, kl2, km0, km1, km2, km3, km4, km5, km6, km7, km8, kk1, kk2, kk3, kk4, kk6, kk7, kk8, kx0, kx1, kx2, kx3, kx4, ky2, ky3, ky4, reduceIte, Nat.reduceEqDiff, true_or, or_true, Int.reduceLE, Int.reduceLT, Int.reduceAdd, Int.reduceSub, Int.reduceMul, not_true_eq_false, not_false_eq_true, implies_true, nat_s, wr_id, uR_at, uR_uR, u1_at, u1_ne, uf_at, uf_ne, iltT, iltF, ileT, ieqT, ieqF]
    refine tG_at hd kNet_begin_48 ?_
    simp (disch := omega) only [bNet_begin_48, rn, sm, lg, lt_, cmpP, tk, pr_, pu, swl, cs, Nat.reduceAdd, Nat.reduceLeDiff, Nat.zero_le, Nat.le_refl, true_and, and_true, Int.toNat_natCast, Int.reduceToNat, Int.reduceEq, false_implies, true_implies, Int.reduceNeg, Int.cast_ofNat_Int, n_r0, n_r1, n_r2, n_r3, n_w3, n_r4, n_w4, n_r5, n_w5, n_r6, n_w6, n_r7, n_w7, n_r8, n_w8, n_r9, n_w9, n_r10, n_w10, n_all, n_mail, nP_ut, nP_um, n_m0, n_m1, n_m2, n_m3, n_m4, n_m5, n_u5, n_m6, n_u6, n_m7, n_u7, n_m8, n_u8, n_m9, n_u9, n_m10, n_u10, n_m11, n_u11, n_m12, n_u12, n_a1, n_b1, n_a2, n_b2, n_a3, n_b3, n_a4, n_b4, n_a6, n_b6, n_a7, n_b7, n_a8, n_b8, n_p0, n_p1, n_p2, n_p3, n_q3, n_p4, n_q4, n_g0, n_g1, n_h1, n_g2, n_h2, n_g3, n_h3, n_g4, n_h4, n_g5, n_h5, n_k0, n_k1, n_k2, n_k3, n_k4, n_l2, n_l3, n_l4, kg0, kg1, kg2, kl1, kl2, km0, km1, km2, km3, km4, km5, km6, km7, km8, kk1, kk2, kk3, kk4, kk6, kk7, kk8, kx0, kx1, kx2, kx3, kx4, ky2, ky3, ky4, reduceIte, Nat.reduceEqDiff, true_or, or_true, Int.reduceLE, Int.reduceLT, Int.reduceAdd, Int.reduceSub, Int.reduceMul, not_true_eq_false, not_false_eq_true, implies_true, nat_s, wr_id, uR_at, uR_uR, u1_at, u1_ne, uf_at, uf_ne, iltT, iltF, ileT, ieqT, ieqF]
    refine k_membBegin (by omega) hN hi ha hk hl hr ?_
    refine tG_at hd kNet_begin_58 ?_
    simp (disch := omega) only [bNet_begin_58, rn, sm, lg, lt_, cmpP, tk, pr_, pu, swl, cs, Nat.reduceAdd, Nat.reduceLeDiff, Nat.zero_le, Nat.le_refl, true_and, and_true, Int.toNat_natCast, Int.reduceToNat, Int.reduceEq, false_implies, true_implies, Int.reduceNeg, Int.cast_ofNat_Int, n_r0, n_r1, n_r2, n_r3, n_w3, n_r4, n_w4, n_r5, n_w5, n_r6, n_w6, n_r7, n_w7, n_r8, n_w8, n_r9, n_w9, n_r10, n_w10, n_all, n_mail, nP_ut, nP_um, n_m0, n_m1, n_m2, n_m3, n_m4, n_m5, n_u5, n_m6, n_u6, n_m7, n_u7, n_m8, n_u8, n_m9, n_u9, n_m10, n_u10, n_m11, n_u11, n_m12, n_u12, n_a1, n_b1, n_a2, n_b2, n_a3, n_b3, n_a4, n_b4, n_a6, n_b6, n_a7, n_b7, n_a8, n_b8, n_p0, n_p1, n_p2, n_p3, n_q3, n_p4, n_q4, n_g0, n_g1, n_h1, n_g2, n_h2, n_g3, n_h3, n_g4, n_h4, n_g5, n_h5, n_k0, n_k1, n_k2, n_k3, n_k4, n_l2, n_l3, n_l4, kg0, kg1, kg2, kl1, kl2, km0, km1, km2, km3, km4, km5, km6, km7, km8, kk1, kk2, kk3, kk4, kk6, kk7, kk8, kx0, kx1, kx2, kx3, kx4, ky2, ky3, ky4, reduceIte, Nat.reduceEqDiff, true_or, or_true, Int.reduceLE, Int.reduceLT, Int.reduceAdd, Int.reduceSub, Int.reduceMul, not_true_eq_false, not_false_eq_true, implies_true, nat_s, wr_id, uR_at, uR_uR, u1_at, u1_ne, uf_at, uf_ne, iltT, iltF, ileT, ieqT, ieqF]
    refine k1 _ ⟨_, rfl, fun j hj => ?_⟩
    by_cases hji : j = i
    · subst hji
      exact ⟨_, uR_at⟩
    · rw [uR_ne hji]
      exact hB' j (by omega)
  · intro V' hV
    obtain ⟨B', hV, hB'⟩ := hV
    subst hV
    obtain ⟨z, hz⟩ : ∃ z : Nat, z = 0 := ⟨_, rfl⟩
    have hz0 : (0 : Int).toNat = z := hz.symm
    have hz6 : z < 6 := by omega
    refine tG_at hd kNet_begin_42 ?_
    simp (disch := omega) only [bNet_begin_42, rn, sm, lg, lt_, cmpP, tk, pr_, pu, swl, cs, Nat.reduceAdd, Nat.reduceLeDiff, Nat.zero_le, Nat.le_refl, true_and, and_true, Int.toNat_natCast, Int.reduceToNat, Int.reduceEq, false_implies, true_implies, Int.reduceNeg, Int.cast_ofNat_Int, n_r0, n_r1, n_r2, n_r3, n_w3, n_r4, n_w4, n_r5, n_w5, n_r6, n_w6, n_r7, n_w7, n_r8, n_w8, n_r9, n_w9, n_r10, n_w10, n_all, n_mail, nP_ut, nP_um, n_m0, n_m1, n_m2, n_m3, n_m4, n_m5, n_u5, n_m6, n_u6, n_m7, n_u7, n_m8, n_u8, n_m9, n_u9, n_m10, n_u10, n_m11, n_u11, n_m12, n_u12, n_a1, n_b1, n_a2, n_b2, n_a3, n_b3, n_a4, n_b4, n_a6, n_b6, n_a7, n_b7, n_a8, n_b8, n_p0, n_p1, n_p2, n_p3, n_q3, n_p4, n_q4, n_g0, n_g1, n_h1, n_g2, n_h2, n_g3, n_h3, n_g4, n_h4, n_g5, n_h5, n_k0, n_k1, n_k2, n_k3, n_k4, n_l2, n_l3, n_l4, kg0, kg1, kg2, kl1, kl2, km0, km1, km2, km3, km4, km5, km6, km7, km8, kk1, kk2, kk3, kk4, kk6, kk7, kk8, kx0, kx1, kx2, kx3, kx4, ky2, ky3, ky4, reduceIte, Nat.reduceEqDiff, true_or, or_true, Int.reduceLE, Int.reduceLT, Int.reduceAdd, Int.reduceSub, Int.reduceMul, not_true_eq_false, not_false_eq_true, implies_true, nat_s, wr_id, uR_at, uR_uR, u1_at, u1_ne, uf_at, uf_ne, iltT, iltF, ileT, ieqT, ieqF]
    refine tG_at hd kNet_begin_64 ?_
    simp (disch := omega) only [bNet_begin_64, rn, sm, lg, lt_, cmpP, tk, pr_, pu, swl, cs, Nat.reduceAdd, Nat.reduceLeDiff, Nat.zero_le, Nat.le_refl, true_and, and_true, Int.toNat_natCast, hz0, Int.reduceEq, false_implies, true_implies, Int.reduceNeg, Int.cast_ofNat_Int, n_r0, n_all, n_m4, n_u12, kg0, kg1, kl1, km0, km5, reduceIte, true_or, or_true, Int.reduceLT, Int.reduceLE, ileT, iltT]
    refine k_passBegin (by omega) hN hz6 ?_
    refine tG_at hd kNet_begin_87 ?_
    simp (disch := omega) only [bNet_begin_87, rn, sm, lg, lt_, cmpP, tk, pr_, pu, swl, cs, Nat.reduceAdd, Nat.reduceLeDiff, Nat.zero_le, Nat.le_refl, true_and, and_true, Int.toNat_natCast, Int.reduceToNat, Int.reduceEq, false_implies, true_implies, Int.reduceNeg, Int.cast_ofNat_Int, n_r0, n_r1, n_r2, n_r3, n_w3, n_r4, n_w4, n_r5, n_w5, n_r6, n_w6, n_r7, n_w7, n_r8, n_w8, n_r9, n_w9, n_r10, n_w10, n_all, n_mail, nP_ut, nP_um, n_m0, n_m1, n_m2, n_m3, n_m4, n_m5, n_u5, n_m6, n_u6, n_m7, n_u7, n_m8, n_u8, n_m9, n_u9, n_m10, n_u10, n_m11, n_u11, n_m12, n_u12, n_a1, n_b1, n_a2, n_b2, n_a3, n_b3, n_a4, n_b4, n_a6, n_b6, n_a7, n_b7, n_a8, n_b8, n_p0, n_p1, n_p2, n_p3, n_q3, n_p4, n_q4, n_g0, n_g1, n_h1, n_g2, n_h2, n_g3, n_h3, n_g4, n_h4, n_g5, n_h5, n_k0, n_k1, n_k2, n_k3, n_k4, n_l2, n_l3, n_l4, kg0, kg1, kg2, kl1, kl2, km0, km1, km2, km3, km4, km5, km6, km7, km8, kk1, kk2, kk3, kk4, kk6, kk7, kk8, kx0, kx1, kx2, kx3, kx4, ky2, ky3, ky4, reduceIte, Nat.reduceEqDiff, true_or, or_true, Int.reduceLE, Int.reduceLT, Int.reduceAdd, Int.reduceSub, Int.reduceMul, not_true_eq_false, not_false_eq_true, implies_true, nat_s, wr_id, uR_at, uR_uR, u1_at, u1_ne, uf_at, uf_ne, iltT, iltF, ileT, ieqT, ieqF]
    refine hq _ _ ⟨eA, by rw [eA6]; omega, fun i hi => ?_, fun j hj => absurd hj (by show ¬ (j : Int) < 0; omega), hQ, fun i hi => ?_⟩
    · have er := fun j => begN_row (r := r) hi j
      obtain ⟨c, hc⟩ := hB' i (by omega)
      by_cases hiz : i = z
      · subst hiz
        rw [uR_at, hc]
        rw [hz] at er ⊢
        exact RB_beg0 er
      · rw [uR_ne hiz, hc]
        exact RB_beg1 (by omega) (by omega) er
    · obtain ⟨c, hc⟩ := hB' i (by omega)
      by_cases hiz : i = z
      · subst hiz
        rw [uR_at, hc]
        exact ⟨Or.inl rfl, Or.inl rfl, Or.inr rfl⟩
      · rw [uR_ne hiz, hc]
        exact ⟨Or.inl rfl, Or.inl rfl, Or.inl rfl⟩
end NC
section CM
variable {w : WP} {d : Nat} {Γ : GM} {V : VH} {Q : QT} {x Z L n k W c hh : Nat} {T : Nat → Int} {fk : Int} {X : NT} {Y : Nat → NT} {ad : Nat → Nat} {tb : Nat → TBL}
theorem T_undo0 (hd : 4 ≤ d) (hC : CI w Γ V x Z L T fk n k W X 0 Y) (hq : Q (some (.inl (-1))) Γ V) : tC w d nTok_undo [.inr (.inl x)] Γ V Q := by
  obtain ⟨⟨c1, c2, c3⟩, cs_, ⟨⟨z0, z1, z2⟩, cl, kd, st, sp, v, T', ct0, ct1, ct2⟩, cc, ad, tb, hh, ch, ch10, ⟨⟨g8, g1, g15, g10⟩, ⟨v0, v1, v2, v3, v4, v5⟩, u0, u1, u2⟩, ly, cm⟩ := id hC
  have n0 := (ly.1 0 (by omega)).1.1.1
  have n1 := (ly.1 1 (by omega)).1.1.1
  refine tC_enter (nL := 1) (by decide +kernel) (by decide +kernel) rfl (Nat.le_of_ble_eq_true rfl) (fun hok => ?_)
  simp only [ent]
  refine tG_at hd kTok_undo_0 ?_
  simp (disch := omega) only [bTok_undo_0, rn, sm, lg, lt_, cmpP, tk, pr_, pu, swl, cs, Nat.reduceAdd, Nat.reduceLeDiff, Nat.zero_le, Nat.le_refl, true_and, and_true, Int.toNat_natCast, Int.reduceToNat, Int.reduceEq, false_implies, true_implies, Int.reduceNeg, Int.cast_ofNat_Int, g8, g1, g15, g10, v0, v1, v2, v3, v4, v5, u0, u1, z0, n0, n1, reduceIte, Nat.reduceEqDiff, true_or, or_true, Int.reduceLE, Int.reduceLT, Int.reduceAdd, Int.reduceSub, Int.reduceMul, not_true_eq_false, not_false_eq_true, implies_true, nat_s, wr_id, uR_at, uR_uR, u1_at, u1_ne, uf_at, uf_ne, iltT, iltF, ileT, ieqT, ieqF, Int.natCast_zero]
  refine tG_at hd kTok_undo_10 ?_
  simp (disch := omega) only [bTok_undo_10, rn, sm, lg, lt_, cmpP, tk, pr_, pu, swl, cs, Nat.reduceAdd, Nat.reduceLeDiff, Nat.zero_le, Nat.le_refl, true_and, and_true, Int.toNat_natCast, Int.reduceToNat, Int.reduceEq, false_implies, true_implies, Int.reduceNeg, Int.cast_ofNat_Int, g8, g1, g15, g10, v0, v1, v2, v3, v4, v5, u0, u1, z0, n0, n1, reduceIte, Nat.reduceEqDiff, true_or, or_true, Int.reduceLE, Int.reduceLT, Int.reduceAdd, Int.reduceSub, Int.reduceMul, not_true_eq_false, not_false_eq_true, implies_true, nat_s, wr_id, uR_at, uR_uR, u1_at, u1_ne, uf_at, uf_ne, iltT, iltF, ileT, ieqT, ieqF]
  exact hq
theorem L_back (hd : 4 ≤ d) (g1 : Γ.1 (x + 9) = 1) (g15 : Γ.1 (x + 10) = 15) (g10 : (Γ.2.1 (x + 10) : Int) = 10) {a b : Nat} (u0 : V (x + 9) 0 = ((x + 10 : Nat) : Int)) (u1 : V (x + 9) 1 = ((c + 1 : Nat) : Int)) (hc : c < 10) (ec : V (x + 10) c = ((b : Nat) : Int)) (n0 : Γ.1 a = 4)
    (hq : Q (some (.inr (.inl b))) Γ (up (up V (x + 9) 1 (c : Int)) (x + 10) c ((a : Nat) : Int))) : tC w d nHist_takeBack [.inr (.inl (x + 9)), .inr (.inl a)] Γ V Q := by
  have e1 : ((c + 1 : Nat) : Int) - 1 = (c : Int) := by omega
  have hne : (((c + 1 : Nat) : Int) = 0) = False := eq_false (by omega)
  refine tC_enter (nL := 3) (by decide +kernel) (by decide +kernel) rfl (Nat.le_of_ble_eq_true rfl) (fun hok => ?_)
  simp only [ent]
  refine tG_at hd kHist_takeBack_0 ?_
  simp (disch := omega) only [bHist_takeBack_0, rn, sm, lg, lt_, cmpP, tk, pr_, pu, swl, cs, Nat.reduceAdd, Nat.reduceLeDiff, Nat.zero_le, Nat.le_refl, true_and, and_true, Int.toNat_natCast, Int.reduceToNat, Int.reduceEq, false_implies, true_implies, Int.reduceNeg, Int.cast_ofNat_Int, g1, u1, hne, not_false_eq_true, not_true_eq_false]
  refine tG_at hd kHist_takeBack_9 ?_
  simp (disch := omega) only [bHist_takeBack_9, rn, sm, lg, lt_, cmpP, tk, pr_, pu, swl, cs, Nat.reduceAdd, Nat.reduceLeDiff, Nat.zero_le, Nat.le_refl, true_and, and_true, Int.toNat_natCast, Int.reduceToNat, Int.reduceEq, false_implies, true_implies, Int.reduceNeg, Int.cast_ofNat_Int, g1, g15, g10, u0, u1, ec, up_ne, up_nj, up_at, wr_id, e1, n0, ileT, iltT, Nat.reduceEqDiff]
  exact hq
set_option maxHeartbeats 1000000 in
theorem T_undo (hd5 : 5 ≤ d) (hC : CI w Γ V x Z L T fk n k W X (c + 1) Y) (hq : ∀ V' n' k', CI w Γ V' x Z L T fk n' k' W (Y c) c Y → FR x Z V V' → Q (some (.inl (c : Int))) Γ V') : tC w d nTok_undo [.inr (.inl x)] Γ V Q := by
  have hd : 4 ≤ d := by omega
  obtain ⟨⟨c1, c2, c3⟩, cs_, ⟨⟨z0, z1, z2⟩, cl, kd, st, sp, v, T', ct0, ct1, ct2⟩, cc, ad, tb, hh, ch, ch10, ⟨⟨g8, g1, g15, g10⟩, ⟨v0, v1, v2, v3, v4, v5⟩, u0, u1, u2⟩, ly, cm⟩ := id hC
  have n0 := (ly.1 0 (by omega)).1.1.1
  have n1 := (ly.1 1 (by omega)).1.1.1
  have n2 := (ly.1 (2 + c) (by omega)).1.1.1
  have b2 := ly.b c1 (u := 2 + c) (by omega)
  have b0 := ly.b c1 (u := 0) (by omega)
  have ec : V (x + 10) c = ((ad (2 + c) : Nat) : Int) := (u2 c (by omega)).trans (if_pos (by omega))
  have hne : (((c + 1 : Nat) : Int) = 0) = False := eq_false (by omega)
  obtain ⟨n', k', a1, a2, a3⟩ := cm.2 c (by omega)
  have s0 : sw1 0 (2 + c) 0 = 2 + c := if_pos rfl
  have sc : sw1 0 (2 + c) (2 + c) = 0 := by
    unfold sw1
    rw [if_neg (by omega), if_pos rfl]
  have so : ∀ u, u ≠ 0 → u ≠ 2 + c → sw1 0 (2 + c) u = u := fun u h1 h2 => by
    unfold sw1
    rw [if_neg h1, if_neg h2]
  have lyp := ly.perm (sw1 0 (2 + c)) (fun u hu => sw1_b (by omega) (by omega) hu) (fun u v hu hv h => sw1_inj h)
  obtain ⟨ad', had⟩ : ∃ ad' : Nat → Nat, ad' = fun u => ad (sw1 0 (2 + c) u) := ⟨_, rfl⟩
  obtain ⟨tb', htb⟩ : ∃ tb' : Nat → TBL, tb' = fun u => tb (sw1 0 (2 + c) u) := ⟨_, rfl⟩
  rw [← had, ← htb] at lyp
  have ea : ∀ u, ad' u = ad (sw1 0 (2 + c) u) := fun u => by rw [had]
  have et : ∀ u, tb' u = tb (sw1 0 (2 + c) u) := fun u => by rw [htb]
  refine tC_enter (nL := 1) (by decide +kernel) (by decide +kernel) rfl (Nat.le_of_ble_eq_true rfl) (fun hok => ?_)
  simp only [ent]
  refine tG_at hd kTok_undo_0 ?_
  simp (disch := omega) only [bTok_undo_0, rn, sm, lg, lt_, cmpP, tk, pr_, pu, swl, cs, Nat.reduceAdd, Nat.reduceLeDiff, Nat.zero_le, Nat.le_refl, true_and, and_true, Int.toNat_natCast, Int.reduceToNat, Int.reduceEq, false_implies, true_implies, Int.reduceNeg, Int.cast_ofNat_Int, g8, g1, g15, g10, v0, v1, v2, v3, v4, v5, u0, u1, z0, n0, n1, reduceIte, Nat.reduceEqDiff, true_or, or_true, Int.reduceLE, Int.reduceLT, Int.reduceAdd, Int.reduceSub, Int.reduceMul, not_true_eq_false, not_false_eq_true, implies_true, nat_s, wr_id, uR_at, uR_uR, u1_at, u1_ne, uf_at, uf_ne, iltT, iltF, ileT, ieqT, ieqF, hne]
  refine tG_at hd kTok_undo_12 ?_
  simp (disch := omega) only [bTok_undo_12, rn, sm, lg, lt_, cmpP, tk, pr_, pu, swl, cs, Nat.reduceAdd, Nat.reduceLeDiff, Nat.zero_le, Nat.le_refl, true_and, and_true, Int.toNat_natCast, Int.reduceToNat, Int.reduceEq, false_implies, true_implies, Int.reduceNeg, Int.cast_ofNat_Int, g8, g1, g15, g10, v0, v1, v2, v3, v4, v5, u0, u1, z0, n0, n1, reduceIte, Nat.reduceEqDiff, true_or, or_true, Int.reduceLE, Int.reduceLT, Int.reduceAdd, Int.reduceSub, Int.reduceMul, not_true_eq_false, not_false_eq_true, implies_true, nat_s, wr_id, uR_at, uR_uR, u1_at, u1_ne, uf_at, uf_ne, iltT, iltF, ileT, ieqT, ieqF]
  refine L_back (by omega) g1 g15 g10 u0 u1 (by omega) ec n0 ?_
  refine tG_at hd kTok_undo_24 ?_
  simp (disch := omega) only [bTok_undo_24, rn, sm, lg, lt_, cmpP, tk, pr_, pu, swl, cs, Nat.reduceAdd, Nat.reduceLeDiff, Nat.zero_le, Nat.le_refl, true_and, and_true, Int.toNat_natCast, Int.reduceToNat, Int.reduceEq, false_implies, true_implies, Int.reduceNeg, Int.cast_ofNat_Int, g8, g1, g15, g10, v0, v1, v2, v3, v4, v5, u0, u1, z0, n0, n1, reduceIte, Nat.reduceEqDiff, true_or, or_true, Int.reduceLE, Int.reduceLT, Int.reduceAdd, Int.reduceSub, Int.reduceMul, not_true_eq_false, not_false_eq_true, implies_true, nat_s, wr_id, uR_at, uR_uR, u1_at, u1_ne, uf_at, uf_ne, iltT, iltF, ileT, ieqT, ieqF, up_ne, up_nj, up_at]
  have e : ∀ b j, b ≠ x → b ≠ x + 9 → b ≠ x + 10 → up (up (up V (x + 9) 1 (c : Int)) (x + 10) c ((ad 0 : Nat) : Int)) x 3 ((ad (2 + c) : Nat) : Int) b j = V b j := fun b j h1 h2 h3 => by rw [up_ne h1, up_ne h3, up_ne h2]
  have ex : ∀ j, j ≠ 3 → up (up (up V (x + 9) 1 (c : Int)) (x + 10) c ((ad 0 : Nat) : Int)) x 3 ((ad (2 + c) : Nat) : Int) x j = V x j := fun j h1 => by rw [up_nj h1, up_ne (by omega), up_ne (by omega)]
  refine hq _ n' k' ⟨⟨c1, c2, c3⟩, cs_.fr (fun b j hb => e b j (by omega) (by omega) (by omega)), CT.fr ⟨⟨z0, z1, z2⟩, cl, kd, st, sp, v, T', ct0, ct1, ct2⟩ (fun b j h1 h2 => e b j (by omega) (by omega) (by omega)), cc.fr (fun b j h1 h2 => e b j (by omega) (by omega) (by omega)), ad', tb', hh, by omega, ch10, ⟨⟨g8, g1, g15, g10⟩, ⟨(ex 0 (by omega)).trans v0, (ex 1 (by omega)).trans v1, (ex 2 (by omega)).trans v2, by rw [up_at, ea, s0], by rw [ex 4 (by omega), ea, so 1 (by omega) (by omega)]; exact v4, (ex 5 (by omega)).trans v5⟩, by rw [up_ne (by omega), up_ne (by omega), up_nj (by omega)]; exact u0, by rw [up_ne (by omega), up_ne (by omega), up_at], fun j hj => ?_⟩, ?_, ?_⟩ (fun b j hb => e b j (by omega) (by omega) (by omega))
  · rw [up_ne (by omega)]
    by_cases hjc : j = c
    · subst hjc
      rw [up_at, if_pos (by omega), ea, sc]
    · rw [up_nj hjc, up_ne (by omega), u2 j hj, ea, so (2 + j) (by omega) (by omega)]
  · exact lyp.fr (fun b j hb => e b j (by omega) (by omega) (by omega))
  · refine ⟨by rw [et, s0]; exact ⟨a1, a2, a3⟩, fun i hi => ?_⟩
    rw [et, so (2 + i) (by omega) (by omega)]
    exact cm.2 i (by omega)
end CM
