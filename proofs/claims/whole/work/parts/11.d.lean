/-! THE CLASS AND THE NET: what ties the class's tables to the net -/
def QP (q : Nat → Nat) : Prop := (∀ j, j ≤ 46 → q j < 47) ∧ ∀ i j, i ≤ 46 → j ≤ 46 → q i = q j → i = j
def BL (B : Nat → Nat → Int) : Prop := ∀ i, i < 6 → (B i 2 = 0 ∨ B i 2 = 1) ∧ (B i 3 = 0 ∨ B i 3 = 1) ∧ (B i 50 = 0 ∨ B i 50 = 1)
/-- a member's row -/
def RB (m : Nat) (b' b : Nat → Int) : Prop := (∀ j, j < 24 → b' j = b j) ∧ b' 51 = b (6 + m) ∧ (b' 50 = if 0 < b 30 then 1 else 0) ∧ (0 < b 30 → (∀ j, 30 ≤ j → j < 38 → b' j = b j) ∧ ∀ i : Nat, (i : Int) < b 31 → b' (38 + i) = b (38 + i) ∧ b' (44 + i) = b (44 + i)) ∧ (∀ a, a < 6 → vb (b 5) a → b' (24 + a) = b (24 + a))
/-- a message's row -/
def RM (r' r : Nat → Int) : Prop := (∀ j, j < 5 → r' j = r j) ∧ (r 2 = 1 → (∀ j, 30 ≤ j → j < 38 → r' j = r (j - 25)) ∧ ∀ i : Nat, (i : Int) < r 6 → r' (38 + i) = r (13 + i) ∧ r' (44 + i) = r (19 + i))
def RN (n W : Nat) (A : Nat → Int) (B S : Nat → Nat → Int) (q : Nat → Nat) (X : NT) : Prop :=
  (∀ j, j < 6 → A j = X.1 j) ∧ (0 ≤ A 6 ∧ A 6 ≤ (W : Int)) ∧ (∀ i, i < n → RB i (B i) (X.2.1 i)) ∧ (∀ j : Nat, (j : Int) < X.1 5 → RM (S (q j)) (X.2.2 j)) ∧ QP q ∧ BL B
section RL
variable {n W m k : Nat} {A : Nat → Int} {B S : Nat → Nat → Int} {q : Nat → Nat} {X : NT}
theorem RN.mono (h : RN n W A B S q X) {W' : Nat} (hw : W ≤ W') : RN n W' A B S q X := ⟨h.1, ⟨h.2.1.1, by have := h.2.1.2; omega⟩, h.2.2⟩
theorem RB.cp {b2 b1 b : Nat → Int} (h : RB m b2 b) (h6 : b 31 ≤ 6) : RB m (cpB b2 b1) b := by
  obtain ⟨h1, h2, h3, h4, h5⟩ := h
  have lo : ∀ j, j < 30 ∨ j = 50 ∨ j = 51 → cpB b2 b1 j = b2 j := fun j hj => if_pos hj
  refine ⟨fun j hj => (lo j (by omega)).trans (h1 j hj), (lo _ (by omega)).trans h2, (lo _ (by omega)).trans h3, fun h0 => ?_, fun a ha hv => (lo _ (by omega)).trans (h5 a ha hv)⟩
  rw [if_pos h0] at h3
  have hi : ∀ j, 30 ≤ j → j < 50 → cpB b2 b1 j = b2 j := fun j j1 j2 => by
    unfold cpB
    rw [if_neg (by omega), if_pos ⟨by omega, j1, j2⟩]
  obtain ⟨h6, h7⟩ := h4 h0
  refine ⟨fun j j1 j2 => (hi j j1 (by omega)).trans (h6 j j1 j2), fun i hi2 => ?_⟩
  have h8 := h7 i hi2
  exact ⟨(hi _ (by omega) (by omega)).trans h8.1, (hi _ (by omega) (by omega)).trans h8.2⟩
theorem RM.cp {r2 r1 r : Nat → Int} (h : RM r2 r) (h6 : r 2 = 1 → r 6 ≤ 6) : RM (cpG r2 r1) r := by
  obtain ⟨h1, h2⟩ := h
  have lo : ∀ j, j < 5 → cpG r2 r1 j = r2 j := fun j hj => if_pos hj
  refine ⟨fun j hj => (lo j hj).trans (h1 j hj), fun h0 => ?_⟩
  have hi : ∀ j, 30 ≤ j → j < 50 → cpG r2 r1 j = r2 j := fun j j1 j2 => by
    unfold cpG
    rw [if_neg (by omega), if_pos ⟨by rw [h1 2 (by omega)]; exact h0, j1, j2⟩]
  obtain ⟨h3, h4⟩ := h2 h0
  have h6 := h6 h0
  exact ⟨fun j j1 j2 => (hi j j1 (by omega)).trans (h3 j j1 j2), fun i hi2 => ⟨(hi _ (by omega) (by omega)).trans (h4 i hi2).1, (hi _ (by omega) (by omega)).trans (h4 i hi2).2⟩⟩
end RL
section NC
variable {w : WP} {d : Nat} {Γ : GM} {V : VH} {Q : QT} {o m e s : Nat} {A A2 : Nat → Int} {B S B2 S2 : Nat → Nat → Int} {q q2 : Nat → Nat} {n W k : Nat} {X : NT}
theorem GJ.len (g : GJ n k W X) {i : Nat} (hi : i < n) : X.2.1 i 31 ≤ 6 := by
  have h6 := g.1.A.2.2.2.1
  obtain ⟨i1, i2, i3, i4, i5, i6, i7, i8, i9, L, i10⟩ := g.1.row hi
  have := i10.len
  rw [i10.1]
  omega
theorem GJ.lenM (g : GJ n k W X) {j : Nat} (hj : j < k) (h1 : X.2.2 j 2 = 1) : X.2.2 j 6 ≤ 6 := by
  have h6 := g.1.A.2.2.2.1
  obtain ⟨-, -, -, -, -, h⟩ := g.1.1.2.2.2.2.2.2.1 j hj
  obtain ⟨-, -, -, -, L, hL⟩ := h h1
  have := hL.len
  have h2 : pb (X.2.2 j) 31 = (L : Int) := hL.1
  have h3 : pb (X.2.2 j) 31 = X.2.2 j 6 := rfl
  omega
theorem k_copyNet (hd6 : 6 ≤ d) (hN : NK Γ o) (hS : NK Γ s) (hdis : s + 292 ≤ o ∨ o + 292 ≤ s) (g : GJ n k W X) (hR : RN n W A2 B2 S2 q2 X) (hQ : QP q)
    (hq : ∀ A' B' S', RN n W A' B' S' q X → A' 6 = A2 6 → A' 7 = A2 7 → Q none Γ (nP (nP V s A2 B2 S2 q2) o A' B' S' q)) : tC w d nNet_copyFrom [.inr (.inl o), .inr (.inl s)] Γ (nP (nP V s A2 B2 S2 q2) o A B S q) Q := by
  have hd : 4 ≤ d := by omega
  obtain ⟨n0, n5, hn2, hn6, hk41, hW⟩ := g.1.A
  obtain ⟨rA, rW, rB, rM, rQ, rL⟩ := id hR
  obtain ⟨Q1, Q2⟩ := id hQ
  have a5 : A2 5 = (k : Int) := (rA 5 (by omega)).trans n5
  obtain ⟨⟨kg0, kg1, kg2⟩, ⟨kl1, kl2⟩, ⟨km0, km1, km2, km3, km4, km5, km6, km7, km8⟩, ⟨kk1, kk2, kk3, kk4, kk6, kk7, kk8⟩, ⟨kx0, kx1, kx2, kx3, kx4⟩, ⟨ky2, ky3, ky4⟩⟩ := id hN
  obtain ⟨⟨jg0, jg1, jg2⟩, ⟨jl1, jl2⟩, ⟨jm0, jm1, jm2, jm3, jm4, jm5, jm6, jm7, jm8⟩, ⟨jj1, jj2, jj3, jj4, jj6, jj7, jj8⟩, ⟨jx0, jx1, jx2, jx3, jx4⟩, ⟨jy2, jy3, jy4⟩⟩ := id hS
  refine tC_enter (nL := 3) (by decide +kernel) (by decide +kernel) rfl (Nat.le_of_ble_eq_true rfl) (fun hok => ?_)
  simp only [ent]
  refine tG_at hd kNet_copyFrom_0 ?_
  simp (disch := omega) only [bNet_copyFrom_0, rn, sm, lg, lt_, cmpP, tk, pr_, pu, swl, cs, Nat.reduceAdd, Nat.reduceLeDiff, Nat.zero_le, Nat.le_refl, true_and, and_true, Int.toNat_natCast, Int.reduceToNat, Int.reduceEq, false_implies, true_implies, Int.reduceNeg, Int.cast_ofNat_Int, n_r0, n_r1, n_r2, n_r3, n_w3, n_r4, n_w4, n_r5, n_w5, n_r6, n_w6, n_r7, n_w7, n_r8, n_w8, n_r9, n_w9, n_r10, n_w10, n_all, n_mail, nP_ut, nP_um, n_m0, n_m1, n_m2, n_m3, n_m4, n_m5, n_u5, n_m6, n_u6, n_m7, n_u7, n_m8, n_u8, n_m9, n_u9, n_m10, n_u10, n_m11, n_u11, n_m12, n_u12, n_a1, n_b1, n_a2, n_b2, n_a3, n_b3, n_a4, n_b4, n_a6, n_b6, n_a7, n_b7, n_a8, n_b8, n_p0, n_p1, n_p2, n_p3, n_q3, n_p4, n_q4, n_g0, n_g1, n_h1, n_g2, n_h2, n_g3, n_h3, n_g4, n_h4, n_g5, n_h5, n_k0, n_k1, n_k2, n_k3, n_k4, n_l2, n_l3, n_l4, kg0, kg1, kg2, kl1, kl2, km0, km1, km2, km3, km4, km5, km6, km7, km8, kk1, kk2, kk3, kk4, kk6, kk7, kk8, kx0, kx1, kx2, kx3, kx4, ky2, ky3, ky4, jg0, jg1, jg2, jl1, jl2, jm0, jm1, jm2, jm3, jm4, jm5, jm6, jm7, jm8, jj1, jj2, jj3, jj4, jj6, jj7, jj8, jx0, jx1, jx2, jx3, jx4, jy2, jy3, jy4, reduceIte, Nat.reduceEqDiff, true_or, or_true, Int.reduceLE, Int.reduceLT, Int.reduceAdd, Int.reduceSub, Int.reduceMul, not_true_eq_false, not_false_eq_true, implies_true, nat_s, wr_id, uR_at, uR_uR, u1_at, u1_ne, uf_at, uf_ne, iltT, iltF, ileT, ieqT, ieqF, nP_o]
  obtain ⟨A', hA'⟩ : ∃ A', A' = u1 (u1 (u1 (u1 (u1 (u1 (u1 (u1 A 0 (A2 0)) 5 (A2 5)) 1 (A2 1)) 2 (A2 2)) 3 (A2 3)) 4 (A2 4)) 6 (A2 6)) 7 (A2 7) := ⟨_, rfl⟩
  rw [← hA']
  have eA : ∀ j, j < 8 → A' j = A2 j := by
    intro j hj
    rw [hA']
    unfold u1
    clear hN hS kg0 kg1 kg2
    grind (splits := 40)
  have eA5 : A' 5 = (k : Int) := (eA 5 (by omega)).trans a5
  refine tG_loop (fun i => [some (.inr (.inl o)), some (.inr (.inl s)), some (.inl (i : Int))]) (fun i V' => ∃ B', V' = nP (nP V s A2 B2 S2 q2) o A' B' S q ∧ ∀ j, j < i → ∃ c, B' j = cpB (B2 j) c) 6 ?_ ?_ 0 _ (Nat.zero_le _) ⟨B, rfl, fun j hj => absurd hj (by omega)⟩
  · intro i V' hi hV k1
    obtain ⟨B', hV, hB'⟩ := hV
    subst hV
    refine tG_at hd kNet_copyFrom_66 ?_
    simp (disch := omega) only [bNet_copyFrom_66, rn, sm, lg, lt_, cmpP, tk, pr_, pu, swl, cs, Nat.reduceAdd, Nat.reduceLeDiff, Nat.zero_le, Nat.le_refl, true_and, and_true, Int.toNat_natCast, Int.reduceToNat, Int.reduceEq, false_implies, true_implies, Int.reduceNeg, Int.cast_ofNat_Int, n_r0, n_r1, n_r2, n_r3, n_w3, n_r4, n_w4, n_r5, n_w5, n_r6, n_w6, n_r7, n_w7, n_r8, n_w8, n_r9, n_w9, n_r10, n_w10, n_all, n_mail, nP_ut, nP_um, n_m0, n_m1, n_m2, n_m3, n_m4, n_m5, n_u5, n_m6, n_u6, n_m7, n_u7, n_m8, n_u8, n_m9, n_u9, n_m10, n_u10, n_m11, n_u11, n_m12, n_u12, n_a1, n_b1, n_a2, n_b2, n_a3, n_b3, n_a4, n_b4, n_a6, n_b6, n_a7, n_b7, n_a8, n_b8, n_p0, n_p1, n_p2, n_p3, n_q3, n_p4, n_q4, n_g0, n_g1, n_h1, n_g2, n_h2, n_g3, n_h3, n_g4, n_h4, n_g5, n_h5, n_k0, n_k1, n_k2, n_k3, n_k4, n_l2, n_l3, n_l4, kg0, kg1, kg2, kl1, kl2, km0, km1, km2, km3, km4, km5, km6, km7, km8, kk1, kk2, kk3, kk4, kk6, kk7, kk8, kx0, kx1, kx2, kx3, kx4, ky2, ky3, ky4, reduceIte, Nat.reduceEqDiff, true_or, or_true, Int.reduceLE, Int.reduceLT, Int.reduceAdd, Int.reduceSub, Int.reduceMul, not_true_eq_false, not_false_eq_true, implies_true, nat_s, wr_id, uR_at, uR_uR, u1_at, u1_ne, uf_at, uf_ne, iltT, iltF, ileT, ieqT, ieqF]
    refine tG_at hd kNet_copyFrom_72 ?_
    simp (disch := omega) only [bNet_copyFrom_72, rn, sm, lg, lt_, cmpP, tk, pr_, pu, swl, cs, Nat.reduceAdd, Nat.reduceLeDiff, Nat.zero_le, Nat.le_refl, true_and, and_true, Int.toNat_natCast, Int.reduceToNat, Int.reduceEq, false_implies, true_implies, Int.reduceNeg, Int.cast_ofNat_Int, n_r0, n_r1, n_r2, n_r3, n_w3, n_r4, n_w4, n_r5, n_w5, n_r6, n_w6, n_r7, n_w7, n_r8, n_w8, n_r9, n_w9, n_r10, n_w10, n_all, n_mail, nP_ut, nP_um, n_m0, n_m1, n_m2, n_m3, n_m4, n_m5, n_u5, n_m6, n_u6, n_m7, n_u7, n_m8, n_u8, n_m9, n_u9, n_m10, n_u10, n_m11, n_u11, n_m12, n_u12, n_a1, n_b1, n_a2, n_b2, n_a3, n_b3, n_a4, n_b4, n_a6, n_b6, n_a7, n_b7, n_a8, n_b8, n_p0, n_p1, n_p2, n_p3, n_q3, n_p4, n_q4, n_g0, n_g1, n_h1, n_g2, n_h2, n_g3, n_h3, n_g4, n_h4, n_g5, n_h5, n_k0, n_k1, n_k2, n_k3, n_k4, n_l2, n_l3, n_l4, kg0, kg1, kg2, kl1, kl2, km0, km1, km2, km3, km4, km5, km6, km7, km8, kk1, kk2, kk3, kk4, kk6, kk7, kk8, kx0, kx1, kx2, kx3, kx4, ky2, ky3, ky4, jg0, jg1, jg2, jl1, jl2, jm0, jm1, jm2, jm3, jm4, jm5, jm6, jm7, jm8, jj1, jj2, jj3, jj4, jj6, jj7, jj8, jx0, jx1, jx2, jx3, jx4, jy2, jy3, jy4, reduceIte, Nat.reduceEqDiff, true_or, or_true, Int.reduceLE, Int.reduceLT, Int.reduceAdd, Int.reduceSub, Int.reduceMul, not_true_eq_false, not_false_eq_true, implies_true, nat_s, wr_id, uR_at, uR_uR, u1_at, u1_ne, uf_at, uf_ne, iltT, iltF, ileT, ieqT, ieqF, nP_o]
    refine k_membCopy (by omega) hN hS hdis hi (rL i hi) ?_
    refine tG_at hd kNet_copyFrom_87 ?_
    simp (disch := omega) only [bNet_copyFrom_87, rn, sm, lg, lt_, cmpP, tk, pr_, pu, swl, cs, Nat.reduceAdd, Nat.reduceLeDiff, Nat.zero_le, Nat.le_refl, true_and, and_true, Int.toNat_natCast, Int.reduceToNat, Int.reduceEq, false_implies, true_implies, Int.reduceNeg, Int.cast_ofNat_Int, n_r0, n_r1, n_r2, n_r3, n_w3, n_r4, n_w4, n_r5, n_w5, n_r6, n_w6, n_r7, n_w7, n_r8, n_w8, n_r9, n_w9, n_r10, n_w10, n_all, n_mail, nP_ut, nP_um, n_m0, n_m1, n_m2, n_m3, n_m4, n_m5, n_u5, n_m6, n_u6, n_m7, n_u7, n_m8, n_u8, n_m9, n_u9, n_m10, n_u10, n_m11, n_u11, n_m12, n_u12, n_a1, n_b1, n_a2, n_b2, n_a3, n_b3, n_a4, n_b4, n_a6, n_b6, n_a7, n_b7, n_a8, n_b8, n_p0, n_p1, n_p2, n_p3, n_q3, n_p4, n_q4, n_g0, n_g1, n_h1, n_g2, n_h2, n_g3, n_h3, n_g4, n_h4, n_g5, n_h5, n_k0, n_k1, n_k2, n_k3, n_k4, n_l2, n_l3, n_l4, kg0, kg1, kg2, kl1, kl2, km0, km1, km2, km3, km4, km5, km6, km7, km8, kk1, kk2, kk3, kk4, kk6, kk7, kk8, kx0, kx1, kx2, kx3, kx4, ky2, ky3, ky4, reduceIte, Nat.reduceEqDiff, true_or, or_true, Int.reduceLE, Int.reduceLT, Int.reduceAdd, Int.reduceSub, Int.reduceMul, not_true_eq_false, not_false_eq_true, implies_true, nat_s, wr_id, uR_at, uR_uR, u1_at, u1_ne, uf_at, uf_ne, iltT, iltF, ileT, ieqT, ieqF]
    refine k1 _ ⟨_, rfl, fun j hj => ?_⟩
    by_cases hji : j = i
    · subst hji
      exact ⟨_, uR_at⟩
    · rw [uR_ne hji]
      exact hB' j (by omega)
  · intro V' hV
    obtain ⟨B', hV, hB'⟩ := hV
    subst hV
    have rB' : ∀ i, i < n → RB i (B' i) (X.2.1 i) := fun i hi => by
      obtain ⟨c, hc⟩ := hB' i (by omega)
      rw [hc]
      exact (rB i hi).cp (g.len hi)
    have rL' : BL B' := fun i hi => by
      obtain ⟨c, hc⟩ := hB' i hi
      rw [hc]
      exact rL i hi
    refine tG_at hd kNet_copyFrom_66 ?_
    simp (disch := omega) only [bNet_copyFrom_66, rn, sm, lg, lt_, cmpP, tk, pr_, pu, swl, cs, Nat.reduceAdd, Nat.reduceLeDiff, Nat.zero_le, Nat.le_refl, true_and, and_true, Int.toNat_natCast, Int.reduceToNat, Int.reduceEq, false_implies, true_implies, Int.reduceNeg, Int.cast_ofNat_Int, n_r0, n_r1, n_r2, n_r3, n_w3, n_r4, n_w4, n_r5, n_w5, n_r6, n_w6, n_r7, n_w7, n_r8, n_w8, n_r9, n_w9, n_r10, n_w10, n_all, n_mail, nP_ut, nP_um, n_m0, n_m1, n_m2, n_m3, n_m4, n_m5, n_u5, n_m6, n_u6, n_m7, n_u7, n_m8, n_u8, n_m9, n_u9, n_m10, n_u10, n_m11, n_u11, n_m12, n_u12, n_a1, n_b1, n_a2, n_b2, n_a3, n_b3, n_a4, n_b4, n_a6, n_b6, n_a7, n_b7, n_a8, n_b8, n_p0, n_p1, n_p2, n_p3, n_q3, n_p4, n_q4, n_g0, n_g1, n_h1, n_g2, n_h2, n_g3, n_h3, n_g4, n_h4, n_g5, n_h5, n_k0, n_k1, n_k2, n_k3, n_k4, n_l2, n_l3, n_l4, kg0, kg1, kg2, kl1, kl2, km0, km1, km2, km3, km4, km5, km6, km7, km8, kk1, kk2, kk3, kk4, kk6, kk7, kk8, kx0, kx1, kx2, kx3, kx4, ky2, ky3, ky4, reduceIte, Nat.reduceEqDiff, true_or, or_true, Int.reduceLE, Int.reduceLT, Int.reduceAdd, Int.reduceSub, Int.reduceMul, not_true_eq_false, not_false_eq_true, implies_true, nat_s, wr_id, uR_at, uR_uR, u1_at, u1_ne, uf_at, uf_ne, iltT, iltF, ileT, ieqT, ieqF]
    refine tG_at hd kNet_copyFrom_93 ?_
    simp (disch := omega) only [bNet_copyFrom_93, rn, sm, lg, lt_, cmpP, tk, pr_, pu, swl, cs, Nat.reduceAdd, Nat.reduceLeDiff, Nat.zero_le, Nat.le_refl, true_and, and_true, Int.toNat_natCast, Int.reduceToNat, Int.reduceEq, false_implies, true_implies, Int.reduceNeg, Int.cast_ofNat_Int, n_r0, n_r1, n_r2, n_r3, n_w3, n_r4, n_w4, n_r5, n_w5, n_r6, n_w6, n_r7, n_w7, n_r8, n_w8, n_r9, n_w9, n_r10, n_w10, n_all, n_mail, nP_ut, nP_um, n_m0, n_m1, n_m2, n_m3, n_m4, n_m5, n_u5, n_m6, n_u6, n_m7, n_u7, n_m8, n_u8, n_m9, n_u9, n_m10, n_u10, n_m11, n_u11, n_m12, n_u12, n_a1, n_b1, n_a2, n_b2, n_a3, n_b3, n_a4, n_b4, n_a6, n_b6, n_a7, n_b7, n_a8, n_b8, n_p0, n_p1, n_p2, n_p3, n_q3, n_p4, n_q4, n_g0, n_g1, n_h1, n_g2, n_h2, n_g3, n_h3, n_g4, n_h4, n_g5, n_h5, n_k0, n_k1, n_k2, n_k3, n_k4, n_l2, n_l3, n_l4, kg0, kg1, kg2, kl1, kl2, km0, km1, km2, km3, km4, km5, km6, km7, km8, kk1, kk2, kk3, kk4, kk6, kk7, kk8, kx0, kx1, kx2, kx3, kx4, ky2, ky3, ky4, reduceIte, Nat.reduceEqDiff, true_or, or_true, Int.reduceLE, Int.reduceLT, Int.reduceAdd, Int.reduceSub, Int.reduceMul, not_true_eq_false, not_false_eq_true, implies_true, nat_s, wr_id, uR_at, uR_uR, u1_at, u1_ne, uf_at, uf_ne, iltT, iltF, ileT, ieqT, ieqF]
    refine tG_loop (fun i => [some (.inr (.inl o)), some (.inr (.inl s)), some (.inl (i : Int))]) (fun i V' => ∃ S', V' = nP (nP V s A2 B2 S2 q2) o A' B' S' q ∧ ∀ j, j < i → RM (S' (q j)) (X.2.2 j)) k ?_ ?_ 0 _ (Nat.zero_le _) ⟨S, rfl, fun j hj => absurd hj (by omega)⟩
    · intro i V' hi hV k1
      obtain ⟨S', hV, hS'⟩ := hV
      subst hV
      have q1 := Q1 i (by omega)
      have q3 := rQ.1 i (by omega)
      have b1 := sa_b q1
      have b3 := sa_b q3
      refine tG_at hd kNet_copyFrom_95 ?_
      simp (disch := omega) only [bNet_copyFrom_95, rn, sm, lg, lt_, cmpP, tk, pr_, pu, swl, cs, Nat.reduceAdd, Nat.reduceLeDiff, Nat.zero_le, Nat.le_refl, true_and, and_true, Int.toNat_natCast, Int.reduceToNat, Int.reduceEq, false_implies, true_implies, Int.reduceNeg, Int.cast_ofNat_Int, n_r0, n_r1, n_r2, n_r3, n_w3, n_r4, n_w4, n_r5, n_w5, n_r6, n_w6, n_r7, n_w7, n_r8, n_w8, n_r9, n_w9, n_r10, n_w10, n_all, n_mail, nP_ut, nP_um, n_m0, n_m1, n_m2, n_m3, n_m4, n_m5, n_u5, n_m6, n_u6, n_m7, n_u7, n_m8, n_u8, n_m9, n_u9, n_m10, n_u10, n_m11, n_u11, n_m12, n_u12, n_a1, n_b1, n_a2, n_b2, n_a3, n_b3, n_a4, n_b4, n_a6, n_b6, n_a7, n_b7, n_a8, n_b8, n_p0, n_p1, n_p2, n_p3, n_q3, n_p4, n_q4, n_g0, n_g1, n_h1, n_g2, n_h2, n_g3, n_h3, n_g4, n_h4, n_g5, n_h5, n_k0, n_k1, n_k2, n_k3, n_k4, n_l2, n_l3, n_l4, kg0, kg1, kg2, kl1, kl2, km0, km1, km2, km3, km4, km5, km6, km7, km8, kk1, kk2, kk3, kk4, kk6, kk7, kk8, kx0, kx1, kx2, kx3, kx4, ky2, ky3, ky4, reduceIte, Nat.reduceEqDiff, true_or, or_true, Int.reduceLE, Int.reduceLT, Int.reduceAdd, Int.reduceSub, Int.reduceMul, not_true_eq_false, not_false_eq_true, implies_true, nat_s, wr_id, uR_at, uR_uR, u1_at, u1_ne, uf_at, uf_ne, iltT, iltF, ileT, ieqT, ieqF, eA5]
      refine tG_at hd kNet_copyFrom_103 ?_
      simp (disch := omega) only [bNet_copyFrom_103, rn, sm, lg, lt_, cmpP, tk, pr_, pu, swl, cs, Nat.reduceAdd, Nat.reduceLeDiff, Nat.zero_le, Nat.le_refl, true_and, and_true, Int.toNat_natCast, Int.reduceToNat, Int.reduceEq, false_implies, true_implies, Int.reduceNeg, Int.cast_ofNat_Int, n_r0, n_r1, n_r2, n_r3, n_w3, n_r4, n_w4, n_r5, n_w5, n_r6, n_w6, n_r7, n_w7, n_r8, n_w8, n_r9, n_w9, n_r10, n_w10, n_all, n_mail, nP_ut, nP_um, n_m0, n_m1, n_m2, n_m3, n_m4, n_m5, n_u5, n_m6, n_u6, n_m7, n_u7, n_m8, n_u8, n_m9, n_u9, n_m10, n_u10, n_m11, n_u11, n_m12, n_u12, n_a1, n_b1, n_a2, n_b2, n_a3, n_b3, n_a4, n_b4, n_a6, n_b6, n_a7, n_b7, n_a8, n_b8, n_p0, n_p1, n_p2, n_p3, n_q3, n_p4, n_q4, n_g0, n_g1, n_h1, n_g2, n_h2, n_g3, n_h3, n_g4, n_h4, n_g5, n_h5, n_k0, n_k1, n_k2, n_k3, n_k4, n_l2, n_l3, n_l4, kg0, kg1, kg2, kl1, kl2, km0, km1, km2, km3, km4, km5, km6, km7, km8, kk1, kk2, kk3, kk4, kk6, kk7, kk8, kx0, kx1, kx2, kx3, kx4, ky2, ky3, ky4, reduceIte, Nat.reduceEqDiff, true_or, or_true, Int.reduceLE, Int.reduceLT, Int.reduceAdd, Int.reduceSub, Int.reduceMul, not_true_eq_false, not_false_eq_true, implies_true, nat_s, wr_id, uR_at, uR_uR, u1_at, u1_ne, uf_at, uf_ne, iltT, iltF, ileT, ieqT, ieqF]
      refine tG_at hd kNet_copyFrom_109 ?_
      simp (disch := omega) only [bNet_copyFrom_109, rn, sm, lg, lt_, cmpP, tk, pr_, pu, swl, cs, Nat.reduceAdd, Nat.reduceLeDiff, Nat.zero_le, Nat.le_refl, true_and, and_true, Int.toNat_natCast, Int.reduceToNat, Int.reduceEq, false_implies, true_implies, Int.reduceNeg, Int.cast_ofNat_Int, n_r0, n_r1, n_r2, n_r3, n_w3, n_r4, n_w4, n_r5, n_w5, n_r6, n_w6, n_r7, n_w7, n_r8, n_w8, n_r9, n_w9, n_r10, n_w10, n_all, n_mail, nP_ut, nP_um, n_m0, n_m1, n_m2, n_m3, n_m4, n_m5, n_u5, n_m6, n_u6, n_m7, n_u7, n_m8, n_u8, n_m9, n_u9, n_m10, n_u10, n_m11, n_u11, n_m12, n_u12, n_a1, n_b1, n_a2, n_b2, n_a3, n_b3, n_a4, n_b4, n_a6, n_b6, n_a7, n_b7, n_a8, n_b8, n_p0, n_p1, n_p2, n_p3, n_q3, n_p4, n_q4, n_g0, n_g1, n_h1, n_g2, n_h2, n_g3, n_h3, n_g4, n_h4, n_g5, n_h5, n_k0, n_k1, n_k2, n_k3, n_k4, n_l2, n_l3, n_l4, kg0, kg1, kg2, kl1, kl2, km0, km1, km2, km3, km4, km5, km6, km7, km8, kk1, kk2, kk3, kk4, kk6, kk7, kk8, kx0, kx1, kx2, kx3, kx4, ky2, ky3, ky4, jg0, jg1, jg2, jl1, jl2, jm0, jm1, jm2, jm3, jm4, jm5, jm6, jm7, jm8, jj1, jj2, jj3, jj4, jj6, jj7, jj8, jx0, jx1, jx2, jx3, jx4, jy2, jy3, jy4, reduceIte, Nat.reduceEqDiff, true_or, or_true, Int.reduceLE, Int.reduceLT, Int.reduceAdd, Int.reduceSub, Int.reduceMul, not_true_eq_false, not_false_eq_true, implies_true, nat_s, wr_id, uR_at, uR_uR, u1_at, u1_ne, uf_at, uf_ne, iltT, iltF, ileT, ieqT, ieqF, nP_o]
      refine k_messCopy (by omega) hN hS hdis q1 q3 ?_
      refine tG_at hd kNet_copyFrom_124 ?_
      simp (disch := omega) only [bNet_copyFrom_124, rn, sm, lg, lt_, cmpP, tk, pr_, pu, swl, cs, Nat.reduceAdd, Nat.reduceLeDiff, Nat.zero_le, Nat.le_refl, true_and, and_true, Int.toNat_natCast, Int.reduceToNat, Int.reduceEq, false_implies, true_implies, Int.reduceNeg, Int.cast_ofNat_Int, n_r0, n_r1, n_r2, n_r3, n_w3, n_r4, n_w4, n_r5, n_w5, n_r6, n_w6, n_r7, n_w7, n_r8, n_w8, n_r9, n_w9, n_r10, n_w10, n_all, n_mail, nP_ut, nP_um, n_m0, n_m1, n_m2, n_m3, n_m4, n_m5, n_u5, n_m6, n_u6, n_m7, n_u7, n_m8, n_u8, n_m9, n_u9, n_m10, n_u10, n_m11, n_u11, n_m12, n_u12, n_a1, n_b1, n_a2, n_b2, n_a3, n_b3, n_a4, n_b4, n_a6, n_b6, n_a7, n_b7, n_a8, n_b8, n_p0, n_p1, n_p2, n_p3, n_q3, n_p4, n_q4, n_g0, n_g1, n_h1, n_g2, n_h2, n_g3, n_h3, n_g4, n_h4, n_g5, n_h5, n_k0, n_k1, n_k2, n_k3, n_k4, n_l2, n_l3, n_l4, kg0, kg1, kg2, kl1, kl2, km0, km1, km2, km3, km4, km5, km6, km7, km8, kk1, kk2, kk3, kk4, kk6, kk7, kk8, kx0, kx1, kx2, kx3, kx4, ky2, ky3, ky4, reduceIte, Nat.reduceEqDiff, true_or, or_true, Int.reduceLE, Int.reduceLT, Int.reduceAdd, Int.reduceSub, Int.reduceMul, not_true_eq_false, not_false_eq_true, implies_true, nat_s, wr_id, uR_at, uR_uR, u1_at, u1_ne, uf_at, uf_ne, iltT, iltF, ileT, ieqT, ieqF]
      refine k1 _ ⟨_, rfl, fun j hj => ?_⟩
      by_cases hji : j = i
      · subst hji
        rw [uR_at]
        exact (rM j (by omega)).cp (g.lenM hi)
      · rw [uR_ne (fun e => hji (Q2 j i (by omega) (by omega) e))]
        exact hS' j (by omega)
    · intro V' hV
      obtain ⟨S', hV, hS'⟩ := hV
      subst hV
      refine tG_at hd kNet_copyFrom_95 ?_
      simp (disch := omega) only [bNet_copyFrom_95, rn, sm, lg, lt_, cmpP, tk, pr_, pu, swl, cs, Nat.reduceAdd, Nat.reduceLeDiff, Nat.zero_le, Nat.le_refl, true_and, and_true, Int.toNat_natCast, Int.reduceToNat, Int.reduceEq, false_implies, true_implies, Int.reduceNeg, Int.cast_ofNat_Int, n_r0, n_r1, n_r2, n_r3, n_w3, n_r4, n_w4, n_r5, n_w5, n_r6, n_w6, n_r7, n_w7, n_r8, n_w8, n_r9, n_w9, n_r10, n_w10, n_all, n_mail, nP_ut, nP_um, n_m0, n_m1, n_m2, n_m3, n_m4, n_m5, n_u5, n_m6, n_u6, n_m7, n_u7, n_m8, n_u8, n_m9, n_u9, n_m10, n_u10, n_m11, n_u11, n_m12, n_u12, n_a1, n_b1, n_a2, n_b2, n_a3, n_b3, n_a4, n_b4, n_a6, n_b6, n_a7, n_b7, n_a8, n_b8, n_p0, n_p1, n_p2, n_p3, n_q3, n_p4, n_q4, n_g0, n_g1, n_h1, n_g2, n_h2, n_g3, n_h3, n_g4, n_h4, n_g5, n_h5, n_k0, n_k1, n_k2, n_k3, n_k4, n_l2, n_l3, n_l4, kg0, kg1, kg2, kl1, kl2, km0, km1, km2, km3, km4, km5, km6, km7, km8, kk1, kk2, kk3, kk4, kk6, kk7, kk8, kx0, kx1, kx2, kx3, kx4, ky2, ky3, ky4, reduceIte, Nat.reduceEqDiff, true_or, or_true, Int.reduceLE, Int.reduceLT, Int.reduceAdd, Int.reduceSub, Int.reduceMul, not_true_eq_false, not_false_eq_true, implies_true, nat_s, wr_id, uR_at, uR_uR, u1_at, u1_ne, uf_at, uf_ne, iltT, iltF, ileT, ieqT, ieqF, eA5]
      refine tG_at hd kNet_copyFrom_130 ?_
      simp (disch := omega) only [bNet_copyFrom_130, rn, sm, lg, lt_, cmpP, tk, pr_, pu, swl, cs, Nat.reduceAdd, Nat.reduceLeDiff, Nat.zero_le, Nat.le_refl, true_and, and_true, Int.toNat_natCast, Int.reduceToNat, Int.reduceEq, false_implies, true_implies, Int.reduceNeg, Int.cast_ofNat_Int, n_r0, n_r1, n_r2, n_r3, n_w3, n_r4, n_w4, n_r5, n_w5, n_r6, n_w6, n_r7, n_w7, n_r8, n_w8, n_r9, n_w9, n_r10, n_w10, n_all, n_mail, nP_ut, nP_um, n_m0, n_m1, n_m2, n_m3, n_m4, n_m5, n_u5, n_m6, n_u6, n_m7, n_u7, n_m8, n_u8, n_m9, n_u9, n_m10, n_u10, n_m11, n_u11, n_m12, n_u12, n_a1, n_b1, n_a2, n_b2, n_a3, n_b3, n_a4, n_b4, n_a6, n_b6, n_a7, n_b7, n_a8, n_b8, n_p0, n_p1, n_p2, n_p3, n_q3, n_p4, n_q4, n_g0, n_g1, n_h1, n_g2, n_h2, n_g3, n_h3, n_g4, n_h4, n_g5, n_h5, n_k0, n_k1, n_k2, n_k3, n_k4, n_l2, n_l3, n_l4, kg0, kg1, kg2, kl1, kl2, km0, km1, km2, km3, km4, km5, km6, km7, km8, kk1, kk2, kk3, kk4, kk6, kk7, kk8, kx0, kx1, kx2, kx3, kx4, ky2, ky3, ky4, reduceIte, Nat.reduceEqDiff, true_or, or_true, Int.reduceLE, Int.reduceLT, Int.reduceAdd, Int.reduceSub, Int.reduceMul, not_true_eq_false, not_false_eq_true, implies_true, nat_s, wr_id, uR_at, uR_uR, u1_at, u1_ne, uf_at, uf_ne, iltT, iltF, ileT, ieqT, ieqF]
      exact hq A' B' S' ⟨fun j hj => (eA j (by omega)).trans (rA j hj), by rw [eA 6 (by omega)]; exact rW, rB', fun j hj => hS' j (by omega), hQ, rL'⟩ (eA 6 (by omega)) (eA 7 (by omega))
theorem RB_beg0 {r c b : Nat → Int} (er : ∀ j, b j = if j = 1 then 1 else if (0 : Nat) = 0 ∧ j = 30 then 1 else if 12 ≤ j ∧ j < 18 then r (j - 12) else 0) : RB 0 (begP 1 (u1 (begB r c) 50 1)) b := by
  have h5 : b 5 = 0 := by rw [er]; simp
  have h31 : b 31 = 0 := by rw [er]; simp
  refine ⟨fun j hj => ?_, ?_, ?_, fun _ => ⟨fun j h1 h2 => ?_, fun x hx => ?_⟩, fun a ha hv => ?_⟩
  · rw [er]; unfold begP u1 begB; grind
  · rw [er]; unfold begP u1 begB; grind
  · rw [er]; unfold begP u1 begB; grind
  · rw [er]; unfold begP u1 begB; grind
  · omega
  · rw [h5] at hv; exact absurd hv (vb_0 a)
theorem RB_beg1 {i : Nat} {r c b : Nat → Int} (hi : i ≠ 0) (hi6 : i < 6) (er : ∀ j, b j = if j = 1 then 1 else if i = 0 ∧ j = 30 then 1 else if 12 ≤ j ∧ j < 18 then r (j - 12) else 0) : RB i (begB r c) b := by
  have h5 : b 5 = 0 := by rw [er]; simp
  have h30 : b 30 = 0 := by rw [er]; simp [hi]
  refine ⟨fun j hj => ?_, ?_, ?_, fun h => ?_, fun a ha hv => ?_⟩
  · rw [er]; unfold begB; grind
  · rw [er]; unfold begB; grind
  · rw [h30]; unfold begB; grind
  · omega
  · rw [h5] at hv; exact absurd hv (vb_0 a)
theorem k_netBegin (hd6 : 6 ≤ d) (hN : NK Γ o) {a : Nat} {r : Nat → Int} (ha : a < o ∨ o + 292 ≤ a) (hk : Γ.1 a = 10) (hl : (Γ.2.1 a : Int) = 6) (hr : ∀ j, j < 6 → V a j = r j) (hn2 : 2 ≤ n) (hn6 : n ≤ 6) (hQ : QP q)
    (hq : ∀ A' B', RN n 9 A' B' S q (begN n r) → Q none Γ (nP V o A' B' S q)) : tC w d nNet_begin [.inr (.inl o), .inl (n : Int), .inr (.inl a)] Γ (nP V o A B S q) Q := by
  have hd : 4 ≤ d := by omega
  obtain ⟨⟨kg0, kg1, kg2⟩, ⟨kl1, kl2⟩, ⟨km0, km1, km2, km3, km4, km5, km6, km7, km8⟩, ⟨kk1, kk2, kk3, kk4, kk6, kk7, kk8⟩, ⟨kx0, kx1, kx2, kx3, kx4⟩, ⟨ky2, ky3, ky4⟩⟩ := id hN
  refine tC_enter (nL := 4) (by decide +kernel) (by decide +kernel) rfl (Nat.le_of_ble_eq_true rfl) (fun hok => ?_)
  simp only [ent]
  refine tG_at hd kNet_begin_0 ?_
  simp (disch := omega) only [bNet_begin_0, rn, sm, lg, lt_, cmpP, tk, pr_, pu, swl, cs, Nat.reduceAdd, Nat.reduceLeDiff, Nat.zero_le, Nat.le_refl, true_and, and_true, Int.toNat_natCast, Int.reduceToNat, Int.reduceEq, false_implies, true_implies, Int.reduceNeg, Int.cast_ofNat_Int, n_r0, n_r1, n_r2, n_r3, n_w3, n_r4, n_w4, n_r5, n_w5, n_r6, n_w6, n_r7, n_w7, n_r8, n_w8, n_r9, n_w9, n_r10, n_w10, n_all, n_mail, nP_ut, nP_um, n_m0, n_m1, n_m2, n_m3, n_m4, n_m5, n_u5, n_m6, n_u6, n_m7, n_u7, n_m8, n_u8, n_m9, n_u9, n_m10, n_u10, n_m11, n_u11, n_m12, n_u12, n_a1, n_b1, n_a2, n_b2, n_a3, n_b3, n_a4, n_b4, n_a6, n_b6, n_a7, n_b7, n_a8, n_b8, n_p0, n_p1, n_p2, n_p3, n_q3, n_p4, n_q4, n_g0, n_g1, n_h1, n_g2, n_h2, n_g3, n_h3, n_g4, n_h4, n_g5, n_h5, n_k0, n_k1, n_k2, n_k3, n_k4, n_l2, n_l3, n_l4, kg0, kg1, kg2, kl1, kl2, km0, km1, km2, km3, km4, km5, km6, km7, km8, kk1, kk2, kk3, kk4, kk6, kk7, kk8, kx0, kx1, kx2, kx3, kx4, ky2, ky3, ky4, reduceIte, Nat.reduceEqDiff, true_or, or_true, Int.reduceLE, Int.reduceLT, Int.reduceAdd, Int.reduceSub, Int.reduceMul, not_true_eq_false, not_false_eq_true, implies_true, nat_s, wr_id, uR_at, uR_uR, u1_at, u1_ne, uf_at, uf_ne, iltT, iltF, ileT, ieqT, ieqF]
  obtain ⟨A', hA'⟩ : ∃ A', A' = u1 (u1 (u1 (u1 (u1 (u1 (u1 (u1 A 0 (n : Int)) 5 0) 1 0) 2 0) 3 0) 4 0) 6 0) 7 (-1) := ⟨_, rfl⟩
  rw [← hA']
  have eA : ∀ j, j < 6 → A' j = (begN n r).1 j := by
    intro j hj
    rw [hA']
    show _ = if j = 0 then (n : Int) else 0
    unfold u1
    clear hN kg0 kg1 kg2 kl1 kl2 km0 km1 km2 km3 km4 km5 km6 km7 km8 kk1 kk2 kk3 kk4 kk6 kk7 kk8 kx0 kx1 kx2 kx3 kx4 ky2 ky3 ky4
    grind (splits := 40)
  have eA6 : A' 6 = 0 := by rw [hA']; rfl
  refine tG_loop (fun i => [some (.inr (.inl o)), some (.inl (n : Int)), some (.inr (.inl a)), some (.inl (i : Int))]) (fun i V' => ∃ B', V' = nP V o A' B' S q ∧ ∀ j, j < i → ∃ c, B' j = begB r c) 6 ?_ ?_ 0 _ (Nat.zero_le _) ⟨B, rfl, fun j hj => absurd hj (by omega)⟩
  · intro i V' hi hV k1
    obtain ⟨B', hV, hB'⟩ := hV
    subst hV
    refine tG_at hd kNet_begin_42 ?_
    simp (disch := omega) only [bNet_begin_42, rn, sm, lg, lt_, cmpP, tk, pr_, pu, swl, cs, Nat.reduceAdd, Nat.reduceLeDiff, Nat.zero_le, Nat.le_refl, true_and, and_true, Int.toNat_natCast, Int.reduceToNat, Int.reduceEq, false_implies, true_implies, Int.reduceNeg, Int.cast_ofNat_Int, n_r0, n_r1, n_r2, n_r3, n_w3, n_r4, n_w4, n_r5, n_w5, n_r6, n_w6, n_r7, n_w7, n_r8, n_w8, n_r9, n_w9, n_r10, n_w10, n_all, n_mail, nP_ut, nP_um, n_m0, n_m1, n_m2, n_m3, n_m4, n_m5, n_u5, n_m6, n_u6, n_m7, n_u7, n_m8, n_u8, n_m9, n_u9, n_m10, n_u10, n_m11, n_u11, n_m12, n_u12, n_a1, n_b1, n_a2, n_b2, n_a3, n_b3, n_a4, n_b4, n_a6, n_b6, n_a7, n_b7, n_a8, n_b8, n_p0, n_p1, n_p2, n_p3, n_q3, n_p4, n_q4, n_g0, n_g1, n_h1, n_g2, n_h2, n_g3, n_h3, n_g4, n_h4, n_g5, n_h5, n_k0, n_k1, n_k2, n_k3, n_k4, n_l2, n_l3, n_l4, kg0, kg1, kg2, kl1, kl2, km0, km1, km2, km3, km4, km5, km6, km7, km8, kk1, kk2, kk3, kk4, kk6, kk7, kk8, kx0, kx1, kx2, kx3, kx4, ky2, ky3, ky4, reduceIte, Nat.reduceEqDiff, true_or, or_true, Int.reduceLE, Int.reduceLT, Int.reduceAdd, Int.reduceSub, Int.reduceMul, not_true_eq_false, not_false_eq_true, implies_true, nat_s, wr_id, uR_at, uR_uR, u1_at, u1_ne, uf_at, uf_ne, iltT, iltF, ileT, ieqT, ieqF]
    refine tG_at hd kNet_begin_48 ?_
    simp (disch := omega) only [bNet_begin_48, rn, sm, lg, lt_, cmpP, tk, pr_, pu, swl, cs, Nat.reduceAdd, Nat.reduceLeDiff, Nat.zero_le, Nat.le_refl, true_and, and_true, Int.toNat_natCast, Int.reduceToNat, Int.reduceEq, false_implies, true_implies, Int.reduceNeg, Int.cast_ofNat_Int, n_r0, n_r1, n_r2, n_r3, n_w3, n_r4, n_w4, n_r5, n_w5, n_r6, n_w6, n_r7, n_w7, n_r8, n_w8, n_r9, n_w9, n_r10, n_w10, n_all, n_mail, nP_ut, nP_um, n_m0, n_m1, n_m2, n_m3, n_m4, n_m5, n_u5, n_m6, n_u6, n_m7, n_u7, n_m8, n_u8, n_m9, n_u9, n_m10, n_u10, n_m11, n_u11, n_m12, n_u12, n_a1, n_b1, n_a2, n_b2, n_a3, n_b3, n_a4, n_b4, n_a6, n_b6, n_a7, n_b7, n_a8, n_b8, n_p0, n_p1, n_p2, n_p3, n_q3, n_p4, n_q4, n_g0, n_g1, n_h1, n_g2, n_h2, n_g3, n_h3, n_g4, n_h4, n_g5, n_h5, n_k0, n_k1, n_k2, n_k3, n_k4, n_l2, n_l3, n_l4, kg0, kg1, kg2, kl1, kl2, km0, km1, km2, km3, km4, km5, km6, km7, km8, kk1, kk2, kk3, kk4, kk6, kk7, kk8, kx0, kx1, kx2, kx3, kx4, ky2, ky3, ky4, reduceIte, Nat.reduceEqDiff, true_or, or_true, Int.reduceLE, Int.reduceLT, Int.reduceAdd, Int.reduceSub, Int.reduceMul, not_true_eq_false, not_false_eq_true, implies_true, nat_s, wr_id, uR_at, uR_uR, u1_at, u1_ne, uf_at, uf_ne, iltT, iltF, ileT, ieqT, ieqF]
    refine k_membBegin (by omega) hN hi ha hk hl hr ?_
    refine tG_at hd kNet_begin_58 ?_
    simp (disch := omega) only [bNet_begin_58, rn, sm, lg, lt_, cmpP, tk, pr_, pu, swl, cs, Nat.reduceAdd, Nat.reduceLeDiff, Nat.zero_le, Nat.le_refl, true_and, and_true, Int.toNat_natCast, Int.reduceToNat, Int.reduceEq, false_implies, true_implies, Int.reduceNeg, Int.cast_ofNat_Int, n_r0, n_r1, n_r2, n_r3, n_w3, n_r4, n_w4, n_r5, n_w5, n_r6, n_w6, n_r7, n_w7, n_r8, n_w8, n_r9, n_w9, n_r10, n_w10, n_all, n_mail, nP_ut, nP_um, n_m0, n_m1, n_m2, n_m3, n_m4, n_m5, n_u5, n_m6, n_u6, n_m7, n_u7, n_m8, n_u8, n_m9, n_u9, n_m10, n_u10, n_m11, n_u11, n_m12, n_u12, n_a1, n_b1, n_a2, n_b2, n_a3, n_b3, n_a4, n_b4, n_a6, n_b6, n_a7, n_b7, n_a8, n_b8, n_p0, n_p1, n_p2, n_p3, n_q3, n_p4, n_q4, n_g0, n_g1, n_h1, n_g2, n_h2, n_g3, n_h3, n_g4, n_h4, n_g5, n_h5, n_k0, n_k1, n_k2, n_k3, n_k4, n_l2, n_l3, n_l4, kg0, kg1, kg2, kl1, kl2, km0, km1, km2, km3, km4, km5, km6, km7, km8, kk1, kk2, kk3, kk4, kk6, kk7, kk8, kx0, kx1, kx2, kx3, kx4, ky2, ky3, ky4, reduceIte, Nat.reduceEqDiff, true_or, or_true, Int.reduceLE, Int.reduceLT, Int.reduceAdd, Int.reduceSub, Int.reduceMul, not_true_eq_false, not_false_eq_true, implies_true, nat_s, wr_id, uR_at, uR_uR, u1_at, u1_ne, uf_at, uf_ne, iltT, iltF, ileT, ieqT, ieqF]
    refine k1 _ ⟨_, rfl, fun j hj => ?_⟩
    by_cases hji : j = i
    · subst hji
      exact ⟨_, uR_at⟩
    · rw [uR_ne hji]
      exact hB' j (by omega)
  · intro V' hV
    obtain ⟨B', hV, hB'⟩ := hV
    subst hV
    obtain ⟨z, hz⟩ : ∃ z : Nat, z = 0 := ⟨_, rfl⟩
    have hz0 : (0 : Int).toNat = z := hz.symm
    have hz6 : z < 6 := by omega
    refine tG_at hd kNet_begin_42 ?_
    simp (disch := omega) only [bNet_begin_42, rn, sm, lg, lt_, cmpP, tk, pr_, pu, swl, cs, Nat.reduceAdd, Nat.reduceLeDiff, Nat.zero_le, Nat.le_refl, true_and, and_true, Int.toNat_natCast, Int.reduceToNat, Int.reduceEq, false_implies, true_implies, Int.reduceNeg, Int.cast_ofNat_Int, n_r0, n_r1, n_r2, n_r3, n_w3, n_r4, n_w4, n_r5, n_w5, n_r6, n_w6, n_r7, n_w7, n_r8, n_w8, n_r9, n_w9, n_r10, n_w10, n_all, n_mail, nP_ut, nP_um, n_m0, n_m1, n_m2, n_m3, n_m4, n_m5, n_u5, n_m6, n_u6, n_m7, n_u7, n_m8, n_u8, n_m9, n_u9, n_m10, n_u10, n_m11, n_u11, n_m12, n_u12, n_a1, n_b1, n_a2, n_b2, n_a3, n_b3, n_a4, n_b4, n_a6, n_b6, n_a7, n_b7, n_a8, n_b8, n_p0, n_p1, n_p2, n_p3, n_q3, n_p4, n_q4, n_g0, n_g1, n_h1, n_g2, n_h2, n_g3, n_h3, n_g4, n_h4, n_g5, n_h5, n_k0, n_k1, n_k2, n_k3, n_k4, n_l2, n_l3, n_l4, kg0, kg1, kg2, kl1, kl2, km0, km1, km2, km3, km4, km5, km6, km7, km8, kk1, kk2, kk3, kk4, kk6, kk7, kk8, kx0, kx1, kx2, kx3, kx4, ky2, ky3, ky4, reduceIte, Nat.reduceEqDiff, true_or, or_true, Int.reduceLE, Int.reduceLT, Int.reduceAdd, Int.reduceSub, Int.reduceMul, not_true_eq_false, not_false_eq_true, implies_true, nat_s, wr_id, uR_at, uR_uR, u1_at, u1_ne, uf_at, uf_ne, iltT, iltF, ileT, ieqT, ieqF]
    refine tG_at hd kNet_begin_64 ?_
    simp (disch := omega) only [bNet_begin_64, rn, sm, lg, lt_, cmpP, tk, pr_, pu, swl, cs, Nat.reduceAdd, Nat.reduceLeDiff, Nat.zero_le, Nat.le_refl, true_and, and_true, Int.toNat_natCast, hz0, Int.reduceEq, false_implies, true_implies, Int.reduceNeg, Int.cast_ofNat_Int, n_r0, n_all, n_m4, n_u12, kg0, kg1, kl1, km0, km5, reduceIte, true_or, or_true, Int.reduceLT, Int.reduceLE, ileT, iltT]
    refine k_passBegin (by omega) hN hz6 ?_
    refine tG_at hd kNet_begin_87 ?_
    simp (disch := omega) only [bNet_begin_87, rn, sm, lg, lt_, cmpP, tk, pr_, pu, swl, cs, Nat.reduceAdd, Nat.reduceLeDiff, Nat.zero_le, Nat.le_refl, true_and, and_true, Int.toNat_natCast, Int.reduceToNat, Int.reduceEq, false_implies, true_implies, Int.reduceNeg, Int.cast_ofNat_Int, n_r0, n_r1, n_r2, n_r3, n_w3, n_r4, n_w4, n_r5, n_w5, n_r6, n_w6, n_r7, n_w7, n_r8, n_w8, n_r9, n_w9, n_r10, n_w10, n_all, n_mail, nP_ut, nP_um, n_m0, n_m1, n_m2, n_m3, n_m4, n_m5, n_u5, n_m6, n_u6, n_m7, n_u7, n_m8, n_u8, n_m9, n_u9, n_m10, n_u10, n_m11, n_u11, n_m12, n_u12, n_a1, n_b1, n_a2, n_b2, n_a3, n_b3, n_a4, n_b4, n_a6, n_b6, n_a7, n_b7, n_a8, n_b8, n_p0, n_p1, n_p2, n_p3, n_q3, n_p4, n_q4, n_g0, n_g1, n_h1, n_g2, n_h2, n_g3, n_h3, n_g4, n_h4, n_g5, n_h5, n_k0, n_k1, n_k2, n_k3, n_k4, n_l2, n_l3, n_l4, kg0, kg1, kg2, kl1, kl2, km0, km1, km2, km3, km4, km5, km6, km7, km8, kk1, kk2, kk3, kk4, kk6, kk7, kk8, kx0, kx1, kx2, kx3, kx4, ky2, ky3, ky4, reduceIte, Nat.reduceEqDiff, true_or, or_true, Int.reduceLE, Int.reduceLT, Int.reduceAdd, Int.reduceSub, Int.reduceMul, not_true_eq_false, not_false_eq_true, implies_true, nat_s, wr_id, uR_at, uR_uR, u1_at, u1_ne, uf_at, uf_ne, iltT, iltF, ileT, ieqT, ieqF]
    refine hq _ _ ⟨eA, by rw [eA6]; omega, fun i hi => ?_, fun j hj => absurd hj (by show ¬ (j : Int) < 0; omega), hQ, fun i hi => ?_⟩
    · have er := fun j => begN_row (r := r) hi j
      obtain ⟨c, hc⟩ := hB' i (by omega)
      by_cases hiz : i = z
      · subst hiz
        rw [uR_at, hc]
        rw [hz] at er ⊢
        exact RB_beg0 er
      · rw [uR_ne hiz, hc]
        exact RB_beg1 (by omega) (by omega) er
    · obtain ⟨c, hc⟩ := hB' i (by omega)
      by_cases hiz : i = z
      · subst hiz
        rw [uR_at, hc]
        exact ⟨Or.inl rfl, Or.inl rfl, Or.inr rfl⟩
      · rw [uR_ne hiz, hc]
        exact ⟨Or.inl rfl, Or.inl rfl, Or.inl rfl⟩
end NC
