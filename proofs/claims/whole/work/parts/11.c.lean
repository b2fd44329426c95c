/-! THE CLASS: copies -/
section PC
variable {V : VH} {p j : Nat} {b : Nat → Int} {x : Int}
theorem s_r0 : pS V p b p 0 = ((p + 1 : Nat) : Int) := (bS_i (i := 0) (by omega)).trans rfl
theorem s_r1 : pS V p b p 1 = ((p + 2 : Nat) : Int) := (bS_i (i := 0) (by omega)).trans rfl
theorem s_r2 : pS V p b p 2 = ((p + 3 : Nat) : Int) := (bS_i (i := 0) (by omega)).trans rfl
theorem s_r3 : pS V p b p 3 = b 30 := (bS_i (i := 0) (by omega)).trans rfl
theorem s_r4 : pS V p b p 4 = b 31 := (bS_i (i := 0) (by omega)).trans rfl
theorem s_a1 (hj : j < 6) : pS V p b (p + 1) j = b (32 + j) := (bS_i (i := 1) (by omega)).trans (pic_s (by simp [pI, hj]))
theorem s_a2 (hj : j < 6) : pS V p b (p + 2) j = b (38 + j) := (bS_i (i := 2) (by omega)).trans (pic_s (by simp [pI, hj]))
theorem s_a3 (hj : j < 6) : pS V p b (p + 3) j = b (44 + j) := (bS_i (i := 3) (by omega)).trans (pic_s (by simp [pI, hj]))
theorem s_w3 : up (pS V p b) p 3 x = pS V p (u1 b 30 x) := bS_u (a := p) (i := 0) (by omega) (fun i' j' _ => pic_u pI_inj rfl i' j')
theorem s_w4 : up (pS V p b) p 4 x = pS V p (u1 b 31 x) := bS_u (a := p) (i := 0) (by omega) (fun i' j' _ => pic_u pI_inj rfl i' j')
theorem s_b1 (hj : j < 6) : up (pS V p b) (p + 1) j x = pS V p (u1 b (32 + j) x) := bS_u (by omega) (fun i' j' _ => pic_u pI_inj (by simp [pI, hj]) i' j')
theorem s_b2 (hj : j < 6) : up (pS V p b) (p + 2) j x = pS V p (u1 b (38 + j) x) := bS_u (by omega) (fun i' j' _ => pic_u pI_inj (by simp [pI, hj]) i' j')
theorem s_b3 (hj : j < 6) : up (pS V p b) (p + 3) j x = pS V p (u1 b (44 + j) x) := bS_u (by omega) (fun i' j' _ => pic_u pI_inj (by simp [pI, hj]) i' j')
theorem pS_o {c : Nat} (h : c < p ∨ p + 4 ≤ c) : pS V p b c j = V c j := bS_o h
theorem pS_e {b' : Nat → Int} (h : ∀ i, 30 ≤ i → i < 50 → b i = b' i) : pS V p b = pS V p b' := by
  refine bS_e (fun i j _ => ?_)
  cases hI : pI i j with
  | none => rw [pic_n hI, pic_n hI]
  | some i =>
    have := pI_lo hI
    rw [pic_s hI, pic_s hI]
    exact h _ (by omega) (by omega)
end PC
section NC
variable {w : WP} {d : Nat} {Γ : GM} {V : VH} {Q : QT} {o m e s : Nat} {A A2 : Nat → Int} {B S B2 S2 : Nat → Nat → Int} {q q2 : Nat → Nat}
def PK (Γ : GM) (p : Nat) : Prop := (Γ.1 p = 5 ∧ Γ.1 (p + 1) = 10 ∧ Γ.1 (p + 2) = 10 ∧ Γ.1 (p + 3) = 10) ∧ (Γ.2.1 (p + 1) : Int) = 6 ∧ (Γ.2.1 (p + 2) : Int) = 6 ∧ (Γ.2.1 (p + 3) : Int) = 6
theorem NK.pe (hN : NK Γ o) (hm : m < 6) : PK Γ (o + (8 + 9 * m) + 5) := by
  obtain ⟨⟨kg0, kg1, kg2⟩, ⟨kl1, kl2⟩, ⟨km0, km1, km2, km3, km4, km5, km6, km7, km8⟩, ⟨kk1, kk2, kk3, kk4, kk6, kk7, kk8⟩, ⟨kx0, kx1, kx2, kx3, kx4⟩, ⟨ky2, ky3, ky4⟩⟩ := id hN
  exact ⟨⟨km5 m hm, km6 m hm, km7 m hm, km8 m hm⟩, kk6 m hm, kk7 m hm, kk8 m hm⟩
theorem NK.pg (hN : NK Γ o) (he : e < 47) : PK Γ (o + sa e + 1) := by
  obtain ⟨⟨kg0, kg1, kg2⟩, ⟨kl1, kl2⟩, ⟨km0, km1, km2, km3, km4, km5, km6, km7, km8⟩, ⟨kk1, kk2, kk3, kk4, kk6, kk7, kk8⟩, ⟨kx0, kx1, kx2, kx3, kx4⟩, ⟨ky2, ky3, ky4⟩⟩ := id hN
  exact ⟨⟨kx1 e he, kx2 e he, kx3 e he, kx4 e he⟩, ky2 e he, ky3 e he, ky4 e he⟩
theorem k_passCopy (hd : 4 ≤ d) {p s : Nat} (hp : PK Γ p) (hs : PK Γ s) {b r : Nat → Int} (hr : ∀ i j, i < 4 → V (s + i) j = pic pI (pZ s) r i j) (hdis : s + 4 ≤ p ∨ p + 4 ≤ s) (hq : Q none Γ (pS V p r)) : tC w d nPass_copyFrom [.inr (.inl p), .inr (.inl s)] Γ (pS V p b) Q := by
  obtain ⟨⟨kg0, kg1, kg2, kg3⟩, kl1, kl2, kl3⟩ := id hp
  obtain ⟨⟨jg0, jg1, jg2, jg3⟩, jl1, jl2, jl3⟩ := id hs
  have s0 : V s 0 = ((s + 1 : Nat) : Int) := (hr 0 0 (by omega)).trans rfl
  have s1 : V s 1 = ((s + 2 : Nat) : Int) := (hr 0 1 (by omega)).trans rfl
  have s2 : V s 2 = ((s + 3 : Nat) : Int) := (hr 0 2 (by omega)).trans rfl
  have s3 : V s 3 = r 30 := (hr 0 3 (by omega)).trans rfl
  have s4 : V s 4 = r 31 := (hr 0 4 (by omega)).trans rfl
  have s5 : ∀ j, j < 6 → V (s + 1) j = r (32 + j) := fun j hj => (hr 1 j (by omega)).trans (pic_s (by simp [pI, hj]))
  have s6 : ∀ j, j < 6 → V (s + 2) j = r (38 + j) := fun j hj => (hr 2 j (by omega)).trans (pic_s (by simp [pI, hj]))
  have s7 : ∀ j, j < 6 → V (s + 3) j = r (44 + j) := fun j hj => (hr 3 j (by omega)).trans (pic_s (by simp [pI, hj]))
  refine tC_enter (nL := 3) (by decide +kernel) (by decide +kernel) rfl (Nat.le_of_ble_eq_true rfl) (fun hok => ?_)
  simp only [ent]
  refine tG_at hd kPass_copyFrom_0 ?_
  simp (disch := omega) only [bPass_copyFrom_0, rn, sm, lg, lt_, cmpP, tk, pr_, pu, swl, cs, Nat.reduceAdd, Nat.reduceLeDiff, Nat.zero_le, Nat.le_refl, true_and, and_true, Int.toNat_natCast, Int.reduceToNat, Int.reduceEq, false_implies, true_implies, Int.reduceNeg, Int.cast_ofNat_Int, s_r0, s_r1, s_r2, s_r3, s_r4, s_w3, s_w4, s_a1, s_a2, s_a3, s_b1, s_b2, s_b3, pS_o, reduceIte, Nat.reduceEqDiff, true_or, or_true, Int.reduceLE, Int.reduceLT, Int.reduceAdd, Int.reduceSub, Int.reduceMul, not_true_eq_false, not_false_eq_true, implies_true, nat_s, wr_id, uR_at, uR_uR, u1_at, u1_ne, uf_at, uf_ne, iltT, iltF, ileT, ieqT, ieqF, kg0, jg0, s3, s4]
  refine tG_loop (fun i => [some (.inr (.inl p)), some (.inr (.inl s)), some (.inl (i : Int))]) (fun i V' => V' = pS V p (fun j => if j = 30 ∨ j = 31 ∨ (32 ≤ j ∧ j < 32 + i) ∨ (38 ≤ j ∧ j < 38 + i) ∨ (44 ≤ j ∧ j < 44 + i) then r j else b j)) 6 ?_ ?_ 0 _ (Nat.zero_le _) ?_
  · intro i V' hi hV k1
    subst hV
    refine tG_at hd kPass_copyFrom_18 ?_
    simp (disch := omega) only [bPass_copyFrom_18, rn, sm, lg, lt_, cmpP, tk, pr_, pu, swl, cs, Nat.reduceAdd, Nat.reduceLeDiff, Nat.zero_le, Nat.le_refl, true_and, and_true, Int.toNat_natCast, Int.reduceToNat, Int.reduceEq, false_implies, true_implies, Int.reduceNeg, Int.cast_ofNat_Int, s_r0, s_r1, s_r2, s_r3, s_r4, s_w3, s_w4, s_a1, s_a2, s_a3, s_b1, s_b2, s_b3, pS_o, reduceIte, Nat.reduceEqDiff, true_or, or_true, Int.reduceLE, Int.reduceLT, Int.reduceAdd, Int.reduceSub, Int.reduceMul, not_true_eq_false, not_false_eq_true, implies_true, nat_s, wr_id, uR_at, uR_uR, u1_at, u1_ne, uf_at, uf_ne, iltT, iltF, ileT, ieqT, ieqF]
    refine tG_at hd kPass_copyFrom_24 ?_
    simp (disch := omega) only [bPass_copyFrom_24, rn, sm, lg, lt_, cmpP, tk, pr_, pu, swl, cs, Nat.reduceAdd, Nat.reduceLeDiff, Nat.zero_le, Nat.le_refl, true_and, and_true, Int.toNat_natCast, Int.reduceToNat, Int.reduceEq, false_implies, true_implies, Int.reduceNeg, Int.cast_ofNat_Int, s_r0, s_r1, s_r2, s_r3, s_r4, s_w3, s_w4, s_a1, s_a2, s_a3, s_b1, s_b2, s_b3, pS_o, reduceIte, Nat.reduceEqDiff, true_or, or_true, Int.reduceLE, Int.reduceLT, Int.reduceAdd, Int.reduceSub, Int.reduceMul, not_true_eq_false, not_false_eq_true, implies_true, nat_s, wr_id, uR_at, uR_uR, u1_at, u1_ne, uf_at, uf_ne, iltT, iltF, ileT, ieqT, ieqF, kg0, kg1, kg2, kg3, kl1, kl2, kl3, jg0, jg1, jg2, jg3, jl1, jl2, jl3, s0, s1, s2, s5, s6, s7]
    refine k1 _ ?_
    congr 1
    funext j
    unfold u1
    grind
  · intro V' hV
    subst hV
    refine tG_at hd kPass_copyFrom_18 ?_
    simp (disch := omega) only [bPass_copyFrom_18, rn, sm, lg, lt_, cmpP, tk, pr_, pu, swl, cs, Nat.reduceAdd, Nat.reduceLeDiff, Nat.zero_le, Nat.le_refl, true_and, and_true, Int.toNat_natCast, Int.reduceToNat, Int.reduceEq, false_implies, true_implies, Int.reduceNeg, Int.cast_ofNat_Int, s_r0, s_r1, s_r2, s_r3, s_r4, s_w3, s_w4, s_a1, s_a2, s_a3, s_b1, s_b2, s_b3, pS_o, reduceIte, Nat.reduceEqDiff, true_or, or_true, Int.reduceLE, Int.reduceLT, Int.reduceAdd, Int.reduceSub, Int.reduceMul, not_true_eq_false, not_false_eq_true, implies_true, nat_s, wr_id, uR_at, uR_uR, u1_at, u1_ne, uf_at, uf_ne, iltT, iltF, ileT, ieqT, ieqF]
    refine tG_at hd kPass_copyFrom_66 ?_
    simp (disch := omega) only [bPass_copyFrom_66, rn, sm, lg, lt_, cmpP, tk, pr_, pu, swl, cs, Nat.reduceAdd, Nat.reduceLeDiff, Nat.zero_le, Nat.le_refl, true_and, and_true, Int.toNat_natCast, Int.reduceToNat, Int.reduceEq, false_implies, true_implies, Int.reduceNeg, Int.cast_ofNat_Int, s_r0, s_r1, s_r2, s_r3, s_r4, s_w3, s_w4, s_a1, s_a2, s_a3, s_b1, s_b2, s_b3, pS_o, reduceIte, Nat.reduceEqDiff, true_or, or_true, Int.reduceLE, Int.reduceLT, Int.reduceAdd, Int.reduceSub, Int.reduceMul, not_true_eq_false, not_false_eq_true, implies_true, nat_s, wr_id, uR_at, uR_uR, u1_at, u1_ne, uf_at, uf_ne, iltT, iltF, ileT, ieqT, ieqF]
    rw [pS_e (b' := r)]
    · exact hq
    · intro i h1 h2
      exact if_pos (by omega)
  · congr 1
    funext j
    unfold u1
    grind
theorem k_copyPE (hd : 4 ≤ d) (hN : NK Γ o) (hm : m < 6) (he : e < 47) (hq : Q none Γ (nP V o A (uR B m (pov (S e) (B m))) S q)) : tC w d nPass_copyFrom [.inr (.inl (o + (8 + 9 * m) + 5)), .inr (.inl (o + sa e + 1))] Γ (nP V o A B S q) Q := by
  have hb := sa_b he
  rw [← nP_pe (B := B) hm]
  refine k_passCopy hd (hN.pe hm) (hN.pg he) (r := S e) (fun i j hi => ?_) (by omega) ?_
  · rw [show o + sa e + 1 + i = o + sa e + (1 + i) by omega, nP_g he (by omega), pg_i]
  · rw [nP_qe hm]
    exact hq
theorem k_copyPG (hd : 4 ≤ d) (hN : NK Γ o) (hm : m < 6) (he : e < 47) (hq : Q none Γ (nP V o A B (uR S e (pov (B m) (S e))) q)) : tC w d nPass_copyFrom [.inr (.inl (o + sa e + 1)), .inr (.inl (o + (8 + 9 * m) + 5))] Γ (nP V o A B S q) Q := by
  have hb := sa_b he
  rw [← nP_pg (S := S) he]
  refine k_passCopy hd (hN.pg he) (hN.pe hm) (r := B m) (fun i j hi => ?_) (by omega) ?_
  · rw [show o + (8 + 9 * m) + 5 + i = o + (8 + 9 * m) + (5 + i) by omega, nP_e hm (by omega), pe_i hi]
  · rw [nP_qg he]
    exact hq
theorem k_copyMM (hd : 4 ≤ d) (hN : NK Γ o) (hS : NK Γ s) (hdis : s + 292 ≤ o ∨ o + 292 ≤ s) (hm : m < 6) (hq : Q none Γ (nP (nP V s A2 B2 S2 q2) o A (uR B m (pov (B2 m) (B m))) S q)) : tC w d nPass_copyFrom [.inr (.inl (o + (8 + 9 * m) + 5)), .inr (.inl (s + (8 + 9 * m) + 5))] Γ (nP (nP V s A2 B2 S2 q2) o A B S q) Q := by
  rw [← nP_pe (B := B) hm]
  refine k_passCopy hd (hN.pe hm) (hS.pe hm) (r := B2 m) (fun i j hi => ?_) (by omega) ?_
  · rw [nP_o (by omega), show s + (8 + 9 * m) + 5 + i = s + (8 + 9 * m) + (5 + i) by omega, nP_e hm (by omega), pe_i hi]
  · rw [nP_qe hm]
    exact hq
theorem k_copyGG (hd : 4 ≤ d) (hN : NK Γ o) (hS : NK Γ s) (hdis : s + 292 ≤ o ∨ o + 292 ≤ s) (he : e < 47) {f : Nat} (hf : f < 47) (hq : Q none Γ (nP (nP V s A2 B2 S2 q2) o A B (uR S e (pov (S2 f) (S e))) q)) : tC w d nPass_copyFrom [.inr (.inl (o + sa e + 1)), .inr (.inl (s + sa f + 1))] Γ (nP (nP V s A2 B2 S2 q2) o A B S q) Q := by
  have hb := sa_b he
  have hb2 := sa_b hf
  rw [← nP_pg (S := S) he]
  refine k_passCopy hd (hN.pg he) (hS.pg hf) (r := S2 f) (fun i j hi => ?_) (by omega) ?_
  · rw [nP_o (by omega), show s + sa f + 1 + i = s + sa f + (1 + i) by omega, nP_g hf (by omega), pg_i]
  · rw [nP_qg he]
    exact hq
def colB (x : Int) (b : Nat → Int) : Nat → Int := fun j => if j = 4 then x else if j = 5 then 0 else b j
theorem k_collectFor (hd : 4 ≤ d) (hN : NK Γ o) (hm : m < 6) {x : Int} (hq : Q none Γ (nP V o A (uR B m (colB x (B m))) S q)) : tC w d nMemb_collectFor [.inr (.inl (o + (8 + 9 * m))), .inl x] Γ (nP V o A B S q) Q := by
  obtain ⟨⟨kg0, kg1, kg2⟩, ⟨kl1, kl2⟩, ⟨km0, km1, km2, km3, km4, km5, km6, km7, km8⟩, ⟨kk1, kk2, kk3, kk4, kk6, kk7, kk8⟩, ⟨kx0, kx1, kx2, kx3, kx4⟩, ⟨ky2, ky3, ky4⟩⟩ := id hN
  refine tC_enter (nL := 2) (by decide +kernel) (by decide +kernel) rfl (Nat.le_of_ble_eq_true rfl) (fun hok => ?_)
  simp only [ent]
  refine tG_at hd kMemb_collectFor_0 ?_
  simp (disch := omega) only [bMemb_collectFor_0, rn, sm, lg, lt_, cmpP, tk, pr_, pu, swl, cs, Nat.reduceAdd, Nat.reduceLeDiff, Nat.zero_le, Nat.le_refl, true_and, and_true, Int.toNat_natCast, Int.reduceToNat, Int.reduceEq, false_implies, true_implies, Int.reduceNeg, Int.cast_ofNat_Int, n_r0, n_r1, n_r2, n_r3, n_w3, n_r4, n_w4, n_r5, n_w5, n_r6, n_w6, n_r7, n_w7, n_r8, n_w8, n_r9, n_w9, n_r10, n_w10, n_all, n_mail, nP_ut, nP_um, n_m0, n_m1, n_m2, n_m3, n_m4, n_m5, n_u5, n_m6, n_u6, n_m7, n_u7, n_m8, n_u8, n_m9, n_u9, n_m10, n_u10, n_m11, n_u11, n_m12, n_u12, n_a1, n_b1, n_a2, n_b2, n_a3, n_b3, n_a4, n_b4, n_a6, n_b6, n_a7, n_b7, n_a8, n_b8, n_p0, n_p1, n_p2, n_p3, n_q3, n_p4, n_q4, n_g0, n_g1, n_h1, n_g2, n_h2, n_g3, n_h3, n_g4, n_h4, n_g5, n_h5, n_k0, n_k1, n_k2, n_k3, n_k4, n_l2, n_l3, n_l4, kg0, kg1, kg2, kl1, kl2, km0, km1, km2, km3, km4, km5, km6, km7, km8, kk1, kk2, kk3, kk4, kk6, kk7, kk8, kx0, kx1, kx2, kx3, kx4, ky2, ky3, ky4, reduceIte, Nat.reduceEqDiff, true_or, or_true, Int.reduceLE, Int.reduceLT, Int.reduceAdd, Int.reduceSub, Int.reduceMul, not_true_eq_false, not_false_eq_true, implies_true, nat_s, wr_id, uR_at, uR_uR, u1_at, u1_ne, uf_at, uf_ne, iltT, iltF, ileT, ieqT, ieqF]
  rw [show u1 (u1 (B m) 4 x) 5 0 = colB x (B m) by funext j; unfold u1 colB; grind]
  exact hq
theorem k_writeRow (hd : 4 ≤ d) (hN : NK Γ o) (hm : m < 6) (hq : Q none Γ (nP V o A (uR B m (rowR (B m))) S q)) : tC w d nMemb_writeRow [.inr (.inl (o + (8 + 9 * m)))] Γ (nP V o A B S q) Q := by
  obtain ⟨⟨kg0, kg1, kg2⟩, ⟨kl1, kl2⟩, ⟨km0, km1, km2, km3, km4, km5, km6, km7, km8⟩, ⟨kk1, kk2, kk3, kk4, kk6, kk7, kk8⟩, ⟨kx0, kx1, kx2, kx3, kx4⟩, ⟨ky2, ky3, ky4⟩⟩ := id hN
  refine tC_enter (nL := 2) (by decide +kernel) (by decide +kernel) rfl (Nat.le_of_ble_eq_true rfl) (fun hok => ?_)
  simp only [ent]
  refine tG_at hd kMemb_writeRow_0 ?_
  simp (disch := omega) only [bMemb_writeRow_0, rn, sm, lg, lt_, cmpP, tk, pr_, pu, swl, cs, Nat.reduceAdd, Nat.reduceLeDiff, Nat.zero_le, Nat.le_refl, true_and, and_true, Int.toNat_natCast, Int.reduceToNat, Int.reduceEq, false_implies, true_implies, Int.reduceNeg, Int.cast_ofNat_Int, n_r0, n_r1, n_r2, n_r3, n_w3, n_r4, n_w4, n_r5, n_w5, n_r6, n_w6, n_r7, n_w7, n_r8, n_w8, n_r9, n_w9, n_r10, n_w10, n_all, n_mail, nP_ut, nP_um, n_m0, n_m1, n_m2, n_m3, n_m4, n_m5, n_u5, n_m6, n_u6, n_m7, n_u7, n_m8, n_u8, n_m9, n_u9, n_m10, n_u10, n_m11, n_u11, n_m12, n_u12, n_a1, n_b1, n_a2, n_b2, n_a3, n_b3, n_a4, n_b4, n_a6, n_b6, n_a7, n_b7, n_a8, n_b8, n_p0, n_p1, n_p2, n_p3, n_q3, n_p4, n_q4, n_g0, n_g1, n_h1, n_g2, n_h2, n_g3, n_h3, n_g4, n_h4, n_g5, n_h5, n_k0, n_k1, n_k2, n_k3, n_k4, n_l2, n_l3, n_l4, kg0, kg1, kg2, kl1, kl2, km0, km1, km2, km3, km4, km5, km6, km7, km8, kk1, kk2, kk3, kk4, kk6, kk7, kk8, kx0, kx1, kx2, kx3, kx4, ky2, ky3, ky4, reduceIte, Nat.reduceEqDiff, true_or, or_true, Int.reduceLE, Int.reduceLT, Int.reduceAdd, Int.reduceSub, Int.reduceMul, not_true_eq_false, not_false_eq_true, implies_true, nat_s, wr_id, uR_at, uR_uR, u1_at, u1_ne, uf_at, uf_ne, iltT, iltF, ileT, ieqT, ieqF]
  refine tG_loop (fun i => [some (.inr (.inl (o + (8 + 9 * m)))), some (.inl (i : Int))]) (fun i V' => V' = nP V o A (uR B m (fun j => if 18 ≤ j ∧ j < 18 + i then B m (j + 14) else B m j)) S q) 6 ?_ ?_ 0 _ (Nat.zero_le _) ?_
  · intro i V' hi hV k1
    subst hV
    refine tG_at hd kMemb_writeRow_2 ?_
    simp (disch := omega) only [bMemb_writeRow_2, rn, sm, lg, lt_, cmpP, tk, pr_, pu, swl, cs, Nat.reduceAdd, Nat.reduceLeDiff, Nat.zero_le, Nat.le_refl, true_and, and_true, Int.toNat_natCast, Int.reduceToNat, Int.reduceEq, false_implies, true_implies, Int.reduceNeg, Int.cast_ofNat_Int, n_r0, n_r1, n_r2, n_r3, n_w3, n_r4, n_w4, n_r5, n_w5, n_r6, n_w6, n_r7, n_w7, n_r8, n_w8, n_r9, n_w9, n_r10, n_w10, n_all, n_mail, nP_ut, nP_um, n_m0, n_m1, n_m2, n_m3, n_m4, n_m5, n_u5, n_m6, n_u6, n_m7, n_u7, n_m8, n_u8, n_m9, n_u9, n_m10, n_u10, n_m11, n_u11, n_m12, n_u12, n_a1, n_b1, n_a2, n_b2, n_a3, n_b3, n_a4, n_b4, n_a6, n_b6, n_a7, n_b7, n_a8, n_b8, n_p0, n_p1, n_p2, n_p3, n_q3, n_p4, n_q4, n_g0, n_g1, n_h1, n_g2, n_h2, n_g3, n_h3, n_g4, n_h4, n_g5, n_h5, n_k0, n_k1, n_k2, n_k3, n_k4, n_l2, n_l3, n_l4, kg0, kg1, kg2, kl1, kl2, km0, km1, km2, km3, km4, km5, km6, km7, km8, kk1, kk2, kk3, kk4, kk6, kk7, kk8, kx0, kx1, kx2, kx3, kx4, ky2, ky3, ky4, reduceIte, Nat.reduceEqDiff, true_or, or_true, Int.reduceLE, Int.reduceLT, Int.reduceAdd, Int.reduceSub, Int.reduceMul, not_true_eq_false, not_false_eq_true, implies_true, nat_s, wr_id, uR_at, uR_uR, u1_at, u1_ne, uf_at, uf_ne, iltT, iltF, ileT, ieqT, ieqF]
    refine tG_at hd kMemb_writeRow_8 ?_
    simp (disch := omega) only [bMemb_writeRow_8, rn, sm, lg, lt_, cmpP, tk, pr_, pu, swl, cs, Nat.reduceAdd, Nat.reduceLeDiff, Nat.zero_le, Nat.le_refl, true_and, and_true, Int.toNat_natCast, Int.reduceToNat, Int.reduceEq, false_implies, true_implies, Int.reduceNeg, Int.cast_ofNat_Int, n_r0, n_r1, n_r2, n_r3, n_w3, n_r4, n_w4, n_r5, n_w5, n_r6, n_w6, n_r7, n_w7, n_r8, n_w8, n_r9, n_w9, n_r10, n_w10, n_all, n_mail, nP_ut, nP_um, n_m0, n_m1, n_m2, n_m3, n_m4, n_m5, n_u5, n_m6, n_u6, n_m7, n_u7, n_m8, n_u8, n_m9, n_u9, n_m10, n_u10, n_m11, n_u11, n_m12, n_u12, n_a1, n_b1, n_a2, n_b2, n_a3, n_b3, n_a4, n_b4, n_a6, n_b6, n_a7, n_b7, n_a8, n_b8, n_p0, n_p1, n_p2, n_p3, n_q3, n_p4, n_q4, n_g0, n_g1, n_h1, n_g2, n_h2, n_g3, n_h3, n_g4, n_h4, n_g5, n_h5, n_k0, n_k1, n_k2, n_k3, n_k4, n_l2, n_l3, n_l4, kg0, kg1, kg2, kl1, kl2, km0, km1, km2, km3, km4, km5, km6, km7, km8, kk1, kk2, kk3, kk4, kk6, kk7, kk8, kx0, kx1, kx2, kx3, kx4, ky2, ky3, ky4, reduceIte, Nat.reduceEqDiff, true_or, or_true, Int.reduceLE, Int.reduceLT, Int.reduceAdd, Int.reduceSub, Int.reduceMul, not_true_eq_false, not_false_eq_true, implies_true, nat_s, wr_id, uR_at, uR_uR, u1_at, u1_ne, uf_at, uf_ne, iltT, iltF, ileT, ieqT, ieqF]
    refine k1 _ ?_
    congr 2
    funext j
    unfold u1
    clear hN kg0 kg1 kg2 kl1 kl2 km0 km1 km2 km3 km4 km5 km6 km7 km8 kk1 kk2 kk3 kk4 kk6 kk7 kk8 kx0 kx1 kx2 kx3 kx4 ky2 ky3 ky4
    grind (splits := 40)
  · intro V' hV
    subst hV
    refine tG_at hd kMemb_writeRow_2 ?_
    simp (disch := omega) only [bMemb_writeRow_2, rn, sm, lg, lt_, cmpP, tk, pr_, pu, swl, cs, Nat.reduceAdd, Nat.reduceLeDiff, Nat.zero_le, Nat.le_refl, true_and, and_true, Int.toNat_natCast, Int.reduceToNat, Int.reduceEq, false_implies, true_implies, Int.reduceNeg, Int.cast_ofNat_Int, n_r0, n_r1, n_r2, n_r3, n_w3, n_r4, n_w4, n_r5, n_w5, n_r6, n_w6, n_r7, n_w7, n_r8, n_w8, n_r9, n_w9, n_r10, n_w10, n_all, n_mail, nP_ut, nP_um, n_m0, n_m1, n_m2, n_m3, n_m4, n_m5, n_u5, n_m6, n_u6, n_m7, n_u7, n_m8, n_u8, n_m9, n_u9, n_m10, n_u10, n_m11, n_u11, n_m12, n_u12, n_a1, n_b1, n_a2, n_b2, n_a3, n_b3, n_a4, n_b4, n_a6, n_b6, n_a7, n_b7, n_a8, n_b8, n_p0, n_p1, n_p2, n_p3, n_q3, n_p4, n_q4, n_g0, n_g1, n_h1, n_g2, n_h2, n_g3, n_h3, n_g4, n_h4, n_g5, n_h5, n_k0, n_k1, n_k2, n_k3, n_k4, n_l2, n_l3, n_l4, kg0, kg1, kg2, kl1, kl2, km0, km1, km2, km3, km4, km5, km6, km7, km8, kk1, kk2, kk3, kk4, kk6, kk7, kk8, kx0, kx1, kx2, kx3, kx4, ky2, ky3, ky4, reduceIte, Nat.reduceEqDiff, true_or, or_true, Int.reduceLE, Int.reduceLT, Int.reduceAdd, Int.reduceSub, Int.reduceMul, not_true_eq_false, not_false_eq_true, implies_true, nat_s, wr_id, uR_at, uR_uR, u1_at, u1_ne, uf_at, uf_ne, iltT, iltF, ileT, ieqT, ieqF]
    refine tG_at hd kMemb_writeRow_29 ?_
    simp (disch := omega) only [bMemb_writeRow_29, rn, sm, lg, lt_, cmpP, tk, pr_, pu, swl, cs, Nat.reduceAdd, Nat.reduceLeDiff, Nat.zero_le, Nat.le_refl, true_and, and_true, Int.toNat_natCast, Int.reduceToNat, Int.reduceEq, false_implies, true_implies, Int.reduceNeg, Int.cast_ofNat_Int, n_r0, n_r1, n_r2, n_r3, n_w3, n_r4, n_w4, n_r5, n_w5, n_r6, n_w6, n_r7, n_w7, n_r8, n_w8, n_r9, n_w9, n_r10, n_w10, n_all, n_mail, nP_ut, nP_um, n_m0, n_m1, n_m2, n_m3, n_m4, n_m5, n_u5, n_m6, n_u6, n_m7, n_u7, n_m8, n_u8, n_m9, n_u9, n_m10, n_u10, n_m11, n_u11, n_m12, n_u12, n_a1, n_b1, n_a2, n_b2, n_a3, n_b3, n_a4, n_b4, n_a6, n_b6, n_a7, n_b7, n_a8, n_b8, n_p0, n_p1, n_p2, n_p3, n_q3, n_p4, n_q4, n_g0, n_g1, n_h1, n_g2, n_h2, n_g3, n_h3, n_g4, n_h4, n_g5, n_h5, n_k0, n_k1, n_k2, n_k3, n_k4, n_l2, n_l3, n_l4, kg0, kg1, kg2, kl1, kl2, km0, km1, km2, km3, km4, km5, km6, km7, km8, kk1, kk2, kk3, kk4, kk6, kk7, kk8, kx0, kx1, kx2, kx3, kx4, ky2, ky3, ky4, reduceIte, Nat.reduceEqDiff, true_or, or_true, Int.reduceLE, Int.reduceLT, Int.reduceAdd, Int.reduceSub, Int.reduceMul, not_true_eq_false, not_false_eq_true, implies_true, nat_s, wr_id, uR_at, uR_uR, u1_at, u1_ne, uf_at, uf_ne, iltT, iltF, ileT, ieqT, ieqF]
    exact hq
  · rw [show (fun j => if 18 ≤ j ∧ j < 18 + 0 then B m (j + 14) else B m j) = B m from funext fun j => if_neg (by omega), uR_eq]
def begB (r b : Nat → Int) : Nat → Int := fun j => if j = 1 then 1 else if 12 ≤ j ∧ j < 18 then r (j - 12) else if j < 30 ∨ j = 50 ∨ j = 51 then 0 else b j
theorem k_membBegin (hd5 : 5 ≤ d) (hN : NK Γ o) (hm : m < 6) {a : Nat} {r : Nat → Int} (ha : a < o ∨ o + 292 ≤ a) (hk : Γ.1 a = 10) (hl : (Γ.2.1 a : Int) = 6) (hr : ∀ j, j < 6 → V a j = r j) (hq : Q none Γ (nP V o A (uR B m (begB r (B m))) S q)) : tC w d nMemb_begin [.inr (.inl (o + (8 + 9 * m))), .inr (.inl a)] Γ (nP V o A B S q) Q := by
  have hd : 4 ≤ d := by omega
  obtain ⟨⟨kg0, kg1, kg2⟩, ⟨kl1, kl2⟩, ⟨km0, km1, km2, km3, km4, km5, km6, km7, km8⟩, ⟨kk1, kk2, kk3, kk4, kk6, kk7, kk8⟩, ⟨kx0, kx1, kx2, kx3, kx4⟩, ⟨ky2, ky3, ky4⟩⟩ := id hN
  refine tC_enter (nL := 3) (by decide +kernel) (by decide +kernel) rfl (Nat.le_of_ble_eq_true rfl) (fun hok => ?_)
  simp only [ent]
  refine tG_at hd kMemb_begin_0 ?_
  simp (disch := omega) only [bMemb_begin_0, rn, sm, lg, lt_, cmpP, tk, pr_, pu, swl, cs, Nat.reduceAdd, Nat.reduceLeDiff, Nat.zero_le, Nat.le_refl, true_and, and_true, Int.toNat_natCast, Int.reduceToNat, Int.reduceEq, false_implies, true_implies, Int.reduceNeg, Int.cast_ofNat_Int, n_r0, n_r1, n_r2, n_r3, n_w3, n_r4, n_w4, n_r5, n_w5, n_r6, n_w6, n_r7, n_w7, n_r8, n_w8, n_r9, n_w9, n_r10, n_w10, n_all, n_mail, nP_ut, nP_um, n_m0, n_m1, n_m2, n_m3, n_m4, n_m5, n_u5, n_m6, n_u6, n_m7, n_u7, n_m8, n_u8, n_m9, n_u9, n_m10, n_u10, n_m11, n_u11, n_m12, n_u12, n_a1, n_b1, n_a2, n_b2, n_a3, n_b3, n_a4, n_b4, n_a6, n_b6, n_a7, n_b7, n_a8, n_b8, n_p0, n_p1, n_p2, n_p3, n_q3, n_p4, n_q4, n_g0, n_g1, n_h1, n_g2, n_h2, n_g3, n_h3, n_g4, n_h4, n_g5, n_h5, n_k0, n_k1, n_k2, n_k3, n_k4, n_l2, n_l3, n_l4, kg0, kg1, kg2, kl1, kl2, km0, km1, km2, km3, km4, km5, km6, km7, km8, kk1, kk2, kk3, kk4, kk6, kk7, kk8, kx0, kx1, kx2, kx3, kx4, ky2, ky3, ky4, reduceIte, Nat.reduceEqDiff, true_or, or_true, Int.reduceLE, Int.reduceLT, Int.reduceAdd, Int.reduceSub, Int.reduceMul, not_true_eq_false, not_false_eq_true, implies_true, nat_s, wr_id, uR_at, uR_uR, u1_at, u1_ne, uf_at, uf_ne, iltT, iltF, ileT, ieqT, ieqF]
  refine k_collectFor (by omega) hN hm ?_
  refine tG_at hd kMemb_begin_35 ?_
  simp (disch := omega) only [bMemb_begin_35, rn, sm, lg, lt_, cmpP, tk, pr_, pu, swl, cs, Nat.reduceAdd, Nat.reduceLeDiff, Nat.zero_le, Nat.le_refl, true_and, and_true, Int.toNat_natCast, Int.reduceToNat, Int.reduceEq, false_implies, true_implies, Int.reduceNeg, Int.cast_ofNat_Int, n_r0, n_r1, n_r2, n_r3, n_w3, n_r4, n_w4, n_r5, n_w5, n_r6, n_w6, n_r7, n_w7, n_r8, n_w8, n_r9, n_w9, n_r10, n_w10, n_all, n_mail, nP_ut, nP_um, n_m0, n_m1, n_m2, n_m3, n_m4, n_m5, n_u5, n_m6, n_u6, n_m7, n_u7, n_m8, n_u8, n_m9, n_u9, n_m10, n_u10, n_m11, n_u11, n_m12, n_u12, n_a1, n_b1, n_a2, n_b2, n_a3, n_b3, n_a4, n_b4, n_a6, n_b6, n_a7, n_b7, n_a8, n_b8, n_p0, n_p1, n_p2, n_p3, n_q3, n_p4, n_q4, n_g0, n_g1, n_h1, n_g2, n_h2, n_g3, n_h3, n_g4, n_h4, n_g5, n_h5, n_k0, n_k1, n_k2, n_k3, n_k4, n_l2, n_l3, n_l4, kg0, kg1, kg2, kl1, kl2, km0, km1, km2, km3, km4, km5, km6, km7, km8, kk1, kk2, kk3, kk4, kk6, kk7, kk8, kx0, kx1, kx2, kx3, kx4, ky2, ky3, ky4, reduceIte, Nat.reduceEqDiff, true_or, or_true, Int.reduceLE, Int.reduceLT, Int.reduceAdd, Int.reduceSub, Int.reduceMul, not_true_eq_false, not_false_eq_true, implies_true, nat_s, wr_id, uR_at, uR_uR, u1_at, u1_ne, uf_at, uf_ne, iltT, iltF, ileT, ieqT, ieqF]
  refine tG_loop (fun i => [some (.inr (.inl (o + (8 + 9 * m)))), some (.inr (.inl a)), some (.inl (i : Int))]) (fun i V' => V' = nP V o A (uR B m (fun j => if j = 1 then 1 else if j < 6 ∨ j = 50 ∨ j = 51 then 0 else if (6 ≤ j ∧ j < 6 + i) ∨ (18 ≤ j ∧ j < 18 + i) ∨ (24 ≤ j ∧ j < 24 + i) then 0 else if 12 ≤ j ∧ j < 12 + i then r (j - 12) else B m j)) S q) 6 ?_ ?_ 0 _ (Nat.zero_le _) ?_
  · intro i V' hi hV k1
    subst hV
    refine tG_at hd kMemb_begin_37 ?_
    simp (disch := omega) only [bMemb_begin_37, rn, sm, lg, lt_, cmpP, tk, pr_, pu, swl, cs, Nat.reduceAdd, Nat.reduceLeDiff, Nat.zero_le, Nat.le_refl, true_and, and_true, Int.toNat_natCast, Int.reduceToNat, Int.reduceEq, false_implies, true_implies, Int.reduceNeg, Int.cast_ofNat_Int, n_r0, n_r1, n_r2, n_r3, n_w3, n_r4, n_w4, n_r5, n_w5, n_r6, n_w6, n_r7, n_w7, n_r8, n_w8, n_r9, n_w9, n_r10, n_w10, n_all, n_mail, nP_ut, nP_um, n_m0, n_m1, n_m2, n_m3, n_m4, n_m5, n_u5, n_m6, n_u6, n_m7, n_u7, n_m8, n_u8, n_m9, n_u9, n_m10, n_u10, n_m11, n_u11, n_m12, n_u12, n_a1, n_b1, n_a2, n_b2, n_a3, n_b3, n_a4, n_b4, n_a6, n_b6, n_a7, n_b7, n_a8, n_b8, n_p0, n_p1, n_p2, n_p3, n_q3, n_p4, n_q4, n_g0, n_g1, n_h1, n_g2, n_h2, n_g3, n_h3, n_g4, n_h4, n_g5, n_h5, n_k0, n_k1, n_k2, n_k3, n_k4, n_l2, n_l3, n_l4, kg0, kg1, kg2, kl1, kl2, km0, km1, km2, km3, km4, km5, km6, km7, km8, kk1, kk2, kk3, kk4, kk6, kk7, kk8, kx0, kx1, kx2, kx3, kx4, ky2, ky3, ky4, reduceIte, Nat.reduceEqDiff, true_or, or_true, Int.reduceLE, Int.reduceLT, Int.reduceAdd, Int.reduceSub, Int.reduceMul, not_true_eq_false, not_false_eq_true, implies_true, nat_s, wr_id, uR_at, uR_uR, u1_at, u1_ne, uf_at, uf_ne, iltT, iltF, ileT, ieqT, ieqF]
    refine tG_at hd kMemb_begin_43 ?_
    simp (disch := omega) only [bMemb_begin_43, rn, sm, lg, lt_, cmpP, tk, pr_, pu, swl, cs, Nat.reduceAdd, Nat.reduceLeDiff, Nat.zero_le, Nat.le_refl, true_and, and_true, Int.toNat_natCast, Int.reduceToNat, Int.reduceEq, false_implies, true_implies, Int.reduceNeg, Int.cast_ofNat_Int, n_r0, n_r1, n_r2, n_r3, n_w3, n_r4, n_w4, n_r5, n_w5, n_r6, n_w6, n_r7, n_w7, n_r8, n_w8, n_r9, n_w9, n_r10, n_w10, n_all, n_mail, nP_ut, nP_um, n_m0, n_m1, n_m2, n_m3, n_m4, n_m5, n_u5, n_m6, n_u6, n_m7, n_u7, n_m8, n_u8, n_m9, n_u9, n_m10, n_u10, n_m11, n_u11, n_m12, n_u12, n_a1, n_b1, n_a2, n_b2, n_a3, n_b3, n_a4, n_b4, n_a6, n_b6, n_a7, n_b7, n_a8, n_b8, n_p0, n_p1, n_p2, n_p3, n_q3, n_p4, n_q4, n_g0, n_g1, n_h1, n_g2, n_h2, n_g3, n_h3, n_g4, n_h4, n_g5, n_h5, n_k0, n_k1, n_k2, n_k3, n_k4, n_l2, n_l3, n_l4, kg0, kg1, kg2, kl1, kl2, km0, km1, km2, km3, km4, km5, km6, km7, km8, kk1, kk2, kk3, kk4, kk6, kk7, kk8, kx0, kx1, kx2, kx3, kx4, ky2, ky3, ky4, reduceIte, Nat.reduceEqDiff, true_or, or_true, Int.reduceLE, Int.reduceLT, Int.reduceAdd, Int.reduceSub, Int.reduceMul, not_true_eq_false, not_false_eq_true, implies_true, nat_s, wr_id, uR_at, uR_uR, u1_at, u1_ne, uf_at, uf_ne, iltT, iltF, ileT, ieqT, ieqF, nP_o, hk, hl, hr]
    refine k1 _ ?_
    congr 2
    funext j
    unfold u1
    have : 12 + i - 12 = i := by omega
    clear hN kg0 kg1 kg2 kl1 kl2 km0 km1 km2 km3 km4 km5 km6 km7 km8 kk1 kk2 kk3 kk4 kk6 kk7 kk8 kx0 kx1 kx2 kx3 kx4 ky2 ky3 ky4
    grind (splits := 40)
  · intro V' hV
    subst hV
    refine tG_at hd kMemb_begin_37 ?_
    simp (disch := omega) only [bMemb_begin_37, rn, sm, lg, lt_, cmpP, tk, pr_, pu, swl, cs, Nat.reduceAdd, Nat.reduceLeDiff, Nat.zero_le, Nat.le_refl, true_and, and_true, Int.toNat_natCast, Int.reduceToNat, Int.reduceEq, false_implies, true_implies, Int.reduceNeg, Int.cast_ofNat_Int, n_r0, n_r1, n_r2, n_r3, n_w3, n_r4, n_w4, n_r5, n_w5, n_r6, n_w6, n_r7, n_w7, n_r8, n_w8, n_r9, n_w9, n_r10, n_w10, n_all, n_mail, nP_ut, nP_um, n_m0, n_m1, n_m2, n_m3, n_m4, n_m5, n_u5, n_m6, n_u6, n_m7, n_u7, n_m8, n_u8, n_m9, n_u9, n_m10, n_u10, n_m11, n_u11, n_m12, n_u12, n_a1, n_b1, n_a2, n_b2, n_a3, n_b3, n_a4, n_b4, n_a6, n_b6, n_a7, n_b7, n_a8, n_b8, n_p0, n_p1, n_p2, n_p3, n_q3, n_p4, n_q4, n_g0, n_g1, n_h1, n_g2, n_h2, n_g3, n_h3, n_g4, n_h4, n_g5, n_h5, n_k0, n_k1, n_k2, n_k3, n_k4, n_l2, n_l3, n_l4, kg0, kg1, kg2, kl1, kl2, km0, km1, km2, km3, km4, km5, km6, km7, km8, kk1, kk2, kk3, kk4, kk6, kk7, kk8, kx0, kx1, kx2, kx3, kx4, ky2, ky3, ky4, reduceIte, Nat.reduceEqDiff, true_or, or_true, Int.reduceLE, Int.reduceLT, Int.reduceAdd, Int.reduceSub, Int.reduceMul, not_true_eq_false, not_false_eq_true, implies_true, nat_s, wr_id, uR_at, uR_uR, u1_at, u1_ne, uf_at, uf_ne, iltT, iltF, ileT, ieqT, ieqF]
    refine tG_at hd kMemb_begin_79 ?_
    simp (disch := omega) only [bMemb_begin_79, rn, sm, lg, lt_, cmpP, tk, pr_, pu, swl, cs, Nat.reduceAdd, Nat.reduceLeDiff, Nat.zero_le, Nat.le_refl, true_and, and_true, Int.toNat_natCast, Int.reduceToNat, Int.reduceEq, false_implies, true_implies, Int.reduceNeg, Int.cast_ofNat_Int, n_r0, n_r1, n_r2, n_r3, n_w3, n_r4, n_w4, n_r5, n_w5, n_r6, n_w6, n_r7, n_w7, n_r8, n_w8, n_r9, n_w9, n_r10, n_w10, n_all, n_mail, nP_ut, nP_um, n_m0, n_m1, n_m2, n_m3, n_m4, n_m5, n_u5, n_m6, n_u6, n_m7, n_u7, n_m8, n_u8, n_m9, n_u9, n_m10, n_u10, n_m11, n_u11, n_m12, n_u12, n_a1, n_b1, n_a2, n_b2, n_a3, n_b3, n_a4, n_b4, n_a6, n_b6, n_a7, n_b7, n_a8, n_b8, n_p0, n_p1, n_p2, n_p3, n_q3, n_p4, n_q4, n_g0, n_g1, n_h1, n_g2, n_h2, n_g3, n_h3, n_g4, n_h4, n_g5, n_h5, n_k0, n_k1, n_k2, n_k3, n_k4, n_l2, n_l3, n_l4, kg0, kg1, kg2, kl1, kl2, km0, km1, km2, km3, km4, km5, km6, km7, km8, kk1, kk2, kk3, kk4, kk6, kk7, kk8, kx0, kx1, kx2, kx3, kx4, ky2, ky3, ky4, reduceIte, Nat.reduceEqDiff, true_or, or_true, Int.reduceLE, Int.reduceLT, Int.reduceAdd, Int.reduceSub, Int.reduceMul, not_true_eq_false, not_false_eq_true, implies_true, nat_s, wr_id, uR_at, uR_uR, u1_at, u1_ne, uf_at, uf_ne, iltT, iltF, ileT, ieqT, ieqF]
    rw [show (fun j => if j = 1 then 1 else if j < 6 ∨ j = 50 ∨ j = 51 then 0 else if (6 ≤ j ∧ j < 6 + 6) ∨ (18 ≤ j ∧ j < 18 + 6) ∨ (24 ≤ j ∧ j < 24 + 6) then 0 else if 12 ≤ j ∧ j < 12 + 6 then r (j - 12) else B m j) = begB r (B m) by funext j; unfold begB; grind]
    exact hq
  · congr 2
    funext j
    unfold u1 colB
    clear hN kg0 kg1 kg2 kl1 kl2 km0 km1 km2 km3 km4 km5 km6 km7 km8 kk1 kk2 kk3 kk4 kk6 kk7 kk8 kx0 kx1 kx2 kx3 kx4 ky2 ky3 ky4
    grind (splits := 40)
def cpB (b2 b : Nat → Int) : Nat → Int := fun j => if j < 30 ∨ j = 50 ∨ j = 51 then b2 j else if b2 50 ≠ 0 ∧ 30 ≤ j ∧ j < 50 then b2 j else b j
theorem k_membCopy (hd5 : 5 ≤ d) (hN : NK Γ o) (hS : NK Γ s) (hdis : s + 292 ≤ o ∨ o + 292 ≤ s) (hm : m < 6) (hB : (B2 m 2 = 0 ∨ B2 m 2 = 1) ∧ (B2 m 3 = 0 ∨ B2 m 3 = 1) ∧ (B2 m 50 = 0 ∨ B2 m 50 = 1)) (hq : Q none Γ (nP (nP V s A2 B2 S2 q2) o A (uR B m (cpB (B2 m) (B m))) S q)) : tC w d nMemb_copyFrom [.inr (.inl (o + (8 + 9 * m))), .inr (.inl (s + (8 + 9 * m)))] Γ (nP (nP V s A2 B2 S2 q2) o A B S q) Q := by
  have hd : 4 ≤ d := by omega
  obtain ⟨hb1, hb2, hb3⟩ := hB
  obtain ⟨⟨kg0, kg1, kg2⟩, ⟨kl1, kl2⟩, ⟨km0, km1, km2, km3, km4, km5, km6, km7, km8⟩, ⟨kk1, kk2, kk3, kk4, kk6, kk7, kk8⟩, ⟨kx0, kx1, kx2, kx3, kx4⟩, ⟨ky2, ky3, ky4⟩⟩ := id hN
  obtain ⟨⟨jg0, jg1, jg2⟩, ⟨jl1, jl2⟩, ⟨jm0, jm1, jm2, jm3, jm4, jm5, jm6, jm7, jm8⟩, ⟨jj1, jj2, jj3, jj4, jj6, jj7, jj8⟩, ⟨jx0, jx1, jx2, jx3, jx4⟩, ⟨jy2, jy3, jy4⟩⟩ := id hS
  have k82 : ∀ b, b = (fun j => if j < 6 ∨ j = 50 ∨ j = 51 then B2 m j else if B2 m 50 ≠ 0 ∧ 30 ≤ j ∧ j < 50 then B2 m j else B m j) → tG w d nMemb_copyFrom 82 [some (.inr (.inl (o + (8 + 9 * m)))), some (.inr (.inl (s + (8 + 9 * m)))), none] [] Γ (nP (nP V s A2 B2 S2 q2) o A (uR B m b) S q) 0 0 Q := by
    intro b hb
    refine tG_at hd kMemb_copyFrom_82 ?_
    simp (disch := omega) only [bMemb_copyFrom_82, rn, sm, lg, lt_, cmpP, tk, pr_, pu, swl, cs, Nat.reduceAdd, Nat.reduceLeDiff, Nat.zero_le, Nat.le_refl, true_and, and_true, Int.toNat_natCast, Int.reduceToNat, Int.reduceEq, false_implies, true_implies, Int.reduceNeg, Int.cast_ofNat_Int, n_r0, n_r1, n_r2, n_r3, n_w3, n_r4, n_w4, n_r5, n_w5, n_r6, n_w6, n_r7, n_w7, n_r8, n_w8, n_r9, n_w9, n_r10, n_w10, n_all, n_mail, nP_ut, nP_um, n_m0, n_m1, n_m2, n_m3, n_m4, n_m5, n_u5, n_m6, n_u6, n_m7, n_u7, n_m8, n_u8, n_m9, n_u9, n_m10, n_u10, n_m11, n_u11, n_m12, n_u12, n_a1, n_b1, n_a2, n_b2, n_a3, n_b3, n_a4, n_b4, n_a6, n_b6, n_a7, n_b7, n_a8, n_b8, n_p0, n_p1, n_p2, n_p3, n_q3, n_p4, n_q4, n_g0, n_g1, n_h1, n_g2, n_h2, n_g3, n_h3, n_g4, n_h4, n_g5, n_h5, n_k0, n_k1, n_k2, n_k3, n_k4, n_l2, n_l3, n_l4, kg0, kg1, kg2, kl1, kl2, km0, km1, km2, km3, km4, km5, km6, km7, km8, kk1, kk2, kk3, kk4, kk6, kk7, kk8, kx0, kx1, kx2, kx3, kx4, ky2, ky3, ky4, reduceIte, Nat.reduceEqDiff, true_or, or_true, Int.reduceLE, Int.reduceLT, Int.reduceAdd, Int.reduceSub, Int.reduceMul, not_true_eq_false, not_false_eq_true, implies_true, nat_s, wr_id, uR_at, uR_uR, u1_at, u1_ne, uf_at, uf_ne, iltT, iltF, ileT, ieqT, ieqF]
    refine tG_loop (fun i => [some (.inr (.inl (o + (8 + 9 * m)))), some (.inr (.inl (s + (8 + 9 * m)))), some (.inl (i : Int))]) (fun i V' => V' = nP (nP V s A2 B2 S2 q2) o A (uR B m (fun j => if (6 ≤ j ∧ j < 6 + i) ∨ (12 ≤ j ∧ j < 12 + i) ∨ (18 ≤ j ∧ j < 18 + i) ∨ (24 ≤ j ∧ j < 24 + i) then B2 m j else b j)) S q) 6 ?_ ?_ 0 _ (Nat.zero_le _) ?_
    · intro i V' hi hV k1
      subst hV
      refine tG_at hd kMemb_copyFrom_84 ?_
      simp (disch := omega) only [bMemb_copyFrom_84, rn, sm, lg, lt_, cmpP, tk, pr_, pu, swl, cs, Nat.reduceAdd, Nat.reduceLeDiff, Nat.zero_le, Nat.le_refl, true_and, and_true, Int.toNat_natCast, Int.reduceToNat, Int.reduceEq, false_implies, true_implies, Int.reduceNeg, Int.cast_ofNat_Int, n_r0, n_r1, n_r2, n_r3, n_w3, n_r4, n_w4, n_r5, n_w5, n_r6, n_w6, n_r7, n_w7, n_r8, n_w8, n_r9, n_w9, n_r10, n_w10, n_all, n_mail, nP_ut, nP_um, n_m0, n_m1, n_m2, n_m3, n_m4, n_m5, n_u5, n_m6, n_u6, n_m7, n_u7, n_m8, n_u8, n_m9, n_u9, n_m10, n_u10, n_m11, n_u11, n_m12, n_u12, n_a1, n_b1, n_a2, n_b2, n_a3, n_b3, n_a4, n_b4, n_a6, n_b6, n_a7, n_b7, n_a8, n_b8, n_p0, n_p1, n_p2, n_p3, n_q3, n_p4, n_q4, n_g0, n_g1, n_h1, n_g2, n_h2, n_g3, n_h3, n_g4, n_h4, n_g5, n_h5, n_k0, n_k1, n_k2, n_k3, n_k4, n_l2, n_l3, n_l4, kg0, kg1, kg2, kl1, kl2, km0, km1, km2, km3, km4, km5, km6, km7, km8, kk1, kk2, kk3, kk4, kk6, kk7, kk8, kx0, kx1, kx2, kx3, kx4, ky2, ky3, ky4, reduceIte, Nat.reduceEqDiff, true_or, or_true, Int.reduceLE, Int.reduceLT, Int.reduceAdd, Int.reduceSub, Int.reduceMul, not_true_eq_false, not_false_eq_true, implies_true, nat_s, wr_id, uR_at, uR_uR, u1_at, u1_ne, uf_at, uf_ne, iltT, iltF, ileT, ieqT, ieqF]
      refine tG_at hd kMemb_copyFrom_90 ?_
      simp (disch := omega) only [bMemb_copyFrom_90, rn, sm, lg, lt_, cmpP, tk, pr_, pu, swl, cs, Nat.reduceAdd, Nat.reduceLeDiff, Nat.zero_le, Nat.le_refl, true_and, and_true, Int.toNat_natCast, Int.reduceToNat, Int.reduceEq, false_implies, true_implies, Int.reduceNeg, Int.cast_ofNat_Int, n_r0, n_r1, n_r2, n_r3, n_w3, n_r4, n_w4, n_r5, n_w5, n_r6, n_w6, n_r7, n_w7, n_r8, n_w8, n_r9, n_w9, n_r10, n_w10, n_all, n_mail, nP_ut, nP_um, n_m0, n_m1, n_m2, n_m3, n_m4, n_m5, n_u5, n_m6, n_u6, n_m7, n_u7, n_m8, n_u8, n_m9, n_u9, n_m10, n_u10, n_m11, n_u11, n_m12, n_u12, n_a1, n_b1, n_a2, n_b2, n_a3, n_b3, n_a4, n_b4, n_a6, n_b6, n_a7, n_b7, n_a8, n_b8, n_p0, n_p1, n_p2, n_p3, n_q3, n_p4, n_q4, n_g0, n_g1, n_h1, n_g2, n_h2, n_g3, n_h3, n_g4, n_h4, n_g5, n_h5, n_k0, n_k1, n_k2, n_k3, n_k4, n_l2, n_l3, n_l4, kg0, kg1, kg2, kl1, kl2, km0, km1, km2, km3, km4, km5, km6, km7, km8, kk1, kk2, kk3, kk4, kk6, kk7, kk8, kx0, kx1, kx2, kx3, kx4, ky2, ky3, ky4, jg0, jg1, jg2, jl1, jl2, jm0, jm1, jm2, jm3, jm4, jm5, jm6, jm7, jm8, jj1, jj2, jj3, jj4, jj6, jj7, jj8, jx0, jx1, jx2, jx3, jx4, jy2, jy3, jy4, reduceIte, Nat.reduceEqDiff, true_or, or_true, Int.reduceLE, Int.reduceLT, Int.reduceAdd, Int.reduceSub, Int.reduceMul, not_true_eq_false, not_false_eq_true, implies_true, nat_s, wr_id, uR_at, uR_uR, u1_at, u1_ne, uf_at, uf_ne, iltT, iltF, ileT, ieqT, ieqF, nP_o]
      refine k1 _ ?_
      congr 2
      funext j
      unfold u1
      clear hN hS kg0 kg1 kg2 kl1 kl2 km0 km1 km2 km3 km4 km5 km6 km7 km8 kk1 kk2 kk3 kk4 kk6 kk7 kk8 kx0 kx1 kx2 kx3 kx4 ky2 ky3 ky4 jg0 jg1 jg2 jl1 jl2 jm0 jm1 jm2 jm3 jm4 jm5 jm6 jm7 jm8 jj1 jj2 jj3 jj4 jj6 jj7 jj8 jx0 jx1 jx2 jx3 jx4 jy2 jy3 jy4
      grind (splits := 40)
    · intro V' hV
      subst hV
      refine tG_at hd kMemb_copyFrom_84 ?_
      simp (disch := omega) only [bMemb_copyFrom_84, rn, sm, lg, lt_, cmpP, tk, pr_, pu, swl, cs, Nat.reduceAdd, Nat.reduceLeDiff, Nat.zero_le, Nat.le_refl, true_and, and_true, Int.toNat_natCast, Int.reduceToNat, Int.reduceEq, false_implies, true_implies, Int.reduceNeg, Int.cast_ofNat_Int, n_r0, n_r1, n_r2, n_r3, n_w3, n_r4, n_w4, n_r5, n_w5, n_r6, n_w6, n_r7, n_w7, n_r8, n_w8, n_r9, n_w9, n_r10, n_w10, n_all, n_mail, nP_ut, nP_um, n_m0, n_m1, n_m2, n_m3, n_m4, n_m5, n_u5, n_m6, n_u6, n_m7, n_u7, n_m8, n_u8, n_m9, n_u9, n_m10, n_u10, n_m11, n_u11, n_m12, n_u12, n_a1, n_b1, n_a2, n_b2, n_a3, n_b3, n_a4, n_b4, n_a6, n_b6, n_a7, n_b7, n_a8, n_b8, n_p0, n_p1, n_p2, n_p3, n_q3, n_p4, n_q4, n_g0, n_g1, n_h1, n_g2, n_h2, n_g3, n_h3, n_g4, n_h4, n_g5, n_h5, n_k0, n_k1, n_k2, n_k3, n_k4, n_l2, n_l3, n_l4, kg0, kg1, kg2, kl1, kl2, km0, km1, km2, km3, km4, km5, km6, km7, km8, kk1, kk2, kk3, kk4, kk6, kk7, kk8, kx0, kx1, kx2, kx3, kx4, ky2, ky3, ky4, reduceIte, Nat.reduceEqDiff, true_or, or_true, Int.reduceLE, Int.reduceLT, Int.reduceAdd, Int.reduceSub, Int.reduceMul, not_true_eq_false, not_false_eq_true, implies_true, nat_s, wr_id, uR_at, uR_uR, u1_at, u1_ne, uf_at, uf_ne, iltT, iltF, ileT, ieqT, ieqF]
      refine tG_at hd kMemb_copyFrom_144 ?_
      simp (disch := omega) only [bMemb_copyFrom_144, rn, sm, lg, lt_, cmpP, tk, pr_, pu, swl, cs, Nat.reduceAdd, Nat.reduceLeDiff, Nat.zero_le, Nat.le_refl, true_and, and_true, Int.toNat_natCast, Int.reduceToNat, Int.reduceEq, false_implies, true_implies, Int.reduceNeg, Int.cast_ofNat_Int, n_r0, n_r1, n_r2, n_r3, n_w3, n_r4, n_w4, n_r5, n_w5, n_r6, n_w6, n_r7, n_w7, n_r8, n_w8, n_r9, n_w9, n_r10, n_w10, n_all, n_mail, nP_ut, nP_um, n_m0, n_m1, n_m2, n_m3, n_m4, n_m5, n_u5, n_m6, n_u6, n_m7, n_u7, n_m8, n_u8, n_m9, n_u9, n_m10, n_u10, n_m11, n_u11, n_m12, n_u12, n_a1, n_b1, n_a2, n_b2, n_a3, n_b3, n_a4, n_b4, n_a6, n_b6, n_a7, n_b7, n_a8, n_b8, n_p0, n_p1, n_p2, n_p3, n_q3, n_p4, n_q4, n_g0, n_g1, n_h1, n_g2, n_h2, n_g3, n_h3, n_g4, n_h4, n_g5, n_h5, n_k0, n_k1, n_k2, n_k3, n_k4, n_l2, n_l3, n_l4, kg0, kg1, kg2, kl1, kl2, km0, km1, km2, km3, km4, km5, km6, km7, km8, kk1, kk2, kk3, kk4, kk6, kk7, kk8, kx0, kx1, kx2, kx3, kx4, ky2, ky3, ky4, reduceIte, Nat.reduceEqDiff, true_or, or_true, Int.reduceLE, Int.reduceLT, Int.reduceAdd, Int.reduceSub, Int.reduceMul, not_true_eq_false, not_false_eq_true, implies_true, nat_s, wr_id, uR_at, uR_uR, u1_at, u1_ne, uf_at, uf_ne, iltT, iltF, ileT, ieqT, ieqF]
      rw [show (fun j => if (6 ≤ j ∧ j < 6 + 6) ∨ (12 ≤ j ∧ j < 12 + 6) ∨ (18 ≤ j ∧ j < 18 + 6) ∨ (24 ≤ j ∧ j < 24 + 6) then B2 m j else b j) = cpB (B2 m) (B m) by funext j; rw [hb]; unfold cpB; grind]
      exact hq
    · congr 2
      funext j
      clear hN hS kg0 kg1 kg2 kl1 kl2 km0 km1 km2 km3 km4 km5 km6 km7 km8 kk1 kk2 kk3 kk4 kk6 kk7 kk8 kx0 kx1 kx2 kx3 kx4 ky2 ky3 ky4 jg0 jg1 jg2 jl1 jl2 jm0 jm1 jm2 jm3 jm4 jm5 jm6 jm7 jm8 jj1 jj2 jj3 jj4 jj6 jj7 jj8 jx0 jx1 jx2 jx3 jx4 jy2 jy3 jy4
      grind (splits := 40)
  refine tC_enter (nL := 3) (by decide +kernel) (by decide +kernel) rfl (Nat.le_of_ble_eq_true rfl) (fun hok => ?_)
  simp only [ent]
  refine tG_at hd kMemb_copyFrom_0 ?_
  simp (disch := omega) only [bMemb_copyFrom_0, rn, sm, lg, lt_, cmpP, tk, pr_, pu, swl, cs, Nat.reduceAdd, Nat.reduceLeDiff, Nat.zero_le, Nat.le_refl, true_and, and_true, Int.toNat_natCast, Int.reduceToNat, Int.reduceEq, false_implies, true_implies, Int.reduceNeg, Int.cast_ofNat_Int, n_r0, n_r1, n_r2, n_r3, n_w3, n_r4, n_w4, n_r5, n_w5, n_r6, n_w6, n_r7, n_w7, n_r8, n_w8, n_r9, n_w9, n_r10, n_w10, n_all, n_mail, nP_ut, nP_um, n_m0, n_m1, n_m2, n_m3, n_m4, n_m5, n_u5, n_m6, n_u6, n_m7, n_u7, n_m8, n_u8, n_m9, n_u9, n_m10, n_u10, n_m11, n_u11, n_m12, n_u12, n_a1, n_b1, n_a2, n_b2, n_a3, n_b3, n_a4, n_b4, n_a6, n_b6, n_a7, n_b7, n_a8, n_b8, n_p0, n_p1, n_p2, n_p3, n_q3, n_p4, n_q4, n_g0, n_g1, n_h1, n_g2, n_h2, n_g3, n_h3, n_g4, n_h4, n_g5, n_h5, n_k0, n_k1, n_k2, n_k3, n_k4, n_l2, n_l3, n_l4, kg0, kg1, kg2, kl1, kl2, km0, km1, km2, km3, km4, km5, km6, km7, km8, kk1, kk2, kk3, kk4, kk6, kk7, kk8, kx0, kx1, kx2, kx3, kx4, ky2, ky3, ky4, jg0, jg1, jg2, jl1, jl2, jm0, jm1, jm2, jm3, jm4, jm5, jm6, jm7, jm8, jj1, jj2, jj3, jj4, jj6, jj7, jj8, jx0, jx1, jx2, jx3, jx4, jy2, jy3, jy4, reduceIte, Nat.reduceEqDiff, true_or, or_true, Int.reduceLE, Int.reduceLT, Int.reduceAdd, Int.reduceSub, Int.reduceMul, not_true_eq_false, not_false_eq_true, implies_true, nat_s, wr_id, uR_at, uR_uR, u1_at, u1_ne, uf_at, uf_ne, iltT, iltF, ileT, ieqT, ieqF, nP_o]
  refine ⟨hb1, hb2, hb3, fun h => k82 _ ?_, fun h => ?_⟩
  · funext j
    unfold u1
    clear hN hS kg0 kg1 kg2 kl1 kl2 km0 km1 km2 km3 km4 km5 km6 km7 km8 kk1 kk2 kk3 kk4 kk6 kk7 kk8 kx0 kx1 kx2 kx3 kx4 ky2 ky3 ky4 jg0 jg1 jg2 jl1 jl2 jm0 jm1 jm2 jm3 jm4 jm5 jm6 jm7 jm8 jj1 jj2 jj3 jj4 jj6 jj7 jj8 jx0 jx1 jx2 jx3 jx4 jy2 jy3 jy4
    grind (splits := 40)
  · refine tG_at hd kMemb_copyFrom_71 ?_
    simp (disch := omega) only [bMemb_copyFrom_71, rn, sm, lg, lt_, cmpP, tk, pr_, pu, swl, cs, Nat.reduceAdd, Nat.reduceLeDiff, Nat.zero_le, Nat.le_refl, true_and, and_true, Int.toNat_natCast, Int.reduceToNat, Int.reduceEq, false_implies, true_implies, Int.reduceNeg, Int.cast_ofNat_Int, n_r0, n_r1, n_r2, n_r3, n_w3, n_r4, n_w4, n_r5, n_w5, n_r6, n_w6, n_r7, n_w7, n_r8, n_w8, n_r9, n_w9, n_r10, n_w10, n_all, n_mail, nP_ut, nP_um, n_m0, n_m1, n_m2, n_m3, n_m4, n_m5, n_u5, n_m6, n_u6, n_m7, n_u7, n_m8, n_u8, n_m9, n_u9, n_m10, n_u10, n_m11, n_u11, n_m12, n_u12, n_a1, n_b1, n_a2, n_b2, n_a3, n_b3, n_a4, n_b4, n_a6, n_b6, n_a7, n_b7, n_a8, n_b8, n_p0, n_p1, n_p2, n_p3, n_q3, n_p4, n_q4, n_g0, n_g1, n_h1, n_g2, n_h2, n_g3, n_h3, n_g4, n_h4, n_g5, n_h5, n_k0, n_k1, n_k2, n_k3, n_k4, n_l2, n_l3, n_l4, kg0, kg1, kg2, kl1, kl2, km0, km1, km2, km3, km4, km5, km6, km7, km8, kk1, kk2, kk3, kk4, kk6, kk7, kk8, kx0, kx1, kx2, kx3, kx4, ky2, ky3, ky4, jg0, jg1, jg2, jl1, jl2, jm0, jm1, jm2, jm3, jm4, jm5, jm6, jm7, jm8, jj1, jj2, jj3, jj4, jj6, jj7, jj8, jx0, jx1, jx2, jx3, jx4, jy2, jy3, jy4, reduceIte, Nat.reduceEqDiff, true_or, or_true, Int.reduceLE, Int.reduceLT, Int.reduceAdd, Int.reduceSub, Int.reduceMul, not_true_eq_false, not_false_eq_true, implies_true, nat_s, wr_id, uR_at, uR_uR, u1_at, u1_ne, uf_at, uf_ne, iltT, iltF, ileT, ieqT, ieqF, nP_o]
    refine k_copyMM (by omega) hN hS hdis hm ?_
    rw [uR_at, uR_uR]
    refine k82 _ ?_
    funext j
    unfold u1 pov
    clear hN hS kg0 kg1 kg2 kl1 kl2 km0 km1 km2 km3 km4 km5 km6 km7 km8 kk1 kk2 kk3 kk4 kk6 kk7 kk8 kx0 kx1 kx2 kx3 kx4 ky2 ky3 ky4 jg0 jg1 jg2 jl1 jl2 jm0 jm1 jm2 jm3 jm4 jm5 jm6 jm7 jm8 jj1 jj2 jj3 jj4 jj6 jj7 jj8 jx0 jx1 jx2 jx3 jx4 jy2 jy3 jy4
    grind (splits := 40)
def cpG (r2 r : Nat → Int) : Nat → Int := fun j => if j < 5 then r2 j else if r2 2 = 1 ∧ 30 ≤ j ∧ j < 50 then r2 j else r j
theorem k_messCopy (hd5 : 5 ≤ d) (hN : NK Γ o) (hS : NK Γ s) (hdis : s + 292 ≤ o ∨ o + 292 ≤ s) (he : e < 47) {f : Nat} (hf : f < 47) (hq : Q none Γ (nP (nP V s A2 B2 S2 q2) o A B (uR S e (cpG (S2 f) (S e))) q)) : tC w d nMess_copyFrom [.inr (.inl (o + sa e)), .inr (.inl (s + sa f))] Γ (nP (nP V s A2 B2 S2 q2) o A B S q) Q := by
  have hd : 4 ≤ d := by omega
  have hb := sa_b he
  have hb2 := sa_b hf
  obtain ⟨⟨kg0, kg1, kg2⟩, ⟨kl1, kl2⟩, ⟨km0, km1, km2, km3, km4, km5, km6, km7, km8⟩, ⟨kk1, kk2, kk3, kk4, kk6, kk7, kk8⟩, ⟨kx0, kx1, kx2, kx3, kx4⟩, ⟨ky2, ky3, ky4⟩⟩ := id hN
  obtain ⟨⟨jg0, jg1, jg2⟩, ⟨jl1, jl2⟩, ⟨jm0, jm1, jm2, jm3, jm4, jm5, jm6, jm7, jm8⟩, ⟨jj1, jj2, jj3, jj4, jj6, jj7, jj8⟩, ⟨jx0, jx1, jx2, jx3, jx4⟩, ⟨jy2, jy3, jy4⟩⟩ := id hS
  refine tC_enter (nL := 2) (by decide +kernel) (by decide +kernel) rfl (Nat.le_of_ble_eq_true rfl) (fun hok => ?_)
  simp only [ent]
  refine tG_at hd kMess_copyFrom_0 ?_
  simp (disch := omega) only [bMess_copyFrom_0, rn, sm, lg, lt_, cmpP, tk, pr_, pu, swl, cs, Nat.reduceAdd, Nat.reduceLeDiff, Nat.zero_le, Nat.le_refl, true_and, and_true, Int.toNat_natCast, Int.reduceToNat, Int.reduceEq, false_implies, true_implies, Int.reduceNeg, Int.cast_ofNat_Int, n_r0, n_r1, n_r2, n_r3, n_w3, n_r4, n_w4, n_r5, n_w5, n_r6, n_w6, n_r7, n_w7, n_r8, n_w8, n_r9, n_w9, n_r10, n_w10, n_all, n_mail, nP_ut, nP_um, n_m0, n_m1, n_m2, n_m3, n_m4, n_m5, n_u5, n_m6, n_u6, n_m7, n_u7, n_m8, n_u8, n_m9, n_u9, n_m10, n_u10, n_m11, n_u11, n_m12, n_u12, n_a1, n_b1, n_a2, n_b2, n_a3, n_b3, n_a4, n_b4, n_a6, n_b6, n_a7, n_b7, n_a8, n_b8, n_p0, n_p1, n_p2, n_p3, n_q3, n_p4, n_q4, n_g0, n_g1, n_h1, n_g2, n_h2, n_g3, n_h3, n_g4, n_h4, n_g5, n_h5, n_k0, n_k1, n_k2, n_k3, n_k4, n_l2, n_l3, n_l4, kg0, kg1, kg2, kl1, kl2, km0, km1, km2, km3, km4, km5, km6, km7, km8, kk1, kk2, kk3, kk4, kk6, kk7, kk8, kx0, kx1, kx2, kx3, kx4, ky2, ky3, ky4, jg0, jg1, jg2, jl1, jl2, jm0, jm1, jm2, jm3, jm4, jm5, jm6, jm7, jm8, jj1, jj2, jj3, jj4, jj6, jj7, jj8, jx0, jx1, jx2, jx3, jx4, jy2, jy3, jy4, reduceIte, Nat.reduceEqDiff, true_or, or_true, Int.reduceLE, Int.reduceLT, Int.reduceAdd, Int.reduceSub, Int.reduceMul, not_true_eq_false, not_false_eq_true, implies_true, nat_s, wr_id, uR_at, uR_uR, u1_at, u1_ne, uf_at, uf_ne, iltT, iltF, ileT, ieqT, ieqF, nP_o]
  refine ⟨fun h => ?_, fun h => ?_⟩
  · refine tG_at hd kMess_copyFrom_59 ?_
    simp (disch := omega) only [bMess_copyFrom_59, rn, sm, lg, lt_, cmpP, tk, pr_, pu, swl, cs, Nat.reduceAdd, Nat.reduceLeDiff, Nat.zero_le, Nat.le_refl, true_and, and_true, Int.toNat_natCast, Int.reduceToNat, Int.reduceEq, false_implies, true_implies, Int.reduceNeg, Int.cast_ofNat_Int, n_r0, n_r1, n_r2, n_r3, n_w3, n_r4, n_w4, n_r5, n_w5, n_r6, n_w6, n_r7, n_w7, n_r8, n_w8, n_r9, n_w9, n_r10, n_w10, n_all, n_mail, nP_ut, nP_um, n_m0, n_m1, n_m2, n_m3, n_m4, n_m5, n_u5, n_m6, n_u6, n_m7, n_u7, n_m8, n_u8, n_m9, n_u9, n_m10, n_u10, n_m11, n_u11, n_m12, n_u12, n_a1, n_b1, n_a2, n_b2, n_a3, n_b3, n_a4, n_b4, n_a6, n_b6, n_a7, n_b7, n_a8, n_b8, n_p0, n_p1, n_p2, n_p3, n_q3, n_p4, n_q4, n_g0, n_g1, n_h1, n_g2, n_h2, n_g3, n_h3, n_g4, n_h4, n_g5, n_h5, n_k0, n_k1, n_k2, n_k3, n_k4, n_l2, n_l3, n_l4, kg0, kg1, kg2, kl1, kl2, km0, km1, km2, km3, km4, km5, km6, km7, km8, kk1, kk2, kk3, kk4, kk6, kk7, kk8, kx0, kx1, kx2, kx3, kx4, ky2, ky3, ky4, reduceIte, Nat.reduceEqDiff, true_or, or_true, Int.reduceLE, Int.reduceLT, Int.reduceAdd, Int.reduceSub, Int.reduceMul, not_true_eq_false, not_false_eq_true, implies_true, nat_s, wr_id, uR_at, uR_uR, u1_at, u1_ne, uf_at, uf_ne, iltT, iltF, ileT, ieqT, ieqF]
    rw [show u1 (u1 (u1 (u1 (u1 (S e) 0 (S2 f 0)) 1 (S2 f 1)) 2 (S2 f 2)) 3 (S2 f 3)) 4 (S2 f 4) = cpG (S2 f) (S e) by funext j; unfold u1 cpG; grind]
    exact hq
  · refine tG_at hd kMess_copyFrom_48 ?_
    simp (disch := omega) only [bMess_copyFrom_48, rn, sm, lg, lt_, cmpP, tk, pr_, pu, swl, cs, Nat.reduceAdd, Nat.reduceLeDiff, Nat.zero_le, Nat.le_refl, true_and, and_true, Int.toNat_natCast, Int.reduceToNat, Int.reduceEq, false_implies, true_implies, Int.reduceNeg, Int.cast_ofNat_Int, n_r0, n_r1, n_r2, n_r3, n_w3, n_r4, n_w4, n_r5, n_w5, n_r6, n_w6, n_r7, n_w7, n_r8, n_w8, n_r9, n_w9, n_r10, n_w10, n_all, n_mail, nP_ut, nP_um, n_m0, n_m1, n_m2, n_m3, n_m4, n_m5, n_u5, n_m6, n_u6, n_m7, n_u7, n_m8, n_u8, n_m9, n_u9, n_m10, n_u10, n_m11, n_u11, n_m12, n_u12, n_a1, n_b1, n_a2, n_b2, n_a3, n_b3, n_a4, n_b4, n_a6, n_b6, n_a7, n_b7, n_a8, n_b8, n_p0, n_p1, n_p2, n_p3, n_q3, n_p4, n_q4, n_g0, n_g1, n_h1, n_g2, n_h2, n_g3, n_h3, n_g4, n_h4, n_g5, n_h5, n_k0, n_k1, n_k2, n_k3, n_k4, n_l2, n_l3, n_l4, kg0, kg1, kg2, kl1, kl2, km0, km1, km2, km3, km4, km5, km6, km7, km8, kk1, kk2, kk3, kk4, kk6, kk7, kk8, kx0, kx1, kx2, kx3, kx4, ky2, ky3, ky4, jg0, jg1, jg2, jl1, jl2, jm0, jm1, jm2, jm3, jm4, jm5, jm6, jm7, jm8, jj1, jj2, jj3, jj4, jj6, jj7, jj8, jx0, jx1, jx2, jx3, jx4, jy2, jy3, jy4, reduceIte, Nat.reduceEqDiff, true_or, or_true, Int.reduceLE, Int.reduceLT, Int.reduceAdd, Int.reduceSub, Int.reduceMul, not_true_eq_false, not_false_eq_true, implies_true, nat_s, wr_id, uR_at, uR_uR, u1_at, u1_ne, uf_at, uf_ne, iltT, iltF, ileT, ieqT, ieqF, nP_o]
    refine k_copyGG (by omega) hN hS hdis he hf ?_
    refine tG_at hd kMess_copyFrom_59 ?_
    simp (disch := omega) only [bMess_copyFrom_59, rn, sm, lg, lt_, cmpP, tk, pr_, pu, swl, cs, Nat.reduceAdd, Nat.reduceLeDiff, Nat.zero_le, Nat.le_refl, true_and, and_true, Int.toNat_natCast, Int.reduceToNat, Int.reduceEq, false_implies, true_implies, Int.reduceNeg, Int.cast_ofNat_Int, n_r0, n_r1, n_r2, n_r3, n_w3, n_r4, n_w4, n_r5, n_w5, n_r6, n_w6, n_r7, n_w7, n_r8, n_w8, n_r9, n_w9, n_r10, n_w10, n_all, n_mail, nP_ut, nP_um, n_m0, n_m1, n_m2, n_m3, n_m4, n_m5, n_u5, n_m6, n_u6, n_m7, n_u7, n_m8, n_u8, n_m9, n_u9, n_m10, n_u10, n_m11, n_u11, n_m12, n_u12, n_a1, n_b1, n_a2, n_b2, n_a3, n_b3, n_a4, n_b4, n_a6, n_b6, n_a7, n_b7, n_a8, n_b8, n_p0, n_p1, n_p2, n_p3, n_q3, n_p4, n_q4, n_g0, n_g1, n_h1, n_g2, n_h2, n_g3, n_h3, n_g4, n_h4, n_g5, n_h5, n_k0, n_k1, n_k2, n_k3, n_k4, n_l2, n_l3, n_l4, kg0, kg1, kg2, kl1, kl2, km0, km1, km2, km3, km4, km5, km6, km7, km8, kk1, kk2, kk3, kk4, kk6, kk7, kk8, kx0, kx1, kx2, kx3, kx4, ky2, ky3, ky4, reduceIte, Nat.reduceEqDiff, true_or, or_true, Int.reduceLE, Int.reduceLT, Int.reduceAdd, Int.reduceSub, Int.reduceMul, not_true_eq_false, not_false_eq_true, implies_true, nat_s, wr_id, uR_at, uR_uR, u1_at, u1_ne, uf_at, uf_ne, iltT, iltF, ileT, ieqT, ieqF]
    rw [show pov (S2 f) (u1 (u1 (u1 (u1 (u1 (S e) 0 (S2 f 0)) 1 (S2 f 1)) 2 (S2 f 2)) 3 (S2 f 3)) 4 (S2 f 4)) = cpG (S2 f) (S e) by funext j; unfold u1 cpG pov; grind]
    exact hq
end NC
