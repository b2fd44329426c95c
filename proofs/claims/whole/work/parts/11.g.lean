/-! THE CLASS: what a delivery does -/
section RL
variable {n W m k L : Nat} {A : Nat → Int} {B S : Nat → Nat → Int} {q : Nat → Nat} {X : NT} {b b' r r' : Nat → Int} {x : Int}
theorem RB.u {j0 : Nat} (h : RB m b' b) (hj0 : j0 < 24) (h05 : j0 ≠ 5) (h06 : j0 ≠ 6 + m) (hm : m < 6) : RB m (u1 b' j0 x) (u1 b j0 x) := by
  obtain ⟨h1, h2, h3, h4, h5⟩ := h
  refine ⟨fun j hj => ?_, by rw [u1_ne (by omega), u1_ne (by omega)]; exact h2, by rw [u1_ne (by omega), u1_ne (by omega)]; exact h3, fun h0 => ?_, fun a ha hv => ?_⟩
  · by_cases h : j = j0
    · subst h
      rw [u1_at, u1_at]
    · rw [u1_ne h, u1_ne h]
      exact h1 j hj
  · rw [u1_ne (by omega)] at h0
    refine ⟨fun j j1 j2 => by rw [u1_ne (by omega), u1_ne (by omega)]; exact (h4 h0).1 j j1 j2, fun i hi => ?_⟩
    rw [u1_ne (by omega)] at hi
    rw [u1_ne (by omega), u1_ne (by omega), u1_ne (by omega), u1_ne (by omega)]
    exact (h4 h0).2 i hi
  · rw [u1_ne (by omega)] at hv
    rw [u1_ne (by omega), u1_ne (by omega)]
    exact h5 a ha hv
/-- a number of the LAST row, or the MARK while it stays above 0 -/
theorem RB.ul {j0 : Nat} (h : RB m b' b) (hj0 : 30 ≤ j0 ∧ j0 < 38 ∧ j0 ≠ 31) (hz : j0 = 30 → 0 < b 30 ∧ 0 < x) (hm : m < 6) : RB m (u1 b' j0 x) (u1 b j0 x) := by
  obtain ⟨h1, h2, h3, h4, h5⟩ := h
  have h30 : 0 < u1 b j0 x 30 ↔ 0 < b 30 := by
    by_cases h : j0 = 30
    · subst h
      rw [u1_at]
      exact ⟨fun _ => (hz rfl).1, fun _ => (hz rfl).2⟩
    · rw [u1_ne (by omega)]
  refine ⟨fun j hj => by rw [u1_ne (by omega), u1_ne (by omega)]; exact h1 j hj, by rw [u1_ne (by omega), u1_ne (by omega)]; exact h2, ?_, fun h0 => ?_, fun a ha hv => ?_⟩
  · rw [u1_ne (by omega), h3]
    by_cases h : 0 < b 30
    · rw [if_pos h, if_pos (h30.mpr h)]
    · rw [if_neg h, if_neg (fun h' => h (h30.mp h'))]
  · have h0 := h30.mp h0
    refine ⟨fun j j1 j2 => ?_, fun i hi => ?_⟩
    · by_cases h : j = j0
      · subst h
        rw [u1_at, u1_at]
      · rw [u1_ne h, u1_ne h]
        exact (h4 h0).1 j j1 j2
    · rw [u1_ne (by omega)] at hi
      rw [u1_ne (by omega), u1_ne (by omega), u1_ne (by omega), u1_ne (by omega)]
      exact (h4 h0).2 i hi
  · rw [u1_ne (by omega)] at hv
    rw [u1_ne (by omega), u1_ne (by omega)]
    exact h5 a ha hv
theorem u1_self {f : Nat → Int} {i : Nat} : u1 f i (f i) = f := by
  funext j
  by_cases h : j = i
  · subst h
    exact u1_at
  · exact u1_ne h
theorem RB.com (h : RB m b' b) (hm : m < 6) : RB m (comR b') (comR b) := (h.u (by omega) (by omega) (by omega) hm).u (by omega) (by omega) (by omega) hm
theorem RB.drp (h : RB m b' b) (hm : m < 6) : RB m (colB 0 b') (drpR b) := by
  obtain ⟨h1, h2, h3, h4, h5⟩ := h
  have lo : ∀ j, j ≠ 4 → j ≠ 5 → colB 0 b' j = b' j := fun j j4 j5 => by
    unfold colB
    rw [if_neg j4, if_neg j5]
  have lr : ∀ j, j ≠ 4 ∧ j ≠ 5 ∧ (j < 24 ∨ 30 ≤ j) → drpR b j = b j := fun j hj => drpR_lo hj
  refine ⟨fun j hj => ?_, by rw [lo 51 (by omega) (by omega), lr (6 + m) (by omega)]; exact h2, by rw [lo 50 (by omega) (by omega), lr 30 (by omega)]; exact h3, fun h0 => ?_, fun a ha hv => absurd hv ?_⟩
  · by_cases h : j = 4 ∨ j = 5
    · have e : drpR b j = 0 := if_pos (by omega)
      rw [e]
      rcases h with rfl | rfl <;> rfl
    · rw [lo j (by omega) (by omega), lr j (by omega)]
      exact h1 j hj
  · rw [lr 30 (by omega)] at h0
    refine ⟨fun j j1 j2 => by rw [lo j (by omega) (by omega), lr j (by omega)]; exact (h4 h0).1 j j1 j2, fun i hi => ?_⟩
    rw [lr 31 (by omega)] at hi
    rw [lo _ (by omega) (by omega), lr _ (by omega), lo _ (by omega) (by omega), lr _ (by omega)]
    exact (h4 h0).2 i hi
  · rw [show drpR b 5 = 0 from if_pos (by omega)]
    exact vb_0 a
theorem RB.ask {a : Nat} (h : RB m b' b) (ha : a < 6) (ham : a ≠ m) (hm : m < 6) (h3 : r' 3 = r 3) (h4 : r' 4 = r 4) : RB m (u1 (u1 b' (6 + a) (if r' 3 ≤ b' (6 + a) then b' (6 + a) else r' 3)) (12 + a) (r' 4)) (askR a r b) := by
  have e := h.1 (6 + a) (by omega)
  unfold askR
  rw [h3, h4]
  by_cases hc : r 3 ≤ b' (6 + a)
  · rw [if_pos hc, if_neg (by omega), u1_self]
    exact h.u (by omega) (by omega) (by omega) hm
  · rw [if_neg hc, if_pos (by omega)]
    exact (h.u (by omega) (by omega) (by omega) hm).u (by omega) (by omega) (by omega) hm
def pasC (m : Nat) (r' b' : Nat → Int) : Nat → Int := rowR (u1 (colB 0 (u1 (pov r' (u1 b' 50 1)) 1 (r' 30))) (32 + m) (if b' 0 ≤ r' (32 + m) then r' (32 + m) else b' 0))
theorem RB.pas (h : RB m b' b) (hr : RM r' r) (hr2 : r 2 = 1) (h5 : 1 ≤ r 5) (h6 : r 6 ≤ 6) (hm : m < 6) : RB m (pasC m r' b') (pasS m r b) := by
  obtain ⟨h1, h2, h3, -, -⟩ := h
  obtain ⟨-, hr⟩ := hr
  obtain ⟨p1, p2⟩ := hr hr2
  have e0 : b' 0 = b 0 := h1 0 (by omega)
  have e30 : r' 30 = r 5 := p1 30 (by omega) (by omega)
  have e32 : ∀ i, i < 6 → r' (32 + i) = r (7 + i) := fun i hi => by rw [p1 (32 + i) (by omega) (by omega), show 32 + i - 25 = 7 + i by omega]
  have mx : (if b' 0 ≤ r' (32 + m) then r' (32 + m) else b' 0) = if r (7 + m) < b 0 then b 0 else r (7 + m) := by
    rw [e0, e32 m hm]
    by_cases hc : r (7 + m) < b 0
    · rw [if_pos hc, if_neg (by omega)]
    · rw [if_neg hc, if_pos (by omega)]
  have lst : ∀ i, i < 6 → u1 (colB 0 (u1 (pov r' (u1 b' 50 1)) 1 (r' 30))) (32 + m) (if b' 0 ≤ r' (32 + m) then r' (32 + m) else b' 0) (32 + i) = if i = m ∧ r (7 + m) < b 0 then b 0 else r (7 + i) := by
    intro i hi
    rw [mx]
    by_cases him : i = m
    · subst him
      rw [u1_at]
      by_cases hc : r (7 + i) < b 0
      · rw [if_pos hc, if_pos ⟨rfl, hc⟩]
      · rw [if_neg hc, if_neg (fun h => hc h.2)]
    · rw [u1_ne (by omega), if_neg (fun h => him h.1), ← e32 i hi]
      unfold colB
      rw [if_neg (by omega), if_neg (by omega), u1_ne (by omega)]
      exact if_pos (by omega)
  have ps := fun j => pasS_at (m := m) (r := r) (b := b) hm j
  have lo : ∀ j, j < 18 ∨ 24 ≤ j → j ≠ 1 → j ≠ 4 → j ≠ 5 → j < 30 ∨ j = 50 ∨ j = 51 → pasC m r' b' j = u1 b' 50 1 j := by
    intro j j1 j2 j3 j4 j5
    unfold pasC
    rw [rowR_lo (by omega), u1_ne (by omega)]
    unfold colB
    rw [if_neg (by omega), if_neg (by omega), u1_ne (by omega)]
    exact if_neg (by omega)
  refine ⟨fun j hj => ?_, ?_, ?_, fun _ => ⟨fun j j1 j2 => ?_, fun i hi => ?_⟩, fun a ha hv => absurd hv ?_⟩
  · by_cases h18 : 18 ≤ j
    · rw [ps, if_pos ⟨h18, hj⟩]
      show rowR _ j = _
      unfold rowR
      rw [if_pos ⟨h18, hj⟩, show j + 14 = 32 + (j - 18) by omega, lst _ (by omega)]
      by_cases hc : j = 18 + m ∧ r (7 + m) < b 0
      · rw [if_pos hc, if_pos ⟨by omega, hc.2⟩]
      · rw [if_neg hc, if_neg (by omega), show 7 + (j - 18) = j - 11 by omega]
    · rw [ps, if_neg (by omega)]
      by_cases hj1 : j = 1
      · subst hj1
        rw [if_pos rfl, ← e30]
        show rowR _ 1 = _
        rw [rowR_lo (by omega), u1_ne (by omega)]
        rfl
      · rw [if_neg hj1]
        by_cases hj4 : j = 4 ∨ j = 5
        · rw [if_pos (by omega)]
          show rowR _ j = _
          rw [rowR_lo (by omega), u1_ne (by omega)]
          rcases hj4 with rfl | rfl <;> rfl
        · rw [if_neg (by omega), if_neg (by omega), if_neg (by omega), lo j (by omega) (by omega) (by omega) (by omega) (by omega), u1_ne (by omega)]
          exact h1 j hj
  · rw [ps, if_neg (by omega), if_neg (by omega), if_neg (by omega), if_neg (by omega), if_neg (by omega), lo 51 (by omega) (by omega) (by omega) (by omega) (by omega), u1_ne (by omega)]
    exact h2
  · have e : pasS m r b 30 = r 5 := by rw [ps, if_neg (by omega), if_neg (by omega), if_neg (by omega), if_neg (by omega), if_pos (by omega)]
    rw [e, lo 50 (by omega) (by omega) (by omega) (by omega) (by omega), u1_at, if_pos (by omega)]
  · by_cases h32 : 32 ≤ j
    · rw [ps, if_neg (by omega), if_neg (by omega), if_neg (by omega)]
      show rowR _ j = _
      rw [rowR_lo (by omega), show j = 32 + (j - 32) by omega, lst _ (by omega)]
      by_cases hc : j = 32 + m ∧ r (7 + m) < b 0
      · rw [if_pos ⟨by omega, hc.2⟩, if_pos ⟨by omega, hc.2⟩]
      · rw [if_neg (by omega), if_neg (by omega), if_pos (by omega), show 32 + (j - 32) - 25 = 7 + (j - 32) by omega]
    · have e : pasS m r b j = r (j - 25) := by rw [ps, if_neg (by omega), if_neg (by omega), if_neg (by omega), if_neg (by omega), if_pos (by omega)]
      rw [e, ← p1 j j1 j2]
      show rowR _ j = _
      rw [rowR_lo (by omega), u1_ne (by omega)]
      unfold colB
      rw [if_neg (by omega), if_neg (by omega), u1_ne (by omega)]
      exact if_pos (by omega)
  · have e31 : pasS m r b 31 = r 6 := by
      rw [ps, if_neg (by omega), if_neg (by omega), if_neg (by omega), if_neg (by omega), if_pos (by omega)]
    rw [e31] at hi
    have hp := p2 i hi
    have go : ∀ j, 38 ≤ j → j < 50 → pasC m r' b' j = r' j := by
      intro j j1 j2
      show rowR _ j = _
      rw [rowR_lo (by omega), u1_ne (by omega)]
      unfold colB
      rw [if_neg (by omega), if_neg (by omega), u1_ne (by omega)]
      exact if_pos (by omega)
    rw [go _ (by omega) (by omega), go _ (by omega) (by omega), hp.1, hp.2, ps, ps, if_neg (by omega), if_neg (by omega), if_neg (by omega), if_neg (by omega), if_pos (by omega), if_neg (by omega), if_neg (by omega), if_neg (by omega), if_neg (by omega), if_pos (by omega), show 38 + i - 25 = 13 + i by omega, show 44 + i - 25 = 19 + i by omega]
    exact ⟨rfl, rfl⟩
  · rw [ps, if_neg (by omega), if_neg (by omega), if_pos (by omega)]
    exact vb_0 a
end RL
section NC
variable {w : WP} {d : Nat} {Γ : GM} {V : VH} {Q : QT} {o m e s : Nat} {A : Nat → Int} {B S : Nat → Nat → Int} {q : Nat → Nat} {n W k p a : Nat} {X : NT} {r : Nat → Int} {c : Int}
theorem k_comeIn (hd : 4 ≤ d) (hN : NK Γ o) (hm : m < 6) (hq : Q none Γ (nP V o (u1 A 7 (m : Int)) (uR B m (comR (B m))) S q)) : tC w d nNet_comeIn [.inr (.inl o), .inl (m : Int)] Γ (nP V o A B S q) Q := by
  obtain ⟨⟨kg0, kg1, kg2⟩, ⟨kl1, kl2⟩, ⟨km0, km1, km2, km3, km4, km5, km6, km7, km8⟩, ⟨kk1, kk2, kk3, kk4, kk6, kk7, kk8⟩, ⟨kx0, kx1, kx2, kx3, kx4⟩, ⟨ky2, ky3, ky4⟩⟩ := id hN
  refine tC_enter (nL := 2) (by decide +kernel) (by decide +kernel) rfl (Nat.le_of_ble_eq_true rfl) (fun hok => ?_)
  simp only [ent]
  refine tG_at hd kNet_comeIn_0 ?_
  simp (disch := omega) only [bNet_comeIn_0, rn, sm, lg, lt_, cmpP, tk, pr_, pu, swl, cs, Nat.reduceAdd, Nat.reduceLeDiff, Nat.zero_le, Nat.le_refl, true_and, and_true, Int.toNat_natCast, Int.reduceToNat, Int.reduceEq, false_implies, true_implies, Int.reduceNeg, Int.cast_ofNat_Int, n_r0, n_r1, n_r2, n_r3, n_w3, n_r4, n_w4, n_r5, n_w5, n_r6, n_w6, n_r7, n_w7, n_r8, n_w8, n_r9, n_w9, n_r10, n_w10, n_all, n_mail, nP_ut, nP_um, n_m0, n_m1, n_m2, n_m3, n_m4, n_m5, n_u5, n_m6, n_u6, n_m7, n_u7, n_m8, n_u8, n_m9, n_u9, n_m10, n_u10, n_m11, n_u11, n_m12, n_u12, n_a1, n_b1, n_a2, n_b2, n_a3, n_b3, n_a4, n_b4, n_a6, n_b6, n_a7, n_b7, n_a8, n_b8, n_p0, n_p1, n_p2, n_p3, n_q3, n_p4, n_q4, n_g0, n_g1, n_h1, n_g2, n_h2, n_g3, n_h3, n_g4, n_h4, n_g5, n_h5, n_k0, n_k1, n_k2, n_k3, n_k4, n_l2, n_l3, n_l4, kg0, kg1, kg2, kl1, kl2, km0, km1, km2, km3, km4, km5, km6, km7, km8, kk1, kk2, kk3, kk4, kk6, kk7, kk8, kx0, kx1, kx2, kx3, kx4, ky2, ky3, ky4, reduceIte, Nat.reduceEqDiff, true_or, or_true, Int.reduceLE, Int.reduceLT, Int.reduceAdd, Int.reduceSub, Int.reduceMul, not_true_eq_false, not_false_eq_true, implies_true, nat_s, wr_id, uR_at, uR_uR, u1_at, u1_ne, uf_at, uf_ne, iltT, iltF, ileT, ieqT, ieqF]
  exact hq
theorem k_takeRequest (hd6 : 6 ≤ d) (hN : NK Γ o) (hR : RN n W A B S q X) (n0 : X.1 0 = (n : Int)) (hn6 : n ≤ 6) (n5 : X.1 5 = (k : Int)) (hk : k < 46) (hm : m < n) (ha : a < n) (ham : a ≠ m) (hI : rowI n W (X.2.1 m)) (hW : W ≤ 1000000000) (hr : RM (S (q 46)) r) (r0 : r 0 = (a : Int)) (r1 : r 1 = (m : Int)) (hr3 : 0 ≤ r 3 ∧ r 3 ≤ W) (hr4 : 0 ≤ r 4 ∧ r 4 ≤ 9)
    (hq : ∀ A' B' S', RN n (W + 1) A' B' S' q (askedF n m a r X 0 c).2.1 → A' 6 = A 6 + (askedF n m a r X 0 c).2.2.1 → A' 7 = A 7 → S' (q 46) = S (q 46) → Q none Γ (nP V o A' B' S' q)) :
    tC w d nNet_takeRequest [.inr (.inl o), .inr (.inl (o + (8 + 9 * m)))] Γ (nP V o A B S q) Q := by
  have hd : 4 ≤ d := by omega
  obtain ⟨rA, rW, rB, rM, rQ, rL⟩ := id hR
  have hb := rB m hm
  have hm6 : m < 6 := by omega
  have q6 := rQ.1 46 (by omega)
  have s0 : S (q 46) 0 = (a : Int) := (hr.1 0 (by omega)).trans r0
  have s1 : S (q 46) 1 = (m : Int) := (hr.1 1 (by omega)).trans r1
  have hIa := askR_I (a := a) (r := r) hI hn6 (by omega) hr3 hr4
  have hb1 := hb.ask (a := a) (r := r) (r' := S (q 46)) (by omega) ham hm6 (hr.1 3 (by omega)) (hr.1 4 (by omega))
  have lo : ∀ j, j ≠ 6 + a → j ≠ 12 + a → askR a r (X.2.1 m) j = X.2.1 m j := fun j j1 j2 => askR_lo j1 j2
  obtain ⟨b1, hb1e⟩ : ∃ b1, b1 = u1 (u1 (B m) (6 + a) (if S (q 46) 3 ≤ B m (6 + a) then B m (6 + a) else S (q 46) 3)) (12 + a) (S (q 46) 4) := ⟨_, rfl⟩
  rw [← hb1e] at hb1
  have h50 : b1 50 = if 0 < X.2.1 m 30 then 1 else 0 := by rw [hb1.2.2.1, lo 30 (by omega) (by omega)]
  have h3 : b1 3 = X.2.1 m 3 := by rw [hb1.1 3 (by omega), lo 3 (by omega) (by omega)]
  have hR1 : RN n W A (uR B m b1) S q (X.1, uR X.2.1 m (askR a r (X.2.1 m)), X.2.2) := hR.set rA rfl rW hb1 hIa.2.2.1 hIa.2.2.2.1
  have k79 : ¬ (0 < askR a r (X.2.1 m) 30 ∧ askR a r (X.2.1 m) 3 = 0) → tG w d nNet_takeRequest 79 [some (.inr (.inl o)), some (.inr (.inl (o + (8 + 9 * m))))] [] Γ (nP V o A (uR B m b1) S q) 0 0 Q := by
    intro hc
    have hF : askedF n m a r X 0 c = (0, (X.1, uR X.2.1 m (askR a r (X.2.1 m)), X.2.2), 0, c) := if_neg hc
    rw [hF] at hq
    obtain ⟨⟨kg0, kg1, kg2⟩, ⟨kl1, kl2⟩, ⟨km0, km1, km2, km3, km4, km5, km6, km7, km8⟩, ⟨kk1, kk2, kk3, kk4, kk6, kk7, kk8⟩, ⟨kx0, kx1, kx2, kx3, kx4⟩, ⟨ky2, ky3, ky4⟩⟩ := id hN
    refine tG_at hd kNet_takeRequest_79 ?_
    simp (disch := omega) only [bNet_takeRequest_79, rn, sm, lg, lt_, cmpP, tk, pr_, pu, swl, cs, Nat.reduceAdd, Nat.reduceLeDiff, Nat.zero_le, Nat.le_refl, true_and, and_true, Int.toNat_natCast, Int.reduceToNat, Int.reduceEq, false_implies, true_implies, Int.reduceNeg, Int.cast_ofNat_Int, n_r0, n_r1, n_r2, n_r3, n_w3, n_r4, n_w4, n_r5, n_w5, n_r6, n_w6, n_r7, n_w7, n_r8, n_w8, n_r9, n_w9, n_r10, n_w10, n_all, n_mail, nP_ut, nP_um, n_m0, n_m1, n_m2, n_m3, n_m4, n_m5, n_u5, n_m6, n_u6, n_m7, n_u7, n_m8, n_u8, n_m9, n_u9, n_m10, n_u10, n_m11, n_u11, n_m12, n_u12, n_a1, n_b1, n_a2, n_b2, n_a3, n_b3, n_a4, n_b4, n_a6, n_b6, n_a7, n_b7, n_a8, n_b8, n_p0, n_p1, n_p2, n_p3, n_q3, n_p4, n_q4, n_g0, n_g1, n_h1, n_g2, n_h2, n_g3, n_h3, n_g4, n_h4, n_g5, n_h5, n_k0, n_k1, n_k2, n_k3, n_k4, n_l2, n_l3, n_l4, kg0, kg1, kg2, kl1, kl2, km0, km1, km2, km3, km4, km5, km6, km7, km8, kk1, kk2, kk3, kk4, kk6, kk7, kk8, kx0, kx1, kx2, kx3, kx4, ky2, ky3, ky4, reduceIte, Nat.reduceEqDiff, true_or, or_true, Int.reduceLE, Int.reduceLT, Int.reduceAdd, Int.reduceSub, Int.reduceMul, not_true_eq_false, not_false_eq_true, implies_true, nat_s, wr_id, uR_at, uR_uR, u1_at, u1_ne, uf_at, uf_ne, iltT, iltF, ileT, ieqT, ieqF]
    refine hq _ _ _ (hR1.mono (by omega)) ?_ rfl rfl
    show A 6 = A 6 + 0
    omega
  have k60 : 0 < X.2.1 m 30 → tG w d nNet_takeRequest 60 [some (.inr (.inl o)), some (.inr (.inl (o + (8 + 9 * m))))] [] Γ (nP V o A (uR B m b1) S q) 0 0 Q := by
    intro h0
    obtain ⟨⟨kg0, kg1, kg2⟩, ⟨kl1, kl2⟩, ⟨km0, km1, km2, km3, km4, km5, km6, km7, km8⟩, ⟨kk1, kk2, kk3, kk4, kk6, kk7, kk8⟩, ⟨kx0, kx1, kx2, kx3, kx4⟩, ⟨ky2, ky3, ky4⟩⟩ := id hN
    by_cases h3z : X.2.1 m 3 = 0
    · refine tG_at hd kNet_takeRequest_60 ?_
      simp (disch := omega) only [bNet_takeRequest_60, rn, sm, lg, lt_, cmpP, tk, pr_, pu, swl, cs, Nat.reduceAdd, Nat.reduceLeDiff, Nat.zero_le, Nat.le_refl, true_and, and_true, Int.toNat_natCast, Int.reduceToNat, Int.reduceEq, false_implies, true_implies, Int.reduceNeg, Int.cast_ofNat_Int, n_r0, n_r1, n_r2, n_r3, n_w3, n_r4, n_w4, n_r5, n_w5, n_r6, n_w6, n_r7, n_w7, n_r8, n_w8, n_r9, n_w9, n_r10, n_w10, n_all, n_mail, nP_ut, nP_um, n_m0, n_m1, n_m2, n_m3, n_m4, n_m5, n_u5, n_m6, n_u6, n_m7, n_u7, n_m8, n_u8, n_m9, n_u9, n_m10, n_u10, n_m11, n_u11, n_m12, n_u12, n_a1, n_b1, n_a2, n_b2, n_a3, n_b3, n_a4, n_b4, n_a6, n_b6, n_a7, n_b7, n_a8, n_b8, n_p0, n_p1, n_p2, n_p3, n_q3, n_p4, n_q4, n_g0, n_g1, n_h1, n_g2, n_h2, n_g3, n_h3, n_g4, n_h4, n_g5, n_h5, n_k0, n_k1, n_k2, n_k3, n_k4, n_l2, n_l3, n_l4, kg0, kg1, kg2, kl1, kl2, km0, km1, km2, km3, km4, km5, km6, km7, km8, kk1, kk2, kk3, kk4, kk6, kk7, kk8, kx0, kx1, kx2, kx3, kx4, ky2, ky3, ky4, reduceIte, Nat.reduceEqDiff, true_or, or_true, Int.reduceLE, Int.reduceLT, Int.reduceAdd, Int.reduceSub, Int.reduceMul, not_true_eq_false, not_false_eq_true, implies_true, nat_s, wr_id, uR_at, uR_uR, u1_at, u1_ne, uf_at, uf_ne, iltT, iltF, ileT, ieqT, ieqF, h3, h3z]
      refine tG_at hd kNet_takeRequest_67 ?_
      simp (disch := omega) only [bNet_takeRequest_67, rn, sm, lg, lt_, cmpP, tk, pr_, pu, swl, cs, Nat.reduceAdd, Nat.reduceLeDiff, Nat.zero_le, Nat.le_refl, true_and, and_true, Int.toNat_natCast, Int.reduceToNat, Int.reduceEq, false_implies, true_implies, Int.reduceNeg, Int.cast_ofNat_Int, n_r0, n_r1, n_r2, n_r3, n_w3, n_r4, n_w4, n_r5, n_w5, n_r6, n_w6, n_r7, n_w7, n_r8, n_w8, n_r9, n_w9, n_r10, n_w10, n_all, n_mail, nP_ut, nP_um, n_m0, n_m1, n_m2, n_m3, n_m4, n_m5, n_u5, n_m6, n_u6, n_m7, n_u7, n_m8, n_u8, n_m9, n_u9, n_m10, n_u10, n_m11, n_u11, n_m12, n_u12, n_a1, n_b1, n_a2, n_b2, n_a3, n_b3, n_a4, n_b4, n_a6, n_b6, n_a7, n_b7, n_a8, n_b8, n_p0, n_p1, n_p2, n_p3, n_q3, n_p4, n_q4, n_g0, n_g1, n_h1, n_g2, n_h2, n_g3, n_h3, n_g4, n_h4, n_g5, n_h5, n_k0, n_k1, n_k2, n_k3, n_k4, n_l2, n_l3, n_l4, kg0, kg1, kg2, kl1, kl2, km0, km1, km2, km3, km4, km5, km6, km7, km8, kk1, kk2, kk3, kk4, kk6, kk7, kk8, kx0, kx1, kx2, kx3, kx4, ky2, ky3, ky4, reduceIte, Nat.reduceEqDiff, true_or, or_true, Int.reduceLE, Int.reduceLT, Int.reduceAdd, Int.reduceSub, Int.reduceMul, not_true_eq_false, not_false_eq_true, implies_true, nat_s, wr_id, uR_at, uR_uR, u1_at, u1_ne, uf_at, uf_ne, iltT, iltF, ileT, ieqT, ieqF, s1]
      have hF : askedF n m a r X 0 c = handF n m (X.1, uR X.2.1 m (askR a r (X.2.1 m)), X.2.2) 0 c := if_pos ⟨by rw [lo 30 (by omega) (by omega)]; exact h0, by rw [lo 3 (by omega) (by omega)]; exact h3z⟩
      rw [hF] at hq
      refine k_handOn (c := c) (by omega) hN hR1 n0 hn6 n5 hk hm (by show rowI n W (uR X.2.1 m _ m); rw [uR_at]; exact hIa) hW (by show 0 < uR X.2.1 m _ m 30; rw [uR_at, lo 30 (by omega) (by omega)]; exact h0) (fun A' B' S' g1 g2 g3 g4 => ?_)
      refine tG_at hd kNet_takeRequest_78 ?_
      simp (disch := omega) only [bNet_takeRequest_78, rn, sm, lg, lt_, cmpP, tk, pr_, pu, swl, cs, Nat.reduceAdd, Nat.reduceLeDiff, Nat.zero_le, Nat.le_refl, true_and, and_true, Int.toNat_natCast, Int.reduceToNat, Int.reduceEq, false_implies, true_implies, Int.reduceNeg, Int.cast_ofNat_Int, n_r0, n_r1, n_r2, n_r3, n_w3, n_r4, n_w4, n_r5, n_w5, n_r6, n_w6, n_r7, n_w7, n_r8, n_w8, n_r9, n_w9, n_r10, n_w10, n_all, n_mail, nP_ut, nP_um, n_m0, n_m1, n_m2, n_m3, n_m4, n_m5, n_u5, n_m6, n_u6, n_m7, n_u7, n_m8, n_u8, n_m9, n_u9, n_m10, n_u10, n_m11, n_u11, n_m12, n_u12, n_a1, n_b1, n_a2, n_b2, n_a3, n_b3, n_a4, n_b4, n_a6, n_b6, n_a7, n_b7, n_a8, n_b8, n_p0, n_p1, n_p2, n_p3, n_q3, n_p4, n_q4, n_g0, n_g1, n_h1, n_g2, n_h2, n_g3, n_h3, n_g4, n_h4, n_g5, n_h5, n_k0, n_k1, n_k2, n_k3, n_k4, n_l2, n_l3, n_l4, kg0, kg1, kg2, kl1, kl2, km0, km1, km2, km3, km4, km5, km6, km7, km8, kk1, kk2, kk3, kk4, kk6, kk7, kk8, kx0, kx1, kx2, kx3, kx4, ky2, ky3, ky4, reduceIte, Nat.reduceEqDiff, true_or, or_true, Int.reduceLE, Int.reduceLT, Int.reduceAdd, Int.reduceSub, Int.reduceMul, not_true_eq_false, not_false_eq_true, implies_true, nat_s, wr_id, uR_at, uR_uR, u1_at, u1_ne, uf_at, uf_ne, iltT, iltF, ileT, ieqT, ieqF]
      refine tG_at hd kNet_takeRequest_79 ?_
      simp (disch := omega) only [bNet_takeRequest_79, rn, sm, lg, lt_, cmpP, tk, pr_, pu, swl, cs, Nat.reduceAdd, Nat.reduceLeDiff, Nat.zero_le, Nat.le_refl, true_and, and_true, Int.toNat_natCast, Int.reduceToNat, Int.reduceEq, false_implies, true_implies, Int.reduceNeg, Int.cast_ofNat_Int, n_r0, n_r1, n_r2, n_r3, n_w3, n_r4, n_w4, n_r5, n_w5, n_r6, n_w6, n_r7, n_w7, n_r8, n_w8, n_r9, n_w9, n_r10, n_w10, n_all, n_mail, nP_ut, nP_um, n_m0, n_m1, n_m2, n_m3, n_m4, n_m5, n_u5, n_m6, n_u6, n_m7, n_u7, n_m8, n_u8, n_m9, n_u9, n_m10, n_u10, n_m11, n_u11, n_m12, n_u12, n_a1, n_b1, n_a2, n_b2, n_a3, n_b3, n_a4, n_b4, n_a6, n_b6, n_a7, n_b7, n_a8, n_b8, n_p0, n_p1, n_p2, n_p3, n_q3, n_p4, n_q4, n_g0, n_g1, n_h1, n_g2, n_h2, n_g3, n_h3, n_g4, n_h4, n_g5, n_h5, n_k0, n_k1, n_k2, n_k3, n_k4, n_l2, n_l3, n_l4, kg0, kg1, kg2, kl1, kl2, km0, km1, km2, km3, km4, km5, km6, km7, km8, kk1, kk2, kk3, kk4, kk6, kk7, kk8, kx0, kx1, kx2, kx3, kx4, ky2, ky3, ky4, reduceIte, Nat.reduceEqDiff, true_or, or_true, Int.reduceLE, Int.reduceLT, Int.reduceAdd, Int.reduceSub, Int.reduceMul, not_true_eq_false, not_false_eq_true, implies_true, nat_s, wr_id, uR_at, uR_uR, u1_at, u1_ne, uf_at, uf_ne, iltT, iltF, ileT, ieqT, ieqF]
      exact hq _ _ _ g1 g2 g3 g4
    · refine tG_at hd kNet_takeRequest_60 ?_
      simp (disch := omega) only [bNet_takeRequest_60, rn, sm, lg, lt_, cmpP, tk, pr_, pu, swl, cs, Nat.reduceAdd, Nat.reduceLeDiff, Nat.zero_le, Nat.le_refl, true_and, and_true, Int.toNat_natCast, Int.reduceToNat, Int.reduceEq, false_implies, true_implies, Int.reduceNeg, Int.cast_ofNat_Int, n_r0, n_r1, n_r2, n_r3, n_w3, n_r4, n_w4, n_r5, n_w5, n_r6, n_w6, n_r7, n_w7, n_r8, n_w8, n_r9, n_w9, n_r10, n_w10, n_all, n_mail, nP_ut, nP_um, n_m0, n_m1, n_m2, n_m3, n_m4, n_m5, n_u5, n_m6, n_u6, n_m7, n_u7, n_m8, n_u8, n_m9, n_u9, n_m10, n_u10, n_m11, n_u11, n_m12, n_u12, n_a1, n_b1, n_a2, n_b2, n_a3, n_b3, n_a4, n_b4, n_a6, n_b6, n_a7, n_b7, n_a8, n_b8, n_p0, n_p1, n_p2, n_p3, n_q3, n_p4, n_q4, n_g0, n_g1, n_h1, n_g2, n_h2, n_g3, n_h3, n_g4, n_h4, n_g5, n_h5, n_k0, n_k1, n_k2, n_k3, n_k4, n_l2, n_l3, n_l4, kg0, kg1, kg2, kl1, kl2, km0, km1, km2, km3, km4, km5, km6, km7, km8, kk1, kk2, kk3, kk4, kk6, kk7, kk8, kx0, kx1, kx2, kx3, kx4, ky2, ky3, ky4, reduceIte, Nat.reduceEqDiff, true_or, or_true, Int.reduceLE, Int.reduceLT, Int.reduceAdd, Int.reduceSub, Int.reduceMul, not_true_eq_false, not_false_eq_true, implies_true, nat_s, wr_id, uR_at, uR_uR, u1_at, u1_ne, uf_at, uf_ne, iltT, iltF, ileT, ieqT, ieqF, h3]
      exact k79 (by rw [lo 3 (by omega) (by omega)]; exact fun h => h3z h.2)
  obtain ⟨⟨kg0, kg1, kg2⟩, ⟨kl1, kl2⟩, ⟨km0, km1, km2, km3, km4, km5, km6, km7, km8⟩, ⟨kk1, kk2, kk3, kk4, kk6, kk7, kk8⟩, ⟨kx0, kx1, kx2, kx3, kx4⟩, ⟨ky2, ky3, ky4⟩⟩ := id hN
  refine tC_enter (nL := 2) (by decide +kernel) (by decide +kernel) rfl (Nat.le_of_ble_eq_true rfl) (fun hok => ?_)
  simp only [ent]
  refine tG_at hd kNet_takeRequest_0 ?_
  simp (disch := omega) only [bNet_takeRequest_0, rn, sm, lg, lt_, cmpP, tk, pr_, pu, swl, cs, Nat.reduceAdd, Nat.reduceLeDiff, Nat.zero_le, Nat.le_refl, true_and, and_true, Int.toNat_natCast, Int.reduceToNat, Int.reduceEq, false_implies, true_implies, Int.reduceNeg, Int.cast_ofNat_Int, n_r0, n_r1, n_r2, n_r3, n_w3, n_r4, n_w4, n_r5, n_w5, n_r6, n_w6, n_r7, n_w7, n_r8, n_w8, n_r9, n_w9, n_r10, n_w10, n_all, n_mail, nP_ut, nP_um, n_m0, n_m1, n_m2, n_m3, n_m4, n_m5, n_u5, n_m6, n_u6, n_m7, n_u7, n_m8, n_u8, n_m9, n_u9, n_m10, n_u10, n_m11, n_u11, n_m12, n_u12, n_a1, n_b1, n_a2, n_b2, n_a3, n_b3, n_a4, n_b4, n_a6, n_b6, n_a7, n_b7, n_a8, n_b8, n_p0, n_p1, n_p2, n_p3, n_q3, n_p4, n_q4, n_g0, n_g1, n_h1, n_g2, n_h2, n_g3, n_h3, n_g4, n_h4, n_g5, n_h5, n_k0, n_k1, n_k2, n_k3, n_k4, n_l2, n_l3, n_l4, kg0, kg1, kg2, kl1, kl2, km0, km1, km2, km3, km4, km5, km6, km7, km8, kk1, kk2, kk3, kk4, kk6, kk7, kk8, kx0, kx1, kx2, kx3, kx4, ky2, ky3, ky4, reduceIte, Nat.reduceEqDiff, true_or, or_true, Int.reduceLE, Int.reduceLT, Int.reduceAdd, Int.reduceSub, Int.reduceMul, not_true_eq_false, not_false_eq_true, implies_true, nat_s, wr_id, uR_at, uR_uR, u1_at, u1_ne, uf_at, uf_ne, s0, iltT, ileT]
  rw [← hb1e]
  rw [hb.2.2.1]
  by_cases h0 : 0 < X.2.1 m 30
  · rw [if_pos h0]
    exact ⟨fun h => absurd h (by decide), fun _ => k60 h0⟩
  · rw [if_neg h0]
    exact ⟨fun _ => k79 (by rw [lo 30 (by omega) (by omega)]; exact fun h => h0 h.1), fun h => absurd rfl h⟩
end NC
