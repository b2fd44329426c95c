/-! THE CLASS: a vote; a delivery whole -/
def bc1 (x : Int) : Int := (x - bAnd (bUsh x 1) 1431655765).bmod 4294967296
def bc2 (v : Int) : Int := (bAnd v 858993459 + bAnd (bUsh v 2) 858993459).bmod 4294967296
def bc3 (v : Int) : Int := bAnd ((v + bUsh v 4).bmod 4294967296) 252645135
def bc4 (v : Int) : Int := (v + bUsh v 8).bmod 4294967296
def bc5 (v : Int) : Int := (v + bUsh v 16).bmod 4294967296
def bt1 (x c : Nat) : Nat := if x.testBit c = true then 1 else 0
def pop (x : Nat) : Nat := bt1 x 0 + bt1 x 1 + bt1 x 2 + bt1 x 3 + bt1 x 4 + bt1 x 5
theorem bc_ok : ∀ x, x < 64 → bAnd (bc5 (bc4 (bc3 (bc2 (bc1 ((x : Nat) : Int)))))) 63 = ((pop x : Nat) : Int) := by decide +kernel
def okm (n m x : Nat) : Bool := (List.range 6).all (fun c => !x.testBit c || (decide (c < n) && decide (c ≠ m)))
def pa (n m x : Nat) : Bool := !okm n m x || (decide (pop x + 1 < n) == decide (x ≠ 2 ^ n - 1 - 2 ^ m))
theorem pa_ok : ∀ n, n < 7 → ∀ m, m < n → ∀ x, x < 64 → pa n m x = true := by decide +kernel
theorem pop_all (n : Nat) (hn : n < 7) (m : Nat) (hm : m < n) (x : Nat) (hx : x < 64) (h : ∀ c, c < 6 → x.testBit c = true → c < n ∧ c ≠ m) : pop x + 1 < n ↔ x ≠ 2 ^ n - 1 - 2 ^ m := by
  have h2 := pa_ok n hn m hm x hx
  have h3 : okm n m x = true := by
    unfold okm
    rw [List.all_eq_true]
    intro c hc
    have hc := List.mem_range.mp hc
    by_cases hb : x.testBit c = true
    · have := h c hc hb
      simp [hb, this]
    · simp [hb]
  unfold pa at h2
  rw [h3] at h2
  have h4 : decide (pop x + 1 < n) = decide (x ≠ 2 ^ n - 1 - 2 ^ m) := by simpa using h2
  exact decide_eq_decide.mp h4
section RL
variable {n W m k L a : Nat} {b b' : Nat → Int} {x e v : Int}
theorem RB.vot (h : RB m b' b) {y : Nat} (hy : b 5 = (y : Int)) (hy6 : y < 64) (ha : a < 6) (hm : m < 6) : RB m (u1 (u1 b' 5 (bOr (b' 5) (bShl 1 (a : Int)))) (24 + a) v) (votR a v b) := by
  obtain ⟨h1, h2, h3, h4, h5⟩ := h
  have e5 : b' 5 = b 5 := h1 5 (by omega)
  unfold votR
  rw [e5]
  refine ⟨fun j hj => ?_, by rw [u1_ne (by omega), u1_ne (by omega), u1_ne (by omega), u1_ne (by omega)]; exact h2, by rw [u1_ne (by omega), u1_ne (by omega), u1_ne (by omega), u1_ne (by omega)]; exact h3, fun h0 => ?_, fun c hc hv => ?_⟩
  · rw [u1_ne (show j ≠ 24 + a by omega), u1_ne (show j ≠ 24 + a by omega)]
    by_cases h : j = 5
    · subst h
      rw [u1_at, u1_at]
    · rw [u1_ne h, u1_ne h]
      exact h1 j hj
  · rw [u1_ne (by omega), u1_ne (by omega)] at h0
    refine ⟨fun j j1 j2 => by rw [u1_ne (by omega), u1_ne (by omega), u1_ne (by omega), u1_ne (by omega)]; exact (h4 h0).1 j j1 j2, fun i hi => ?_⟩
    rw [u1_ne (by omega), u1_ne (by omega)] at hi
    have := (h4 h0).2 i hi
    rw [u1_ne (by omega), u1_ne (by omega), u1_ne (by omega), u1_ne (by omega), u1_ne (by omega), u1_ne (by omega), u1_ne (by omega), u1_ne (by omega)]
    exact this
  · rw [u1_ne (by omega), u1_at, hy, vb_or hy6 ha] at hv
    by_cases hca : c = a
    · subst hca
      rw [u1_at, u1_at]
    · rw [u1_ne (by omega), u1_ne (by omega), u1_ne (by omega), u1_ne (by omega)]
      rcases hv with hv | hv
      · exact h5 c hc (by rw [hy]; exact hv)
      · exact absurd hv hca
def lstC (m : Nat) (e : Int) (b : Nat → Int) (i : Nat) : Nat → Int := fun j => if 32 ≤ j ∧ j < 32 + i then (if j = 32 + m then b 0 else b (j - 8)) else begP e b j
def madC (m n : Nat) (e : Int) (b : Nat → Int) : Nat → Int := comR (colB 0 (rowR (u1 (lstC m e b n) 50 1)))
theorem RB.mad (h : RB m b' b) (hv : ∀ c, c < n → c ≠ m → b' (24 + c) = b (24 + c)) (hz : ∀ c, n ≤ c → c < 6 → b (24 + c) = 0) (he : 0 < e) (hm : m < n) (hn6 : n ≤ 6) : RB m (madC m n e b') (comR (rowR (drpR (madR m e b)))) := by
  obtain ⟨h1, h2, -, -, -⟩ := h
  have ls : ∀ i, i < 6 → lstC m e b' n (32 + i) = if i = m then b 0 else b (24 + i) := by
    intro i hi
    unfold lstC
    by_cases hin : i < n
    · rw [if_pos (by omega)]
      by_cases him : i = m
      · rw [if_pos (by omega), if_pos him]
        exact h1 0 (by omega)
      · rw [if_neg (by omega), if_neg him, show 32 + i - 8 = 24 + i by omega]
        exact hv i hin him
    · rw [if_neg (by omega), if_neg (by omega), hz i (by omega) hi]
      unfold begP
      rw [if_neg (by omega), if_pos (by omega)]
  have lo : ∀ j, j < 30 ∨ 50 ≤ j → lstC m e b' n j = b' j := by
    intro j hj
    unfold lstC begP
    rw [if_neg (by omega), if_neg (by omega), if_neg (by omega)]
  have ma := fun j => mad_at (e := e) (b := b) (m := m) (by omega) j
  have cl : ∀ j, madC m n e b' j = if j = 3 then 1 else if j = 2 then 0 else if j = 4 ∨ j = 5 then 0 else if 18 ≤ j ∧ j < 24 then lstC m e b' n (j + 14) else if j = 50 then 1 else lstC m e b' n j := by
    intro j
    unfold madC comR colB rowR u1
    grind
  refine ⟨fun j hj => ?_, ?_, ?_, fun _ => ⟨fun j j1 j2 => ?_, fun i hi => ?_⟩, fun c hc hv => absurd hv ?_⟩
  · rw [cl, ma]
    by_cases a3 : j = 3
    · rw [if_pos a3, if_pos a3]
    · rw [if_neg a3, if_neg a3]
      by_cases a2 : j = 2
      · rw [if_pos a2, if_pos a2]
      · rw [if_neg a2, if_neg a2]
        by_cases a4 : j = 4 ∨ j = 5
        · rw [if_pos a4, if_neg (by omega), if_pos (by omega)]
        · rw [if_neg a4]
          by_cases a18 : 18 ≤ j
          · rw [if_pos ⟨a18, hj⟩, if_pos ⟨a18, hj⟩, show j + 14 = 32 + (j - 18) by omega, ls _ (by omega)]
            by_cases am : j = 18 + m
            · rw [if_pos am, if_pos (by omega)]
            · rw [if_neg am, if_neg (by omega), show 24 + (j - 18) = j + 6 by omega]
          · rw [if_neg (by omega), if_neg (by omega), if_neg (by omega), if_neg (by omega), if_neg (by omega), if_neg (by omega), if_neg (by omega), lo j (by omega)]
            exact h1 j hj
  · rw [cl, ma, if_neg (by omega), if_neg (by omega), if_neg (by omega), if_neg (by omega), if_neg (by omega), if_neg (by omega), if_neg (by omega), if_neg (by omega), if_neg (by omega), if_neg (by omega), if_neg (by omega), if_neg (by omega), lo 51 (by omega)]
    exact h2
  · have e30 : comR (rowR (drpR (madR m e b))) 30 = e := by
      rw [ma, if_neg (by omega), if_neg (by omega), if_neg (by omega), if_neg (by omega), if_neg (by omega), if_pos rfl]
    rw [e30, if_pos he, cl, if_neg (by omega), if_neg (by omega), if_neg (by omega), if_neg (by omega), if_pos rfl]
  · rw [cl, ma, if_neg (by omega), if_neg (by omega), if_neg (by omega), if_neg (by omega), if_neg (by omega), if_neg (by omega), if_neg (by omega), if_neg (by omega), if_neg (by omega)]
    by_cases h32 : 32 ≤ j
    · rw [if_pos ⟨h32, j2⟩, show j = 32 + (j - 32) by omega, ls _ (by omega)]
      by_cases am : j - 32 = m
      · rw [if_pos am, if_pos (by omega)]
      · rw [if_neg am, if_neg (by omega), show 32 + (j - 32) - 8 = 24 + (j - 32) by omega]
    · rw [if_neg (by omega)]
      unfold lstC begP
      rw [if_neg (by omega)]
      by_cases h30 : j = 30
      · rw [if_pos h30, if_pos h30]
      · rw [if_neg h30, if_neg h30, if_pos (by omega), if_pos (by omega)]
  · have e31 : comR (rowR (drpR (madR m e b))) 31 = 0 := by
      rw [ma, if_neg (by omega), if_neg (by omega), if_neg (by omega), if_neg (by omega), if_neg (by omega), if_neg (by omega), if_pos (by omega)]
    omega
  · rw [ma, if_neg (by omega), if_neg (by omega), if_neg (by omega), if_pos (by omega)]
    exact vb_0 c
end RL
section NC
variable {w : WP} {d : Nat} {Γ : GM} {V : VH} {Q : QT} {o m e s : Nat} {A : Nat → Int} {B S : Nat → Nat → Int} {q : Nat → Nat} {n W k p a : Nat} {X : NT} {r : Nat → Int} {c : Int}
theorem k_bitCount (hd : 4 ≤ d) {x : Nat} (hx : x < 64) (hq : Q (some (.inl ((pop x : Nat) : Int))) Γ V) : tC w d nInt_bitCount [.inl (x : Int)] Γ V Q := by
  have e := bc_ok x hx
  unfold bc5 bc4 bc3 bc2 bc1 at e
  simp only [← wr_def] at e
  refine tC_enter (nL := 1) (by decide +kernel) (by decide +kernel) rfl (Nat.le_of_ble_eq_true rfl) (fun hok => ?_)
  simp only [ent]
  refine tG_at hd kInt_bitCount_0 ?_
  simp only [bInt_bitCount_0, rn, sm, lg, lt_, cmpP, tk, pr_, pu, swl, cs, Nat.reduceAdd, Nat.reduceLeDiff, Nat.zero_le, Nat.le_refl, true_and, and_true, Int.toNat_natCast, Int.reduceToNat, Int.reduceEq, false_implies, true_implies, Int.reduceNeg, Int.cast_ofNat_Int]
  rw [e]
  exact hq
set_option maxHeartbeats 1000000 in
theorem k_takeVote (hd6 : 6 ≤ d) (hN : NK Γ o) (hR : RN n W A B S q X) (n0 : X.1 0 = (n : Int)) (hn2 : 2 ≤ n) (hn6 : n ≤ 6) (hm : m < n) (ha : a < n) (ham : a ≠ m) (hI : rowI n W (X.2.1 m)) (hV : VO n m (X.2.1 m 5)) (hT : ∀ j, n ≤ j → j < 6 → X.2.1 m (24 + j) = 0) (hA2 : 0 ≤ X.1 2 ∧ X.1 2 ≤ W) (hW : W ≤ 1000000000) (hr : RM (S (q 46)) r) (r0 : r 0 = (a : Int)) (r1 : r 1 = (m : Int)) (hr3 : 1 ≤ r 3 ∧ r 3 ≤ W) (hc : A 7 = c)
    (hq : ∀ A' B' S', RN n (W + 1) A' B' S' q (votedF n m a (r 3) (r 4) X 0 c).2.1 → A' 6 = A 6 + (votedF n m a (r 3) (r 4) X 0 c).2.2.1 → A' 7 = (votedF n m a (r 3) (r 4) X 0 c).2.2.2 → S' (q 46) = S (q 46) → Q none Γ (nP V o A' B' S' q)) :
    tC w d nNet_takeVote [.inr (.inl o), .inr (.inl (o + (8 + 9 * m)))] Γ (nP V o A B S q) Q := by
  have hd : 4 ≤ d := by omega
  obtain ⟨rA, rW, rB, rM, rQ, rL⟩ := id hR
  have hb := rB m hm
  have hm6 : m < 6 := by omega
  have ha6 : a < 6 := by omega
  have q6 := rQ.1 46 (by omega)
  have b6 := sa_b q6
  have s0 : S (q 46) 0 = (a : Int) := (hr.1 0 (by omega)).trans r0
  have s1 : S (q 46) 1 = (m : Int) := (hr.1 1 (by omega)).trans r1
  have s3 : S (q 46) 3 = r 3 := hr.1 3 (by omega)
  have s4 : S (q 46) 4 = r 4 := hr.1 4 (by omega)
  have a0 : A 0 = (n : Int) := (rA 0 (by omega)).trans n0
  have a2 : A 2 = X.1 2 := rA 2 (by omega)
  have e1 : B m 1 = X.2.1 m 1 := hb.1 1 (by omega)
  have e4 : B m 4 = X.2.1 m 4 := hb.1 4 (by omega)
  obtain ⟨i1, i2, i3, i4, -⟩ := id hI
  obtain ⟨y, hy, hy6, hyb⟩ := hV
  have e5 : B m 5 = (y : Int) := (hb.1 5 (by omega)).trans hy
  have hbo := bor_ok y hy6 a ha6
  have hz6 := hbo.2
  obtain ⟨z, hz⟩ : ∃ z, z = y ||| 2 ^ a := ⟨_, rfl⟩
  rw [← hz] at hbo hz6
  have zb : ∀ c, z.testBit c = true ↔ y.testBit c = true ∨ c = a := by
    intro c
    have := vb_or (c := c) hy6 ha6
    rw [hbo.1] at this
    unfold vb at this
    rw [Int.toNat_natCast, Int.toNat_natCast] at this
    exact this
  have hall := pop_all n (by omega) m hm z hz6 (fun c _ h => by
    rcases (zb c).mp h with h | h
    · exact hyb c h
    · rw [h]; exact ⟨ha, ham⟩)
  have v5 : votR a (r 4) (X.2.1 m) 5 = (z : Int) := by rw [votR_5, hy, hbo.1]
  have hb1 := hb.vot (a := a) (v := r 4) hy hy6 ha6 hm6
  rw [e5, hbo.1] at hb1
  obtain ⟨b1, hb1e⟩ : ∃ b1, b1 = u1 (u1 (B m) 5 (z : Int)) (24 + a) (r 4) := ⟨_, rfl⟩
  rw [← hb1e] at hb1
  have vlo : ∀ j, j ≠ 5 → j ≠ 24 + a → votR a (r 4) (X.2.1 m) j = X.2.1 m j := fun j j1 j2 => votR_lo ⟨j1, j2⟩
  obtain ⟨⟨kg0, kg1, kg2⟩, ⟨kl1, kl2⟩, ⟨km0, km1, km2, km3, km4, km5, km6, km7, km8⟩, ⟨kk1, kk2, kk3, kk4, kk6, kk7, kk8⟩, ⟨kx0, kx1, kx2, kx3, kx4⟩, ⟨ky2, ky3, ky4⟩⟩ := id hN
  have k24 : X.2.1 m 4 ≠ r 3 ∨ X.2.1 m 1 ≠ r 3 → tG w d nNet_takeVote 24 [some (.inr (.inl o)), some (.inr (.inl (o + (8 + 9 * m)))), some (.inl (r 3)), none] [] Γ (nP V o A B S q) 0 0 Q := by
    intro h
    have hF : votedF n m a (r 3) (r 4) X 0 c = (0, X, 0, c) := if_pos h
    rw [hF] at hq
    refine tG_at hd kNet_takeVote_24 ?_
    simp (disch := omega) only [bNet_takeVote_24, rn, sm, lg, lt_, cmpP, tk, pr_, pu, swl, cs, Nat.reduceAdd, Nat.reduceLeDiff, Nat.zero_le, Nat.le_refl, true_and, and_true, Int.toNat_natCast, Int.reduceToNat, Int.reduceEq, false_implies, true_implies, Int.reduceNeg, Int.cast_ofNat_Int, n_r0, n_r1, n_r2, n_r3, n_w3, n_r4, n_w4, n_r5, n_w5, n_r6, n_w6, n_r7, n_w7, n_r8, n_w8, n_r9, n_w9, n_r10, n_w10, n_all, n_mail, nP_ut, nP_um, n_m0, n_m1, n_m2, n_m3, n_m4, n_m5, n_u5, n_m6, n_u6, n_m7, n_u7, n_m8, n_u8, n_m9, n_u9, n_m10, n_u10, n_m11, n_u11, n_m12, n_u12, n_a1, n_b1, n_a2, n_b2, n_a3, n_b3, n_a4, n_b4, n_a6, n_b6, n_a7, n_b7, n_a8, n_b8, n_p0, n_p1, n_p2, n_p3, n_q3, n_p4, n_q4, n_g0, n_g1, n_h1, n_g2, n_h2, n_g3, n_h3, n_g4, n_h4, n_g5, n_h5, n_k0, n_k1, n_k2, n_k3, n_k4, n_l2, n_l3, n_l4, kg0, kg1, kg2, kl1, kl2, km0, km1, km2, km3, km4, km5, km6, km7, km8, kk1, kk2, kk3, kk4, kk6, kk7, kk8, kx0, kx1, kx2, kx3, kx4, ky2, ky3, ky4, reduceIte, Nat.reduceEqDiff, true_or, or_true, Int.reduceLE, Int.reduceLT, Int.reduceAdd, Int.reduceSub, Int.reduceMul, not_true_eq_false, not_false_eq_true, implies_true, nat_s, wr_id, uR_at, uR_uR, u1_at, u1_ne, uf_at, uf_ne, iltT, iltF, ileT, ieqT, ieqF]
    refine hq _ _ _ (hR.mono (by omega)) ?_ hc rfl
    show A 6 = A 6 + 0
    omega
  have k79 : ¬ (X.2.1 m 4 ≠ r 3 ∨ X.2.1 m 1 ≠ r 3) → z = 2 ^ n - 1 - 2 ^ m → tG w d nNet_takeVote 79 [some (.inr (.inl o)), some (.inr (.inl (o + (8 + 9 * m)))), some (.inl (r 3)), none] [] Γ (nP V o A (uR B m b1) S q) 0 0 Q := by
    intro h hzz
    have hF : votedF n m a (r 3) (r 4) X 0 c = (0, (u1 X.1 2 (X.1 2 + 1), uR X.2.1 m (comR (rowR (drpR (madR m (r 3) (votR a (r 4) (X.2.1 m)))))), X.2.2), 0, (m : Int)) := by
      unfold votedF
      rw [if_neg h, if_neg (by rw [v5, allV_eq hn6 hm, hzz]; exact fun h => h rfl)]
    rw [hF] at hq
    have hb2 := hb1.mad (n := n) (e := r 3) (fun c hc1 hc2 => hb1.2.2.2.2 c (by omega) (by
      rw [v5]
      unfold vb
      rw [Int.toNat_natCast, hzz]
      exact all_bits n hn6 m hm c hc1 hc2)) (fun c hc1 hc2 => by rw [vlo _ (by omega) (by omega)]; exact hT c hc1 hc2) (by omega) hm hn6
    refine tG_at hd kNet_takeVote_79 ?_
    simp (disch := omega) only [bNet_takeVote_79, rn, sm, lg, lt_, cmpP, tk, pr_, pu, swl, cs, Nat.reduceAdd, Nat.reduceLeDiff, Nat.zero_le, Nat.le_refl, true_and, and_true, Int.toNat_natCast, Int.reduceToNat, Int.reduceEq, false_implies, true_implies, Int.reduceNeg, Int.cast_ofNat_Int, n_r0, n_r1, n_r2, n_r3, n_w3, n_r4, n_w4, n_r5, n_w5, n_r6, n_w6, n_r7, n_w7, n_r8, n_w8, n_r9, n_w9, n_r10, n_w10, n_all, n_mail, nP_ut, nP_um, n_m0, n_m1, n_m2, n_m3, n_m4, n_m5, n_u5, n_m6, n_u6, n_m7, n_u7, n_m8, n_u8, n_m9, n_u9, n_m10, n_u10, n_m11, n_u11, n_m12, n_u12, n_a1, n_b1, n_a2, n_b2, n_a3, n_b3, n_a4, n_b4, n_a6, n_b6, n_a7, n_b7, n_a8, n_b8, n_p0, n_p1, n_p2, n_p3, n_q3, n_p4, n_q4, n_g0, n_g1, n_h1, n_g2, n_h2, n_g3, n_h3, n_g4, n_h4, n_g5, n_h5, n_k0, n_k1, n_k2, n_k3, n_k4, n_l2, n_l3, n_l4, kg0, kg1, kg2, kl1, kl2, km0, km1, km2, km3, km4, km5, km6, km7, km8, kk1, kk2, kk3, kk4, kk6, kk7, kk8, kx0, kx1, kx2, kx3, kx4, ky2, ky3, ky4, reduceIte, Nat.reduceEqDiff, true_or, or_true, Int.reduceLE, Int.reduceLT, Int.reduceAdd, Int.reduceSub, Int.reduceMul, not_true_eq_false, not_false_eq_true, implies_true, nat_s, wr_id, uR_at, uR_uR, u1_at, u1_ne, uf_at, uf_ne, iltT, iltF, ileT, ieqT, ieqF]
    refine k_passBegin (by omega) hN hm6 ?_
    refine tG_at hd kNet_takeVote_87 ?_
    simp (disch := omega) only [bNet_takeVote_87, rn, sm, lg, lt_, cmpP, tk, pr_, pu, swl, cs, Nat.reduceAdd, Nat.reduceLeDiff, Nat.zero_le, Nat.le_refl, true_and, and_true, Int.toNat_natCast, Int.reduceToNat, Int.reduceEq, false_implies, true_implies, Int.reduceNeg, Int.cast_ofNat_Int, n_r0, n_r1, n_r2, n_r3, n_w3, n_r4, n_w4, n_r5, n_w5, n_r6, n_w6, n_r7, n_w7, n_r8, n_w8, n_r9, n_w9, n_r10, n_w10, n_all, n_mail, nP_ut, nP_um, n_m0, n_m1, n_m2, n_m3, n_m4, n_m5, n_u5, n_m6, n_u6, n_m7, n_u7, n_m8, n_u8, n_m9, n_u9, n_m10, n_u10, n_m11, n_u11, n_m12, n_u12, n_a1, n_b1, n_a2, n_b2, n_a3, n_b3, n_a4, n_b4, n_a6, n_b6, n_a7, n_b7, n_a8, n_b8, n_p0, n_p1, n_p2, n_p3, n_q3, n_p4, n_q4, n_g0, n_g1, n_h1, n_g2, n_h2, n_g3, n_h3, n_g4, n_h4, n_g5, n_h5, n_k0, n_k1, n_k2, n_k3, n_k4, n_l2, n_l3, n_l4, kg0, kg1, kg2, kl1, kl2, km0, km1, km2, km3, km4, km5, km6, km7, km8, kk1, kk2, kk3, kk4, kk6, kk7, kk8, kx0, kx1, kx2, kx3, kx4, ky2, ky3, ky4, reduceIte, Nat.reduceEqDiff, true_or, or_true, Int.reduceLE, Int.reduceLT, Int.reduceAdd, Int.reduceSub, Int.reduceMul, not_true_eq_false, not_false_eq_true, implies_true, nat_s, wr_id, uR_at, uR_uR, u1_at, u1_ne, uf_at, uf_ne, iltT, iltF, ileT, ieqT, ieqF]
    refine tG_loop (fun i => [some (.inr (.inl o)), some (.inr (.inl (o + (8 + 9 * m)))), some (.inl (r 3)), some (.inl (i : Int))]) (fun i V' => V' = nP V o A (uR B m (lstC m (r 3) b1 i)) S q) n ?_ ?_ 0 _ (Nat.zero_le _) ?_
    · intro i V' hi hV k1
      subst hV
      have l0 : lstC m (r 3) b1 i 0 = b1 0 := by simp [lstC, begP]
      have l24 : lstC m (r 3) b1 i (24 + i) = b1 (24 + i) := by
        unfold lstC begP
        rw [if_neg (by omega), if_neg (by omega), if_neg (by omega)]
      have ln : ∀ x, x = (if i = m then b1 0 else b1 (24 + i)) → u1 (lstC m (r 3) b1 i) (32 + i) x = lstC m (r 3) b1 (i + 1) := by
        intro x hx
        funext j
        unfold u1 lstC
        by_cases hj : j = 32 + i
        · rw [if_pos hj, if_pos (by omega), hx]
          by_cases him : i = m
          · rw [if_pos him, if_pos (by omega)]
          · rw [if_neg him, if_neg (by omega), hj, show 32 + i - 8 = 24 + i by omega]
        · rw [if_neg hj]
          by_cases hj2 : 32 ≤ j ∧ j < 32 + i
          · rw [if_pos hj2, if_pos (c := 32 ≤ j ∧ j < 32 + (i + 1)) (by omega)]
          · rw [if_neg hj2, if_neg (by omega)]
      refine tG_at hd kNet_takeVote_89 ?_
      simp (disch := omega) only [bNet_takeVote_89, rn, sm, lg, lt_, cmpP, tk, pr_, pu, swl, cs, Nat.reduceAdd, Nat.reduceLeDiff, Nat.zero_le, Nat.le_refl, true_and, and_true, Int.toNat_natCast, Int.reduceToNat, Int.reduceEq, false_implies, true_implies, Int.reduceNeg, Int.cast_ofNat_Int, n_r0, n_r1, n_r2, n_r3, n_w3, n_r4, n_w4, n_r5, n_w5, n_r6, n_w6, n_r7, n_w7, n_r8, n_w8, n_r9, n_w9, n_r10, n_w10, n_all, n_mail, nP_ut, nP_um, n_m0, n_m1, n_m2, n_m3, n_m4, n_m5, n_u5, n_m6, n_u6, n_m7, n_u7, n_m8, n_u8, n_m9, n_u9, n_m10, n_u10, n_m11, n_u11, n_m12, n_u12, n_a1, n_b1, n_a2, n_b2, n_a3, n_b3, n_a4, n_b4, n_a6, n_b6, n_a7, n_b7, n_a8, n_b8, n_p0, n_p1, n_p2, n_p3, n_q3, n_p4, n_q4, n_g0, n_g1, n_h1, n_g2, n_h2, n_g3, n_h3, n_g4, n_h4, n_g5, n_h5, n_k0, n_k1, n_k2, n_k3, n_k4, n_l2, n_l3, n_l4, kg0, kg1, kg2, kl1, kl2, km0, km1, km2, km3, km4, km5, km6, km7, km8, kk1, kk2, kk3, kk4, kk6, kk7, kk8, kx0, kx1, kx2, kx3, kx4, ky2, ky3, ky4, reduceIte, Nat.reduceEqDiff, true_or, or_true, Int.reduceLE, Int.reduceLT, Int.reduceAdd, Int.reduceSub, Int.reduceMul, not_true_eq_false, not_false_eq_true, implies_true, nat_s, wr_id, uR_at, uR_uR, u1_at, u1_ne, uf_at, uf_ne, iltT, iltF, ileT, ieqT, ieqF, a0]
      by_cases him : i = m
      · refine tG_at hd kNet_takeVote_97 ?_
        simp (disch := omega) only [bNet_takeVote_97, rn, sm, lg, lt_, cmpP, tk, pr_, pu, swl, cs, Nat.reduceAdd, Nat.reduceLeDiff, Nat.zero_le, Nat.le_refl, true_and, and_true, Int.toNat_natCast, Int.reduceToNat, Int.reduceEq, false_implies, true_implies, Int.reduceNeg, Int.cast_ofNat_Int, n_r0, n_r1, n_r2, n_r3, n_w3, n_r4, n_w4, n_r5, n_w5, n_r6, n_w6, n_r7, n_w7, n_r8, n_w8, n_r9, n_w9, n_r10, n_w10, n_all, n_mail, nP_ut, nP_um, n_m0, n_m1, n_m2, n_m3, n_m4, n_m5, n_u5, n_m6, n_u6, n_m7, n_u7, n_m8, n_u8, n_m9, n_u9, n_m10, n_u10, n_m11, n_u11, n_m12, n_u12, n_a1, n_b1, n_a2, n_b2, n_a3, n_b3, n_a4, n_b4, n_a6, n_b6, n_a7, n_b7, n_a8, n_b8, n_p0, n_p1, n_p2, n_p3, n_q3, n_p4, n_q4, n_g0, n_g1, n_h1, n_g2, n_h2, n_g3, n_h3, n_g4, n_h4, n_g5, n_h5, n_k0, n_k1, n_k2, n_k3, n_k4, n_l2, n_l3, n_l4, kg0, kg1, kg2, kl1, kl2, km0, km1, km2, km3, km4, km5, km6, km7, km8, kk1, kk2, kk3, kk4, kk6, kk7, kk8, kx0, kx1, kx2, kx3, kx4, ky2, ky3, ky4, reduceIte, Nat.reduceEqDiff, true_or, or_true, Int.reduceLE, Int.reduceLT, Int.reduceAdd, Int.reduceSub, Int.reduceMul, not_true_eq_false, not_false_eq_true, implies_true, nat_s, wr_id, uR_at, uR_uR, u1_at, u1_ne, uf_at, uf_ne, iltT, iltF, ileT, ieqT, ieqF, s1]
        refine tG_at hd kNet_takeVote_116 ?_
        simp (disch := omega) only [bNet_takeVote_116, rn, sm, lg, lt_, cmpP, tk, pr_, pu, swl, cs, Nat.reduceAdd, Nat.reduceLeDiff, Nat.zero_le, Nat.le_refl, true_and, and_true, Int.toNat_natCast, Int.reduceToNat, Int.reduceEq, false_implies, true_implies, Int.reduceNeg, Int.cast_ofNat_Int, n_r0, n_r1, n_r2, n_r3, n_w3, n_r4, n_w4, n_r5, n_w5, n_r6, n_w6, n_r7, n_w7, n_r8, n_w8, n_r9, n_w9, n_r10, n_w10, n_all, n_mail, nP_ut, nP_um, n_m0, n_m1, n_m2, n_m3, n_m4, n_m5, n_u5, n_m6, n_u6, n_m7, n_u7, n_m8, n_u8, n_m9, n_u9, n_m10, n_u10, n_m11, n_u11, n_m12, n_u12, n_a1, n_b1, n_a2, n_b2, n_a3, n_b3, n_a4, n_b4, n_a6, n_b6, n_a7, n_b7, n_a8, n_b8, n_p0, n_p1, n_p2, n_p3, n_q3, n_p4, n_q4, n_g0, n_g1, n_h1, n_g2, n_h2, n_g3, n_h3, n_g4, n_h4, n_g5, n_h5, n_k0, n_k1, n_k2, n_k3, n_k4, n_l2, n_l3, n_l4, kg0, kg1, kg2, kl1, kl2, km0, km1, km2, km3, km4, km5, km6, km7, km8, kk1, kk2, kk3, kk4, kk6, kk7, kk8, kx0, kx1, kx2, kx3, kx4, ky2, ky3, ky4, reduceIte, Nat.reduceEqDiff, true_or, or_true, Int.reduceLE, Int.reduceLT, Int.reduceAdd, Int.reduceSub, Int.reduceMul, not_true_eq_false, not_false_eq_true, implies_true, nat_s, wr_id, uR_at, uR_uR, u1_at, u1_ne, uf_at, uf_ne, iltT, iltF, ileT, ieqT, ieqF, l0]
        refine tG_at hd kNet_takeVote_129 ?_
        simp (disch := omega) only [bNet_takeVote_129, rn, sm, lg, lt_, cmpP, tk, pr_, pu, swl, cs, Nat.reduceAdd, Nat.reduceLeDiff, Nat.zero_le, Nat.le_refl, true_and, and_true, Int.toNat_natCast, Int.reduceToNat, Int.reduceEq, false_implies, true_implies, Int.reduceNeg, Int.cast_ofNat_Int, n_r0, n_r1, n_r2, n_r3, n_w3, n_r4, n_w4, n_r5, n_w5, n_r6, n_w6, n_r7, n_w7, n_r8, n_w8, n_r9, n_w9, n_r10, n_w10, n_all, n_mail, nP_ut, nP_um, n_m0, n_m1, n_m2, n_m3, n_m4, n_m5, n_u5, n_m6, n_u6, n_m7, n_u7, n_m8, n_u8, n_m9, n_u9, n_m10, n_u10, n_m11, n_u11, n_m12, n_u12, n_a1, n_b1, n_a2, n_b2, n_a3, n_b3, n_a4, n_b4, n_a6, n_b6, n_a7, n_b7, n_a8, n_b8, n_p0, n_p1, n_p2, n_p3, n_q3, n_p4, n_q4, n_g0, n_g1, n_h1, n_g2, n_h2, n_g3, n_h3, n_g4, n_h4, n_g5, n_h5, n_k0, n_k1, n_k2, n_k3, n_k4, n_l2, n_l3, n_l4, kg0, kg1, kg2, kl1, kl2, km0, km1, km2, km3, km4, km5, km6, km7, km8, kk1, kk2, kk3, kk4, kk6, kk7, kk8, kx0, kx1, kx2, kx3, kx4, ky2, ky3, ky4, reduceIte, Nat.reduceEqDiff, true_or, or_true, Int.reduceLE, Int.reduceLT, Int.reduceAdd, Int.reduceSub, Int.reduceMul, not_true_eq_false, not_false_eq_true, implies_true, nat_s, wr_id, uR_at, uR_uR, u1_at, u1_ne, uf_at, uf_ne, iltT, iltF, ileT, ieqT, ieqF]
        refine k1 _ ?_
        rw [ln _ (if_pos him).symm]
      · refine tG_at hd kNet_takeVote_97 ?_
        simp (disch := omega) only [bNet_takeVote_97, rn, sm, lg, lt_, cmpP, tk, pr_, pu, swl, cs, Nat.reduceAdd, Nat.reduceLeDiff, Nat.zero_le, Nat.le_refl, true_and, and_true, Int.toNat_natCast, Int.reduceToNat, Int.reduceEq, false_implies, true_implies, Int.reduceNeg, Int.cast_ofNat_Int, n_r0, n_r1, n_r2, n_r3, n_w3, n_r4, n_w4, n_r5, n_w5, n_r6, n_w6, n_r7, n_w7, n_r8, n_w8, n_r9, n_w9, n_r10, n_w10, n_all, n_mail, nP_ut, nP_um, n_m0, n_m1, n_m2, n_m3, n_m4, n_m5, n_u5, n_m6, n_u6, n_m7, n_u7, n_m8, n_u8, n_m9, n_u9, n_m10, n_u10, n_m11, n_u11, n_m12, n_u12, n_a1, n_b1, n_a2, n_b2, n_a3, n_b3, n_a4, n_b4, n_a6, n_b6, n_a7, n_b7, n_a8, n_b8, n_p0, n_p1, n_p2, n_p3, n_q3, n_p4, n_q4, n_g0, n_g1, n_h1, n_g2, n_h2, n_g3, n_h3, n_g4, n_h4, n_g5, n_h5, n_k0, n_k1, n_k2, n_k3, n_k4, n_l2, n_l3, n_l4, kg0, kg1, kg2, kl1, kl2, km0, km1, km2, km3, km4, km5, km6, km7, km8, kk1, kk2, kk3, kk4, kk6, kk7, kk8, kx0, kx1, kx2, kx3, kx4, ky2, ky3, ky4, reduceIte, Nat.reduceEqDiff, true_or, or_true, Int.reduceLE, Int.reduceLT, Int.reduceAdd, Int.reduceSub, Int.reduceMul, not_true_eq_false, not_false_eq_true, implies_true, nat_s, wr_id, uR_at, uR_uR, u1_at, u1_ne, uf_at, uf_ne, iltT, iltF, ileT, ieqT, ieqF, s1]
        refine tG_at hd kNet_takeVote_123 ?_
        simp (disch := omega) only [bNet_takeVote_123, rn, sm, lg, lt_, cmpP, tk, pr_, pu, swl, cs, Nat.reduceAdd, Nat.reduceLeDiff, Nat.zero_le, Nat.le_refl, true_and, and_true, Int.toNat_natCast, Int.reduceToNat, Int.reduceEq, false_implies, true_implies, Int.reduceNeg, Int.cast_ofNat_Int, n_r0, n_r1, n_r2, n_r3, n_w3, n_r4, n_w4, n_r5, n_w5, n_r6, n_w6, n_r7, n_w7, n_r8, n_w8, n_r9, n_w9, n_r10, n_w10, n_all, n_mail, nP_ut, nP_um, n_m0, n_m1, n_m2, n_m3, n_m4, n_m5, n_u5, n_m6, n_u6, n_m7, n_u7, n_m8, n_u8, n_m9, n_u9, n_m10, n_u10, n_m11, n_u11, n_m12, n_u12, n_a1, n_b1, n_a2, n_b2, n_a3, n_b3, n_a4, n_b4, n_a6, n_b6, n_a7, n_b7, n_a8, n_b8, n_p0, n_p1, n_p2, n_p3, n_q3, n_p4, n_q4, n_g0, n_g1, n_h1, n_g2, n_h2, n_g3, n_h3, n_g4, n_h4, n_g5, n_h5, n_k0, n_k1, n_k2, n_k3, n_k4, n_l2, n_l3, n_l4, kg0, kg1, kg2, kl1, kl2, km0, km1, km2, km3, km4, km5, km6, km7, km8, kk1, kk2, kk3, kk4, kk6, kk7, kk8, kx0, kx1, kx2, kx3, kx4, ky2, ky3, ky4, reduceIte, Nat.reduceEqDiff, true_or, or_true, Int.reduceLE, Int.reduceLT, Int.reduceAdd, Int.reduceSub, Int.reduceMul, not_true_eq_false, not_false_eq_true, implies_true, nat_s, wr_id, uR_at, uR_uR, u1_at, u1_ne, uf_at, uf_ne, iltT, iltF, ileT, ieqT, ieqF, l24]
        refine tG_at hd kNet_takeVote_129 ?_
        simp (disch := omega) only [bNet_takeVote_129, rn, sm, lg, lt_, cmpP, tk, pr_, pu, swl, cs, Nat.reduceAdd, Nat.reduceLeDiff, Nat.zero_le, Nat.le_refl, true_and, and_true, Int.toNat_natCast, Int.reduceToNat, Int.reduceEq, false_implies, true_implies, Int.reduceNeg, Int.cast_ofNat_Int, n_r0, n_r1, n_r2, n_r3, n_w3, n_r4, n_w4, n_r5, n_w5, n_r6, n_w6, n_r7, n_w7, n_r8, n_w8, n_r9, n_w9, n_r10, n_w10, n_all, n_mail, nP_ut, nP_um, n_m0, n_m1, n_m2, n_m3, n_m4, n_m5, n_u5, n_m6, n_u6, n_m7, n_u7, n_m8, n_u8, n_m9, n_u9, n_m10, n_u10, n_m11, n_u11, n_m12, n_u12, n_a1, n_b1, n_a2, n_b2, n_a3, n_b3, n_a4, n_b4, n_a6, n_b6, n_a7, n_b7, n_a8, n_b8, n_p0, n_p1, n_p2, n_p3, n_q3, n_p4, n_q4, n_g0, n_g1, n_h1, n_g2, n_h2, n_g3, n_h3, n_g4, n_h4, n_g5, n_h5, n_k0, n_k1, n_k2, n_k3, n_k4, n_l2, n_l3, n_l4, kg0, kg1, kg2, kl1, kl2, km0, km1, km2, km3, km4, km5, km6, km7, km8, kk1, kk2, kk3, kk4, kk6, kk7, kk8, kx0, kx1, kx2, kx3, kx4, ky2, ky3, ky4, reduceIte, Nat.reduceEqDiff, true_or, or_true, Int.reduceLE, Int.reduceLT, Int.reduceAdd, Int.reduceSub, Int.reduceMul, not_true_eq_false, not_false_eq_true, implies_true, nat_s, wr_id, uR_at, uR_uR, u1_at, u1_ne, uf_at, uf_ne, iltT, iltF, ileT, ieqT, ieqF]
        refine k1 _ ?_
        rw [ln _ (if_neg him).symm]
    · intro V' hV
      subst hV
      refine tG_at hd kNet_takeVote_89 ?_
      simp (disch := omega) only [bNet_takeVote_89, rn, sm, lg, lt_, cmpP, tk, pr_, pu, swl, cs, Nat.reduceAdd, Nat.reduceLeDiff, Nat.zero_le, Nat.le_refl, true_and, and_true, Int.toNat_natCast, Int.reduceToNat, Int.reduceEq, false_implies, true_implies, Int.reduceNeg, Int.cast_ofNat_Int, n_r0, n_r1, n_r2, n_r3, n_w3, n_r4, n_w4, n_r5, n_w5, n_r6, n_w6, n_r7, n_w7, n_r8, n_w8, n_r9, n_w9, n_r10, n_w10, n_all, n_mail, nP_ut, nP_um, n_m0, n_m1, n_m2, n_m3, n_m4, n_m5, n_u5, n_m6, n_u6, n_m7, n_u7, n_m8, n_u8, n_m9, n_u9, n_m10, n_u10, n_m11, n_u11, n_m12, n_u12, n_a1, n_b1, n_a2, n_b2, n_a3, n_b3, n_a4, n_b4, n_a6, n_b6, n_a7, n_b7, n_a8, n_b8, n_p0, n_p1, n_p2, n_p3, n_q3, n_p4, n_q4, n_g0, n_g1, n_h1, n_g2, n_h2, n_g3, n_h3, n_g4, n_h4, n_g5, n_h5, n_k0, n_k1, n_k2, n_k3, n_k4, n_l2, n_l3, n_l4, kg0, kg1, kg2, kl1, kl2, km0, km1, km2, km3, km4, km5, km6, km7, km8, kk1, kk2, kk3, kk4, kk6, kk7, kk8, kx0, kx1, kx2, kx3, kx4, ky2, ky3, ky4, reduceIte, Nat.reduceEqDiff, true_or, or_true, Int.reduceLE, Int.reduceLT, Int.reduceAdd, Int.reduceSub, Int.reduceMul, not_true_eq_false, not_false_eq_true, implies_true, nat_s, wr_id, uR_at, uR_uR, u1_at, u1_ne, uf_at, uf_ne, iltT, iltF, ileT, ieqT, ieqF, a0]
      refine tG_at hd kNet_takeVote_136 ?_
      simp (disch := omega) only [bNet_takeVote_136, rn, sm, lg, lt_, cmpP, tk, pr_, pu, swl, cs, Nat.reduceAdd, Nat.reduceLeDiff, Nat.zero_le, Nat.le_refl, true_and, and_true, Int.toNat_natCast, Int.reduceToNat, Int.reduceEq, false_implies, true_implies, Int.reduceNeg, Int.cast_ofNat_Int, n_r0, n_r1, n_r2, n_r3, n_w3, n_r4, n_w4, n_r5, n_w5, n_r6, n_w6, n_r7, n_w7, n_r8, n_w8, n_r9, n_w9, n_r10, n_w10, n_all, n_mail, nP_ut, nP_um, n_m0, n_m1, n_m2, n_m3, n_m4, n_m5, n_u5, n_m6, n_u6, n_m7, n_u7, n_m8, n_u8, n_m9, n_u9, n_m10, n_u10, n_m11, n_u11, n_m12, n_u12, n_a1, n_b1, n_a2, n_b2, n_a3, n_b3, n_a4, n_b4, n_a6, n_b6, n_a7, n_b7, n_a8, n_b8, n_p0, n_p1, n_p2, n_p3, n_q3, n_p4, n_q4, n_g0, n_g1, n_h1, n_g2, n_h2, n_g3, n_h3, n_g4, n_h4, n_g5, n_h5, n_k0, n_k1, n_k2, n_k3, n_k4, n_l2, n_l3, n_l4, kg0, kg1, kg2, kl1, kl2, km0, km1, km2, km3, km4, km5, km6, km7, km8, kk1, kk2, kk3, kk4, kk6, kk7, kk8, kx0, kx1, kx2, kx3, kx4, ky2, ky3, ky4, reduceIte, Nat.reduceEqDiff, true_or, or_true, Int.reduceLE, Int.reduceLT, Int.reduceAdd, Int.reduceSub, Int.reduceMul, not_true_eq_false, not_false_eq_true, implies_true, nat_s, wr_id, uR_at, uR_uR, u1_at, u1_ne, uf_at, uf_ne, iltT, iltF, ileT, ieqT, ieqF]
      refine k_writeRow (by omega) hN hm6 ?_
      refine tG_at hd kNet_takeVote_145 ?_
      simp (disch := omega) only [bNet_takeVote_145, rn, sm, lg, lt_, cmpP, tk, pr_, pu, swl, cs, Nat.reduceAdd, Nat.reduceLeDiff, Nat.zero_le, Nat.le_refl, true_and, and_true, Int.toNat_natCast, Int.reduceToNat, Int.reduceEq, false_implies, true_implies, Int.reduceNeg, Int.cast_ofNat_Int, n_r0, n_r1, n_r2, n_r3, n_w3, n_r4, n_w4, n_r5, n_w5, n_r6, n_w6, n_r7, n_w7, n_r8, n_w8, n_r9, n_w9, n_r10, n_w10, n_all, n_mail, nP_ut, nP_um, n_m0, n_m1, n_m2, n_m3, n_m4, n_m5, n_u5, n_m6, n_u6, n_m7, n_u7, n_m8, n_u8, n_m9, n_u9, n_m10, n_u10, n_m11, n_u11, n_m12, n_u12, n_a1, n_b1, n_a2, n_b2, n_a3, n_b3, n_a4, n_b4, n_a6, n_b6, n_a7, n_b7, n_a8, n_b8, n_p0, n_p1, n_p2, n_p3, n_q3, n_p4, n_q4, n_g0, n_g1, n_h1, n_g2, n_h2, n_g3, n_h3, n_g4, n_h4, n_g5, n_h5, n_k0, n_k1, n_k2, n_k3, n_k4, n_l2, n_l3, n_l4, kg0, kg1, kg2, kl1, kl2, km0, km1, km2, km3, km4, km5, km6, km7, km8, kk1, kk2, kk3, kk4, kk6, kk7, kk8, kx0, kx1, kx2, kx3, kx4, ky2, ky3, ky4, reduceIte, Nat.reduceEqDiff, true_or, or_true, Int.reduceLE, Int.reduceLT, Int.reduceAdd, Int.reduceSub, Int.reduceMul, not_true_eq_false, not_false_eq_true, implies_true, nat_s, wr_id, uR_at, uR_uR, u1_at, u1_ne, uf_at, uf_ne, iltT, iltF, ileT, ieqT, ieqF]
      refine k_collectFor (by omega) hN hm6 ?_
      refine tG_at hd kNet_takeVote_150 ?_
      simp (disch := omega) only [bNet_takeVote_150, rn, sm, lg, lt_, cmpP, tk, pr_, pu, swl, cs, Nat.reduceAdd, Nat.reduceLeDiff, Nat.zero_le, Nat.le_refl, true_and, and_true, Int.toNat_natCast, Int.reduceToNat, Int.reduceEq, false_implies, true_implies, Int.reduceNeg, Int.cast_ofNat_Int, n_r0, n_r1, n_r2, n_r3, n_w3, n_r4, n_w4, n_r5, n_w5, n_r6, n_w6, n_r7, n_w7, n_r8, n_w8, n_r9, n_w9, n_r10, n_w10, n_all, n_mail, nP_ut, nP_um, n_m0, n_m1, n_m2, n_m3, n_m4, n_m5, n_u5, n_m6, n_u6, n_m7, n_u7, n_m8, n_u8, n_m9, n_u9, n_m10, n_u10, n_m11, n_u11, n_m12, n_u12, n_a1, n_b1, n_a2, n_b2, n_a3, n_b3, n_a4, n_b4, n_a6, n_b6, n_a7, n_b7, n_a8, n_b8, n_p0, n_p1, n_p2, n_p3, n_q3, n_p4, n_q4, n_g0, n_g1, n_h1, n_g2, n_h2, n_g3, n_h3, n_g4, n_h4, n_g5, n_h5, n_k0, n_k1, n_k2, n_k3, n_k4, n_l2, n_l3, n_l4, kg0, kg1, kg2, kl1, kl2, km0, km1, km2, km3, km4, km5, km6, km7, km8, kk1, kk2, kk3, kk4, kk6, kk7, kk8, kx0, kx1, kx2, kx3, kx4, ky2, ky3, ky4, reduceIte, Nat.reduceEqDiff, true_or, or_true, Int.reduceLE, Int.reduceLT, Int.reduceAdd, Int.reduceSub, Int.reduceMul, not_true_eq_false, not_false_eq_true, implies_true, nat_s, wr_id, uR_at, uR_uR, u1_at, u1_ne, uf_at, uf_ne, iltT, iltF, ileT, ieqT, ieqF, s1, a2]
      refine k_comeIn (by omega) hN hm6 ?_
      refine tG_at hd kNet_takeVote_171 ?_
      simp (disch := omega) only [bNet_takeVote_171, rn, sm, lg, lt_, cmpP, tk, pr_, pu, swl, cs, Nat.reduceAdd, Nat.reduceLeDiff, Nat.zero_le, Nat.le_refl, true_and, and_true, Int.toNat_natCast, Int.reduceToNat, Int.reduceEq, false_implies, true_implies, Int.reduceNeg, Int.cast_ofNat_Int, n_r0, n_r1, n_r2, n_r3, n_w3, n_r4, n_w4, n_r5, n_w5, n_r6, n_w6, n_r7, n_w7, n_r8, n_w8, n_r9, n_w9, n_r10, n_w10, n_all, n_mail, nP_ut, nP_um, n_m0, n_m1, n_m2, n_m3, n_m4, n_m5, n_u5, n_m6, n_u6, n_m7, n_u7, n_m8, n_u8, n_m9, n_u9, n_m10, n_u10, n_m11, n_u11, n_m12, n_u12, n_a1, n_b1, n_a2, n_b2, n_a3, n_b3, n_a4, n_b4, n_a6, n_b6, n_a7, n_b7, n_a8, n_b8, n_p0, n_p1, n_p2, n_p3, n_q3, n_p4, n_q4, n_g0, n_g1, n_h1, n_g2, n_h2, n_g3, n_h3, n_g4, n_h4, n_g5, n_h5, n_k0, n_k1, n_k2, n_k3, n_k4, n_l2, n_l3, n_l4, kg0, kg1, kg2, kl1, kl2, km0, km1, km2, km3, km4, km5, km6, km7, km8, kk1, kk2, kk3, kk4, kk6, kk7, kk8, kx0, kx1, kx2, kx3, kx4, ky2, ky3, ky4, reduceIte, Nat.reduceEqDiff, true_or, or_true, Int.reduceLE, Int.reduceLT, Int.reduceAdd, Int.reduceSub, Int.reduceMul, not_true_eq_false, not_false_eq_true, implies_true, nat_s, wr_id, uR_at, uR_uR, u1_at, u1_ne, uf_at, uf_ne, iltT, iltF, ileT, ieqT, ieqF]
      refine hq _ _ _ (hR.set (fun j hj => ?_) (u1_ne (by omega)) ?_ hb2 (Or.inl rfl) (Or.inr rfl)) ?_ u1_at rfl
      · rw [u1_ne (by omega)]
        by_cases h : j = 2
        · subst h
          rw [u1_at, u1_at]
        · rw [u1_ne h, u1_ne h]
          exact rA j hj
      · rw [u1_ne (by omega), u1_ne (by omega)]
        exact ⟨rW.1, by have := rW.2; omega⟩
      · show u1 (u1 A 2 _) 7 _ 6 = A 6 + 0
        rw [u1_ne (by omega), u1_ne (by omega)]
        omega
    · rw [show lstC m (r 3) b1 0 = begP (r 3) b1 from funext fun j => if_neg (by omega)]
  refine tC_enter (nL := 4) (by decide +kernel) (by decide +kernel) rfl (Nat.le_of_ble_eq_true rfl) (fun hok => ?_)
  simp only [ent]
  by_cases h4 : X.2.1 m 4 = r 3
  · by_cases h1 : X.2.1 m 1 = r 3
    · have hno : ¬ (X.2.1 m 4 ≠ r 3 ∨ X.2.1 m 1 ≠ r 3) := fun h => h.elim (fun h => h h4) (fun h => h h1)
      refine tG_at hd kNet_takeVote_0 ?_
      simp (disch := omega) only [bNet_takeVote_0, rn, sm, lg, lt_, cmpP, tk, pr_, pu, swl, cs, Nat.reduceAdd, Nat.reduceLeDiff, Nat.zero_le, Nat.le_refl, true_and, and_true, Int.toNat_natCast, Int.reduceToNat, Int.reduceEq, false_implies, true_implies, Int.reduceNeg, Int.cast_ofNat_Int, n_r0, n_r1, n_r2, n_r3, n_w3, n_r4, n_w4, n_r5, n_w5, n_r6, n_w6, n_r7, n_w7, n_r8, n_w8, n_r9, n_w9, n_r10, n_w10, n_all, n_mail, nP_ut, nP_um, n_m0, n_m1, n_m2, n_m3, n_m4, n_m5, n_u5, n_m6, n_u6, n_m7, n_u7, n_m8, n_u8, n_m9, n_u9, n_m10, n_u10, n_m11, n_u11, n_m12, n_u12, n_a1, n_b1, n_a2, n_b2, n_a3, n_b3, n_a4, n_b4, n_a6, n_b6, n_a7, n_b7, n_a8, n_b8, n_p0, n_p1, n_p2, n_p3, n_q3, n_p4, n_q4, n_g0, n_g1, n_h1, n_g2, n_h2, n_g3, n_h3, n_g4, n_h4, n_g5, n_h5, n_k0, n_k1, n_k2, n_k3, n_k4, n_l2, n_l3, n_l4, kg0, kg1, kg2, kl1, kl2, km0, km1, km2, km3, km4, km5, km6, km7, km8, kk1, kk2, kk3, kk4, kk6, kk7, kk8, kx0, kx1, kx2, kx3, kx4, ky2, ky3, ky4, reduceIte, Nat.reduceEqDiff, true_or, or_true, Int.reduceLE, Int.reduceLT, Int.reduceAdd, Int.reduceSub, Int.reduceMul, not_true_eq_false, not_false_eq_true, implies_true, nat_s, wr_id, uR_at, uR_uR, u1_at, u1_ne, uf_at, uf_ne, iltT, iltF, ileT, ieqT, ieqF, s3, e4]
      refine tG_at hd kNet_takeVote_16 ?_
      simp (disch := omega) only [bNet_takeVote_16, rn, sm, lg, lt_, cmpP, tk, pr_, pu, swl, cs, Nat.reduceAdd, Nat.reduceLeDiff, Nat.zero_le, Nat.le_refl, true_and, and_true, Int.toNat_natCast, Int.reduceToNat, Int.reduceEq, false_implies, true_implies, Int.reduceNeg, Int.cast_ofNat_Int, n_r0, n_r1, n_r2, n_r3, n_w3, n_r4, n_w4, n_r5, n_w5, n_r6, n_w6, n_r7, n_w7, n_r8, n_w8, n_r9, n_w9, n_r10, n_w10, n_all, n_mail, nP_ut, nP_um, n_m0, n_m1, n_m2, n_m3, n_m4, n_m5, n_u5, n_m6, n_u6, n_m7, n_u7, n_m8, n_u8, n_m9, n_u9, n_m10, n_u10, n_m11, n_u11, n_m12, n_u12, n_a1, n_b1, n_a2, n_b2, n_a3, n_b3, n_a4, n_b4, n_a6, n_b6, n_a7, n_b7, n_a8, n_b8, n_p0, n_p1, n_p2, n_p3, n_q3, n_p4, n_q4, n_g0, n_g1, n_h1, n_g2, n_h2, n_g3, n_h3, n_g4, n_h4, n_g5, n_h5, n_k0, n_k1, n_k2, n_k3, n_k4, n_l2, n_l3, n_l4, kg0, kg1, kg2, kl1, kl2, km0, km1, km2, km3, km4, km5, km6, km7, km8, kk1, kk2, kk3, kk4, kk6, kk7, kk8, kx0, kx1, kx2, kx3, kx4, ky2, ky3, ky4, reduceIte, Nat.reduceEqDiff, true_or, or_true, Int.reduceLE, Int.reduceLT, Int.reduceAdd, Int.reduceSub, Int.reduceMul, not_true_eq_false, not_false_eq_true, implies_true, nat_s, wr_id, uR_at, uR_uR, u1_at, u1_ne, uf_at, uf_ne, iltT, iltF, ileT, ieqT, ieqF, e1]
      refine tG_at hd kNet_takeVote_25 ?_
      simp (disch := omega) only [bNet_takeVote_25, rn, sm, lg, lt_, cmpP, tk, pr_, pu, swl, cs, Nat.reduceAdd, Nat.reduceLeDiff, Nat.zero_le, Nat.le_refl, true_and, and_true, Int.toNat_natCast, Int.reduceToNat, Int.reduceEq, false_implies, true_implies, Int.reduceNeg, Int.cast_ofNat_Int, n_r0, n_r1, n_r2, n_r3, n_w3, n_r4, n_w4, n_r5, n_w5, n_r6, n_w6, n_r7, n_w7, n_r8, n_w8, n_r9, n_w9, n_r10, n_w10, n_all, n_mail, nP_ut, nP_um, n_m0, n_m1, n_m2, n_m3, n_m4, n_m5, n_u5, n_m6, n_u6, n_m7, n_u7, n_m8, n_u8, n_m9, n_u9, n_m10, n_u10, n_m11, n_u11, n_m12, n_u12, n_a1, n_b1, n_a2, n_b2, n_a3, n_b3, n_a4, n_b4, n_a6, n_b6, n_a7, n_b7, n_a8, n_b8, n_p0, n_p1, n_p2, n_p3, n_q3, n_p4, n_q4, n_g0, n_g1, n_h1, n_g2, n_h2, n_g3, n_h3, n_g4, n_h4, n_g5, n_h5, n_k0, n_k1, n_k2, n_k3, n_k4, n_l2, n_l3, n_l4, kg0, kg1, kg2, kl1, kl2, km0, km1, km2, km3, km4, km5, km6, km7, km8, kk1, kk2, kk3, kk4, kk6, kk7, kk8, kx0, kx1, kx2, kx3, kx4, ky2, ky3, ky4, reduceIte, Nat.reduceEqDiff, true_or, or_true, Int.reduceLE, Int.reduceLT, Int.reduceAdd, Int.reduceSub, Int.reduceMul, not_true_eq_false, not_false_eq_true, implies_true, nat_s, wr_id, uR_at, uR_uR, u1_at, u1_ne, uf_at, uf_ne, iltT, iltF, ileT, ieqT, ieqF, s0, s4, e5, hbo.1]
      rw [← hb1e]
      refine k_bitCount (by omega) hz6 ?_
      by_cases hzz : z = 2 ^ n - 1 - 2 ^ m
      · have hp : ¬ pop z + 1 < n := fun h => (hall.mp h) hzz
        refine tG_at hd kNet_takeVote_69 ?_
        simp (disch := omega) only [bNet_takeVote_69, rn, sm, lg, lt_, cmpP, tk, pr_, pu, swl, cs, Nat.reduceAdd, Nat.reduceLeDiff, Nat.zero_le, Nat.le_refl, true_and, and_true, Int.toNat_natCast, Int.reduceToNat, Int.reduceEq, false_implies, true_implies, Int.reduceNeg, Int.cast_ofNat_Int, n_r0, n_r1, n_r2, n_r3, n_w3, n_r4, n_w4, n_r5, n_w5, n_r6, n_w6, n_r7, n_w7, n_r8, n_w8, n_r9, n_w9, n_r10, n_w10, n_all, n_mail, nP_ut, nP_um, n_m0, n_m1, n_m2, n_m3, n_m4, n_m5, n_u5, n_m6, n_u6, n_m7, n_u7, n_m8, n_u8, n_m9, n_u9, n_m10, n_u10, n_m11, n_u11, n_m12, n_u12, n_a1, n_b1, n_a2, n_b2, n_a3, n_b3, n_a4, n_b4, n_a6, n_b6, n_a7, n_b7, n_a8, n_b8, n_p0, n_p1, n_p2, n_p3, n_q3, n_p4, n_q4, n_g0, n_g1, n_h1, n_g2, n_h2, n_g3, n_h3, n_g4, n_h4, n_g5, n_h5, n_k0, n_k1, n_k2, n_k3, n_k4, n_l2, n_l3, n_l4, kg0, kg1, kg2, kl1, kl2, km0, km1, km2, km3, km4, km5, km6, km7, km8, kk1, kk2, kk3, kk4, kk6, kk7, kk8, kx0, kx1, kx2, kx3, kx4, ky2, ky3, ky4, reduceIte, Nat.reduceEqDiff, true_or, or_true, Int.reduceLE, Int.reduceLT, Int.reduceAdd, Int.reduceSub, Int.reduceMul, not_true_eq_false, not_false_eq_true, implies_true, nat_s, wr_id, uR_at, uR_uR, u1_at, u1_ne, uf_at, uf_ne, iltT, iltF, ileT, ieqT, ieqF, a0]
        exact k79 hno hzz
      · have hp : pop z + 1 < n := hall.mpr hzz
        refine tG_at hd kNet_takeVote_69 ?_
        simp (disch := omega) only [bNet_takeVote_69, rn, sm, lg, lt_, cmpP, tk, pr_, pu, swl, cs, Nat.reduceAdd, Nat.reduceLeDiff, Nat.zero_le, Nat.le_refl, true_and, and_true, Int.toNat_natCast, Int.reduceToNat, Int.reduceEq, false_implies, true_implies, Int.reduceNeg, Int.cast_ofNat_Int, n_r0, n_r1, n_r2, n_r3, n_w3, n_r4, n_w4, n_r5, n_w5, n_r6, n_w6, n_r7, n_w7, n_r8, n_w8, n_r9, n_w9, n_r10, n_w10, n_all, n_mail, nP_ut, nP_um, n_m0, n_m1, n_m2, n_m3, n_m4, n_m5, n_u5, n_m6, n_u6, n_m7, n_u7, n_m8, n_u8, n_m9, n_u9, n_m10, n_u10, n_m11, n_u11, n_m12, n_u12, n_a1, n_b1, n_a2, n_b2, n_a3, n_b3, n_a4, n_b4, n_a6, n_b6, n_a7, n_b7, n_a8, n_b8, n_p0, n_p1, n_p2, n_p3, n_q3, n_p4, n_q4, n_g0, n_g1, n_h1, n_g2, n_h2, n_g3, n_h3, n_g4, n_h4, n_g5, n_h5, n_k0, n_k1, n_k2, n_k3, n_k4, n_l2, n_l3, n_l4, kg0, kg1, kg2, kl1, kl2, km0, km1, km2, km3, km4, km5, km6, km7, km8, kk1, kk2, kk3, kk4, kk6, kk7, kk8, kx0, kx1, kx2, kx3, kx4, ky2, ky3, ky4, reduceIte, Nat.reduceEqDiff, true_or, or_true, Int.reduceLE, Int.reduceLT, Int.reduceAdd, Int.reduceSub, Int.reduceMul, not_true_eq_false, not_false_eq_true, implies_true, nat_s, wr_id, uR_at, uR_uR, u1_at, u1_ne, uf_at, uf_ne, iltT, iltF, ileT, ieqT, ieqF, a0]
        refine tG_at hd kNet_takeVote_78 ?_
        simp (disch := omega) only [bNet_takeVote_78, rn, sm, lg, lt_, cmpP, tk, pr_, pu, swl, cs, Nat.reduceAdd, Nat.reduceLeDiff, Nat.zero_le, Nat.le_refl, true_and, and_true, Int.toNat_natCast, Int.reduceToNat, Int.reduceEq, false_implies, true_implies, Int.reduceNeg, Int.cast_ofNat_Int, n_r0, n_r1, n_r2, n_r3, n_w3, n_r4, n_w4, n_r5, n_w5, n_r6, n_w6, n_r7, n_w7, n_r8, n_w8, n_r9, n_w9, n_r10, n_w10, n_all, n_mail, nP_ut, nP_um, n_m0, n_m1, n_m2, n_m3, n_m4, n_m5, n_u5, n_m6, n_u6, n_m7, n_u7, n_m8, n_u8, n_m9, n_u9, n_m10, n_u10, n_m11, n_u11, n_m12, n_u12, n_a1, n_b1, n_a2, n_b2, n_a3, n_b3, n_a4, n_b4, n_a6, n_b6, n_a7, n_b7, n_a8, n_b8, n_p0, n_p1, n_p2, n_p3, n_q3, n_p4, n_q4, n_g0, n_g1, n_h1, n_g2, n_h2, n_g3, n_h3, n_g4, n_h4, n_g5, n_h5, n_k0, n_k1, n_k2, n_k3, n_k4, n_l2, n_l3, n_l4, kg0, kg1, kg2, kl1, kl2, km0, km1, km2, km3, km4, km5, km6, km7, km8, kk1, kk2, kk3, kk4, kk6, kk7, kk8, kx0, kx1, kx2, kx3, kx4, ky2, ky3, ky4, reduceIte, Nat.reduceEqDiff, true_or, or_true, Int.reduceLE, Int.reduceLT, Int.reduceAdd, Int.reduceSub, Int.reduceMul, not_true_eq_false, not_false_eq_true, implies_true, nat_s, wr_id, uR_at, uR_uR, u1_at, u1_ne, uf_at, uf_ne, iltT, iltF, ileT, ieqT, ieqF]
        have hF : votedF n m a (r 3) (r 4) X 0 c = (0, (X.1, uR X.2.1 m (votR a (r 4) (X.2.1 m)), X.2.2), 0, c) := by
          unfold votedF
          rw [if_neg hno, if_pos (by rw [v5, allV_eq hn6 hm]; omega)]
        rw [hF] at hq
        refine hq _ _ _ (hR.set rA rfl ⟨rW.1, by have := rW.2; omega⟩ hb1 (by rw [vlo _ (by omega) (by omega)]; exact i3) (by rw [vlo _ (by omega) (by omega)]; exact i4)) ?_ hc rfl
        show A 6 = A 6 + 0
        omega
    · refine tG_at hd kNet_takeVote_0 ?_
      simp (disch := omega) only [bNet_takeVote_0, rn, sm, lg, lt_, cmpP, tk, pr_, pu, swl, cs, Nat.reduceAdd, Nat.reduceLeDiff, Nat.zero_le, Nat.le_refl, true_and, and_true, Int.toNat_natCast, Int.reduceToNat, Int.reduceEq, false_implies, true_implies, Int.reduceNeg, Int.cast_ofNat_Int, n_r0, n_r1, n_r2, n_r3, n_w3, n_r4, n_w4, n_r5, n_w5, n_r6, n_w6, n_r7, n_w7, n_r8, n_w8, n_r9, n_w9, n_r10, n_w10, n_all, n_mail, nP_ut, nP_um, n_m0, n_m1, n_m2, n_m3, n_m4, n_m5, n_u5, n_m6, n_u6, n_m7, n_u7, n_m8, n_u8, n_m9, n_u9, n_m10, n_u10, n_m11, n_u11, n_m12, n_u12, n_a1, n_b1, n_a2, n_b2, n_a3, n_b3, n_a4, n_b4, n_a6, n_b6, n_a7, n_b7, n_a8, n_b8, n_p0, n_p1, n_p2, n_p3, n_q3, n_p4, n_q4, n_g0, n_g1, n_h1, n_g2, n_h2, n_g3, n_h3, n_g4, n_h4, n_g5, n_h5, n_k0, n_k1, n_k2, n_k3, n_k4, n_l2, n_l3, n_l4, kg0, kg1, kg2, kl1, kl2, km0, km1, km2, km3, km4, km5, km6, km7, km8, kk1, kk2, kk3, kk4, kk6, kk7, kk8, kx0, kx1, kx2, kx3, kx4, ky2, ky3, ky4, reduceIte, Nat.reduceEqDiff, true_or, or_true, Int.reduceLE, Int.reduceLT, Int.reduceAdd, Int.reduceSub, Int.reduceMul, not_true_eq_false, not_false_eq_true, implies_true, nat_s, wr_id, uR_at, uR_uR, u1_at, u1_ne, uf_at, uf_ne, iltT, iltF, ileT, ieqT, ieqF, s3, e4]
      refine tG_at hd kNet_takeVote_16 ?_
      simp (disch := omega) only [bNet_takeVote_16, rn, sm, lg, lt_, cmpP, tk, pr_, pu, swl, cs, Nat.reduceAdd, Nat.reduceLeDiff, Nat.zero_le, Nat.le_refl, true_and, and_true, Int.toNat_natCast, Int.reduceToNat, Int.reduceEq, false_implies, true_implies, Int.reduceNeg, Int.cast_ofNat_Int, n_r0, n_r1, n_r2, n_r3, n_w3, n_r4, n_w4, n_r5, n_w5, n_r6, n_w6, n_r7, n_w7, n_r8, n_w8, n_r9, n_w9, n_r10, n_w10, n_all, n_mail, nP_ut, nP_um, n_m0, n_m1, n_m2, n_m3, n_m4, n_m5, n_u5, n_m6, n_u6, n_m7, n_u7, n_m8, n_u8, n_m9, n_u9, n_m10, n_u10, n_m11, n_u11, n_m12, n_u12, n_a1, n_b1, n_a2, n_b2, n_a3, n_b3, n_a4, n_b4, n_a6, n_b6, n_a7, n_b7, n_a8, n_b8, n_p0, n_p1, n_p2, n_p3, n_q3, n_p4, n_q4, n_g0, n_g1, n_h1, n_g2, n_h2, n_g3, n_h3, n_g4, n_h4, n_g5, n_h5, n_k0, n_k1, n_k2, n_k3, n_k4, n_l2, n_l3, n_l4, kg0, kg1, kg2, kl1, kl2, km0, km1, km2, km3, km4, km5, km6, km7, km8, kk1, kk2, kk3, kk4, kk6, kk7, kk8, kx0, kx1, kx2, kx3, kx4, ky2, ky3, ky4, reduceIte, Nat.reduceEqDiff, true_or, or_true, Int.reduceLE, Int.reduceLT, Int.reduceAdd, Int.reduceSub, Int.reduceMul, not_true_eq_false, not_false_eq_true, implies_true, nat_s, wr_id, uR_at, uR_uR, u1_at, u1_ne, uf_at, uf_ne, iltT, iltF, ileT, ieqT, ieqF, e1]
      exact k24 (Or.inr h1)
  · refine tG_at hd kNet_takeVote_0 ?_
    simp (disch := omega) only [bNet_takeVote_0, rn, sm, lg, lt_, cmpP, tk, pr_, pu, swl, cs, Nat.reduceAdd, Nat.reduceLeDiff, Nat.zero_le, Nat.le_refl, true_and, and_true, Int.toNat_natCast, Int.reduceToNat, Int.reduceEq, false_implies, true_implies, Int.reduceNeg, Int.cast_ofNat_Int, n_r0, n_r1, n_r2, n_r3, n_w3, n_r4, n_w4, n_r5, n_w5, n_r6, n_w6, n_r7, n_w7, n_r8, n_w8, n_r9, n_w9, n_r10, n_w10, n_all, n_mail, nP_ut, nP_um, n_m0, n_m1, n_m2, n_m3, n_m4, n_m5, n_u5, n_m6, n_u6, n_m7, n_u7, n_m8, n_u8, n_m9, n_u9, n_m10, n_u10, n_m11, n_u11, n_m12, n_u12, n_a1, n_b1, n_a2, n_b2, n_a3, n_b3, n_a4, n_b4, n_a6, n_b6, n_a7, n_b7, n_a8, n_b8, n_p0, n_p1, n_p2, n_p3, n_q3, n_p4, n_q4, n_g0, n_g1, n_h1, n_g2, n_h2, n_g3, n_h3, n_g4, n_h4, n_g5, n_h5, n_k0, n_k1, n_k2, n_k3, n_k4, n_l2, n_l3, n_l4, kg0, kg1, kg2, kl1, kl2, km0, km1, km2, km3, km4, km5, km6, km7, km8, kk1, kk2, kk3, kk4, kk6, kk7, kk8, kx0, kx1, kx2, kx3, kx4, ky2, ky3, ky4, reduceIte, Nat.reduceEqDiff, true_or, or_true, Int.reduceLE, Int.reduceLT, Int.reduceAdd, Int.reduceSub, Int.reduceMul, not_true_eq_false, not_false_eq_true, implies_true, nat_s, wr_id, uR_at, uR_uR, u1_at, u1_ne, uf_at, uf_ne, iltT, iltF, ileT, ieqT, ieqF, s3, e4]
    exact k24 (Or.inl h4)
end NC
