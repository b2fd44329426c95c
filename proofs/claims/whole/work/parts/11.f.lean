/-! THE CLASS: the pass is handed on -/
section RL
variable {n W m k L : Nat} {A : Nat → Int} {B S : Nat → Nat → Int} {q : Nat → Nat} {X : NT} {b b' : Nat → Int}
theorem RN.set (h : RN n W A B S q X) {W' : Nat} {A' A1 : Nat → Int} (hA : ∀ j, j < 6 → A' j = A1 j) (h5 : A1 5 = X.1 5) (h6 : 0 ≤ A' 6 ∧ A' 6 ≤ (W' : Int)) (hb : RB m b' b) (h2 : b 2 = 0 ∨ b 2 = 1) (h3 : b 3 = 0 ∨ b 3 = 1) : RN n W' A' (uR B m b') S q (A1, uR X.2.1 m b, X.2.2) := by
  obtain ⟨rA, rW, rB, rM, rQ, rL⟩ := h
  refine ⟨hA, h6, fun i hi => ?_, fun j hj => rM j ?_, rQ, fun i hi => ?_⟩
  · show RB i (uR B m b' i) (uR X.2.1 m b i)
    by_cases him : i = m
    · subst him
      rw [uR_at, uR_at]
      exact hb
    · rw [uR_ne him, uR_ne him]
      exact rB i hi
  · have hj : (j : Int) < A1 5 := hj
    omega
  · by_cases him : i = m
    · subst him
      rw [uR_at, hb.1 2 (by omega), hb.1 3 (by omega), hb.2.2.1]
      refine ⟨h2, h3, ?_⟩
      split
      · exact Or.inr rfl
      · exact Or.inl rfl
    · rw [uR_ne him]
      exact rL i hi
theorem outQ_lo {j : Nat} (h6 : L ≤ 6) (hj : j < 31 ∨ (32 ≤ j ∧ j < 38) ∨ 50 ≤ j) : outQ b k L j = b j := by
  unfold outQ outP
  rw [if_neg (by omega), if_neg (by omega)]
theorem outQ_q (h6 : L ≤ 6) {i : Nat} (hi : i < L - 1) : outQ b k L (38 + i) = b (38 + (if i < k then i else i + 1)) ∧ outQ b k L (44 + i) = b (44 + (if i < k then i else i + 1)) := by
  refine ⟨?_, ?_⟩ <;> (unfold outQ outP; grind)
theorem RB.out (h : RB m b' b) (h0 : 0 < b 30) (hL : b 31 = (L : Int)) (h6 : L ≤ 6) (hk : k < L) (hm : m < 6) : RB m (outQ b' k L) (outR b k) := by
  obtain ⟨h1, h2, h3, h4, h5⟩ := h
  obtain ⟨h7, h8⟩ := h4 h0
  obtain ⟨o1, o2⟩ := outR_q hL hk h6
  have oq := fun {i : Nat} (hi : i < L - 1) => outQ_q (b := b') (k := k) h6 hi
  have lo : ∀ j, j < 31 ∨ (32 ≤ j ∧ j < 38) ∨ 50 ≤ j → outQ b' k L j = b' j := fun j hj => outQ_lo h6 hj
  have lr : ∀ j, j < 31 ∨ (32 ≤ j ∧ j < 38) ∨ j = 30 ∨ 50 ≤ j → outR b k j = b j := fun j hj => outR_lo hj
  refine ⟨fun j hj => by rw [lo j (by omega), lr j (by omega)]; exact h1 j hj, by rw [lo 51 (by omega), lr (6 + m) (by omega)]; exact h2, by rw [lo 50 (by omega), lr 30 (by omega)]; exact h3, fun _ => ⟨fun j j1 j2 => ?_, fun i hi => ?_⟩, fun a ha hv => ?_⟩
  · by_cases hj : j = 31
    · subst hj
      rw [o1]
      exact if_pos rfl
    · rw [lo j (by omega), lr j (by omega)]
      exact h7 j j1 j2
  · rw [o1] at hi
    have hi : i < L - 1 := by omega
    rw [(oq hi).1, (oq hi).2, (o2 i hi).1, (o2 i hi).2]
    split
    · exact h8 _ (by omega)
    · exact h8 _ (by omega)
  · rw [lr 5 (by omega)] at hv
    rw [lo _ (by omega), lr _ (by omega)]
    exact h5 a ha hv
theorem RB.inn (h : RB m b' b) (h0 : 0 < b 30) (hL : b 31 = (L : Int)) (h6 : L < 6) (hm : m < 6) {x : Int} : RB m (inR b' x) (inR b x) := by
  obtain ⟨h1, h2, h3, h4, h5⟩ := h
  obtain ⟨h7, h8⟩ := h4 h0
  have hL' : b' 31 = (L : Int) := (h7 31 (by omega) (by omega)).trans hL
  obtain ⟨o1, o2, o3, o4⟩ := inR_q (x := x) hL h6
  obtain ⟨p1, p2, p3, p4⟩ := inR_q (x := x) hL' h6
  have lo : ∀ j, j < 31 ∨ (32 ≤ j ∧ j < 38) → inR b' x j = b' j := fun j hj => inR_lo hj
  have lr : ∀ j, j < 31 ∨ (32 ≤ j ∧ j < 38) → inR b x j = b j := fun j hj => inR_lo hj
  have hi' : ∀ j, 50 ≤ j → inR b' x j = b' j := fun j hj => by
    unfold inR
    rw [hL', Int.toNat_natCast, if_neg (by omega), if_neg (by omega), if_neg (by omega)]
  refine ⟨fun j hj => by rw [lo j (by omega), lr j (by omega)]; exact h1 j hj, by rw [hi' 51 (by omega), lr (6 + m) (by omega)]; exact h2, by rw [hi' 50 (by omega), lr 30 (by omega)]; exact h3, fun _ => ⟨fun j j1 j2 => ?_, fun i hi => ?_⟩, fun a ha hv => ?_⟩
  · by_cases hj : j = 31
    · subst hj
      rw [o1, p1]
    · rw [lo j (by omega), lr j (by omega)]
      exact h7 j j1 j2
  · rw [o1] at hi
    by_cases hiL : i = L
    · subst hiL
      rw [o2, p2, o3, p3]
      exact ⟨rfl, rfl⟩
    · have h9 := h8 i (by omega)
      rw [(o4 i (by omega)).1, (o4 i (by omega)).2, (p4 i (by omega)).1, (p4 i (by omega)).2]
      exact h9
  · rw [lr 5 (by omega)] at hv
    rw [lo _ (by omega), lr _ (by omega)]
    exact h5 a ha hv
theorem RB.wt (h : RB m b' b) (h0 : 0 < b 30) (hL : b 31 = (L : Int)) (h6 : L ≤ 6) (hm : m < 6) : RB m (wtR b') (wtR b) := by
  obtain ⟨h1, h2, h3, h4, h5⟩ := h
  obtain ⟨h7, h8⟩ := h4 h0
  have hL' : b' 31 = (L : Int) := (h7 31 (by omega) (by omega)).trans hL
  have lo : ∀ j, j < 44 ∨ 50 ≤ j → wtR b' j = b' j := fun j hj => wtR_lo hj
  have lr : ∀ j, j < 44 ∨ 50 ≤ j → wtR b j = b j := fun j hj => wtR_lo hj
  refine ⟨fun j hj => by rw [lo j (by omega), lr j (by omega)]; exact h1 j hj, by rw [lo 51 (by omega), lr (6 + m) (by omega)]; exact h2, by rw [lo 50 (by omega), lr 30 (by omega)]; exact h3, fun _ => ⟨fun j j1 j2 => ?_, fun i hi => ?_⟩, fun a ha hv => ?_⟩
  · rw [lo j (by omega), lr j (by omega)]
    exact h7 j j1 j2
  · rw [lr 31 (by omega)] at hi
    have h9 := h8 i hi
    rw [lo (38 + i) (by omega), lr (38 + i) (by omega)]
    refine ⟨h9.1, ?_⟩
    unfold wtR
    rw [hL, hL', Int.toNat_natCast, if_pos (by omega), if_pos (by omega), h9.2]
  · rw [lr 5 (by omega)] at hv
    rw [lo _ (by omega), lr _ (by omega)]
    exact h5 a ha hv
theorem RB.rw_ (h : RB m b' b) (h0 : 0 < b 30) (h6 : b 31 ≤ 6) (hm : m < 6) : RB m (rowR b') (rowR b) := by
  obtain ⟨h1, h2, h3, h4, h5⟩ := h
  obtain ⟨h7, h8⟩ := h4 h0
  have lo : ∀ j, j < 18 ∨ 24 ≤ j → rowR b' j = b' j := fun j hj => rowR_lo hj
  have lr : ∀ j, j < 18 ∨ 24 ≤ j → rowR b j = b j := fun j hj => rowR_lo hj
  refine ⟨fun j hj => ?_, by rw [lo 51 (by omega), lr (6 + m) (by omega)]; exact h2, by rw [lo 50 (by omega), lr 30 (by omega)]; exact h3, fun _ => ⟨fun j j1 j2 => ?_, fun i hi => ?_⟩, fun a ha hv => ?_⟩
  · by_cases hj8 : 18 ≤ j
    · unfold rowR
      rw [if_pos ⟨hj8, hj⟩, if_pos ⟨hj8, hj⟩]
      exact h7 _ (by omega) (by omega)
    · rw [lo j (by omega), lr j (by omega)]
      exact h1 j hj
  · rw [lo j (by omega), lr j (by omega)]
    exact h7 j j1 j2
  · rw [lr 31 (by omega)] at hi
    rw [lo (38 + i) (by omega), lr (38 + i) (by omega), lo (44 + i) (by omega), lr (44 + i) (by omega)]
    exact h8 i hi
  · rw [lr 5 (by omega)] at hv
    rw [lo _ (by omega), lr _ (by omega)]
    exact h5 a ha hv
theorem RB.los (h : RB m b' b) (hm : m < 6) : RB m (u1 b' 50 0) (zrow b 30 50) := by
  obtain ⟨h1, h2, h3, h4, h5⟩ := h
  have lr : ∀ j, j < 30 → zrow b 30 50 j = b j := fun j hj => if_neg (by omega)
  have l30 : zrow b 30 50 30 = 0 := if_pos (by omega)
  refine ⟨fun j hj => by rw [u1_ne (by omega), lr j (by omega)]; exact h1 j hj, by rw [u1_ne (by omega), lr (6 + m) (by omega)]; exact h2, by rw [u1_at, l30]; rfl, fun h => by omega, fun a ha hv => ?_⟩
  rw [lr 5 (by omega)] at hv
  rw [u1_ne (by omega), lr _ (by omega)]
  exact h5 a ha hv
theorem pfd_cg {x : Int} : ∀ r k, (∀ i, k ≤ i → i < k + r → b' (38 + i) = b (38 + i)) → pfd b' x k r = pfd b x k r
  | 0, k, _ => rfl
  | r + 1, k, h => by
    unfold pfd
    rw [h k (by omega) (by omega), pfd_cg r (k + 1) (fun i h1 h2 => h i (by omega) (by omega))]
theorem RB.pl (h : RB m b' b) (h0 : 0 < b 30) {x : Int} : plc b' x = plc b x := by
  obtain ⟨h1, h2, h3, h4, h5⟩ := h
  obtain ⟨h7, h8⟩ := h4 h0
  show pfd b' x 0 (b' 31).toNat = pfd b x 0 (b 31).toNat
  rw [h7 31 (by omega) (by omega)]
  exact pfd_cg _ _ (fun i _ hi => (h8 i (by omega)).1)
theorem bst_cg : ∀ k, (∀ i, i ≤ k → urg b' i = urg b i) → bst b' k = bst b k
  | 0, _ => rfl
  | k + 1, h => by
    have ih := bst_cg k (fun i hi => h i (by omega))
    have := bst_le b k
    unfold bst
    rw [ih, h (k + 1) (by omega), h (bst b k) (by omega)]
theorem RB.qi (h : RB m b' b) (h0 : 0 < b 30) (hQ : QI n W b L) : QI n W b' L := by
  obtain ⟨h1, h2, h3, h4, h5⟩ := h
  obtain ⟨h7, h8⟩ := h4 h0
  obtain ⟨q1, q2, q3, q4⟩ := hQ
  have e : ∀ i, i < L → b' (38 + i) = b (38 + i) ∧ b' (44 + i) = b (44 + i) := fun i hi => h8 i (by omega)
  refine ⟨(h7 31 (by omega) (by omega)).trans q1, fun i hi => by rw [(e i hi).1]; exact q2 i hi, fun i j hi hj hij => ?_, fun i hi => by rw [(e i hi).2]; exact q4 i hi⟩
  rw [(e i hi).1, (e j hj).1] at hij
  exact q3 i j hi hj hij
theorem RB.bs (h : RB m b' b) (h0 : 0 < b 30) (hQ : QI n W b L) (hn6 : n ≤ 6) (hL : L ≠ 0) : bst b' (L - 1) = bst b (L - 1) := by
  obtain ⟨h1, h2, h3, h4, h5⟩ := h
  obtain ⟨h7, h8⟩ := h4 h0
  obtain ⟨q1, q2, q3, q4⟩ := hQ
  refine bst_cg _ (fun i hi => ?_)
  obtain ⟨x, hx, hx2⟩ := q2 i (by omega)
  have := h8 i (by omega)
  unfold urg
  rw [this.1, this.2, hx2, Int.toNat_natCast, h1 (12 + x) (by omega)]
end RL
section NC
variable {w : WP} {d : Nat} {Γ : GM} {V : VH} {Q : QT} {o m e s : Nat} {A : Nat → Int} {B S : Nat → Nat → Int} {q : Nat → Nat} {n W k p : Nat} {X : NT}
set_option maxHeartbeats 4000000 in
theorem k_handOn (hd5 : 5 ≤ d) (hN : NK Γ o) (hR : RN n W A B S q X) (n0 : X.1 0 = (n : Int)) (hn6 : n ≤ 6) (n5 : X.1 5 = (k : Int)) (hk : k < 46) (hm : m < n) (hI : rowI n W (X.2.1 m)) (hW : W ≤ 1000000000) (hm0 : 0 < X.2.1 m 30) {c : Int}
    (hq : ∀ A' B' S', RN n (W + 1) A' B' S' q (handF n m X 0 c).2.1 → A' 6 = A 6 + (handF n m X 0 c).2.2.1 → A' 7 = A 7 → S' (q 46) = S (q 46) → Q (some (.inl (handF n m X 0 c).1)) Γ (nP V o A' B' S' q)) :
    tC w d nNet_handOn [.inr (.inl o), .inl (m : Int)] Γ (nP V o A B S q) Q := by
  have hd : 4 ≤ d := by omega
  obtain ⟨rA, rW, rB, rM, rQ, rL⟩ := id hR
  have a0 : A 0 = (n : Int) := (rA 0 (by omega)).trans n0
  have a5 : A 5 = (k : Int) := (rA 5 (by omega)).trans n5
  obtain ⟨i1, i2, i3, i4, i5, i6, i7, i8, i9, L, hL⟩ := hI
  have hb := rB m hm
  have hm6 : m < 6 := by omega
  obtain ⟨b, hbe⟩ : ∃ b, b = X.2.1 m := ⟨_, rfl⟩
  have hF : handF n m X 0 c = if hnd2 m n b 31 = 0 then ((m : Int), (X.1, uR X.2.1 m (hnd2 m n b), X.2.2), 0, c)
    else (hnd2 m n b (38 + hndk (hnd2 m n b)), (u1 X.1 5 (X.1 5 + 1), uR X.2.1 m (zrow (hnd5 (hnd2 m n b)) 30 50), uR X.2.2 (X.1 5).toNat (mrow (m : Int) (hnd2 m n b (38 + hndk (hnd2 m n b))) 1 (hnd5 (hnd2 m n b) 30) (hnd5 (hnd2 m n b) 31) (fun i => hnd5 (hnd2 m n b) (30 + i)))), 1, c) := by
    rw [hbe]
    rfl
  rw [← hbe] at hb hm0 hL i3 i4 i7
  have hLn := hL.len
  have hL1 := hL.1
  have hb31 : B m 31 = (L : Int) := ((hb.2.2.2.1 hm0).1 31 (by omega) (by omega)).trans hL1
  obtain ⟨L1, hL1L, q1, no1⟩ := hnd1_q (m := m) hL (by omega)
  have c30 : ∀ x, 0 < addR m x (hnd1 m b) 30 := fun x => by rw [addR_lo (by omega), hnd1_lo (by omega)]; exact hm0
  obtain ⟨⟨kg0, kg1, kg2⟩, ⟨kl1, kl2⟩, ⟨km0, km1, km2, km3, km4, km5, km6, km7, km8⟩, ⟨kk1, kk2, kk3, kk4, kk6, kk7, kk8⟩, ⟨kx0, kx1, kx2, kx3, kx4⟩, ⟨ky2, ky3, ky4⟩⟩ := id hN
  have k96 : ∀ (b1 : Nat → Int) (L2 : Nat), RB m b1 (hnd2 m n b) → QI n W (hnd2 m n b) L2 → noQ (hnd2 m n b) L2 m → L2 + 1 ≤ n → L2 ≠ 0 → tG w d nNet_handOn 96 [some (.inr (.inl o)), some (.inl (m : Int)), some (.inr (.inl (o + (8 + 9 * m)))), some (.inr (.inl (o + (8 + 9 * m) + 5))), some (.inl (bst b1 (L2 - 1) : Int)), none] [] Γ (nP V o A (uR B m b1) S q) 0 0 Q := by
    intro b1 L2 hb1 hQ2 hno hL2 hL0
    have h30 : 0 < hnd2 m n b 30 := c30 n
    have e31 : b1 31 = (L2 : Int) := ((hb1.2.2.2.1 h30).1 31 (by omega) (by omega)).trans hQ2.1
    have ek : hndk (hnd2 m n b) = bst b1 (L2 - 1) := by
      unfold hndk
      rw [hQ2.1, Int.toNat_natCast, hb1.bs h30 hQ2 hn6 hL0]
    have hble := bst_le b1 (L2 - 1)
    obtain ⟨pp, hpp⟩ : ∃ pp, pp = bst b1 (L2 - 1) := ⟨_, rfl⟩
    rw [← hpp] at ek hble ⊢
    have ex : b1 (38 + pp) = hnd2 m n b (38 + pp) := ((hb1.2.2.2.1 h30).2 pp (by rw [hQ2.1]; omega)).1
    obtain ⟨⟨x, hx, hxm, hx2⟩, q5⟩ := hnd5_q hQ2 hno hL2 hn6 hL0
    have hb2 := hb1.out h30 hQ2.1 (by omega) (show pp < L2 by omega) hm6
    have o30 : 0 < outR (hnd2 m n b) pp 30 := by rw [outR_lo (by omega)]; exact h30
    have o31 : outR (hnd2 m n b) pp 31 = ((L2 - 1 : Nat) : Int) := (outR_q hQ2.1 (show pp < L2 by omega) (by omega)).1
    have hb3 := hb2.wt o30 o31 (by omega) hm6
    have w30 : 0 < wtR (outR (hnd2 m n b) pp) 30 := by rw [wtR_lo (by omega)]; exact o30
    have w31 : wtR (outR (hnd2 m n b) pp) 31 = ((L2 - 1 : Nat) : Int) := by rw [wtR_lo (by omega)]; exact o31
    have hb4 := hb3.rw_ w30 (by omega) hm6
    have h5e : hnd5 (hnd2 m n b) = rowR (wtR (outR (hnd2 m n b) pp)) := by
      unfold hnd5
      rw [ek]
    rw [← h5e] at hb4
    have hQo := hb2.qi o30 (hQ2.out (show pp < L2 by omega) (by omega))
    have f30 : 0 < hnd5 (hnd2 m n b) 30 := by rw [hnd5_lo (by omega)]; exact h30
    obtain ⟨b4, hb4e⟩ : ∃ b4, b4 = rowR (wtR (outQ b1 pp L2)) := ⟨_, rfl⟩
    refine tG_at hd kNet_handOn_96 ?_
    simp (disch := omega) only [bNet_handOn_96, rn, sm, lg, lt_, cmpP, tk, pr_, pu, swl, cs, Nat.reduceAdd, Nat.reduceLeDiff, Nat.zero_le, Nat.le_refl, true_and, and_true, Int.toNat_natCast, Int.reduceToNat, Int.reduceEq, false_implies, true_implies, Int.reduceNeg, Int.cast_ofNat_Int, n_r0, n_r1, n_r2, n_r3, n_w3, n_r4, n_w4, n_r5, n_w5, n_r6, n_w6, n_r7, n_w7, n_r8, n_w8, n_r9, n_w9, n_r10, n_w10, n_all, n_mail, nP_ut, nP_um, n_m0, n_m1, n_m2, n_m3, n_m4, n_m5, n_u5, n_m6, n_u6, n_m7, n_u7, n_m8, n_u8, n_m9, n_u9, n_m10, n_u10, n_m11, n_u11, n_m12, n_u12, n_a1, n_b1, n_a2, n_b2, n_a3, n_b3, n_a4, n_b4, n_a6, n_b6, n_a7, n_b7, n_a8, n_b8, n_p0, n_p1, n_p2, n_p3, n_q3, n_p4, n_q4, n_g0, n_g1, n_h1, n_g2, n_h2, n_g3, n_h3, n_g4, n_h4, n_g5, n_h5, n_k0, n_k1, n_k2, n_k3, n_k4, n_l2, n_l3, n_l4, kg0, kg1, kg2, kl1, kl2, km0, km1, km2, km3, km4, km5, km6, km7, km8, kk1, kk2, kk3, kk4, kk6, kk7, kk8, kx0, kx1, kx2, kx3, kx4, ky2, ky3, ky4, reduceIte, Nat.reduceEqDiff, true_or, or_true, Int.reduceLE, Int.reduceLT, Int.reduceAdd, Int.reduceSub, Int.reduceMul, not_true_eq_false, not_false_eq_true, implies_true, nat_s, wr_id, uR_at, uR_uR, u1_at, u1_ne, uf_at, uf_ne, iltT, iltF, ileT, ieqT, ieqF]
    refine k_takeOut (by omega) hN hm6 (L := L2) (by rw [uR_at]; exact e31) (by omega) (by omega) ?_
    refine tG_at hd kNet_handOn_111 ?_
    simp (disch := omega) only [bNet_handOn_111, rn, sm, lg, lt_, cmpP, tk, pr_, pu, swl, cs, Nat.reduceAdd, Nat.reduceLeDiff, Nat.zero_le, Nat.le_refl, true_and, and_true, Int.toNat_natCast, Int.reduceToNat, Int.reduceEq, false_implies, true_implies, Int.reduceNeg, Int.cast_ofNat_Int, n_r0, n_r1, n_r2, n_r3, n_w3, n_r4, n_w4, n_r5, n_w5, n_r6, n_w6, n_r7, n_w7, n_r8, n_w8, n_r9, n_w9, n_r10, n_w10, n_all, n_mail, nP_ut, nP_um, n_m0, n_m1, n_m2, n_m3, n_m4, n_m5, n_u5, n_m6, n_u6, n_m7, n_u7, n_m8, n_u8, n_m9, n_u9, n_m10, n_u10, n_m11, n_u11, n_m12, n_u12, n_a1, n_b1, n_a2, n_b2, n_a3, n_b3, n_a4, n_b4, n_a6, n_b6, n_a7, n_b7, n_a8, n_b8, n_p0, n_p1, n_p2, n_p3, n_q3, n_p4, n_q4, n_g0, n_g1, n_h1, n_g2, n_h2, n_g3, n_h3, n_g4, n_h4, n_g5, n_h5, n_k0, n_k1, n_k2, n_k3, n_k4, n_l2, n_l3, n_l4, kg0, kg1, kg2, kl1, kl2, km0, km1, km2, km3, km4, km5, km6, km7, km8, kk1, kk2, kk3, kk4, kk6, kk7, kk8, kx0, kx1, kx2, kx3, kx4, ky2, ky3, ky4, reduceIte, Nat.reduceEqDiff, true_or, or_true, Int.reduceLE, Int.reduceLT, Int.reduceAdd, Int.reduceSub, Int.reduceMul, not_true_eq_false, not_false_eq_true, implies_true, nat_s, wr_id, uR_at, uR_uR, u1_at, u1_ne, uf_at, uf_ne, iltT, iltF, ileT, ieqT, ieqF]
    refine k_waitOnce (by omega) hN hm6 (n := n) (L := L2 - 1) (W := W) hn6 (by rw [uR_at]; exact hQo) hW ?_
    refine tG_at hd kNet_handOn_115 ?_
    simp (disch := omega) only [bNet_handOn_115, rn, sm, lg, lt_, cmpP, tk, pr_, pu, swl, cs, Nat.reduceAdd, Nat.reduceLeDiff, Nat.zero_le, Nat.le_refl, true_and, and_true, Int.toNat_natCast, Int.reduceToNat, Int.reduceEq, false_implies, true_implies, Int.reduceNeg, Int.cast_ofNat_Int, n_r0, n_r1, n_r2, n_r3, n_w3, n_r4, n_w4, n_r5, n_w5, n_r6, n_w6, n_r7, n_w7, n_r8, n_w8, n_r9, n_w9, n_r10, n_w10, n_all, n_mail, nP_ut, nP_um, n_m0, n_m1, n_m2, n_m3, n_m4, n_m5, n_u5, n_m6, n_u6, n_m7, n_u7, n_m8, n_u8, n_m9, n_u9, n_m10, n_u10, n_m11, n_u11, n_m12, n_u12, n_a1, n_b1, n_a2, n_b2, n_a3, n_b3, n_a4, n_b4, n_a6, n_b6, n_a7, n_b7, n_a8, n_b8, n_p0, n_p1, n_p2, n_p3, n_q3, n_p4, n_q4, n_g0, n_g1, n_h1, n_g2, n_h2, n_g3, n_h3, n_g4, n_h4, n_g5, n_h5, n_k0, n_k1, n_k2, n_k3, n_k4, n_l2, n_l3, n_l4, kg0, kg1, kg2, kl1, kl2, km0, km1, km2, km3, km4, km5, km6, km7, km8, kk1, kk2, kk3, kk4, kk6, kk7, kk8, kx0, kx1, kx2, kx3, kx4, ky2, ky3, ky4, reduceIte, Nat.reduceEqDiff, true_or, or_true, Int.reduceLE, Int.reduceLT, Int.reduceAdd, Int.reduceSub, Int.reduceMul, not_true_eq_false, not_false_eq_true, implies_true, nat_s, wr_id, uR_at, uR_uR, u1_at, u1_ne, uf_at, uf_ne, iltT, iltF, ileT, ieqT, ieqF]
    refine k_writeRow (by omega) hN hm6 ?_
    have qk := rQ.1 k (by omega)
    have bk := sa_b qk
    refine tG_at hd kNet_handOn_119 ?_
    simp (disch := omega) only [bNet_handOn_119, rn, sm, lg, lt_, cmpP, tk, pr_, pu, swl, cs, Nat.reduceAdd, Nat.reduceLeDiff, Nat.zero_le, Nat.le_refl, true_and, and_true, Int.toNat_natCast, Int.reduceToNat, Int.reduceEq, false_implies, true_implies, Int.reduceNeg, Int.cast_ofNat_Int, n_r0, n_r1, n_r2, n_r3, n_w3, n_r4, n_w4, n_r5, n_w5, n_r6, n_w6, n_r7, n_w7, n_r8, n_w8, n_r9, n_w9, n_r10, n_w10, n_all, n_mail, nP_ut, nP_um, n_m0, n_m1, n_m2, n_m3, n_m4, n_m5, n_u5, n_m6, n_u6, n_m7, n_u7, n_m8, n_u8, n_m9, n_u9, n_m10, n_u10, n_m11, n_u11, n_m12, n_u12, n_a1, n_b1, n_a2, n_b2, n_a3, n_b3, n_a4, n_b4, n_a6, n_b6, n_a7, n_b7, n_a8, n_b8, n_p0, n_p1, n_p2, n_p3, n_q3, n_p4, n_q4, n_g0, n_g1, n_h1, n_g2, n_h2, n_g3, n_h3, n_g4, n_h4, n_g5, n_h5, n_k0, n_k1, n_k2, n_k3, n_k4, n_l2, n_l3, n_l4, kg0, kg1, kg2, kl1, kl2, km0, km1, km2, km3, km4, km5, km6, km7, km8, kk1, kk2, kk3, kk4, kk6, kk7, kk8, kx0, kx1, kx2, kx3, kx4, ky2, ky3, ky4, reduceIte, Nat.reduceEqDiff, true_or, or_true, Int.reduceLE, Int.reduceLT, Int.reduceAdd, Int.reduceSub, Int.reduceMul, not_true_eq_false, not_false_eq_true, implies_true, nat_s, wr_id, uR_at, uR_uR, u1_at, u1_ne, uf_at, uf_ne, iltT, iltF, ileT, ieqT, ieqF, a5]
    rw [← hb4e] at hb4 ⊢
    refine tG_at hd kNet_handOn_143 ?_
    simp (disch := omega) only [bNet_handOn_143, rn, sm, lg, lt_, cmpP, tk, pr_, pu, swl, cs, Nat.reduceAdd, Nat.reduceLeDiff, Nat.zero_le, Nat.le_refl, true_and, and_true, Int.toNat_natCast, Int.reduceToNat, Int.reduceEq, false_implies, true_implies, Int.reduceNeg, Int.cast_ofNat_Int, n_r0, n_r1, n_r2, n_r3, n_w3, n_r4, n_w4, n_r5, n_w5, n_r6, n_w6, n_r7, n_w7, n_r8, n_w8, n_r9, n_w9, n_r10, n_w10, n_all, n_mail, nP_ut, nP_um, n_m0, n_m1, n_m2, n_m3, n_m4, n_m5, n_u5, n_m6, n_u6, n_m7, n_u7, n_m8, n_u8, n_m9, n_u9, n_m10, n_u10, n_m11, n_u11, n_m12, n_u12, n_a1, n_b1, n_a2, n_b2, n_a3, n_b3, n_a4, n_b4, n_a6, n_b6, n_a7, n_b7, n_a8, n_b8, n_p0, n_p1, n_p2, n_p3, n_q3, n_p4, n_q4, n_g0, n_g1, n_h1, n_g2, n_h2, n_g3, n_h3, n_g4, n_h4, n_g5, n_h5, n_k0, n_k1, n_k2, n_k3, n_k4, n_l2, n_l3, n_l4, kg0, kg1, kg2, kl1, kl2, km0, km1, km2, km3, km4, km5, km6, km7, km8, kk1, kk2, kk3, kk4, kk6, kk7, kk8, kx0, kx1, kx2, kx3, kx4, ky2, ky3, ky4, reduceIte, Nat.reduceEqDiff, true_or, or_true, Int.reduceLE, Int.reduceLT, Int.reduceAdd, Int.reduceSub, Int.reduceMul, not_true_eq_false, not_false_eq_true, implies_true, nat_s, wr_id, uR_at, uR_uR, u1_at, u1_ne, uf_at, uf_ne, iltT, iltF, ileT, ieqT, ieqF, a5]
    refine k_copyPG (by omega) hN hm6 qk ?_
    refine tG_at hd kNet_handOn_159 ?_
    simp (disch := omega) only [bNet_handOn_159, rn, sm, lg, lt_, cmpP, tk, pr_, pu, swl, cs, Nat.reduceAdd, Nat.reduceLeDiff, Nat.zero_le, Nat.le_refl, true_and, and_true, Int.toNat_natCast, Int.reduceToNat, Int.reduceEq, false_implies, true_implies, Int.reduceNeg, Int.cast_ofNat_Int, n_r0, n_r1, n_r2, n_r3, n_w3, n_r4, n_w4, n_r5, n_w5, n_r6, n_w6, n_r7, n_w7, n_r8, n_w8, n_r9, n_w9, n_r10, n_w10, n_all, n_mail, nP_ut, nP_um, n_m0, n_m1, n_m2, n_m3, n_m4, n_m5, n_u5, n_m6, n_u6, n_m7, n_u7, n_m8, n_u8, n_m9, n_u9, n_m10, n_u10, n_m11, n_u11, n_m12, n_u12, n_a1, n_b1, n_a2, n_b2, n_a3, n_b3, n_a4, n_b4, n_a6, n_b6, n_a7, n_b7, n_a8, n_b8, n_p0, n_p1, n_p2, n_p3, n_q3, n_p4, n_q4, n_g0, n_g1, n_h1, n_g2, n_h2, n_g3, n_h3, n_g4, n_h4, n_g5, n_h5, n_k0, n_k1, n_k2, n_k3, n_k4, n_l2, n_l3, n_l4, kg0, kg1, kg2, kl1, kl2, km0, km1, km2, km3, km4, km5, km6, km7, km8, kk1, kk2, kk3, kk4, kk6, kk7, kk8, kx0, kx1, kx2, kx3, kx4, ky2, ky3, ky4, reduceIte, Nat.reduceEqDiff, true_or, or_true, Int.reduceLE, Int.reduceLT, Int.reduceAdd, Int.reduceSub, Int.reduceMul, not_true_eq_false, not_false_eq_true, implies_true, nat_s, wr_id, uR_at, uR_uR, u1_at, u1_ne, uf_at, uf_ne, iltT, iltF, ileT, ieqT, ieqF]
    refine k_post (k := k) (by omega) hN rQ (by rw [u1_ne (by omega)]; exact a5) (by omega) ?_
    refine tG_at hd kNet_handOn_175 ?_
    simp (disch := omega) only [bNet_handOn_175, rn, sm, lg, lt_, cmpP, tk, pr_, pu, swl, cs, Nat.reduceAdd, Nat.reduceLeDiff, Nat.zero_le, Nat.le_refl, true_and, and_true, Int.toNat_natCast, Int.reduceToNat, Int.reduceEq, false_implies, true_implies, Int.reduceNeg, Int.cast_ofNat_Int, n_r0, n_r1, n_r2, n_r3, n_w3, n_r4, n_w4, n_r5, n_w5, n_r6, n_w6, n_r7, n_w7, n_r8, n_w8, n_r9, n_w9, n_r10, n_w10, n_all, n_mail, nP_ut, nP_um, n_m0, n_m1, n_m2, n_m3, n_m4, n_m5, n_u5, n_m6, n_u6, n_m7, n_u7, n_m8, n_u8, n_m9, n_u9, n_m10, n_u10, n_m11, n_u11, n_m12, n_u12, n_a1, n_b1, n_a2, n_b2, n_a3, n_b3, n_a4, n_b4, n_a6, n_b6, n_a7, n_b7, n_a8, n_b8, n_p0, n_p1, n_p2, n_p3, n_q3, n_p4, n_q4, n_g0, n_g1, n_h1, n_g2, n_h2, n_g3, n_h3, n_g4, n_h4, n_g5, n_h5, n_k0, n_k1, n_k2, n_k3, n_k4, n_l2, n_l3, n_l4, kg0, kg1, kg2, kl1, kl2, km0, km1, km2, km3, km4, km5, km6, km7, km8, kk1, kk2, kk3, kk4, kk6, kk7, kk8, kx0, kx1, kx2, kx3, kx4, ky2, ky3, ky4, reduceIte, Nat.reduceEqDiff, true_or, or_true, Int.reduceLE, Int.reduceLT, Int.reduceAdd, Int.reduceSub, Int.reduceMul, not_true_eq_false, not_false_eq_true, implies_true, nat_s, wr_id, uR_at, uR_uR, u1_at, u1_ne, uf_at, uf_ne, iltT, iltF, ileT, ieqT, ieqF]
    rw [if_neg (by rw [hQ2.1]; omega)] at hF
    rw [hF, ek] at hq
    rw [ex]
    dsimp only at hq
    rw [n5, Int.toNat_natCast] at hq
    have hM := RM_pass (a := (m : Int)) (t := hnd2 m n b (38 + pp)) (b' := u1 b4 50 0) (b := hnd5 (hnd2 m n b)) (s := S (q k)) (fun j j1 j2 => by rw [u1_ne (by omega)]; exact (hb4.2.2.2.1 f30).1 j j1 j2) (fun i hi => by have := (hb4.2.2.2.1 f30).2 i hi; have h9 := q5.1; rw [u1_ne (by omega), u1_ne (by omega)]; exact this) (by rw [q5.1]; omega)
    rw [show u1 b4 50 0 30 = b4 30 from rfl, show u1 b4 50 0 31 = b4 31 from rfl] at hM
    have z2 : ∀ j, j < 18 → zrow (hnd5 (hnd2 m n b)) 30 50 j = b j := fun j hj => (if_neg (by omega)).trans ((hnd5_lo (by omega)).trans (hnd2_lo (by omega)))
    have hN1 : RN n (W + 1) (u1 A 6 (A 6 + 1)) (uR B m (u1 b4 50 0)) S q (X.1, uR X.2.1 m (zrow (hnd5 (hnd2 m n b)) 30 50), X.2.2) := hR.set (fun j hj => by rw [u1_ne (by omega)]; exact rA j hj) rfl (by rw [u1_at]; omega) (hb4.los hm6) (by rw [z2 2 (by omega)]; exact i3) (by rw [z2 3 (by omega)]; exact i4)
    have hN2 := hN1.msg (k := k) n5 hk hM
    refine hq _ _ _ hN2 ?_ ?_ ?_
    · rw [u1_ne (by omega), u1_at]
    · rw [u1_ne (by omega), u1_ne (by omega)]
    · rw [uR_ne (fun e => absurd (rQ.2 _ _ (by omega) (by omega) e) (by omega))]
  have k21 : ∀ b1, RB m b1 (hnd1 m b) → tG w d nNet_handOn 21 [some (.inr (.inl o)), some (.inl (m : Int)), some (.inr (.inl (o + (8 + 9 * m)))), some (.inr (.inl (o + (8 + 9 * m) + 5))), none, none] [] Γ (nP V o A (uR B m b1) S q) 0 0 Q := by
    intro b1 hb1
    refine tG_at hd kNet_handOn_21 ?_
    simp (disch := omega) only [bNet_handOn_21, rn, sm, lg, lt_, cmpP, tk, pr_, pu, swl, cs, Nat.reduceAdd, Nat.reduceLeDiff, Nat.zero_le, Nat.le_refl, true_and, and_true, Int.toNat_natCast, Int.reduceToNat, Int.reduceEq, false_implies, true_implies, Int.reduceNeg, Int.cast_ofNat_Int, n_r0, n_r1, n_r2, n_r3, n_w3, n_r4, n_w4, n_r5, n_w5, n_r6, n_w6, n_r7, n_w7, n_r8, n_w8, n_r9, n_w9, n_r10, n_w10, n_all, n_mail, nP_ut, nP_um, n_m0, n_m1, n_m2, n_m3, n_m4, n_m5, n_u5, n_m6, n_u6, n_m7, n_u7, n_m8, n_u8, n_m9, n_u9, n_m10, n_u10, n_m11, n_u11, n_m12, n_u12, n_a1, n_b1, n_a2, n_b2, n_a3, n_b3, n_a4, n_b4, n_a6, n_b6, n_a7, n_b7, n_a8, n_b8, n_p0, n_p1, n_p2, n_p3, n_q3, n_p4, n_q4, n_g0, n_g1, n_h1, n_g2, n_h2, n_g3, n_h3, n_g4, n_h4, n_g5, n_h5, n_k0, n_k1, n_k2, n_k3, n_k4, n_l2, n_l3, n_l4, kg0, kg1, kg2, kl1, kl2, km0, km1, km2, km3, km4, km5, km6, km7, km8, kk1, kk2, kk3, kk4, kk6, kk7, kk8, kx0, kx1, kx2, kx3, kx4, ky2, ky3, ky4, reduceIte, Nat.reduceEqDiff, true_or, or_true, Int.reduceLE, Int.reduceLT, Int.reduceAdd, Int.reduceSub, Int.reduceMul, not_true_eq_false, not_false_eq_true, implies_true, nat_s, wr_id, uR_at, uR_uR, u1_at, u1_ne, uf_at, uf_ne, iltT, iltF, ileT, ieqT, ieqF]
    refine tG_loop (fun i => [some (.inr (.inl o)), some (.inl (m : Int)), some (.inr (.inl (o + (8 + 9 * m)))), some (.inr (.inl (o + (8 + 9 * m) + 5))), some (.inl (i : Int)), none]) (fun i V' => ∃ b2, V' = nP V o A (uR B m b2) S q ∧ RB m b2 (addR m i (hnd1 m b))) n ?_ ?_ 0 _ (Nat.zero_le _) ⟨b1, rfl, hb1⟩
    · intro i V' hi hV k1
      obtain ⟨b2, hV, hb2⟩ := hV
      subst hV
      have h30 := c30 i
      obtain ⟨L2, q2, no2, hL2⟩ := addR_q hn6 hm i (by omega) L1 q1 no1
      have e31 : b2 31 = (L2 : Int) := ((hb2.2.2.2.1 h30).1 31 (by omega) (by omega)).trans q2.1
      have e6 : b2 (6 + i) = addR m i (hnd1 m b) (6 + i) := hb2.1 _ (by omega)
      have e32 : b2 (32 + i) = addR m i (hnd1 m b) (32 + i) := (hb2.2.2.2.1 h30).1 _ (by omega) (by omega)
      have ea : addR m (i + 1) (hnd1 m b) = if i ≠ m ∧ addR m i (hnd1 m b) (32 + i) < addR m i (hnd1 m b) (6 + i) ∧ plc (addR m i (hnd1 m b)) (i : Int) = -1 then inR (addR m i (hnd1 m b)) (i : Int) else addR m i (hnd1 m b) := rfl
      have k72 : ∀ b3, RB m b3 (addR m (i + 1) (hnd1 m b)) → tG w d nNet_handOn 72 [some (.inr (.inl o)), some (.inl (m : Int)), some (.inr (.inl (o + (8 + 9 * m)))), some (.inr (.inl (o + (8 + 9 * m) + 5))), some (.inl (i : Int)), none] [] Γ (nP V o A (uR B m b3) S q) 0 0 Q := by
        intro b3 h3
        refine tG_at hd kNet_handOn_72 ?_
        simp (disch := omega) only [bNet_handOn_72, rn, sm, lg, lt_, cmpP, tk, pr_, pu, swl, cs, Nat.reduceAdd, Nat.reduceLeDiff, Nat.zero_le, Nat.le_refl, true_and, and_true, Int.toNat_natCast, Int.reduceToNat, Int.reduceEq, false_implies, true_implies, Int.reduceNeg, Int.cast_ofNat_Int, n_r0, n_r1, n_r2, n_r3, n_w3, n_r4, n_w4, n_r5, n_w5, n_r6, n_w6, n_r7, n_w7, n_r8, n_w8, n_r9, n_w9, n_r10, n_w10, n_all, n_mail, nP_ut, nP_um, n_m0, n_m1, n_m2, n_m3, n_m4, n_m5, n_u5, n_m6, n_u6, n_m7, n_u7, n_m8, n_u8, n_m9, n_u9, n_m10, n_u10, n_m11, n_u11, n_m12, n_u12, n_a1, n_b1, n_a2, n_b2, n_a3, n_b3, n_a4, n_b4, n_a6, n_b6, n_a7, n_b7, n_a8, n_b8, n_p0, n_p1, n_p2, n_p3, n_q3, n_p4, n_q4, n_g0, n_g1, n_h1, n_g2, n_h2, n_g3, n_h3, n_g4, n_h4, n_g5, n_h5, n_k0, n_k1, n_k2, n_k3, n_k4, n_l2, n_l3, n_l4, kg0, kg1, kg2, kl1, kl2, km0, km1, km2, km3, km4, km5, km6, km7, km8, kk1, kk2, kk3, kk4, kk6, kk7, kk8, kx0, kx1, kx2, kx3, kx4, ky2, ky3, ky4, reduceIte, Nat.reduceEqDiff, true_or, or_true, Int.reduceLE, Int.reduceLT, Int.reduceAdd, Int.reduceSub, Int.reduceMul, not_true_eq_false, not_false_eq_true, implies_true, nat_s, wr_id, uR_at, uR_uR, u1_at, u1_ne, uf_at, uf_ne, iltT, iltF, ileT, ieqT, ieqF]
        exact k1 _ ⟨b3, rfl, h3⟩
      refine tG_at hd kNet_handOn_24 ?_
      simp (disch := omega) only [bNet_handOn_24, rn, sm, lg, lt_, cmpP, tk, pr_, pu, swl, cs, Nat.reduceAdd, Nat.reduceLeDiff, Nat.zero_le, Nat.le_refl, true_and, and_true, Int.toNat_natCast, Int.reduceToNat, Int.reduceEq, false_implies, true_implies, Int.reduceNeg, Int.cast_ofNat_Int, n_r0, n_r1, n_r2, n_r3, n_w3, n_r4, n_w4, n_r5, n_w5, n_r6, n_w6, n_r7, n_w7, n_r8, n_w8, n_r9, n_w9, n_r10, n_w10, n_all, n_mail, nP_ut, nP_um, n_m0, n_m1, n_m2, n_m3, n_m4, n_m5, n_u5, n_m6, n_u6, n_m7, n_u7, n_m8, n_u8, n_m9, n_u9, n_m10, n_u10, n_m11, n_u11, n_m12, n_u12, n_a1, n_b1, n_a2, n_b2, n_a3, n_b3, n_a4, n_b4, n_a6, n_b6, n_a7, n_b7, n_a8, n_b8, n_p0, n_p1, n_p2, n_p3, n_q3, n_p4, n_q4, n_g0, n_g1, n_h1, n_g2, n_h2, n_g3, n_h3, n_g4, n_h4, n_g5, n_h5, n_k0, n_k1, n_k2, n_k3, n_k4, n_l2, n_l3, n_l4, kg0, kg1, kg2, kl1, kl2, km0, km1, km2, km3, km4, km5, km6, km7, km8, kk1, kk2, kk3, kk4, kk6, kk7, kk8, kx0, kx1, kx2, kx3, kx4, ky2, ky3, ky4, reduceIte, Nat.reduceEqDiff, true_or, or_true, Int.reduceLE, Int.reduceLT, Int.reduceAdd, Int.reduceSub, Int.reduceMul, not_true_eq_false, not_false_eq_true, implies_true, nat_s, wr_id, uR_at, uR_uR, u1_at, u1_ne, uf_at, uf_ne, iltT, iltF, ileT, ieqT, ieqF, a0]
      by_cases him : i = m
      · refine tG_at hd kNet_handOn_33 ?_
        simp (disch := omega) only [bNet_handOn_33, rn, sm, lg, lt_, cmpP, tk, pr_, pu, swl, cs, Nat.reduceAdd, Nat.reduceLeDiff, Nat.zero_le, Nat.le_refl, true_and, and_true, Int.toNat_natCast, Int.reduceToNat, Int.reduceEq, false_implies, true_implies, Int.reduceNeg, Int.cast_ofNat_Int, n_r0, n_r1, n_r2, n_r3, n_w3, n_r4, n_w4, n_r5, n_w5, n_r6, n_w6, n_r7, n_w7, n_r8, n_w8, n_r9, n_w9, n_r10, n_w10, n_all, n_mail, nP_ut, nP_um, n_m0, n_m1, n_m2, n_m3, n_m4, n_m5, n_u5, n_m6, n_u6, n_m7, n_u7, n_m8, n_u8, n_m9, n_u9, n_m10, n_u10, n_m11, n_u11, n_m12, n_u12, n_a1, n_b1, n_a2, n_b2, n_a3, n_b3, n_a4, n_b4, n_a6, n_b6, n_a7, n_b7, n_a8, n_b8, n_p0, n_p1, n_p2, n_p3, n_q3, n_p4, n_q4, n_g0, n_g1, n_h1, n_g2, n_h2, n_g3, n_h3, n_g4, n_h4, n_g5, n_h5, n_k0, n_k1, n_k2, n_k3, n_k4, n_l2, n_l3, n_l4, kg0, kg1, kg2, kl1, kl2, km0, km1, km2, km3, km4, km5, km6, km7, km8, kk1, kk2, kk3, kk4, kk6, kk7, kk8, kx0, kx1, kx2, kx3, kx4, ky2, ky3, ky4, reduceIte, Nat.reduceEqDiff, true_or, or_true, Int.reduceLE, Int.reduceLT, Int.reduceAdd, Int.reduceSub, Int.reduceMul, not_true_eq_false, not_false_eq_true, implies_true, nat_s, wr_id, uR_at, uR_uR, u1_at, u1_ne, uf_at, uf_ne, iltT, iltF, ileT, ieqT, ieqF]
        refine k72 b2 ?_
        rw [ea, if_neg (fun h => h.1 him)]
        exact hb2
      · refine tG_at hd kNet_handOn_33 ?_
        simp (disch := omega) only [bNet_handOn_33, rn, sm, lg, lt_, cmpP, tk, pr_, pu, swl, cs, Nat.reduceAdd, Nat.reduceLeDiff, Nat.zero_le, Nat.le_refl, true_and, and_true, Int.toNat_natCast, Int.reduceToNat, Int.reduceEq, false_implies, true_implies, Int.reduceNeg, Int.cast_ofNat_Int, n_r0, n_r1, n_r2, n_r3, n_w3, n_r4, n_w4, n_r5, n_w5, n_r6, n_w6, n_r7, n_w7, n_r8, n_w8, n_r9, n_w9, n_r10, n_w10, n_all, n_mail, nP_ut, nP_um, n_m0, n_m1, n_m2, n_m3, n_m4, n_m5, n_u5, n_m6, n_u6, n_m7, n_u7, n_m8, n_u8, n_m9, n_u9, n_m10, n_u10, n_m11, n_u11, n_m12, n_u12, n_a1, n_b1, n_a2, n_b2, n_a3, n_b3, n_a4, n_b4, n_a6, n_b6, n_a7, n_b7, n_a8, n_b8, n_p0, n_p1, n_p2, n_p3, n_q3, n_p4, n_q4, n_g0, n_g1, n_h1, n_g2, n_h2, n_g3, n_h3, n_g4, n_h4, n_g5, n_h5, n_k0, n_k1, n_k2, n_k3, n_k4, n_l2, n_l3, n_l4, kg0, kg1, kg2, kl1, kl2, km0, km1, km2, km3, km4, km5, km6, km7, km8, kk1, kk2, kk3, kk4, kk6, kk7, kk8, kx0, kx1, kx2, kx3, kx4, ky2, ky3, ky4, reduceIte, Nat.reduceEqDiff, true_or, or_true, Int.reduceLE, Int.reduceLT, Int.reduceAdd, Int.reduceSub, Int.reduceMul, not_true_eq_false, not_false_eq_true, implies_true, nat_s, wr_id, uR_at, uR_uR, u1_at, u1_ne, uf_at, uf_ne, iltT, iltF, ileT, ieqT, ieqF]
        by_cases hlt : addR m i (hnd1 m b) (32 + i) < addR m i (hnd1 m b) (6 + i)
        · refine tG_at hd kNet_handOn_39 ?_
          simp (disch := omega) only [bNet_handOn_39, rn, sm, lg, lt_, cmpP, tk, pr_, pu, swl, cs, Nat.reduceAdd, Nat.reduceLeDiff, Nat.zero_le, Nat.le_refl, true_and, and_true, Int.toNat_natCast, Int.reduceToNat, Int.reduceEq, false_implies, true_implies, Int.reduceNeg, Int.cast_ofNat_Int, n_r0, n_r1, n_r2, n_r3, n_w3, n_r4, n_w4, n_r5, n_w5, n_r6, n_w6, n_r7, n_w7, n_r8, n_w8, n_r9, n_w9, n_r10, n_w10, n_all, n_mail, nP_ut, nP_um, n_m0, n_m1, n_m2, n_m3, n_m4, n_m5, n_u5, n_m6, n_u6, n_m7, n_u7, n_m8, n_u8, n_m9, n_u9, n_m10, n_u10, n_m11, n_u11, n_m12, n_u12, n_a1, n_b1, n_a2, n_b2, n_a3, n_b3, n_a4, n_b4, n_a6, n_b6, n_a7, n_b7, n_a8, n_b8, n_p0, n_p1, n_p2, n_p3, n_q3, n_p4, n_q4, n_g0, n_g1, n_h1, n_g2, n_h2, n_g3, n_h3, n_g4, n_h4, n_g5, n_h5, n_k0, n_k1, n_k2, n_k3, n_k4, n_l2, n_l3, n_l4, kg0, kg1, kg2, kl1, kl2, km0, km1, km2, km3, km4, km5, km6, km7, km8, kk1, kk2, kk3, kk4, kk6, kk7, kk8, kx0, kx1, kx2, kx3, kx4, ky2, ky3, ky4, reduceIte, Nat.reduceEqDiff, true_or, or_true, Int.reduceLE, Int.reduceLT, Int.reduceAdd, Int.reduceSub, Int.reduceMul, not_true_eq_false, not_false_eq_true, implies_true, nat_s, wr_id, uR_at, uR_uR, u1_at, u1_ne, uf_at, uf_ne, iltT, iltF, ileT, ieqT, ieqF, e6, e32]
          refine tG_at hd kNet_handOn_56 ?_
          simp (disch := omega) only [bNet_handOn_56, rn, sm, lg, lt_, cmpP, tk, pr_, pu, swl, cs, Nat.reduceAdd, Nat.reduceLeDiff, Nat.zero_le, Nat.le_refl, true_and, and_true, Int.toNat_natCast, Int.reduceToNat, Int.reduceEq, false_implies, true_implies, Int.reduceNeg, Int.cast_ofNat_Int, n_r0, n_r1, n_r2, n_r3, n_w3, n_r4, n_w4, n_r5, n_w5, n_r6, n_w6, n_r7, n_w7, n_r8, n_w8, n_r9, n_w9, n_r10, n_w10, n_all, n_mail, nP_ut, nP_um, n_m0, n_m1, n_m2, n_m3, n_m4, n_m5, n_u5, n_m6, n_u6, n_m7, n_u7, n_m8, n_u8, n_m9, n_u9, n_m10, n_u10, n_m11, n_u11, n_m12, n_u12, n_a1, n_b1, n_a2, n_b2, n_a3, n_b3, n_a4, n_b4, n_a6, n_b6, n_a7, n_b7, n_a8, n_b8, n_p0, n_p1, n_p2, n_p3, n_q3, n_p4, n_q4, n_g0, n_g1, n_h1, n_g2, n_h2, n_g3, n_h3, n_g4, n_h4, n_g5, n_h5, n_k0, n_k1, n_k2, n_k3, n_k4, n_l2, n_l3, n_l4, kg0, kg1, kg2, kl1, kl2, km0, km1, km2, km3, km4, km5, km6, km7, km8, kk1, kk2, kk3, kk4, kk6, kk7, kk8, kx0, kx1, kx2, kx3, kx4, ky2, ky3, ky4, reduceIte, Nat.reduceEqDiff, true_or, or_true, Int.reduceLE, Int.reduceLT, Int.reduceAdd, Int.reduceSub, Int.reduceMul, not_true_eq_false, not_false_eq_true, implies_true, nat_s, wr_id, uR_at, uR_uR, u1_at, u1_ne, uf_at, uf_ne, iltT, iltF, ileT, ieqT, ieqF]
          refine k_placeIn (by omega) hN hm6 (by rw [uR_at]; omega) (by rw [uR_at]; omega) ?_
          rw [uR_at, hb2.pl h30]
          by_cases hp : plc (addR m i (hnd1 m b)) (i : Int) = -1
          · refine tG_at hd kNet_handOn_62 ?_
            simp (disch := omega) only [bNet_handOn_62, rn, sm, lg, lt_, cmpP, tk, pr_, pu, swl, cs, Nat.reduceAdd, Nat.reduceLeDiff, Nat.zero_le, Nat.le_refl, true_and, and_true, Int.toNat_natCast, Int.reduceToNat, Int.reduceEq, false_implies, true_implies, Int.reduceNeg, Int.cast_ofNat_Int, n_r0, n_r1, n_r2, n_r3, n_w3, n_r4, n_w4, n_r5, n_w5, n_r6, n_w6, n_r7, n_w7, n_r8, n_w8, n_r9, n_w9, n_r10, n_w10, n_all, n_mail, nP_ut, nP_um, n_m0, n_m1, n_m2, n_m3, n_m4, n_m5, n_u5, n_m6, n_u6, n_m7, n_u7, n_m8, n_u8, n_m9, n_u9, n_m10, n_u10, n_m11, n_u11, n_m12, n_u12, n_a1, n_b1, n_a2, n_b2, n_a3, n_b3, n_a4, n_b4, n_a6, n_b6, n_a7, n_b7, n_a8, n_b8, n_p0, n_p1, n_p2, n_p3, n_q3, n_p4, n_q4, n_g0, n_g1, n_h1, n_g2, n_h2, n_g3, n_h3, n_g4, n_h4, n_g5, n_h5, n_k0, n_k1, n_k2, n_k3, n_k4, n_l2, n_l3, n_l4, kg0, kg1, kg2, kl1, kl2, km0, km1, km2, km3, km4, km5, km6, km7, km8, kk1, kk2, kk3, kk4, kk6, kk7, kk8, kx0, kx1, kx2, kx3, kx4, ky2, ky3, ky4, reduceIte, Nat.reduceEqDiff, true_or, or_true, Int.reduceLE, Int.reduceLT, Int.reduceAdd, Int.reduceSub, Int.reduceMul, not_true_eq_false, not_false_eq_true, implies_true, nat_s, wr_id, uR_at, uR_uR, u1_at, u1_ne, uf_at, uf_ne, iltT, iltF, ileT, ieqT, ieqF, hp]
            refine tG_at hd kNet_handOn_66 ?_
            simp (disch := omega) only [bNet_handOn_66, rn, sm, lg, lt_, cmpP, tk, pr_, pu, swl, cs, Nat.reduceAdd, Nat.reduceLeDiff, Nat.zero_le, Nat.le_refl, true_and, and_true, Int.toNat_natCast, Int.reduceToNat, Int.reduceEq, false_implies, true_implies, Int.reduceNeg, Int.cast_ofNat_Int, n_r0, n_r1, n_r2, n_r3, n_w3, n_r4, n_w4, n_r5, n_w5, n_r6, n_w6, n_r7, n_w7, n_r8, n_w8, n_r9, n_w9, n_r10, n_w10, n_all, n_mail, nP_ut, nP_um, n_m0, n_m1, n_m2, n_m3, n_m4, n_m5, n_u5, n_m6, n_u6, n_m7, n_u7, n_m8, n_u8, n_m9, n_u9, n_m10, n_u10, n_m11, n_u11, n_m12, n_u12, n_a1, n_b1, n_a2, n_b2, n_a3, n_b3, n_a4, n_b4, n_a6, n_b6, n_a7, n_b7, n_a8, n_b8, n_p0, n_p1, n_p2, n_p3, n_q3, n_p4, n_q4, n_g0, n_g1, n_h1, n_g2, n_h2, n_g3, n_h3, n_g4, n_h4, n_g5, n_h5, n_k0, n_k1, n_k2, n_k3, n_k4, n_l2, n_l3, n_l4, kg0, kg1, kg2, kl1, kl2, km0, km1, km2, km3, km4, km5, km6, km7, km8, kk1, kk2, kk3, kk4, kk6, kk7, kk8, kx0, kx1, kx2, kx3, kx4, ky2, ky3, ky4, reduceIte, Nat.reduceEqDiff, true_or, or_true, Int.reduceLE, Int.reduceLT, Int.reduceAdd, Int.reduceSub, Int.reduceMul, not_true_eq_false, not_false_eq_true, implies_true, nat_s, wr_id, uR_at, uR_uR, u1_at, u1_ne, uf_at, uf_ne, iltT, iltF, ileT, ieqT, ieqF]
            refine k_putBehind (by omega) hN hm6 (L := L2) (by rw [uR_at]; exact e31) (by omega) ?_
            rw [uR_at, uR_uR]
            refine k72 _ ?_
            rw [ea, if_pos ⟨him, hlt, hp⟩]
            exact hb2.inn h30 q2.1 (by omega) hm6
          · refine tG_at hd kNet_handOn_62 ?_
            simp (disch := omega) only [bNet_handOn_62, rn, sm, lg, lt_, cmpP, tk, pr_, pu, swl, cs, Nat.reduceAdd, Nat.reduceLeDiff, Nat.zero_le, Nat.le_refl, true_and, and_true, Int.toNat_natCast, Int.reduceToNat, Int.reduceEq, false_implies, true_implies, Int.reduceNeg, Int.cast_ofNat_Int, n_r0, n_r1, n_r2, n_r3, n_w3, n_r4, n_w4, n_r5, n_w5, n_r6, n_w6, n_r7, n_w7, n_r8, n_w8, n_r9, n_w9, n_r10, n_w10, n_all, n_mail, nP_ut, nP_um, n_m0, n_m1, n_m2, n_m3, n_m4, n_m5, n_u5, n_m6, n_u6, n_m7, n_u7, n_m8, n_u8, n_m9, n_u9, n_m10, n_u10, n_m11, n_u11, n_m12, n_u12, n_a1, n_b1, n_a2, n_b2, n_a3, n_b3, n_a4, n_b4, n_a6, n_b6, n_a7, n_b7, n_a8, n_b8, n_p0, n_p1, n_p2, n_p3, n_q3, n_p4, n_q4, n_g0, n_g1, n_h1, n_g2, n_h2, n_g3, n_h3, n_g4, n_h4, n_g5, n_h5, n_k0, n_k1, n_k2, n_k3, n_k4, n_l2, n_l3, n_l4, kg0, kg1, kg2, kl1, kl2, km0, km1, km2, km3, km4, km5, km6, km7, km8, kk1, kk2, kk3, kk4, kk6, kk7, kk8, kx0, kx1, kx2, kx3, kx4, ky2, ky3, ky4, reduceIte, Nat.reduceEqDiff, true_or, or_true, Int.reduceLE, Int.reduceLT, Int.reduceAdd, Int.reduceSub, Int.reduceMul, not_true_eq_false, not_false_eq_true, implies_true, nat_s, wr_id, uR_at, uR_uR, u1_at, u1_ne, uf_at, uf_ne, iltT, iltF, ileT, ieqT, ieqF]
            refine k72 b2 ?_
            rw [ea, if_neg (fun h => hp h.2.2)]
            exact hb2
        · refine tG_at hd kNet_handOn_39 ?_
          simp (disch := omega) only [bNet_handOn_39, rn, sm, lg, lt_, cmpP, tk, pr_, pu, swl, cs, Nat.reduceAdd, Nat.reduceLeDiff, Nat.zero_le, Nat.le_refl, true_and, and_true, Int.toNat_natCast, Int.reduceToNat, Int.reduceEq, false_implies, true_implies, Int.reduceNeg, Int.cast_ofNat_Int, n_r0, n_r1, n_r2, n_r3, n_w3, n_r4, n_w4, n_r5, n_w5, n_r6, n_w6, n_r7, n_w7, n_r8, n_w8, n_r9, n_w9, n_r10, n_w10, n_all, n_mail, nP_ut, nP_um, n_m0, n_m1, n_m2, n_m3, n_m4, n_m5, n_u5, n_m6, n_u6, n_m7, n_u7, n_m8, n_u8, n_m9, n_u9, n_m10, n_u10, n_m11, n_u11, n_m12, n_u12, n_a1, n_b1, n_a2, n_b2, n_a3, n_b3, n_a4, n_b4, n_a6, n_b6, n_a7, n_b7, n_a8, n_b8, n_p0, n_p1, n_p2, n_p3, n_q3, n_p4, n_q4, n_g0, n_g1, n_h1, n_g2, n_h2, n_g3, n_h3, n_g4, n_h4, n_g5, n_h5, n_k0, n_k1, n_k2, n_k3, n_k4, n_l2, n_l3, n_l4, kg0, kg1, kg2, kl1, kl2, km0, km1, km2, km3, km4, km5, km6, km7, km8, kk1, kk2, kk3, kk4, kk6, kk7, kk8, kx0, kx1, kx2, kx3, kx4, ky2, ky3, ky4, reduceIte, Nat.reduceEqDiff, true_or, or_true, Int.reduceLE, Int.reduceLT, Int.reduceAdd, Int.reduceSub, Int.reduceMul, not_true_eq_false, not_false_eq_true, implies_true, nat_s, wr_id, uR_at, uR_uR, u1_at, u1_ne, uf_at, uf_ne, iltT, iltF, ileT, ieqT, ieqF, e6, e32]
          refine k72 b2 ?_
          rw [ea, if_neg (fun h => hlt h.2.1)]
          exact hb2
    · intro V' hV
      obtain ⟨b2, hV, hb2⟩ := hV
      subst hV
      obtain ⟨L2, q2, no2, hL2⟩ := addR_q hn6 hm n (Nat.le_refl _) L1 q1 no1
      have h30 := c30 n
      refine tG_at hd kNet_handOn_24 ?_
      simp (disch := omega) only [bNet_handOn_24, rn, sm, lg, lt_, cmpP, tk, pr_, pu, swl, cs, Nat.reduceAdd, Nat.reduceLeDiff, Nat.zero_le, Nat.le_refl, true_and, and_true, Int.toNat_natCast, Int.reduceToNat, Int.reduceEq, false_implies, true_implies, Int.reduceNeg, Int.cast_ofNat_Int, n_r0, n_r1, n_r2, n_r3, n_w3, n_r4, n_w4, n_r5, n_w5, n_r6, n_w6, n_r7, n_w7, n_r8, n_w8, n_r9, n_w9, n_r10, n_w10, n_all, n_mail, nP_ut, nP_um, n_m0, n_m1, n_m2, n_m3, n_m4, n_m5, n_u5, n_m6, n_u6, n_m7, n_u7, n_m8, n_u8, n_m9, n_u9, n_m10, n_u10, n_m11, n_u11, n_m12, n_u12, n_a1, n_b1, n_a2, n_b2, n_a3, n_b3, n_a4, n_b4, n_a6, n_b6, n_a7, n_b7, n_a8, n_b8, n_p0, n_p1, n_p2, n_p3, n_q3, n_p4, n_q4, n_g0, n_g1, n_h1, n_g2, n_h2, n_g3, n_h3, n_g4, n_h4, n_g5, n_h5, n_k0, n_k1, n_k2, n_k3, n_k4, n_l2, n_l3, n_l4, kg0, kg1, kg2, kl1, kl2, km0, km1, km2, km3, km4, km5, km6, km7, km8, kk1, kk2, kk3, kk4, kk6, kk7, kk8, kx0, kx1, kx2, kx3, kx4, ky2, ky3, ky4, reduceIte, Nat.reduceEqDiff, true_or, or_true, Int.reduceLE, Int.reduceLT, Int.reduceAdd, Int.reduceSub, Int.reduceMul, not_true_eq_false, not_false_eq_true, implies_true, nat_s, wr_id, uR_at, uR_uR, u1_at, u1_ne, uf_at, uf_ne, iltT, iltF, ileT, ieqT, ieqF, a0]
      refine tG_at hd kNet_handOn_78 ?_
      simp (disch := omega) only [bNet_handOn_78, rn, sm, lg, lt_, cmpP, tk, pr_, pu, swl, cs, Nat.reduceAdd, Nat.reduceLeDiff, Nat.zero_le, Nat.le_refl, true_and, and_true, Int.toNat_natCast, Int.reduceToNat, Int.reduceEq, false_implies, true_implies, Int.reduceNeg, Int.cast_ofNat_Int, n_r0, n_r1, n_r2, n_r3, n_w3, n_r4, n_w4, n_r5, n_w5, n_r6, n_w6, n_r7, n_w7, n_r8, n_w8, n_r9, n_w9, n_r10, n_w10, n_all, n_mail, nP_ut, nP_um, n_m0, n_m1, n_m2, n_m3, n_m4, n_m5, n_u5, n_m6, n_u6, n_m7, n_u7, n_m8, n_u8, n_m9, n_u9, n_m10, n_u10, n_m11, n_u11, n_m12, n_u12, n_a1, n_b1, n_a2, n_b2, n_a3, n_b3, n_a4, n_b4, n_a6, n_b6, n_a7, n_b7, n_a8, n_b8, n_p0, n_p1, n_p2, n_p3, n_q3, n_p4, n_q4, n_g0, n_g1, n_h1, n_g2, n_h2, n_g3, n_h3, n_g4, n_h4, n_g5, n_h5, n_k0, n_k1, n_k2, n_k3, n_k4, n_l2, n_l3, n_l4, kg0, kg1, kg2, kl1, kl2, km0, km1, km2, km3, km4, km5, km6, km7, km8, kk1, kk2, kk3, kk4, kk6, kk7, kk8, kx0, kx1, kx2, kx3, kx4, ky2, ky3, ky4, reduceIte, Nat.reduceEqDiff, true_or, or_true, Int.reduceLE, Int.reduceLT, Int.reduceAdd, Int.reduceSub, Int.reduceMul, not_true_eq_false, not_false_eq_true, implies_true, nat_s, wr_id, uR_at, uR_uR, u1_at, u1_ne, uf_at, uf_ne, iltT, iltF, ileT, ieqT, ieqF]
      refine k_placeOfNext (by omega) hN hm6 (n := n) (L := L2) (W := W) hn6 (by rw [uR_at]; exact hb2.qi h30 q2) hW (fun j hj => ?_) ?_
      · rw [uR_at, hb2.1 _ (by omega), addR_lo (by omega), hnd1_lo (by omega)]
        exact i7 j hj
      · by_cases h0 : L2 = 0
        · rw [if_pos h0]
          refine tG_at hd kNet_handOn_86 ?_
          simp (disch := omega) only [bNet_handOn_86, rn, sm, lg, lt_, cmpP, tk, pr_, pu, swl, cs, Nat.reduceAdd, Nat.reduceLeDiff, Nat.zero_le, Nat.le_refl, true_and, and_true, Int.toNat_natCast, Int.reduceToNat, Int.reduceEq, false_implies, true_implies, Int.reduceNeg, Int.cast_ofNat_Int, n_r0, n_r1, n_r2, n_r3, n_w3, n_r4, n_w4, n_r5, n_w5, n_r6, n_w6, n_r7, n_w7, n_r8, n_w8, n_r9, n_w9, n_r10, n_w10, n_all, n_mail, nP_ut, nP_um, n_m0, n_m1, n_m2, n_m3, n_m4, n_m5, n_u5, n_m6, n_u6, n_m7, n_u7, n_m8, n_u8, n_m9, n_u9, n_m10, n_u10, n_m11, n_u11, n_m12, n_u12, n_a1, n_b1, n_a2, n_b2, n_a3, n_b3, n_a4, n_b4, n_a6, n_b6, n_a7, n_b7, n_a8, n_b8, n_p0, n_p1, n_p2, n_p3, n_q3, n_p4, n_q4, n_g0, n_g1, n_h1, n_g2, n_h2, n_g3, n_h3, n_g4, n_h4, n_g5, n_h5, n_k0, n_k1, n_k2, n_k3, n_k4, n_l2, n_l3, n_l4, kg0, kg1, kg2, kl1, kl2, km0, km1, km2, km3, km4, km5, km6, km7, km8, kk1, kk2, kk3, kk4, kk6, kk7, kk8, kx0, kx1, kx2, kx3, kx4, ky2, ky3, ky4, reduceIte, Nat.reduceEqDiff, true_or, or_true, Int.reduceLE, Int.reduceLT, Int.reduceAdd, Int.reduceSub, Int.reduceMul, not_true_eq_false, not_false_eq_true, implies_true, nat_s, wr_id, uR_at, uR_uR, u1_at, u1_ne, uf_at, uf_ne, iltT, iltF, ileT, ieqT, ieqF]
          refine tG_at hd kNet_handOn_94 ?_
          simp (disch := omega) only [bNet_handOn_94, rn, sm, lg, lt_, cmpP, tk, pr_, pu, swl, cs, Nat.reduceAdd, Nat.reduceLeDiff, Nat.zero_le, Nat.le_refl, true_and, and_true, Int.toNat_natCast, Int.reduceToNat, Int.reduceEq, false_implies, true_implies, Int.reduceNeg, Int.cast_ofNat_Int, n_r0, n_r1, n_r2, n_r3, n_w3, n_r4, n_w4, n_r5, n_w5, n_r6, n_w6, n_r7, n_w7, n_r8, n_w8, n_r9, n_w9, n_r10, n_w10, n_all, n_mail, nP_ut, nP_um, n_m0, n_m1, n_m2, n_m3, n_m4, n_m5, n_u5, n_m6, n_u6, n_m7, n_u7, n_m8, n_u8, n_m9, n_u9, n_m10, n_u10, n_m11, n_u11, n_m12, n_u12, n_a1, n_b1, n_a2, n_b2, n_a3, n_b3, n_a4, n_b4, n_a6, n_b6, n_a7, n_b7, n_a8, n_b8, n_p0, n_p1, n_p2, n_p3, n_q3, n_p4, n_q4, n_g0, n_g1, n_h1, n_g2, n_h2, n_g3, n_h3, n_g4, n_h4, n_g5, n_h5, n_k0, n_k1, n_k2, n_k3, n_k4, n_l2, n_l3, n_l4, kg0, kg1, kg2, kl1, kl2, km0, km1, km2, km3, km4, km5, km6, km7, km8, kk1, kk2, kk3, kk4, kk6, kk7, kk8, kx0, kx1, kx2, kx3, kx4, ky2, ky3, ky4, reduceIte, Nat.reduceEqDiff, true_or, or_true, Int.reduceLE, Int.reduceLT, Int.reduceAdd, Int.reduceSub, Int.reduceMul, not_true_eq_false, not_false_eq_true, implies_true, nat_s, wr_id, uR_at, uR_uR, u1_at, u1_ne, uf_at, uf_ne, iltT, iltF, ileT, ieqT, ieqF]
          have h031 : hnd2 m n b 31 = 0 := by
            show addR m n (hnd1 m b) 31 = 0
            rw [q2.1, h0]
            rfl
          rw [if_pos h031] at hF
          rw [hF] at hq
          refine hq _ _ _ (hR.set rA rfl ⟨rW.1, by have := rW.2; omega⟩ hb2 (by rw [hnd2_lo (by omega)]; exact i3) (by rw [hnd2_lo (by omega)]; exact i4)) ?_ rfl rfl
          show A 6 = A 6 + 0
          omega
        · rw [if_neg h0, uR_at]
          refine tG_at hd kNet_handOn_86 ?_
          simp (disch := omega) only [bNet_handOn_86, rn, sm, lg, lt_, cmpP, tk, pr_, pu, swl, cs, Nat.reduceAdd, Nat.reduceLeDiff, Nat.zero_le, Nat.le_refl, true_and, and_true, Int.toNat_natCast, Int.reduceToNat, Int.reduceEq, false_implies, true_implies, Int.reduceNeg, Int.cast_ofNat_Int, n_r0, n_r1, n_r2, n_r3, n_w3, n_r4, n_w4, n_r5, n_w5, n_r6, n_w6, n_r7, n_w7, n_r8, n_w8, n_r9, n_w9, n_r10, n_w10, n_all, n_mail, nP_ut, nP_um, n_m0, n_m1, n_m2, n_m3, n_m4, n_m5, n_u5, n_m6, n_u6, n_m7, n_u7, n_m8, n_u8, n_m9, n_u9, n_m10, n_u10, n_m11, n_u11, n_m12, n_u12, n_a1, n_b1, n_a2, n_b2, n_a3, n_b3, n_a4, n_b4, n_a6, n_b6, n_a7, n_b7, n_a8, n_b8, n_p0, n_p1, n_p2, n_p3, n_q3, n_p4, n_q4, n_g0, n_g1, n_h1, n_g2, n_h2, n_g3, n_h3, n_g4, n_h4, n_g5, n_h5, n_k0, n_k1, n_k2, n_k3, n_k4, n_l2, n_l3, n_l4, kg0, kg1, kg2, kl1, kl2, km0, km1, km2, km3, km4, km5, km6, km7, km8, kk1, kk2, kk3, kk4, kk6, kk7, kk8, kx0, kx1, kx2, kx3, kx4, ky2, ky3, ky4, reduceIte, Nat.reduceEqDiff, true_or, or_true, Int.reduceLE, Int.reduceLT, Int.reduceAdd, Int.reduceSub, Int.reduceMul, not_true_eq_false, not_false_eq_true, implies_true, nat_s, wr_id, uR_at, uR_uR, u1_at, u1_ne, uf_at, uf_ne, iltT, iltF, ileT, ieqT, ieqF]
          exact k96 b2 L2 hb2 q2 no2 hL2 h0
  refine tC_enter (nL := 6) (by decide +kernel) (by decide +kernel) rfl (Nat.le_of_ble_eq_true rfl) (fun hok => ?_)
  simp only [ent]
  refine tG_at hd kNet_handOn_0 ?_
  simp (disch := omega) only [bNet_handOn_0, rn, sm, lg, lt_, cmpP, tk, pr_, pu, swl, cs, Nat.reduceAdd, Nat.reduceLeDiff, Nat.zero_le, Nat.le_refl, true_and, and_true, Int.toNat_natCast, Int.reduceToNat, Int.reduceEq, false_implies, true_implies, Int.reduceNeg, Int.cast_ofNat_Int, n_r0, n_r1, n_r2, n_r3, n_w3, n_r4, n_w4, n_r5, n_w5, n_r6, n_w6, n_r7, n_w7, n_r8, n_w8, n_r9, n_w9, n_r10, n_w10, n_all, n_mail, nP_ut, nP_um, n_m0, n_m1, n_m2, n_m3, n_m4, n_m5, n_u5, n_m6, n_u6, n_m7, n_u7, n_m8, n_u8, n_m9, n_u9, n_m10, n_u10, n_m11, n_u11, n_m12, n_u12, n_a1, n_b1, n_a2, n_b2, n_a3, n_b3, n_a4, n_b4, n_a6, n_b6, n_a7, n_b7, n_a8, n_b8, n_p0, n_p1, n_p2, n_p3, n_q3, n_p4, n_q4, n_g0, n_g1, n_h1, n_g2, n_h2, n_g3, n_h3, n_g4, n_h4, n_g5, n_h5, n_k0, n_k1, n_k2, n_k3, n_k4, n_l2, n_l3, n_l4, kg0, kg1, kg2, kl1, kl2, km0, km1, km2, km3, km4, km5, km6, km7, km8, kk1, kk2, kk3, kk4, kk6, kk7, kk8, kx0, kx1, kx2, kx3, kx4, ky2, ky3, ky4, reduceIte, Nat.reduceEqDiff, true_or, or_true, Int.reduceLE, Int.reduceLT, Int.reduceAdd, Int.reduceSub, Int.reduceMul, not_true_eq_false, not_false_eq_true, implies_true, nat_s, wr_id, uR_at, uR_uR, u1_at, u1_ne, uf_at, uf_ne, iltT, iltF, ileT, ieqT, ieqF]
  refine k_placeIn (by omega) hN hm6 (by omega) (by omega) ?_
  rcases plc_spec hb31 (m : Int) with ⟨h1, h2⟩ | ⟨i, hi, h1, h2⟩
  · rw [h1]
    refine tG_at hd kNet_handOn_18 ?_
    simp (disch := omega) only [bNet_handOn_18, rn, sm, lg, lt_, cmpP, tk, pr_, pu, swl, cs, Nat.reduceAdd, Nat.reduceLeDiff, Nat.zero_le, Nat.le_refl, true_and, and_true, Int.toNat_natCast, Int.reduceToNat, Int.reduceEq, false_implies, true_implies, Int.reduceNeg, Int.cast_ofNat_Int, n_r0, n_r1, n_r2, n_r3, n_w3, n_r4, n_w4, n_r5, n_w5, n_r6, n_w6, n_r7, n_w7, n_r8, n_w8, n_r9, n_w9, n_r10, n_w10, n_all, n_mail, nP_ut, nP_um, n_m0, n_m1, n_m2, n_m3, n_m4, n_m5, n_u5, n_m6, n_u6, n_m7, n_u7, n_m8, n_u8, n_m9, n_u9, n_m10, n_u10, n_m11, n_u11, n_m12, n_u12, n_a1, n_b1, n_a2, n_b2, n_a3, n_b3, n_a4, n_b4, n_a6, n_b6, n_a7, n_b7, n_a8, n_b8, n_p0, n_p1, n_p2, n_p3, n_q3, n_p4, n_q4, n_g0, n_g1, n_h1, n_g2, n_h2, n_g3, n_h3, n_g4, n_h4, n_g5, n_h5, n_k0, n_k1, n_k2, n_k3, n_k4, n_l2, n_l3, n_l4, kg0, kg1, kg2, kl1, kl2, km0, km1, km2, km3, km4, km5, km6, km7, km8, kk1, kk2, kk3, kk4, kk6, kk7, kk8, kx0, kx1, kx2, kx3, kx4, ky2, ky3, ky4, reduceIte, Nat.reduceEqDiff, true_or, or_true, Int.reduceLE, Int.reduceLT, Int.reduceAdd, Int.reduceSub, Int.reduceMul, not_true_eq_false, not_false_eq_true, implies_true, nat_s, wr_id, uR_at, uR_uR, u1_at, u1_ne, uf_at, uf_ne, iltT, iltF, ileT, ieqT, ieqF]
    refine k_takeOut0 (by omega) hN hm6 (by omega) ?_
    have e : hnd1 m b = b := by
      unfold hnd1
      rw [← hb.pl hm0, h1]
      exact if_pos rfl
    have k22 := k21 (B m) (by rw [e]; exact hb)
    rw [uR_eq] at k22
    exact k22
  · rw [h1]
    refine tG_at hd kNet_handOn_18 ?_
    simp (disch := omega) only [bNet_handOn_18, rn, sm, lg, lt_, cmpP, tk, pr_, pu, swl, cs, Nat.reduceAdd, Nat.reduceLeDiff, Nat.zero_le, Nat.le_refl, true_and, and_true, Int.toNat_natCast, Int.reduceToNat, Int.reduceEq, false_implies, true_implies, Int.reduceNeg, Int.cast_ofNat_Int, n_r0, n_r1, n_r2, n_r3, n_w3, n_r4, n_w4, n_r5, n_w5, n_r6, n_w6, n_r7, n_w7, n_r8, n_w8, n_r9, n_w9, n_r10, n_w10, n_all, n_mail, nP_ut, nP_um, n_m0, n_m1, n_m2, n_m3, n_m4, n_m5, n_u5, n_m6, n_u6, n_m7, n_u7, n_m8, n_u8, n_m9, n_u9, n_m10, n_u10, n_m11, n_u11, n_m12, n_u12, n_a1, n_b1, n_a2, n_b2, n_a3, n_b3, n_a4, n_b4, n_a6, n_b6, n_a7, n_b7, n_a8, n_b8, n_p0, n_p1, n_p2, n_p3, n_q3, n_p4, n_q4, n_g0, n_g1, n_h1, n_g2, n_h2, n_g3, n_h3, n_g4, n_h4, n_g5, n_h5, n_k0, n_k1, n_k2, n_k3, n_k4, n_l2, n_l3, n_l4, kg0, kg1, kg2, kl1, kl2, km0, km1, km2, km3, km4, km5, km6, km7, km8, kk1, kk2, kk3, kk4, kk6, kk7, kk8, kx0, kx1, kx2, kx3, kx4, ky2, ky3, ky4, reduceIte, Nat.reduceEqDiff, true_or, or_true, Int.reduceLE, Int.reduceLT, Int.reduceAdd, Int.reduceSub, Int.reduceMul, not_true_eq_false, not_false_eq_true, implies_true, nat_s, wr_id, uR_at, uR_uR, u1_at, u1_ne, uf_at, uf_ne, iltT, iltF, ileT, ieqT, ieqF]
    refine k_takeOut (by omega) hN hm6 hb31 (by omega) hi ?_
    refine k21 _ ?_
    have e : hnd1 m b = outR b i := by
      unfold hnd1
      rw [← hb.pl hm0, h1, if_neg (by omega), Int.toNat_natCast]
    rw [e]
    exact hb.out hm0 hL1 (by omega) hi hm6
end NC
