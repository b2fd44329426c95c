section GI
variable {n k W m p : Nat} {X : NT} {h c : Int}
theorem tkF_A {X : NT} (hk : X.1 5 = (k : Int)) (hp : p < k) : (tkF p X).1 5 = ((k - 1 : Nat) : Int) := by
  unfold tkF
  show u1 X.1 5 (X.1 5 - 1) 5 = _
  rw [u1_at, hk]
  omega
theorem shC_at {C : Nat → Nat → Int} {j : Nat} : shC C p k j = C (if p ≤ j ∧ j + 1 < k then j + 1 else j) := by
  unfold shC
  split <;> rfl
theorem GI.take (g : GI n k W X) (hp : p < k) : GI n (k - 1) W (tkF p X) := by
  obtain ⟨⟨n1, n2, n3, n4, n5, n6, n7, n8⟩, g2, g3, g4, g5, g6⟩ := g
  have hC : (tkF p X).2.2 = shC X.2.2 p k := by
    unfold tkF
    rw [n3, Int.toNat_natCast]
  refine ⟨⟨n1, ?_, tkF_A n3 hp, by omega, ?_, n6, ?_, n8⟩, ?_, g3, by omega, fun q => by have := g5 q; omega, ?_⟩
  · show u1 X.1 5 (X.1 5 - 1) 0 = _
    rw [u1_ne (by omega)]
    exact n2
  · intro j h1 h4
    show 0 ≤ u1 X.1 5 (X.1 5 - 1) j ∧ u1 X.1 5 (X.1 5 - 1) j ≤ W
    rw [u1_ne (by omega)]
    exact n5 j h1 h4
  · intro j hj
    rw [hC, shC_at]
    exact n7 _ (by split <;> omega)
  · rw [hC]
    exact PN.take g2 hp
  · intro j hj
    rw [hC, shC_at]
    exact g6 _ (by split <;> omega)
theorem hnd2_lo {b : Nat → Int} {j : Nat} (hj : j < 31 ∨ (32 ≤ j ∧ j < 38)) : hnd2 m n b j = b j := by
  unfold hnd2
  rw [addR_lo hj, hnd1_lo (by omega)]
theorem hnd2_q {b : Nat → Int} {L : Nat} (hQ : QI n W b L) (hn6 : n ≤ 6) (hm : m < n) : ∃ L', QI n W (hnd2 m n b) L' ∧ noQ (hnd2 m n b) L' m ∧ L' + 1 ≤ n := by
  obtain ⟨L1, -, h2, h3⟩ := hnd1_q (m := m) hQ (by have := hQ.len; omega)
  exact addR_q hn6 hm n (Nat.le_refl _) L1 h2 h3
theorem QI.wt {b : Nat → Int} {L : Nat} (hQ : QI n W b L) (h6 : L ≤ 6) : QI n (W + 1) (wtR b) L := by
  obtain ⟨q1, q2, q3, q4⟩ := hQ
  have e : ∀ i, i < L → wtR b (44 + i) = b (44 + i) + 1 := by
    intro i hi
    unfold wtR
    rw [q1, Int.toNat_natCast, if_pos (by omega)]
  refine ⟨by rw [wtR_31]; exact q1, fun i hi => by rw [wtR_lo (by omega)]; exact q2 i hi, fun i j hi hj => by rw [wtR_lo (by omega), wtR_lo (by omega)]; exact q3 i j hi hj, fun i hi => by rw [e i hi]; have := q4 i hi; omega⟩
theorem hnd5_lo {b : Nat → Int} {j : Nat} (hj : j < 18 ∨ (24 ≤ j ∧ j < 31) ∨ (32 ≤ j ∧ j < 38)) : hnd5 b j = b j := by
  unfold hnd5
  rw [rowR_lo (by omega), wtR_lo (by omega), outR_lo (by omega)]
/-- to whom it goes, and the pass that goes -/
theorem hnd5_q {b : Nat → Int} {L : Nat} (hQ : QI n W b L) (hno : noQ b L m) (hL : L + 1 ≤ n) (hn6 : n ≤ 6) (h0 : L ≠ 0) : (∃ x : Nat, x < n ∧ x ≠ m ∧ b (38 + hndk b) = (x : Int)) ∧ QI n (W + 1) (hnd5 b) (L - 1) := by
  have hkk : hndk b = bst b (L - 1) := by
    unfold hndk
    rw [hQ.1, Int.toNat_natCast]
  have hb := bst_le b (L - 1)
  rw [← hkk] at hb
  constructor
  · obtain ⟨q, q1, q2⟩ := hQ.2.1 (hndk b) (by omega)
    refine ⟨q, q1, fun e => ?_, q2⟩
    subst e
    exact hno (hndk b) (by omega) q2
  · obtain ⟨q1, q2, q3, q4⟩ := (hQ.out (k := hndk b) (by omega) (by omega)).wt (by omega)
    unfold hnd5
    exact ⟨by rw [rowR_lo (by omega)]; exact q1, fun i hi => by rw [rowR_lo (by omega)]; exact q2 i hi, fun i j hi hj => by rw [rowR_lo (by omega), rowR_lo (by omega)]; exact q3 i j hi hj, fun i hi => by rw [rowR_lo (by omega)]; exact q4 i hi⟩
theorem mrow_hi {a b c x y : Int} {g : Nat → Int} {i : Nat} (hi : i < 20) : mrow a b c x y g (5 + i) = g i := by
  rw [show 5 + i = i + 5 by omega]
  simp [mrow, hi]
theorem GI.A {X : NT} (g : GI n k W X) : X.1 0 = (n : Int) ∧ X.1 5 = (k : Int) ∧ 2 ≤ n ∧ n ≤ 6 ∧ k ≤ 41 ∧ W ≤ 1000000000 := ⟨g.1.2.1, g.1.2.2.1, g.1.1.1, g.1.1.2, g.2.2.2.1, g.1.2.2.2.2.2.2.2.2⟩
theorem GI.row {X : NT} (g : GI n k W X) {i : Nat} (hi : i < n) : rowI n W (X.2.1 i) := g.1.2.2.2.2.2.1 i hi
theorem GI.hand (g : GI n k W X) (hm : m < n) (hm0 : 0 < X.2.1 m 30) (hW : W + 1 ≤ 1000000000) : ∃ k', GI n k' (W + 1) (handF n m X h c).2.1 ∧ k' ≤ k + 1 := by
  obtain ⟨⟨n1, n2, n3, n4, n5, n6, n7, n8⟩, g2, g3, g4, g5, g6⟩ := g
  have hk40 := g5 ⟨m, hm, hm0⟩
  have hr := n6 m hm
  obtain ⟨i1, i2, i3, i4, i5, i6, i7, i8, i9, L, i10⟩ := id hr
  obtain ⟨L2, hQ2, hno2, hL2⟩ := hnd2_q (m := m) i10 n1.2 hm
  unfold handF
  by_cases hz : hnd2 m n (X.2.1 m) 31 = 0
  · rw [if_pos hz]
    refine ⟨k, ⟨⟨n1, n2, n3, n4, fun j h1 h4 => by have := n5 j h1 h4; show 0 ≤ X.1 j ∧ X.1 j ≤ ((W + 1 : Nat) : Int); omega, fun i hi => ?_, fun j hj => (n7 j hj).mono (by omega), ⟨by omega, hW⟩⟩, ?_, fun i hi => ?_, g4, fun q => ?_, g6⟩, by omega⟩
    · show rowI n (W + 1) (uR X.2.1 m _ i)
      by_cases him : i = m
      · subst him
        rw [uR_at]
        refine rowI.mono (W := W) ⟨by rw [hnd2_lo (by omega)]; exact i1, by rw [hnd2_lo (by omega)]; exact i2, by rw [hnd2_lo (by omega)]; exact i3, by rw [hnd2_lo (by omega)]; exact i4, by rw [hnd2_lo (by omega)]; exact i5, fun j hj => by rw [hnd2_lo (by omega)]; exact i6 j hj, fun j hj => by rw [hnd2_lo (by omega)]; exact i7 j hj, by rw [hnd2_lo (by omega)]; exact i8, fun j hj => by rw [hnd2_lo (by omega)]; exact i9 j hj, L2, hQ2⟩ (by omega)
      · rw [uR_ne him]
        exact (n6 i hi).mono (by omega)
    · exact PN.row g2 (hnd2_lo (by omega)) (hnd2_lo (by omega)) (hnd2_lo (by omega)) (hnd2_lo (by omega)) (hnd2_lo (by omega))
    · show VO n i (uR X.2.1 m _ i 5)
      rw [congrFun (vw_s (hnd2_lo (by omega))) i]
      exact g3 i hi
    · obtain ⟨i, hi, q⟩ := q
      have q : 0 < uR X.2.1 m (hnd2 m n (X.2.1 m)) i 30 := q
      exact g5 ⟨i, hi, by rw [show (uR X.2.1 m (hnd2 m n (X.2.1 m)) i 30) = X.2.1 i 30 from congrFun (vw_s (hnd2_lo (by omega))) i] at q; exact q⟩
  · rw [if_neg hz]
    have hL0 : L2 ≠ 0 := fun e => hz (by rw [hQ2.1, e]; rfl)
    obtain ⟨⟨x, hx1, hx2, hx3⟩, hQ5⟩ := hnd5_q (m := m) hQ2 hno2 hL2 n1.2 hL0
    have l5 : ∀ j, (j < 18 ∨ (24 ≤ j ∧ j < 31) ∨ (32 ≤ j ∧ j < 38)) → hnd5 (hnd2 m n (X.2.1 m)) j = X.2.1 m j := fun j hj => by rw [hnd5_lo hj, hnd2_lo (by omega)]
    generalize hnd5 (hnd2 m n (X.2.1 m)) = b5 at hQ5 l5 ⊢
    generalize hnd2 m n (X.2.1 m) (38 + hndk (hnd2 m n (X.2.1 m))) = xv at hx3 ⊢
    subst hx3
    dsimp only
    rw [n3, Int.toNat_natCast]
    have zl : ∀ j, j < 18 ∨ (24 ≤ j ∧ j < 30) → zrow b5 30 50 j = X.2.1 m j := by
      intro j hj
      unfold zrow
      rw [if_neg (by omega)]
      exact l5 j (by omega)
    have zh : ∀ j, 30 ≤ j → j < 50 → zrow b5 30 50 j = 0 := fun j h1 h2 => if_pos ⟨h1, h2⟩
    have h30 : b5 30 = X.2.1 m 30 := l5 30 (by omega)
    have hp1 := g2.1 m hm hm0
    refine ⟨k + 1, ⟨⟨n1, ?_, ?_, by omega, ?_, fun i hi => ?_, fun j hj => ?_, ⟨by omega, hW⟩⟩, ?_, fun i hi => ?_, by omega, fun q => ?_, ?_⟩, by omega⟩
    · show u1 X.1 5 ((k : Int) + 1) 0 = (n : Int)
      rw [u1_ne (by omega)]
      exact n2
    · show u1 X.1 5 ((k : Int) + 1) 5 = ((k + 1 : Nat) : Int)
      rw [u1_at]
      omega
    · intro j h1 h4
      show 0 ≤ u1 X.1 5 ((k : Int) + 1) j ∧ u1 X.1 5 ((k : Int) + 1) j ≤ ((W + 1 : Nat) : Int)
      rw [u1_ne (by omega)]
      have := n5 j h1 h4
      omega
    · show rowI n (W + 1) (uR X.2.1 m _ i)
      by_cases him : i = m
      · subst him
        rw [uR_at]
        refine rowI.mono (W := W) ⟨by rw [zl _ (by omega)]; exact i1, by rw [zl _ (by omega)]; exact i2, by rw [zl _ (by omega)]; exact i3, by rw [zl _ (by omega)]; exact i4, by rw [zl _ (by omega)]; exact i5, fun j hj => by rw [zl _ (by omega)]; exact i6 j hj, fun j hj => by rw [zl _ (by omega)]; exact i7 j hj, by rw [zh _ (by omega) (by omega)]; omega, fun j hj => by rw [zh _ (by omega) (by omega)]; omega, 0, by rw [zh _ (by omega) (by omega)]; rfl, fun i hi => by omega, fun i j hi hj => by omega, fun i hi => by omega⟩ (by omega)
      · rw [uR_ne him]
        exact (n6 i hi).mono (by omega)
    · show msgI n (W + 1) (uR X.2.2 k _ j)
      by_cases hjk : j = k
      · subst hjk
        rw [uR_at]
        have i8' : 1 ≤ b5 30 ∧ b5 30 ≤ (W : Int) := by rw [h30]; omega
        have q31 := hQ5.1
        refine ⟨⟨m, x, hm, hx1, fun e => hx2 e.symm, rfl, rfl⟩, ⟨show (0 : Int) ≤ 1 by decide, show (1 : Int) ≤ 4 by decide⟩, ?_, ?_, fun e => absurd (show (1 : Int) = 0 from e) (by decide), fun _ => ⟨?_, ?_, ?_, fun j hj => ?_, L2 - 1, ?_, fun i hi => ?_, fun i j hi hj => ?_, fun i hi => ?_⟩⟩
        · show 0 ≤ b5 30 ∧ b5 30 ≤ _
          omega
        · show 0 ≤ b5 31 ∧ b5 31 ≤ _
          rw [q31]
          omega
        · show 1 ≤ (if 0 < 20 then b5 30 else 0) ∧ (if 0 < 20 then b5 30 else 0) ≤ _
          rw [if_pos (by decide)]
          omega
        · show b5 30 = (if 0 < 20 then b5 30 else 0)
          rw [if_pos (by decide)]
        · show b5 31 = (if 1 < 20 then b5 (30 + 1) else 0)
          rw [if_pos (by decide)]
        · rw [show 7 + j = 5 + (2 + j) by omega, mrow_hi (by omega)]
          show 0 ≤ b5 (30 + (2 + j)) ∧ b5 (30 + (2 + j)) ≤ _
          rw [show 30 + (2 + j) = 32 + j by omega, l5 _ (by omega)]
          have := i9 j hj
          omega
        · show (if 1 < 20 then b5 (30 + 1) else 0) = _
          rw [if_pos (by decide)]
          exact q31
        · show ∃ q : Nat, q < n ∧ mrow _ _ _ _ _ _ (38 + i - 25) = (q : Int)
          rw [show 38 + i - 25 = 5 + (8 + i) by omega, mrow_hi (by omega), show 30 + (8 + i) = 38 + i by omega]
          exact hQ5.2.1 i hi
        · show mrow _ _ _ _ _ _ (38 + i - 25) = mrow _ _ _ _ _ _ (38 + j - 25) → i = j
          rw [show 38 + i - 25 = 5 + (8 + i) by omega, show 38 + j - 25 = 5 + (8 + j) by omega, mrow_hi (by omega), mrow_hi (by omega), show 30 + (8 + i) = 38 + i by omega, show 30 + (8 + j) = 38 + j by omega]
          exact hQ5.2.2.1 i j hi hj
        · show 0 ≤ mrow _ _ _ _ _ _ (44 + i - 25) ∧ mrow _ _ _ _ _ _ (44 + i - 25) ≤ _
          rw [show 44 + i - 25 = 5 + (14 + i) by omega, mrow_hi (by omega), show 30 + (14 + i) = 44 + i by omega]
          exact hQ5.2.2.2 i hi
      · rw [uR_ne hjk]
        exact (n7 j (by omega)).mono (by omega)
    · have hPV := PV.hand g2 hm hm0 (t := x) (v := b5 30) (fun i hi => (n6 i hi).2.2.2.2.2.2.2.1.1) (fun j hj => by obtain ⟨⟨a, b, -, hb, -, -, e⟩, -⟩ := n7 j hj; exact ⟨b, hb, e⟩)
      refine hPV.cg (fun i _ => ?_) (fun i _ => ?_) (fun i _ => ?_) (fun i _ => ?_) (fun i _ c => ?_) (fun j _ => ?_) (fun j _ => ?_) (fun j _ => ?_) (fun j _ _ => ?_) (fun j _ _ => ?_)
      · exact congrFun (vw_s (zl 1 (by omega))) i
      · exact congrFun (vw_s (zl 2 (by omega))) i
      · exact congrFun (vw_s (zl 4 (by omega))) i
      · exact (congrFun vw_B i).trans (by rw [zh 30 (by omega) (by omega)])
      · show vb (uR X.2.1 m _ i 5) c ↔ _
        rw [show uR X.2.1 m (zrow b5 30 50) i 5 = X.2.1 i 5 from congrFun (vw_s (zl 5 (by omega))) i]
      · exact congrFun vw_B j
      · exact congrFun vw_B j
      · exact congrFun vw_B j
      · exact congrFun vw_B j
      · refine (congrFun vw_B j).trans ?_
        show u1 _ k (if 0 < 20 then b5 30 else 0) j = _
        rw [if_pos (by decide), h30]
    · show VO n i (uR X.2.1 m _ i 5)
      rw [congrFun (vw_s (zl 5 (by omega))) i]
      exact g3 i hi
    · exfalso
      obtain ⟨i, hi, q⟩ := q
      have q : 0 < uR X.2.1 m (zrow b5 30 50) i 30 := q
      by_cases him : i = m
      · subst him
        rw [uR_at, zh 30 (by omega) (by omega)] at q
        omega
      · rw [uR_ne him] at q
        exact him (g2.2.2.2.2.2.2.2.2.2.2.1 i hi m hm q hm0)
    · intro j hj
      show 1 ≤ uR X.2.2 k _ j 3
      by_cases hjk : j = k
      · subst hjk
        rw [uR_at]
        show 1 ≤ b5 30
        rw [h30]
        omega
      · rw [uR_ne hjk]
        exact g6 j (by omega)
end GI
