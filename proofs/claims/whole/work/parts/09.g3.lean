section GI
variable {n k W m p a : Nat} {X : NT} {h c : Int}
/-- a net put together anew: one member's row, the counts and the messages may be other ones -/
theorem GI.of (g : GI n k W X) {k' W' : Nat} {A' b : Nat → Int} {C' : Nat → Nat → Int} (h0 : A' 0 = (n : Int)) (h5 : A' 5 = (k' : Int)) (hk : k' ≤ 41) (hA : ∀ j, 1 ≤ j → j ≤ 4 → 0 ≤ A' j ∧ A' j ≤ (W' : Int)) (hb : rowI n W' b) (hC : ∀ j, j < k' → msgI n W' (C' j)) (hP : PN n k' (uR X.2.1 m b) C') (hV : VO n m (b 5)) (hc : (∃ i, i < n ∧ 0 < uR X.2.1 m b i 30) → k' ≤ 40) (hv : ∀ j, j < k' → 1 ≤ C' j 3) (hW : W ≤ W') (hW2 : W' ≤ 1000000000) : GI n k' W' (A', uR X.2.1 m b, C') := by
  obtain ⟨⟨n1, n2, n3, n4, n5, n6, n7, n8⟩, g2, g3, g4, g5, g6⟩ := g
  refine ⟨⟨n1, h0, h5, by omega, hA, fun i hi => ?_, hC, by omega, hW2⟩, hP, fun i hi => ?_, hk, hc, hv⟩
  · show rowI n W' (uR X.2.1 m b i)
    by_cases him : i = m
    · subst him
      rw [uR_at]
      exact hb
    · rw [uR_ne him]
      exact (n6 i hi).mono hW
  · show VO n i (uR X.2.1 m b i 5)
    by_cases him : i = m
    · subst him
      rw [uR_at]
      exact hV
    · rw [uR_ne him]
      exact g3 i hi
theorem GI.mono (g : GI n k W X) {W' : Nat} (hW : W ≤ W') (hW2 : W' ≤ 1000000000) : GI n k W' X := by
  obtain ⟨⟨n1, n2, n3, n4, n5, n6, n7, n8⟩, g2, g3, g4, g5, g6⟩ := g
  exact ⟨⟨n1, n2, n3, n4, fun j h1 h4 => by have := n5 j h1 h4; omega, fun i hi => (n6 i hi).mono hW, fun j hj => (n7 j hj).mono hW, by omega, hW2⟩, g2, g3, g4, g5, g6⟩
/-- the counts other than of messages -/
theorem GI.cnt (g : GI n k W X) {A' : Nat → Int} (h0 : A' 0 = X.1 0) (h5 : A' 5 = X.1 5) (hA : ∀ j, 1 ≤ j → j ≤ 4 → 0 ≤ A' j ∧ A' j ≤ ((W + 1 : Nat) : Int)) (hW : W + 1 ≤ 1000000000) : GI n k (W + 1) (A', X.2.1, X.2.2) := by
  obtain ⟨⟨n1, n2, n3, n4, n5, n6, n7, n8⟩, g2, g3, g4, g5, g6⟩ := g
  exact ⟨⟨n1, h0.trans n2, h5.trans n3, n4, hA, fun i hi => (n6 i hi).mono (by omega), fun j hj => (n7 j hj).mono (by omega), by omega, hW⟩, g2, g3, g4, g5, g6⟩
theorem GI.had (g : GI n k W X) {b : Nat → Int} (hm : m < n) (hb : b 30 = X.2.1 m 30 ∨ b 30 = 0) : (∃ i, i < n ∧ 0 < uR X.2.1 m b i 30) → k ≤ 40 := by
  rintro ⟨i, hi, q⟩
  by_cases him : i = m
  · subst him
    rw [uR_at] at q
    rcases hb with hb | hb
    · rw [hb] at q
      exact g.2.2.2.2.1 ⟨i, hi, q⟩
    · omega
  · rw [uR_ne him] at q
    exact g.2.2.2.2.1 ⟨i, hi, q⟩
/-- a row changed in what PV doesn't see -/
theorem GI.upd (g : GI n k W X) (hm : m < n) {A' b : Nat → Int} (h0 : A' 0 = X.1 0) (h5 : A' 5 = X.1 5) (hA : ∀ j, 1 ≤ j → j ≤ 4 → 0 ≤ A' j ∧ A' j ≤ ((W + 1 : Nat) : Int)) (hb : rowI n (W + 1) b) (e1 : b 1 = X.2.1 m 1) (e2 : b 2 = X.2.1 m 2) (e4 : b 4 = X.2.1 m 4) (e5 : b 5 = X.2.1 m 5) (e30 : b 30 = X.2.1 m 30) (hW : W + 1 ≤ 1000000000) : GI n k (W + 1) (A', uR X.2.1 m b, X.2.2) :=
  g.of (h0.trans g.A.1) (h5.trans g.A.2.1) g.2.2.2.1 hA hb (fun j hj => (g.1.2.2.2.2.2.2.1 j hj).mono (by omega)) (PN.row g.2.1 e1 e2 e4 e5 e30) (by rw [e5]; exact g.2.2.1 m hm) (g.had hm (Or.inl e30)) g.2.2.2.2.2 (by omega) hW
theorem askR_lo {r b : Nat → Int} {j : Nat} (h1 : j ≠ 6 + a) (h2 : j ≠ 12 + a) : askR a r b j = b j := by
  unfold askR
  split
  · rw [u1_ne h2, u1_ne h1]
  · rw [u1_ne h2]
theorem askR_I {r b : Nat → Int} (hR : rowI n W b) (hn6 : n ≤ 6) (ha6 : a < 6) (hr3 : 0 ≤ r 3 ∧ r 3 ≤ W) (hr4 : 0 ≤ r 4 ∧ r 4 ≤ 9) : rowI n W (askR a r b) := by
  obtain ⟨i1, i2, i3, i4, i5, i6, i7, i8, i9, L, i10⟩ := hR
  have e12 : askR a r b (12 + a) = r 4 := by
    unfold askR
    split <;> rw [u1_at]
  have e6 : 0 ≤ askR a r b (6 + a) ∧ askR a r b (6 + a) ≤ W := by
    unfold askR
    split
    · rw [u1_ne (by omega), u1_at]
      exact hr3
    · rw [u1_ne (by omega)]
      exact i6 a ha6
  refine ⟨by rw [askR_lo (by omega) (by omega)]; exact i1, by rw [askR_lo (by omega) (by omega)]; exact i2, by rw [askR_lo (by omega) (by omega)]; exact i3, by rw [askR_lo (by omega) (by omega)]; exact i4, by rw [askR_lo (by omega) (by omega)]; exact i5, fun j hj => ?_, fun j hj => ?_, by rw [askR_lo (by omega) (by omega)]; exact i8, fun j hj => by rw [askR_lo (by omega) (by omega)]; exact i9 j hj, L, ?_⟩
  · by_cases hja : j = a
    · subst hja; exact e6
    · rw [askR_lo (by omega) (by omega)]; exact i6 j hj
  · by_cases hja : j = a
    · subst hja; rw [e12]; exact hr4
    · rw [askR_lo (by omega) (by omega)]; exact i7 j hj
  · have hLn := i10.len
    obtain ⟨q1, q2, q3, q4⟩ := i10
    exact ⟨by rw [askR_lo (by omega) (by omega)]; exact q1, fun i hi => by rw [askR_lo (by omega) (by omega)]; exact q2 i hi, fun i j hi hj => by rw [askR_lo (by omega) (by omega), askR_lo (by omega) (by omega)]; exact q3 i j hi hj, fun i hi => by rw [askR_lo (by omega) (by omega)]; exact q4 i hi⟩
theorem GI.Aj (g : GI n k W X) {j : Nat} (h1 : 1 ≤ j) (h4 : j ≤ 4) : 0 ≤ X.1 j ∧ X.1 j ≤ ((W + 1 : Nat) : Int) := by
  have := g.1.2.2.2.2.1 j h1 h4
  omega
theorem GI.asked (g : GI n k W X) (hm : m < n) (ha : a < n) {r : Nat → Int} (hr3 : 0 ≤ r 3 ∧ r 3 ≤ W) (hr4 : 0 ≤ r 4 ∧ r 4 ≤ 9) (hW : W + 2 ≤ 1000000000) : ∃ k', GI n k' (W + 2) (askedF n m a r X h c).2.1 ∧ k' ≤ k + 1 := by
  have hn6 := g.A.2.2.2.1
  have hI := askR_I (g.row hm) g.A.2.2.2.1 (show a < 6 by have := g.A; omega) hr3 hr4
  have g1 : GI n k (W + 1) (X.1, uR X.2.1 m (askR a r (X.2.1 m)), X.2.2) := g.upd hm rfl rfl (fun j h1 h4 => g.Aj h1 h4) (hI.mono (by omega)) (askR_lo (by omega) (by omega)) (askR_lo (by omega) (by omega)) (askR_lo (by omega) (by omega)) (askR_lo (by omega) (by omega)) (askR_lo (by omega) (by omega)) (by omega)
  unfold askedF
  split
  · next hh => exact g1.hand hm (by show 0 < uR X.2.1 m _ m 30; rw [uR_at]; exact hh.1) (by omega)
  · exact ⟨k, g1.mono (by omega) (by omega), by omega⟩
theorem comR_lo {b : Nat → Int} {j : Nat} (h : j ≠ 2 ∧ j ≠ 3) : comR b j = b j := by
  unfold comR
  rw [u1_ne h.2, u1_ne h.1]
theorem comR_I {b : Nat → Int} (h : rowI n W b) : rowI n W (comR b) := by
  obtain ⟨i1, i2, i3, i4, i5, i6, i7, i8, i9, L, q1, q2, q3, q4⟩ := h
  exact ⟨by rw [comR_lo (by omega)]; exact i1, by rw [comR_lo (by omega)]; exact i2, Or.inl (by unfold comR; rw [u1_ne (by omega), u1_at]), Or.inr (by unfold comR; rw [u1_at]), by rw [comR_lo (by omega)]; exact i5, fun j hj => by rw [comR_lo (by omega)]; exact i6 j hj, fun j hj => by rw [comR_lo (by omega)]; exact i7 j hj, by rw [comR_lo (by omega)]; exact i8, fun j hj => by rw [comR_lo (by omega)]; exact i9 j hj, L, by rw [comR_lo (by omega)]; exact q1, fun i hi => by rw [comR_lo (by omega)]; exact q2 i hi, fun i j hi hj => by rw [comR_lo (by omega), comR_lo (by omega)]; exact q3 i j hi hj, fun i hi => by rw [comR_lo (by omega)]; exact q4 i hi⟩
theorem vb_new {B : Nat → Nat → Int} {b : Nat → Int} (hb : b 5 = 0) (i x : Nat) : vb (uR B m b i 5) x ↔ (i ≠ m ∧ vb (B i 5) x) := by
  by_cases him : i = m
  · subst him
    rw [uR_at, hb]
    exact ⟨fun h => absurd h (vb_0 x), fun h => absurd rfl h.1⟩
  · rw [uR_ne him]
    exact ⟨fun h => ⟨him, h⟩, fun h => h.2⟩
/-- a pass comes, not too old: the row may be the one before it goes on, or one that is in -/
theorem GI.pass1 (g : GI n k W X) (hp : p < k) (hm : m < n) (h1 : X.2.2 p 1 = (m : Int)) (h2 : X.2.2 p 2 = 1) (hl : ¬ X.2.2 p 5 < X.2.1 m 1) {b : Nat → Int} (hb : rowI n W b) (e1 : b 1 = X.2.2 p 5) (e2 : b 2 = 0) (e4 : b 4 = 0) (e5 : b 5 = 0) (e30 : b 30 = X.2.2 p 5) (hW : W + 1 ≤ 1000000000) : GI n (k - 1) (W + 1) (dieA (tkF p X).1 (X.2.1 m), uR X.2.1 m b, (tkF p X).2.2) := by
  have gt := g.take hp
  have hA := gt.A
  have hto : ∀ j, j < k → ∃ b : Nat, b < n ∧ X.2.2 j 1 = (b : Int) := fun j hj => by obtain ⟨⟨a, b, -, hb, -, -, e⟩, -⟩ := g.1.2.2.2.2.2.2.1 j hj; exact ⟨b, hb, e⟩
  have hPV := PV.arrive g.2.1 hp hm h2 h1 (by show X.2.1 m 1 ≤ X.2.2 p 5; omega) (fun i hi => ⟨(g.row hi).2.1.1, (g.row hi).2.2.2.2.2.2.2.1.1⟩) g.2.2.2.2.2 hto
  have hC : (tkF p X).2.2 = shC X.2.2 p k := by
    unfold tkF
    rw [g.A.2.1, Int.toNat_natCast]
  refine g.of (by rw [dieA_n (by omega)]; exact hA.1) (by rw [dieA_n (by omega)]; exact hA.2.1) (by have := g.A; omega) (fun j j1 j4 => ?_) (hb.mono (by omega)) (fun j hj => (gt.1.2.2.2.2.2.2.1 j hj).mono (by omega)) ?_ (by rw [e5]; exact VO_0) (fun _ => by have := g.A; omega) gt.2.2.2.2.2 (by omega) hW
  · unfold dieA
    have := gt.1.2.2.2.2.1 j j1 j4
    split
    · by_cases hj1 : j = 1
      · subst hj1
        rw [u1_at]
        omega
      · rw [u1_ne hj1]
        omega
    · omega
  · rw [hC]
    refine hPV.cg (fun i _ => (congrFun vw_B i).trans (by rw [e1])) (fun i _ => (congrFun vw_B i).trans (by rw [e2])) (fun i _ => (congrFun vw_B i).trans (by rw [e4])) (fun i _ => (congrFun vw_B i).trans (by rw [e30])) (fun i _ x => vb_new e5 i x) (fun _ hj => shC_sk hj) (fun _ hj => shC_sk hj) (fun _ hj => shC_sk hj) (fun _ hj _ => shC_sk hj) (fun _ hj _ => shC_sk hj)
theorem GI.passed (g : GI n k W X) (hp : p < k) (hm : m < n) (h1 : X.2.2 p 1 = (m : Int)) (h2 : X.2.2 p 2 = 1) (hW : W + 2 ≤ 1000000000) : ∃ k', GI n k' (W + 2) (passedF n m (X.2.2 p) (tkF p X) h c).2.1 ∧ k' ≤ k := by
  have gt := g.take hp
  obtain ⟨m1, m2, m3, m4, m5, m6⟩ := g.1.2.2.2.2.2.2.1 p hp
  obtain ⟨q1, q2, q3, q4, q5⟩ := m6 h2
  have hn6 := g.A.2.2.2.1
  have hm6 : m < 6 := by omega
  have hI := pasS_I (m := m) hm6 (g.row hm) ⟨q1, q4, q5⟩ hn6
  have hB : (tkF p X).2.1 = X.2.1 := rfl
  have s1 : pasS m (X.2.2 p) (X.2.1 m) 1 = X.2.2 p 5 := by rw [pasS_at hm6, if_neg (by omega), if_pos rfl]
  have s2 : pasS m (X.2.2 p) (X.2.1 m) 2 = X.2.1 m 2 := by rw [pasS_at hm6, if_neg (by omega), if_neg (by omega), if_neg (by omega), if_neg (by omega), if_neg (by omega)]
  have s4 : pasS m (X.2.2 p) (X.2.1 m) 4 = 0 := by rw [pasS_at hm6, if_neg (by omega), if_neg (by omega), if_pos (by omega)]
  have s5 : pasS m (X.2.2 p) (X.2.1 m) 5 = 0 := by rw [pasS_at hm6, if_neg (by omega), if_neg (by omega), if_pos (by omega)]
  have s30 : pasS m (X.2.2 p) (X.2.1 m) 30 = X.2.2 p 5 := by rw [pasS_at hm6, if_neg (by omega), if_neg (by omega), if_neg (by omega), if_neg (by omega), if_pos (by omega)]
  have hb2 := (g.row hm).2.2.1
  unfold passedF
  rw [hB]
  by_cases hl : X.2.2 p 5 < X.2.1 m 1
  · rw [if_pos hl]
    refine ⟨k - 1, (gt.cnt (A' := u1 (tkF p X).1 1 ((tkF p X).1 1 + 1)) (by rw [u1_ne (by omega)]) (by rw [u1_ne (by omega)]) (fun j j1 j4 => ?_) (by omega)).mono (by omega) hW, by omega⟩
    have := gt.1.2.2.2.2.1 j j1 j4
    by_cases hj1 : j = 1
    · subst hj1
      rw [u1_at]
      omega
    · rw [u1_ne hj1]
      omega
  · rw [if_neg hl]
    by_cases h21 : pasS m (X.2.2 p) (X.2.1 m) 2 = 1
    · rw [if_pos h21]
      exact ⟨k - 1, (g.pass1 hp hm h1 h2 hl (comR_I hI) (by rw [comR_lo (by omega)]; exact s1) (by unfold comR; rw [u1_ne (by omega), u1_at]) (by rw [comR_lo (by omega)]; exact s4) (by rw [comR_lo (by omega)]; exact s5) (by rw [comR_lo (by omega)]; exact s30) (by omega)).mono (by omega) hW, by omega⟩
    · rw [if_neg h21]
      have gp := g.pass1 hp hm h1 h2 hl hI s1 (by rw [s2] at h21 ⊢; omega) s4 s5 s30 (by omega)
      by_cases h30 : pasS m (X.2.2 p) (X.2.1 m) 3 = 0
      · rw [if_pos h30]
        obtain ⟨k', gk, hk'⟩ := gp.hand (m := m) (h := h) (c := c) hm (by show 0 < uR X.2.1 m _ m 30; rw [uR_at, s30]; omega) (by omega)
        exact ⟨k', gk, by omega⟩
      · rw [if_neg h30]
        exact ⟨k - 1, gp.mono (by omega) hW, by omega⟩
end GI
