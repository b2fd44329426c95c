section GI
variable {n k W m p a : Nat} {X : NT} {h c : Int}
theorem msg_req {e y : Int} (hm : m < n) (ha : a < n) (ham : a ≠ m) (he : 0 ≤ e ∧ e ≤ W) (hy : 0 ≤ y ∧ y ≤ 9) (h6 : 9 ≤ W) : msgI n W (mrow (m : Int) (a : Int) 0 e y (fun _ => 0)) :=
  ⟨⟨m, a, hm, ha, fun h => ham h.symm, rfl, rfl⟩, by show (0 : Int) ≤ 0 ∧ (0 : Int) ≤ 4; omega, he, by show 0 ≤ y ∧ y ≤ _; omega, fun _ => hy.2, fun h => by have h : (0 : Int) = 1 := h; omega⟩
theorem GJ.send (g : GJ n k W X) (hk : k + 1 ≤ 40) {f t kk e y : Int} (he : 1 ≤ e) (hM : msgI n W (mrow f t kk e y (fun _ => 0))) (hP : PV n (k + 1) (fun i => X.2.1 i 1) (fun i => X.2.1 i 2) (fun i => X.2.1 i 4) (fun i => X.2.1 i 30) (fun i c => vb (X.2.1 i 5) c) (u1 (fun j => X.2.2 j 0) k f) (u1 (fun j => X.2.2 j 1) k t) (u1 (fun j => X.2.2 j 2) k kk) (u1 (fun j => X.2.2 j 3) k e) (u1 (fun j => X.2.2 j 5) k 0)) :
    GJ n (k + 1) W (u1 X.1 5 (X.1 5 + 1), X.2.1, uR X.2.2 (X.1 5).toNat (mrow f t kk e y (fun _ => 0))) := by
  obtain ⟨⟨⟨n1, n2, n3, n4, n5, n6, n7, n8⟩, g2, g3, g4, g5, g6⟩, v⟩ := g
  rw [n3, Int.toNat_natCast]
  refine ⟨⟨⟨n1, ?_, ?_, by omega, fun j j1 j4 => ?_, n6, fun j hj => ?_, n8⟩, ?_, g3, by omega, fun _ => hk, fun j hj => ?_⟩, v⟩
  · show u1 X.1 5 ((k : Int) + 1) 0 = (n : Int)
    rw [u1_ne (by omega)]; exact n2
  · show u1 X.1 5 ((k : Int) + 1) 5 = ((k + 1 : Nat) : Int)
    rw [u1_at]; omega
  · show 0 ≤ u1 X.1 5 ((k : Int) + 1) j ∧ u1 X.1 5 ((k : Int) + 1) j ≤ (W : Int)
    rw [u1_ne (by omega)]; exact n5 j j1 j4
  · show msgI n W (uR X.2.2 k _ j)
    by_cases hjk : j = k
    · subst hjk; rw [uR_at]; exact hM
    · rw [uR_ne hjk]; exact n7 j (by omega)
  · exact hP.cg (fun _ _ => rfl) (fun _ _ => rfl) (fun _ _ => rfl) (fun _ _ => rfl) (fun _ _ _ => Iff.rfl) (fun j _ => congrFun vw_B j) (fun j _ => congrFun vw_B j) (fun j _ => congrFun vw_B j) (fun j _ _ => congrFun vw_B j) (fun j _ _ => congrFun vw_B j)
  · show 1 ≤ uR X.2.2 k _ j 3
    by_cases hjk : j = k
    · subst hjk; rw [uR_at]; exact he
    · rw [uR_ne hjk]; exact g6 j (by omega)
theorem GJ.sall (g : GJ n k W X) (hm : m < n) {kk x y : Int} (hc : (kk = 0 ∧ 0 ≤ y ∧ y ≤ 9) ∨ (kk = 2 ∧ x ≤ X.2.1 m 1 ∧ 0 ≤ y ∧ y ≤ (W : Int))) (hx : 1 ≤ x ∧ x ≤ (W : Int)) (h9 : 9 ≤ W) (hk : k + n ≤ 41) : ∀ b, b ≤ n → GJ n (k + b - (if m < b then 1 else 0)) W ((saF m kk x y b X.1 X.2.2).1, X.2.1, (saF m kk x y b X.1 X.2.2).2)
  | 0, _ => by
    simp only [saF, Nat.not_lt_zero, if_false]
    exact g
  | b + 1, hb => by
    have ih := GJ.sall g hm hc hx h9 hk b (by omega)
    by_cases hbm : b = m
    · subst hbm
      simp only [saF, if_true]
      rw [if_pos (by omega), show k + (b + 1) - 1 = k + b by omega]
      rw [if_neg (by omega)] at ih
      exact ih
    · simp only [saF, if_neg hbm]
      generalize hK : k + b - (if m < b then 1 else 0) = K at ih
      have hK2 : k + (b + 1) - (if m < b + 1 then 1 else 0) = K + 1 := by
        rw [← hK]
        by_cases h1 : m < b
        · rw [if_pos h1, if_pos (by omega)]; omega
        · rw [if_neg h1, if_neg (by omega)]; omega
      have hK3 : K + 1 ≤ 40 := by
        rw [← hK]
        by_cases h1 : m < b
        · rw [if_pos h1]; omega
        · rw [if_neg h1]; omega
      rw [hK2]
      generalize saF m kk x y b X.1 X.2.2 = Y at ih ⊢
      refine GJ.send ih hK3 (f := (m : Int)) (t := (b : Int)) hx.1 ?_ ?_
      · rcases hc with ⟨h1, h2⟩ | ⟨h1, h2, h3⟩
        · rw [h1]; exact msg_req hm (by omega) hbm (by omega) h2 h9
        · rw [h1]; exact msg_new hm (by omega) hbm (by omega) (by omega) h3
      · rcases hc with ⟨h1, h2⟩ | ⟨h1, h2, h3⟩
        · rw [h1]; exact PV.add0 ih.1.2.1 (Or.inl rfl)
        · rw [h1]; exact PV.add2 ih.1.2.1 h2
/-- to ASK -/
def askF (n m : Nat) (X : NT) (h c : Int) : RT :=
  if X.2.1 m 2 = 1 ∨ X.2.1 m 3 = 1 then (-2, X, h, c)
  else if ¬ 0 < X.2.1 m 30 ∧ 40 < X.1 5 + n - 1 then (-3, X, h, c)
  else if 0 < X.2.1 m 30 then (X.2.1 m (6 + m) + 1, (X.1, uR X.2.1 m (comR (u1 (X.2.1 m) (6 + m) (X.2.1 m (6 + m) + 1))), X.2.2), h, (m : Int))
  else (X.2.1 m (6 + m) + 1, ((saF m 0 (X.2.1 m (6 + m) + 1) (X.2.1 m (12 + m)) n X.1 X.2.2).1, uR X.2.1 m (u1 (u1 (X.2.1 m) (6 + m) (X.2.1 m (6 + m) + 1)) 2 1), (saF m 0 (X.2.1 m (6 + m) + 1) (X.2.1 m (12 + m)) n X.1 X.2.2).2), h, c)
theorem num_I {b : Nat → Int} (h : rowI n W b) (hn6 : n ≤ 6) (hm : m < 6) : rowI n (W + 1) (u1 b (6 + m) (b (6 + m) + 1)) := by
  obtain ⟨i1, i2, i3, i4, i5, i6, i7, i8, i9, L, i10⟩ := h
  have hL := i10.len
  obtain ⟨q1, q2, q3, q4⟩ := i10
  have l : ∀ j, j ≠ 6 + m → u1 b (6 + m) (b (6 + m) + 1) j = b j := fun j hj => u1_ne hj
  refine ⟨by rw [l _ (by omega)]; omega, by rw [l _ (by omega)]; omega, by rw [l _ (by omega)]; exact i3, by rw [l _ (by omega)]; exact i4, by rw [l _ (by omega)]; omega, fun j hj => ?_, fun j hj => by rw [l _ (by omega)]; exact i7 j hj, by rw [l _ (by omega)]; omega, fun j hj => by rw [l _ (by omega)]; have := i9 j hj; omega, L, by rw [l _ (by omega)]; exact q1, fun i hi => by rw [l _ (by omega)]; exact q2 i hi, fun i j hi hj => by rw [l _ (by omega), l _ (by omega)]; exact q3 i j hi hj, fun i hi => by rw [l _ (by omega)]; have := q4 i hi; omega⟩
  by_cases hjm : j = m
  · subst hjm; rw [u1_at]; have := i6 j hj; omega
  · rw [l _ (by omega)]; have := i6 j hj; omega
theorem as1_I {b : Nat → Int} (h : rowI n W b) : rowI n W (u1 b 2 1) := by
  obtain ⟨i1, i2, i3, i4, i5, i6, i7, i8, i9, L, q1, q2, q3, q4⟩ := h
  have l : ∀ j, j ≠ 2 → u1 b 2 1 j = b j := fun j hj => u1_ne hj
  exact ⟨by rw [l _ (by omega)]; exact i1, by rw [l _ (by omega)]; exact i2, Or.inr u1_at, by rw [l _ (by omega)]; exact i4, by rw [l _ (by omega)]; exact i5, fun j hj => by rw [l _ (by omega)]; exact i6 j hj, fun j hj => by rw [l _ (by omega)]; exact i7 j hj, by rw [l _ (by omega)]; exact i8, fun j hj => by rw [l _ (by omega)]; exact i9 j hj, L, by rw [l _ (by omega)]; exact q1, fun i hi => by rw [l _ (by omega)]; exact q2 i hi, fun i j hi hj => by rw [l _ (by omega), l _ (by omega)]; exact q3 i j hi hj, fun i hi => by rw [l _ (by omega)]; exact q4 i hi⟩
theorem GJ.ask (g : GJ n k W X) (hm : m < n) (h9 : 9 ≤ W) (hW : W + 1 ≤ 1000000000) : ∃ k', GJ n k' (W + 1) (askF n m X h c).2.1 := by
  have hn6 := g.1.A.2.2.2.1
  have hm6 : m < 6 := by omega
  have hb := g.1.row hm
  have hI := num_I (m := m) hb hn6 hm6
  have v := g.2
  have n5 := g.1.A.2.1
  have hs := hb.2.2.2.2.2.1 m hm6
  have hr := hb.2.2.2.2.2.2.1 m hm6
  unfold askF
  split
  · exact ⟨k, g.1.mono (by omega) hW, v.mono (by omega)⟩
  · next hbusy =>
    split
    · exact ⟨k, g.1.mono (by omega) hW, v.mono (by omega)⟩
    · next hfull =>
      split
      · next hhas =>
        refine ⟨k, g.1.upd hm rfl rfl (fun j j1 j4 => g.1.Aj j1 j4) (comR_I hI) ?_ ?_ ?_ ?_ ?_ hW, (v.mono (by omega)).row (fun j hj => Or.inl ?_)⟩
        · rw [comR_lo (by omega), u1_ne (by omega)]
        · have := hb.2.2.1
          unfold comR
          rw [u1_ne (by omega), u1_at]
          omega
        · rw [comR_lo (by omega), u1_ne (by omega)]
        · rw [comR_lo (by omega), u1_ne (by omega)]
        · rw [comR_lo (by omega), u1_ne (by omega)]
        · rw [comR_lo (by omega), u1_ne (by omega)]
      · next hhas =>
        have hmk : X.2.1 m 30 = 0 := by have := hb.2.2.2.2.2.2.2.1; omega
        have l : ∀ j, j ≠ 2 → j ≠ 6 + m → u1 (u1 (X.2.1 m) (6 + m) (X.2.1 m (6 + m) + 1)) 2 1 j = X.2.1 m j := fun j h1 h2 => by rw [u1_ne h1, u1_ne h2]
        have g1 : GJ n k (W + 1) (X.1, uR X.2.1 m (u1 (u1 (X.2.1 m) (6 + m) (X.2.1 m (6 + m) + 1)) 2 1), X.2.2) := by
          refine ⟨g.1.of g.1.A.1 n5 g.1.2.2.2.1 (fun j j1 j4 => g.1.Aj j1 j4) (as1_I hI) (fun j hj => (g.1.1.2.2.2.2.2.2.1 j hj).mono (by omega)) ?_ (by rw [l _ (by omega) (by omega)]; exact g.1.2.2.1 m hm) (g.1.had hm (Or.inl (l _ (by omega) (by omega)))) g.1.2.2.2.2.2 (by omega) hW, (v.mono (by omega)).row (fun j hj => Or.inl (l _ (by omega) (by omega)))⟩
          refine (PV.ask g.1.2.1 hmk).cg (fun i _ => congrFun (vw_s (l _ (by omega) (by omega))) i) (fun i _ => (congrFun vw_B i).trans (by rw [u1_at])) (fun i _ => congrFun (vw_s (l _ (by omega) (by omega))) i) (fun i _ => congrFun (vw_s (l _ (by omega) (by omega))) i) (fun i _ x => ?_) (fun _ _ => rfl) (fun _ _ => rfl) (fun _ _ => rfl) (fun _ _ _ => rfl) (fun _ _ _ => rfl)
          show vb (uR X.2.1 m _ i 5) x ↔ _
          rw [congrFun (vw_s (l 5 (by omega) (by omega))) i]
        exact ⟨_, GJ.sall g1 hm (Or.inl ⟨rfl, hr⟩) (by omega) (by omega) (by omega) n (Nat.le_refl _)⟩
/-- to SUSPECT -/
def susF (n m : Nat) (X : NT) (h c : Int) : RT :=
  if X.2.1 m 2 = 0 then (-2, X, h, c)
  else if 40 < X.1 5 + n - 1 then (-3, X, h, c)
  else (X.2.1 m 1 + 1, ((saF m 2 (X.2.1 m 1 + 1) 0 n X.1 X.2.2).1, uR X.2.1 m (u1 (drpR (u1 (X.2.1 m) 1 (X.2.1 m 1 + 1))) 4 (X.2.1 m 1 + 1)), (saF m 2 (X.2.1 m 1 + 1) 0 n X.1 X.2.2).2), h, c)
theorem GJ.sus (g : GJ n k W X) (hm : m < n) (h9 : 9 ≤ W) (hW : W + 1 ≤ 1000000000) : ∃ k', GJ n k' (W + 1) (susF n m X h c).2.1 := by
  have hn6 := g.1.A.2.2.2.1
  have hb := g.1.row hm
  have v := g.2
  have n5 := g.1.A.2.1
  obtain ⟨i1, i2, i3, i4, i5, i6, i7, i8, i9, L, i10⟩ := id hb
  have hL := i10.len
  unfold susF
  split
  · exact ⟨k, g.1.mono (by omega) hW, v.mono (by omega)⟩
  · next has =>
    split
    · exact ⟨k, g.1.mono (by omega) hW, v.mono (by omega)⟩
    · next hfull =>
      have l : ∀ j, j ≠ 1 → j ≠ 4 → j ≠ 5 → (j < 24 ∨ 30 ≤ j) → u1 (drpR (u1 (X.2.1 m) 1 (X.2.1 m 1 + 1))) 4 (X.2.1 m 1 + 1) j = X.2.1 m j := fun j h1 h4 h5 h6 => by rw [u1_ne h4, drpR_lo (by omega), u1_ne h1]
      have l1 : u1 (drpR (u1 (X.2.1 m) 1 (X.2.1 m 1 + 1))) 4 (X.2.1 m 1 + 1) 1 = X.2.1 m 1 + 1 := by rw [u1_ne (by omega), drpR_lo (by omega), u1_at]
      have l5 : u1 (drpR (u1 (X.2.1 m) 1 (X.2.1 m 1 + 1))) 4 (X.2.1 m 1 + 1) 5 = 0 := by rw [u1_ne (by omega)]; exact if_pos (by omega)
      have l4 : u1 (drpR (u1 (X.2.1 m) 1 (X.2.1 m 1 + 1))) 4 (X.2.1 m 1 + 1) 4 = X.2.1 m 1 + 1 := u1_at
      have l24 : ∀ j, j < 6 → u1 (drpR (u1 (X.2.1 m) 1 (X.2.1 m 1 + 1))) 4 (X.2.1 m 1 + 1) (24 + j) = 0 := fun j hj => by rw [u1_ne (by omega)]; exact if_pos (by omega)
      generalize u1 (drpR (u1 (X.2.1 m) 1 (X.2.1 m 1 + 1))) 4 (X.2.1 m 1 + 1) = bb at l l1 l5 l4 l24 ⊢
      have hI : rowI n (W + 1) bb := by
        obtain ⟨q1, q2, q3, q4⟩ := i10
        exact ⟨by rw [l _ (by omega) (by omega) (by omega) (by omega)]; omega, by rw [l1]; omega, by rw [l _ (by omega) (by omega) (by omega) (by omega)]; exact i3, by rw [l _ (by omega) (by omega) (by omega) (by omega)]; exact i4, by rw [l4]; omega, fun j hj => by rw [l _ (by omega) (by omega) (by omega) (by omega)]; have := i6 j hj; omega, fun j hj => by rw [l _ (by omega) (by omega) (by omega) (by omega)]; exact i7 j hj, by rw [l _ (by omega) (by omega) (by omega) (by omega)]; omega, fun j hj => by rw [l _ (by omega) (by omega) (by omega) (by omega)]; have := i9 j hj; omega, L, by rw [l _ (by omega) (by omega) (by omega) (by omega)]; exact q1, fun i hi => by rw [l _ (by omega) (by omega) (by omega) (by omega)]; exact q2 i hi, fun i j hi hj => by rw [l _ (by omega) (by omega) (by omega) (by omega), l _ (by omega) (by omega) (by omega) (by omega)]; exact q3 i j hi hj, fun i hi => by rw [l _ (by omega) (by omega) (by omega) (by omega)]; have := q4 i hi; omega⟩
      have hfr : ∀ j, j < k → ∃ c : Nat, c < n ∧ X.2.2 j 0 = (c : Int) := fun j hj => by obtain ⟨⟨a, b, ha, -, -, e, -⟩, -⟩ := g.1.1.2.2.2.2.2.2.1 j hj; exact ⟨a, ha, e⟩
      have hne : ∀ j, j < k → X.2.2 j 0 ≠ X.2.2 j 1 := fun j hj => by obtain ⟨⟨a, b, -, -, hab, e1, e2⟩, -⟩ := g.1.1.2.2.2.2.2.2.1 j hj; rw [e1, e2]; omega
      have g1 : GJ n k (W + 1) (X.1, uR X.2.1 m bb, X.2.2) := by
        refine ⟨g.1.of g.1.A.1 n5 g.1.2.2.2.1 (fun j j1 j4 => g.1.Aj j1 j4) hI (fun j hj => (g.1.1.2.2.2.2.2.2.1 j hj).mono (by omega)) ?_ (by rw [l5]; exact VO_0) (g.1.had hm (Or.inl (l _ (by omega) (by omega) (by omega) (by omega)))) g.1.2.2.2.2.2 (by omega) hW, (v.mono (by omega)).row (fun j hj => Or.inr (l24 j hj))⟩
        exact (PV.suspect g.1.2.1 hm (show X.2.1 m 2 = 1 by omega) (fun i hi => ⟨(g.1.row hi).2.1.1, (g.1.row hi).2.2.2.2.2.2.2.1.1⟩) hfr hne).cg (fun i _ => (congrFun vw_B i).trans (by rw [l1])) (fun i _ => congrFun (vw_s (l _ (by omega) (by omega) (by omega) (by omega))) i) (fun i _ => (congrFun vw_B i).trans (by rw [l4])) (fun i _ => congrFun (vw_s (l _ (by omega) (by omega) (by omega) (by omega))) i) (fun i _ x => vb_new l5 i x) (fun _ _ => rfl) (fun _ _ => rfl) (fun _ _ => rfl) (fun _ _ _ => rfl) (fun _ _ _ => rfl)
      exact ⟨_, GJ.sall g1 hm (Or.inr ⟨rfl, by show _ ≤ uR X.2.1 m bb m 1; rw [uR_at, l1]; exact Int.le_refl _, by omega, by omega⟩) (by omega) (by omega) (by omega) n (Nat.le_refl _)⟩
theorem levF_X {h' c' : Int} : (levF n m X h c).2.1 = (levF n m X h' c').2.1 := by
  unfold levF handF
  split
  · split <;> rfl
  · rfl
/-- all that are IN leave -/
def lvF (n : Nat) : Nat → NT → NT
  | 0, X => X
  | i + 1, X => if (lvF n i X).2.1 i 3 = 1 then (levF n i (lvF n i X) 0 0).2.1 else lvF n i X
theorem GJ.lvs (g : GJ n k W X) (hW : W + 12 ≤ 1000000000) : ∀ i, i ≤ n → ∃ k', GJ n k' (W + 2 * i) (lvF n i X)
  | 0, _ => ⟨k, g⟩
  | i + 1, hi => by
    obtain ⟨k', ih⟩ := GJ.lvs g hW i (by omega)
    have hn6 := g.1.A.2.2.2.1
    simp only [lvF]
    split
    · obtain ⟨k2, q1, -⟩ := ih.lev (m := i) (h := 0) (c := 0) (by omega) (by omega)
      exact ⟨k2, q1⟩
    · exact ⟨k', ih.1.mono (by omega) (by omega), ih.2.mono (by omega)⟩
end GI
