section GI
variable {n k W m p a : Nat} {X : NT} {h c : Int}
theorem shl_ok : ∀ x, x ≤ 6 → bShl 1 ((x : Nat) : Int) = ((2 ^ x : Nat) : Int) := by decide +kernel
theorem allV_eq (hn : n ≤ 6) (hm : m < n) : allV n m = ((2 ^ n - 1 - 2 ^ m : Nat) : Int) := by
  unfold allV
  rw [shl_ok n hn, shl_ok m (by omega)]
  have h1 : ∀ x, x ≤ 6 → 1 ≤ 2 ^ x ∧ 2 ^ x ≤ 64 := by decide
  have h2 : ∀ n, n ≤ 6 → ∀ m, m < n → 2 ^ m ≤ 2 ^ n - 1 := by decide
  have g1 := h1 n hn
  have g2 := h1 m (by omega)
  have g3 := h2 n hn m hm
  rw [wr_id (x := ((2 ^ n : Nat) : Int) - 1) (by omega) (by omega), wr_id (by omega) (by omega)]
  omega
theorem all_bits : ∀ n, n ≤ 6 → ∀ m, m < n → ∀ c, c < n → c ≠ m → (2 ^ n - 1 - 2 ^ m).testBit c = true := by decide
theorem votR_lo {v : Int} {b : Nat → Int} {j : Nat} (h : j ≠ 5 ∧ j ≠ 24 + a) : votR a v b j = b j := by
  unfold votR
  rw [u1_ne h.2, u1_ne h.1]
theorem votR_5 {v : Int} {b : Nat → Int} : votR a v b 5 = bOr (b 5) (bShl 1 (a : Int)) := by
  unfold votR
  rw [u1_ne (by omega), u1_at]
/-- the row behind the making of a pass -/
theorem mad_at {e : Int} {b : Nat → Int} (hm : m < 6) (j : Nat) : comR (rowR (drpR (madR m e b))) j = if j = 3 then 1 else if j = 2 then 0 else if 18 ≤ j ∧ j < 24 then (if j = 18 + m then b 0 else b (j + 6)) else if j = 4 ∨ j = 5 ∨ (24 ≤ j ∧ j < 30) then 0 else if 32 ≤ j ∧ j < 38 then (if j = 32 + m then b 0 else b (j - 8)) else if j = 30 then e else if 30 ≤ j ∧ j < 50 then 0 else b j := by
  unfold comR
  by_cases h3 : j = 3
  · subst h3; rw [u1_at, if_pos rfl]
  · rw [u1_ne h3, if_neg h3]
    by_cases h2 : j = 2
    · subst h2; rw [u1_at, if_pos rfl]
    · rw [u1_ne h2, if_neg h2]
      unfold rowR
      by_cases h18 : 18 ≤ j ∧ j < 24
      · rw [if_pos h18, if_pos h18, drpR_lo (by omega)]
        unfold madR
        rw [if_pos (by omega)]
        by_cases hjm : j = 18 + m
        · rw [if_pos hjm, if_pos (by omega)]
        · rw [if_neg hjm, if_neg (by omega), show j + 14 - 8 = j + 6 by omega]
      · rw [if_neg h18, if_neg h18]
        by_cases h4 : j = 4 ∨ j = 5 ∨ (24 ≤ j ∧ j < 30)
        · rw [if_pos h4]
          exact if_pos h4
        · rw [if_neg h4, show drpR (madR m e b) j = madR m e b j from if_neg h4]
          unfold madR
          by_cases h32 : 32 ≤ j ∧ j < 38
          · rw [if_pos h32, if_pos h32]
          · rw [if_neg h32, if_neg h32]
            by_cases h30 : j = 30
            · subst h30; rw [u1_at, if_pos rfl]
            · rw [u1_ne h30, if_neg h30]
              rfl
theorem GI.voted (g : GI n k W X) (hp : p < k) (hm : m < n) (ha : a < n) (ham : a ≠ m) (h0 : X.2.2 p 0 = (a : Int)) (h1 : X.2.2 p 1 = (m : Int)) (h2 : X.2.2 p 2 = 4) (hW : W + 1 ≤ 1000000000) (hvo : ∀ i, i < n → ∀ j, j < 6 → 0 ≤ X.2.1 i (24 + j) ∧ X.2.1 i (24 + j) ≤ (W : Int)) : GI n (k - 1) (W + 1) (votedF n m a (X.2.2 p 3) (X.2.2 p 4) (tkF p X) h c).2.1 := by
  have gt := g.take hp
  have hA := gt.A
  have hAj := fun j j1 j4 => gt.1.2.2.2.2.1 j j1 j4
  have hn6 := g.A.2.2.2.1
  have hm6 : m < 6 := by omega
  have ha6 : a < 6 := by omega
  obtain ⟨m1, m2, m3, m4, m5, m6⟩ := g.1.2.2.2.2.2.2.1 p hp
  have he1 := g.2.2.2.2.2 p hp
  have hb := g.row hm
  obtain ⟨i1, i2, i3, i4, i5, i6, i7, i8, i9, L, i10⟩ := id hb
  have hL := i10.len
  have hC := hC_tk (p := p) g
  have hto : ∀ j, j < k - 1 → ∃ b : Nat, b < n ∧ (tkF p X).2.2 j 1 = (b : Int) := fun j hj => by obtain ⟨⟨a, b, -, hb, -, -, e⟩, -⟩ := gt.1.2.2.2.2.2.2.1 j hj; exact ⟨b, hb, e⟩
  have hne : ∀ j, j < k - 1 → (tkF p X).2.2 j 0 ≠ (tkF p X).2.2 j 1 := fun j hj => by obtain ⟨⟨a, b, -, -, hab, e1, e2⟩, -⟩ := gt.1.2.2.2.2.2.2.1 j hj; rw [e1, e2]; omega
  have h00 : ∀ i, i < n → 1 ≤ X.2.1 i 1 ∧ 0 ≤ X.2.1 i 30 := fun i hi => ⟨(g.row hi).2.1.1, (g.row hi).2.2.2.2.2.2.2.1.1⟩
  have hB : (tkF p X).2.1 = X.2.1 := rfl
  obtain ⟨v, v1, v2, v3⟩ := g.2.2.1 m hm
  unfold votedF
  rw [hB]
  by_cases hno : X.2.1 m 4 ≠ X.2.2 p 3 ∨ X.2.1 m 1 ≠ X.2.2 p 3
  · rw [if_pos hno]
    exact gt.mono (by omega) hW
  · rw [if_neg hno]
    have e4 : X.2.2 p 3 = X.2.1 m 4 := by omega
    have e1 : X.2.1 m 1 = X.2.1 m 4 := by omega
    have hcnt := PV.count g.2.1 hp h2 h0 h1 e4 ha
    have hcnt : PV n (k - 1) (fun i => X.2.1 i 1) (fun i => X.2.1 i 2) (fun i => X.2.1 i 4) (fun i => X.2.1 i 30) (fun b c => vb (X.2.1 b 5) c ∨ (b = m ∧ c = a)) (fun j => (tkF p X).2.2 j 0) (fun j => (tkF p X).2.2 j 1) (fun j => (tkF p X).2.2 j 2) (fun j => (tkF p X).2.2 j 3) (fun j => (tkF p X).2.2 j 5) := by
      rw [hC]
      exact hcnt.cg (fun _ _ => rfl) (fun _ _ => rfl) (fun _ _ => rfl) (fun _ _ => rfl) (fun _ _ _ => Iff.rfl) (fun _ hj => shC_sk hj) (fun _ hj => shC_sk hj) (fun _ hj => shC_sk hj) (fun _ hj _ => shC_sk hj) (fun _ hj _ => shC_sk hj)
    have hbor := bor_ok v v2 a ha6
    have r5 : votR a (X.2.2 p 4) (X.2.1 m) 5 = ((v ||| 2 ^ a : Nat) : Int) := by rw [votR_5, v1]; exact hbor.1
    have hIv : rowI n W (votR a (X.2.2 p 4) (X.2.1 m)) := by
      obtain ⟨q1, q2, q3, q4⟩ := i10
      exact ⟨by rw [votR_lo (by omega)]; exact i1, by rw [votR_lo (by omega)]; exact i2, by rw [votR_lo (by omega)]; exact i3, by rw [votR_lo (by omega)]; exact i4, by rw [votR_lo (by omega)]; exact i5, fun j hj => by rw [votR_lo (by omega)]; exact i6 j hj, fun j hj => by rw [votR_lo (by omega)]; exact i7 j hj, by rw [votR_lo (by omega)]; exact i8, fun j hj => by rw [votR_lo (by omega)]; exact i9 j hj, L, by rw [votR_lo (by omega)]; exact q1, fun i hi => by rw [votR_lo (by omega)]; exact q2 i hi, fun i j hi hj => by rw [votR_lo (by omega), votR_lo (by omega)]; exact q3 i j hi hj, fun i hi => by rw [votR_lo (by omega)]; exact q4 i hi⟩
    have vbe : ∀ x, vb (votR a (X.2.2 p 4) (X.2.1 m) 5) x ↔ (vb (X.2.1 m 5) x ∨ x = a) := by
      intro x
      rw [votR_5, v1]
      exact vb_or v2 ha6
    by_cases hall : votR a (X.2.2 p 4) (X.2.1 m) 5 ≠ allV n m
    · rw [if_pos hall]
      refine g.of hA.1 hA.2.1 hA.2.2.2.2.1 (fun j j1 j4 => gt.Aj j1 j4) (hIv.mono (by omega)) (fun j hj => (gt.1.2.2.2.2.2.2.1 j hj).mono (by omega)) ?_ ?_ (fun q => by have := g.had hm (Or.inl (votR_lo (by omega))) q; omega) gt.2.2.2.2.2 (by omega) hW
      · refine hcnt.cg (fun i _ => congrFun (vw_s (votR_lo (by omega))) i) (fun i _ => congrFun (vw_s (votR_lo (by omega))) i) (fun i _ => congrFun (vw_s (votR_lo (by omega))) i) (fun i _ => congrFun (vw_s (votR_lo (by omega))) i) (fun i _ x => ?_) (fun _ _ => rfl) (fun _ _ => rfl) (fun _ _ => rfl) (fun _ _ _ => rfl) (fun _ _ _ => rfl)
        by_cases him : i = m
        · subst him
          rw [uR_at, vbe]
          constructor
          · rintro (q | q)
            · exact Or.inl q
            · exact Or.inr ⟨rfl, q⟩
          · rintro (q | q)
            · exact Or.inl q
            · exact Or.inr q.2
        · rw [uR_ne him]
          constructor
          · exact fun q => Or.inl q
          · rintro (q | q)
            · exact q
            · exact absurd q.1 him
      · refine ⟨v ||| 2 ^ a, r5, hbor.2, fun x hx => ?_⟩
        rw [Nat.testBit_or, Nat.testBit_two_pow, Bool.or_eq_true, decide_eq_true_eq] at hx
        rcases hx with hx | hx
        · exact v3 x hx
        · subst hx
          exact ⟨ha, ham⟩
    · rw [if_neg hall]
      have hall := Decidable.not_not.mp hall
      have hmade := PV.made (m := m) hcnt hm (by show 0 < X.2.1 m 4; rw [← e4]; omega) e1 (fun x hx hxm => by
        show vb (X.2.1 m 5) x ∨ (m = m ∧ x = a)
        have : vb (votR a (X.2.2 p 4) (X.2.1 m) 5) x := by
          unfold vb
          rw [hall, allV_eq hn6 hm, Int.toNat_natCast]
          exact all_bits n hn6 m hm x hx hxm
        rcases (vbe x).mp this with q | q
        · exact Or.inl q
        · exact Or.inr ⟨rfl, q⟩) h00 gt.2.2.2.2.2 hto hne
      have hma := mad_at (e := X.2.2 p 3) (b := votR a (X.2.2 p 4) (X.2.1 m)) hm6
      generalize hbb : comR (rowR (drpR (madR m (X.2.2 p 3) (votR a (X.2.2 p 4) (X.2.1 m))))) = bb at hma ⊢
      have c1 : bb 1 = X.2.1 m 1 := by rw [hma 1, if_neg (by omega), if_neg (by omega), if_neg (by omega), if_neg (by omega), if_neg (by omega), if_neg (by omega), if_neg (by omega), votR_lo (by omega)]
      have c2 : bb 2 = 0 := by rw [hma 2, if_neg (by omega), if_pos rfl]
      have c4 : bb 4 = 0 := by rw [hma 4, if_neg (by omega), if_neg (by omega), if_neg (by omega), if_pos (by omega)]
      have c5 : bb 5 = 0 := by rw [hma 5, if_neg (by omega), if_neg (by omega), if_neg (by omega), if_pos (by omega)]
      have c30 : bb 30 = X.2.1 m 1 := by rw [hma 30, if_neg (by omega), if_neg (by omega), if_neg (by omega), if_neg (by omega), if_neg (by omega), if_pos rfl, e4, e1]
      have cl : ∀ j, j < 18 → j ≠ 2 → j ≠ 3 → j ≠ 4 → j ≠ 5 → bb j = X.2.1 m j := fun j j1 j2 j3 j4 j5 => by rw [hma j, if_neg (by omega), if_neg (by omega), if_neg (by omega), if_neg (by omega), if_neg (by omega), if_neg (by omega), if_neg (by omega), votR_lo (by omega)]
      have hI : rowI n W bb := by
        refine ⟨by rw [cl _ (by omega) (by omega) (by omega) (by omega) (by omega)]; exact i1, by rw [c1]; exact i2, Or.inl c2, Or.inr (by rw [hma 3, if_pos rfl]), by rw [c4]; omega, fun j hj => by rw [cl _ (by omega) (by omega) (by omega) (by omega) (by omega)]; exact i6 j hj, fun j hj => by rw [cl _ (by omega) (by omega) (by omega) (by omega) (by omega)]; exact i7 j hj, by rw [c30]; omega, fun j hj => ?_, 0, ?_, fun i hi => by omega, fun i j hi hj => by omega, fun i hi => by omega⟩
        · rw [hma _, if_neg (by omega), if_neg (by omega), if_neg (by omega), if_neg (by omega), if_pos (by omega)]
          split
          · rw [votR_lo (by omega)]; exact i1
          · by_cases hja : j = a
            · subst hja
              rw [show 32 + j - 8 = 24 + j by omega]
              unfold votR
              rw [u1_at]
              exact m4
            · rw [show 32 + j - 8 = 24 + j by omega, votR_lo (by omega)]
              exact hvo m hm j hj
        · rw [hma _, if_neg (by omega), if_neg (by omega), if_neg (by omega), if_neg (by omega), if_neg (by omega), if_neg (by omega), if_pos (by omega)]
          rfl
      refine g.of (by rw [u1_ne (by omega)]; exact hA.1) (by rw [u1_ne (by omega)]; exact hA.2.1) hA.2.2.2.2.1 (fun j j1 j4 => ?_) (hI.mono (by omega)) (fun j hj => (gt.1.2.2.2.2.2.2.1 j hj).mono (by omega)) ?_ (by rw [c5]; exact VO_0) (fun _ => by have := g.A; omega) gt.2.2.2.2.2 (by omega) hW
      · have := hAj j j1 j4
        by_cases hj2 : j = 2
        · subst hj2
          rw [u1_at]
          omega
        · rw [u1_ne hj2]
          omega
      · refine hmade.cg (fun i _ => congrFun (vw_s c1) i) (fun i _ => (congrFun vw_B i).trans (by rw [c2])) (fun i _ => (congrFun vw_B i).trans (by rw [c4])) (fun i _ => (congrFun vw_B i).trans (by rw [c30])) (fun i _ x => ?_) (fun _ _ => rfl) (fun _ _ => rfl) (fun _ _ => rfl) (fun _ _ _ => rfl) (fun _ _ _ => rfl)
        rw [vb_new c5 i x]
        constructor
        · exact fun q => ⟨q.1, Or.inl q.2⟩
        · rintro ⟨q1, q2 | q2⟩
          · exact ⟨q1, q2⟩
          · exact absurd q2.1 q1
end GI
