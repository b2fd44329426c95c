section GI
variable {n k W m p a : Nat} {X : NT} {h c : Int}
theorem dou2_eq {e : Int} {b : Nat → Int} (hb : b 30 = b 1) (j : Nat) : dou2 e b j = if b 30 < e then (if j = 30 ∨ j = 1 then e else b j) else b j := by
  unfold dou2 dou1
  by_cases hlt : b 30 < e
  · rw [if_pos hlt, if_pos (by rw [u1_ne (by omega), ← hb]; exact hlt), if_pos hlt]
    by_cases h1 : j = 1
    · subst h1
      rw [u1_at, if_pos (by omega)]
    · rw [u1_ne h1]
      by_cases h30 : j = 30
      · subst h30
        rw [u1_at, if_pos (by omega)]
      · rw [u1_ne h30, if_neg (by omega)]
  · rw [if_neg hlt, if_neg (by omega), if_neg hlt]
theorem msg_new {e y : Int} {kk : Int} (hm : m < n) (ha : a < n) (ham : a ≠ m) (hk : kk = 2 ∨ kk = 3 ∨ kk = 4) (he : 0 ≤ e ∧ e ≤ W) (hy : 0 ≤ y ∧ y ≤ W) : msgI n W (mrow (m : Int) (a : Int) kk e y (fun _ => 0)) :=
  ⟨⟨m, a, hm, ha, fun h => ham h.symm, rfl, rfl⟩, by show 0 ≤ kk ∧ kk ≤ 4; omega, he, hy, fun h => by have h : kk = 0 := h; omega, fun h => by have h : kk = 1 := h; omega⟩
theorem hC_tk (g : GI n k W X) : (tkF p X).2.2 = shC X.2.2 p k := by
  unfold tkF
  rw [g.A.2.1, Int.toNat_natCast]
theorem GI.doubted (g : GI n k W X) (hp : p < k) (hm : m < n) (ha : a < n) (ham : a ≠ m) (h0 : X.2.2 p 0 = (a : Int)) (h1 : X.2.2 p 1 = (m : Int)) (h2 : X.2.2 p 2 = 2) (hW : W + 1 ≤ 1000000000) : ∃ k', GI n k' (W + 1) (doubtedF m a (X.2.2 p 3) (tkF p X) h c).2.1 ∧ k' ≤ k := by
  have gt := g.take hp
  have hA := gt.A
  have hAj := fun j j1 j4 => gt.1.2.2.2.2.1 j j1 j4
  have hn6 := g.A.2.2.2.1
  have hkk : k - 1 + 1 = k := by omega
  obtain ⟨m1, m2, m3, m4, m5, m6⟩ := g.1.2.2.2.2.2.2.1 p hp
  have he1 := g.2.2.2.2.2 p hp
  have hea := g.2.1.2.2.2.2.1 p hp h2 a ha h0
  have hea : X.2.2 p 3 ≤ X.2.1 a 1 := hea
  have hb := g.row hm
  obtain ⟨i1, i2, i3, i4, i5, i6, i7, i8, i9, L, i10⟩ := id hb
  have hL := i10.len
  have hC := hC_tk (p := p) g
  have hto : ∀ j, j < k - 1 → ∃ b : Nat, b < n ∧ (tkF p X).2.2 j 1 = (b : Int) := fun j hj => by obtain ⟨⟨a, b, -, hb, -, -, e⟩, -⟩ := gt.1.2.2.2.2.2.2.1 j hj; exact ⟨b, hb, e⟩
  have h00 : ∀ i, i < n → 1 ≤ X.2.1 i 1 ∧ 0 ≤ X.2.1 i 30 := fun i hi => ⟨(g.row hi).2.1.1, (g.row hi).2.2.2.2.2.2.2.1.1⟩
  have hPt := gt.2.1
  unfold doubtedF sndF
  have hB : (tkF p X).2.1 = X.2.1 := rfl
  rw [hB] at hPt ⊢
  dsimp only
  rw [hA.2.1, Int.toNat_natCast] 
  generalize X.2.2 p 3 = e at m3 he1 hea ⊢
  by_cases hh : 0 < X.2.1 m 30 ∧ e - 1 ≤ X.2.1 m 30
  · rw [if_pos hh]
    have e0 : X.2.1 m 30 = X.2.1 m 1 := g.2.1.1 m hm hh.1
    have hd := dou2_eq (e := e) e0
    refine ⟨k, ?_, by omega⟩
    have hk40 := g.2.2.2.2.1 ⟨m, hm, hh.1⟩
    have hI : rowI n (W + 1) (dou2 e (X.2.1 m)) := by
      refine rowI.mono (W := W) ?_ (by omega)
      have hl : ∀ j, j ≠ 30 → j ≠ 1 → dou2 e (X.2.1 m) j = X.2.1 m j := fun j j1 j2 => by rw [hd j]; split <;> first | rfl | rw [if_neg (by omega)]
      have h30 : 0 ≤ dou2 e (X.2.1 m) 30 ∧ dou2 e (X.2.1 m) 30 ≤ W := by
        rw [hd 30]
        split
        · rw [if_pos (by omega)]; omega
        · exact i8
      have h11 : 1 ≤ dou2 e (X.2.1 m) 1 ∧ dou2 e (X.2.1 m) 1 ≤ W := by
        rw [hd 1]
        split
        · rw [if_pos (by omega)]; omega
        · exact i2
      obtain ⟨q1, q2, q3, q4⟩ := i10
      exact ⟨by rw [hl _ (by omega) (by omega)]; exact i1, h11, by rw [hl _ (by omega) (by omega)]; exact i3, by rw [hl _ (by omega) (by omega)]; exact i4, by rw [hl _ (by omega) (by omega)]; exact i5, fun j hj => by rw [hl _ (by omega) (by omega)]; exact i6 j hj, fun j hj => by rw [hl _ (by omega) (by omega)]; exact i7 j hj, h30, fun j hj => by rw [hl _ (by omega) (by omega)]; exact i9 j hj, L, by rw [hl _ (by omega) (by omega)]; exact q1, fun i hi => by rw [hl _ (by omega) (by omega)]; exact q2 i hi, fun i j hi hj => by rw [hl _ (by omega) (by omega), hl _ (by omega) (by omega)]; exact q3 i j hi hj, fun i hi => by rw [hl _ (by omega) (by omega)]; exact q4 i hi⟩
    have hP : PN n (k - 1) (uR X.2.1 m (dou2 e (X.2.1 m))) (tkF p X).2.2 := by
      by_cases hlt : X.2.1 m 30 < e
      · have hee : X.2.1 m 30 + 1 = e := by omega
        have hr := PV.raise hPt hm hh.1 h00 hto
        refine hr.cg (fun i _ => (congrFun vw_B i).trans ?_) (fun i _ => (congrFun vw_B i).trans ?_) (fun i _ => (congrFun vw_B i).trans ?_) (fun i _ => (congrFun vw_B i).trans ?_) (fun i _ x => ?_) (fun _ _ => rfl) (fun _ _ => rfl) (fun _ _ => rfl) (fun _ _ _ => rfl) (fun _ _ _ => rfl)
        · rw [hd 1, if_pos hlt, if_pos (by omega), ← hee]
        · rw [hd 2, if_pos hlt, if_neg (by omega)]
          by_cases him : i = m
          · subst him; rw [u1_at]
          · rw [u1_ne him]
        · rw [hd 4, if_pos hlt, if_neg (by omega)]
          by_cases him : i = m
          · subst him; rw [u1_at]
          · rw [u1_ne him]
        · rw [hd 30, if_pos hlt, if_pos (by omega), ← hee]
        · show vb (uR X.2.1 m _ i 5) x ↔ vb (X.2.1 i 5) x
          rw [congrFun (vw_s (show dou2 e (X.2.1 m) 5 = X.2.1 m 5 by rw [hd 5, if_pos hlt, if_neg (by omega)])) i]
      · have hs : dou2 e (X.2.1 m) = X.2.1 m := funext fun j => by rw [hd j, if_neg hlt]
        rw [hs, uR_eq]
        exact hPt
    refine g.of (k' := k) (A' := u1 (tkF p X).1 5 (((k - 1 : Nat) : Int) + 1)) ?_ ?_ g.2.2.2.1 (fun j j1 j4 => ?_) hI (fun j hj => ?_) ?_ ?_ (fun _ => hk40) (fun j hj => ?_) (by omega) hW
    · rw [u1_ne (by omega)]; exact hA.1
    · rw [u1_at]; omega
    · rw [u1_ne (by omega)]; have := hAj j j1 j4; omega
    · by_cases hjk : j = k - 1
      · subst hjk
        rw [uR_at]
        exact msg_new hm ha ham (by omega) (by omega) (by omega)
      · rw [uR_ne hjk]
        exact (gt.1.2.2.2.2.2.2.1 j (by omega)).mono (by omega)
    · have := PV.add0 hP (f := (m : Int)) (t := (a : Int)) (c := 3) (v := e) (q := 0) (Or.inr rfl)
      rw [hkk] at this
      exact this.cg (fun _ _ => rfl) (fun _ _ => rfl) (fun _ _ => rfl) (fun _ _ => rfl) (fun _ _ _ => Iff.rfl) (fun j _ => congrFun vw_B j) (fun j _ => congrFun vw_B j) (fun j _ => congrFun vw_B j) (fun j _ _ => congrFun vw_B j) (fun j _ _ => congrFun vw_B j)
    · rw [show dou2 e (X.2.1 m) 5 = X.2.1 m 5 by rw [hd 5]; split <;> first | rfl | rw [if_neg (by omega)]]
      exact g.2.2.1 m hm
    · by_cases hjk : j = k - 1
      · subst hjk
        rw [uR_at]
        exact he1
      · rw [uR_ne hjk]
        exact gt.2.2.2.2.2 j (by omega)
  · rw [if_neg hh]
    by_cases hlt : X.2.1 m 1 < e
    · rw [if_pos hlt]
      refine ⟨k, ?_, by omega⟩
      have hdA : dieA (tkF p X).1 (X.2.1 m) 5 = ((k - 1 : Nat) : Int) := by rw [dieA_n (by omega)]; exact hA.2.1
      rw [hdA, Int.toNat_natCast]
      have hrow : ∀ j, drpR (losD (u1 (X.2.1 m) 1 e)) j = if j = 4 ∨ j = 5 ∨ (24 ≤ j ∧ j < 30) then 0 else if 0 < X.2.1 m 30 ∧ 30 ≤ j ∧ j < 50 then 0 else if j = 1 then e else X.2.1 m j := by
        intro j
        unfold drpR losD
        by_cases hj : j = 4 ∨ j = 5 ∨ (24 ≤ j ∧ j < 30)
        · rw [if_pos hj, if_pos hj]
        · rw [if_neg hj, if_neg hj]
          by_cases hm0 : 0 < X.2.1 m 30
          · rw [if_pos (by rw [u1_ne (by omega)]; exact hm0)]
            unfold zrow
            by_cases hz : 30 ≤ j ∧ j < 50
            · rw [if_pos hz, if_pos ⟨hm0, hz⟩]
            · rw [if_neg hz, if_neg (fun h => hz h.2)]
              rfl
          · rw [if_neg (by rw [u1_ne (by omega)]; exact hm0), if_neg (fun h => hm0 h.1)]
            rfl
      have hl : ∀ j, j < 24 → j ≠ 1 → j ≠ 4 → j ≠ 5 → drpR (losD (u1 (X.2.1 m) 1 e)) j = X.2.1 m j := fun j j1 j2 j3 j4 => by rw [hrow j, if_neg (by omega), if_neg (by omega), if_neg (by omega)]
      have r1 : drpR (losD (u1 (X.2.1 m) 1 e)) 1 = e := by rw [hrow 1, if_neg (by omega), if_neg (by omega), if_pos rfl]
      have r4 : drpR (losD (u1 (X.2.1 m) 1 e)) 4 = 0 := by rw [hrow 4, if_pos (by omega)]
      have r5 : drpR (losD (u1 (X.2.1 m) 1 e)) 5 = 0 := by rw [hrow 5, if_pos (by omega)]
      have r30 : drpR (losD (u1 (X.2.1 m) 1 e)) 30 = 0 := by
        rw [hrow 30, if_neg (by omega)]
        by_cases hm0 : 0 < X.2.1 m 30
        · rw [if_pos (by omega)]
        · rw [if_neg (by omega), if_neg (by omega)]
          omega
      have hI : rowI n (W + 1) (drpR (losD (u1 (X.2.1 m) 1 e))) := by
        refine rowI.mono (W := W) ?_ (by omega)
        refine ⟨by rw [hl _ (by omega) (by omega) (by omega) (by omega)]; exact i1, by rw [r1]; omega, by rw [hl _ (by omega) (by omega) (by omega) (by omega)]; exact i3, by rw [hl _ (by omega) (by omega) (by omega) (by omega)]; exact i4, by rw [r4]; omega, fun j hj => by rw [hl _ (by omega) (by omega) (by omega) (by omega)]; exact i6 j hj, fun j hj => by rw [hl _ (by omega) (by omega) (by omega) (by omega)]; exact i7 j hj, by rw [r30]; omega, fun j hj => ?_, ?_⟩
        · rw [hrow _, if_neg (by omega)]
          split
          · omega
          · rw [if_neg (by omega)]
            exact i9 j hj
        · by_cases hm0 : 0 < X.2.1 m 30
          · refine ⟨0, ?_, fun i hi => by omega, fun i j hi hj => by omega, fun i hi => by omega⟩
            rw [hrow _, if_neg (by omega), if_pos (by omega)]
            rfl
          · have hl2 : ∀ j, 30 ≤ j → drpR (losD (u1 (X.2.1 m) 1 e)) j = X.2.1 m j := fun j j1 => by rw [hrow j, if_neg (by omega), if_neg (by omega), if_neg (by omega)]
            obtain ⟨q1, q2, q3, q4⟩ := i10
            exact ⟨L, by rw [hl2 _ (by omega)]; exact q1, fun i hi => by rw [hl2 _ (by omega)]; exact q2 i hi, fun i j hi hj => by rw [hl2 _ (by omega), hl2 _ (by omega)]; exact q3 i j hi hj, fun i hi => by rw [hl2 _ (by omega)]; exact q4 i hi⟩
      have r0 : 0 ≤ X.2.1 m 0 ∧ X.2.1 m 0 ≤ ((W + 1 : Nat) : Int) := by omega
      refine g.of (k' := k) (A' := u1 (dieA (tkF p X).1 (X.2.1 m)) 5 (((k - 1 : Nat) : Int) + 1)) ?_ ?_ g.2.2.2.1 (fun j j1 j4 => ?_) hI (fun j hj => ?_) ?_ (by rw [r5]; exact VO_0) (g.had hm (Or.inr r30)) (fun j hj => ?_) (by omega) hW
      · rw [u1_ne (by omega), dieA_n (by omega)]; exact hA.1
      · rw [u1_at]; omega
      · rw [u1_ne (by omega)]
        have := hAj j j1 j4
        unfold dieA
        split
        · by_cases hj1 : j = 1
          · subst hj1
            rw [u1_at]
            omega
          · rw [u1_ne hj1]
            omega
        · omega
      · by_cases hjk : j = k - 1
        · subst hjk
          rw [uR_at]
          exact msg_new hm ha ham (by omega) (by omega) r0
        · rw [uR_ne hjk]
          exact (gt.1.2.2.2.2.2.2.1 j (by omega)).mono (by omega)
      · have hv := PV.vote hPt hm ha (e := e) hlt hea ham h00 gt.2.2.2.2.2 (q := 0)
        rw [hkk] at hv
        refine hv.cg (fun i _ => (congrFun vw_B i).trans (by rw [r1])) (fun i _ => congrFun (vw_s (hl 2 (by omega) (by omega) (by omega) (by omega))) i) (fun i _ => (congrFun vw_B i).trans (by rw [r4])) (fun i _ => (congrFun vw_B i).trans (by rw [r30])) (fun i _ x => vb_new r5 i x) (fun j _ => congrFun vw_B j) (fun j _ => congrFun vw_B j) (fun j _ => congrFun vw_B j) (fun j _ _ => congrFun vw_B j) (fun j _ _ => congrFun vw_B j)
      · by_cases hjk : j = k - 1
        · subst hjk
          rw [uR_at]
          exact he1
        · rw [uR_ne hjk]
          exact gt.2.2.2.2.2 j (by omega)
    · rw [if_neg hlt]
      exact ⟨k - 1, gt.mono (by omega) hW, by omega⟩
theorem drpR_I {b : Nat → Int} (h : rowI n W b) : rowI n W (drpR b) := by
  obtain ⟨i1, i2, i3, i4, i5, i6, i7, i8, i9, L, q1, q2, q3, q4⟩ := h
  exact ⟨by rw [drpR_lo (by omega)]; exact i1, by rw [drpR_lo (by omega)]; exact i2, by rw [drpR_lo (by omega)]; exact i3, by rw [drpR_lo (by omega)]; exact i4, by rw [show drpR b 4 = 0 from if_pos (by omega)]; omega, fun j hj => by rw [drpR_lo (by omega)]; exact i6 j hj, fun j hj => by rw [drpR_lo (by omega)]; exact i7 j hj, by rw [drpR_lo (by omega)]; exact i8, fun j hj => by rw [drpR_lo (by omega)]; exact i9 j hj, L, by rw [drpR_lo (by omega)]; exact q1, fun i hi => by rw [drpR_lo (by omega)]; exact q2 i hi, fun i j hi hj => by rw [drpR_lo (by omega), drpR_lo (by omega)]; exact q3 i j hi hj, fun i hi => by rw [drpR_lo (by omega)]; exact q4 i hi⟩
theorem GI.drop (g : GI n k W X) (hm : m < n) : GI n k W (X.1, uR X.2.1 m (drpR (X.2.1 m)), X.2.2) := by
  have hd := PV.drop g.2.1 hm (fun i hi => (g.row hi).2.1.1) g.2.2.2.2.2
  have r4 : drpR (X.2.1 m) 4 = 0 := if_pos (by omega)
  have r5 : drpR (X.2.1 m) 5 = 0 := if_pos (by omega)
  refine g.of g.A.1 g.A.2.1 g.2.2.2.1 g.1.2.2.2.2.1 (drpR_I (g.row hm)) g.1.2.2.2.2.2.2.1 ?_ (by rw [r5]; exact VO_0) (g.had hm (Or.inl (drpR_lo (by omega)))) g.2.2.2.2.2 (Nat.le_refl _) g.A.2.2.2.2.2
  exact hd.cg (fun i _ => congrFun (vw_s (drpR_lo (by omega))) i) (fun i _ => congrFun (vw_s (drpR_lo (by omega))) i) (fun i _ => (congrFun vw_B i).trans (by rw [r4])) (fun i _ => congrFun (vw_s (drpR_lo (by omega))) i) (fun i _ x => vb_new r5 i x) (fun _ _ => rfl) (fun _ _ => rfl) (fun _ _ => rfl) (fun _ _ _ => rfl) (fun _ _ _ => rfl)
end GI
