section GI
variable {n k W m p a : Nat} {X : NT} {h c : Int}
/-- the votes that are kept -/
def VT (n W : Nat) (B : Nat → Nat → Int) : Prop := ∀ i, i < n → ∀ j, j < 6 → (0 ≤ B i (24 + j) ∧ B i (24 + j) ≤ (W : Int)) ∧ (n ≤ j → B i (24 + j) = 0)
theorem VT.mono {B : Nat → Nat → Int} {W' : Nat} (v : VT n W B) (h : W ≤ W') : VT n W' B := fun i hi j hj => ⟨by have := (v i hi j hj).1; omega, (v i hi j hj).2⟩
theorem VT.row {B : Nat → Nat → Int} {b : Nat → Int} (v : VT n W B) (hb : ∀ j, j < 6 → b (24 + j) = B m (24 + j) ∨ b (24 + j) = 0) : VT n W (uR B m b) := by
  intro i hi j hj
  by_cases him : i = m
  · subst him
    rw [uR_at]
    rcases hb j hj with e | e
    · rw [e]
      exact v i hi j hj
    · rw [e]
      exact ⟨by omega, fun _ => rfl⟩
  · rw [uR_ne him]
    exact v i hi j hj
theorem VT.hand (v : VT n W X.2.1) : VT n W (handF n m X h c).2.1.2.1 := by
  unfold handF
  split
  · exact v.row (fun j hj => Or.inl (hnd2_lo (by omega)))
  · refine v.row (fun j hj => Or.inl ?_)
    unfold zrow
    rw [if_neg (by omega), hnd5_lo (by omega), hnd2_lo (by omega)]
theorem VT.asked (v : VT n W X.2.1) (ha : a < 6) {r : Nat → Int} : VT n W (askedF n m a r X h c).2.1.2.1 := by
  have v1 : VT n W (uR X.2.1 m (askR a r (X.2.1 m))) := v.row (fun j hj => Or.inl (askR_lo (by omega) (by omega)))
  unfold askedF
  split
  · exact VT.hand (X := (X.1, uR X.2.1 m (askR a r (X.2.1 m)), X.2.2)) v1
  · exact v1
theorem VT.passed (v : VT n W X.2.1) (hm : m < 6) {r : Nat → Int} : VT n W (passedF n m r X h c).2.1.2.1 := by
  have e : ∀ j, j < 6 → pasS m r (X.2.1 m) (24 + j) = 0 := fun j hj => by rw [pasS_at hm, if_neg (by omega), if_neg (by omega), if_pos (by omega)]
  have v1 : VT n W (uR X.2.1 m (pasS m r (X.2.1 m))) := v.row (fun j hj => Or.inr (e j hj))
  unfold passedF
  split
  · exact v
  · split
    · exact v.row (fun j hj => Or.inr (by rw [comR_lo (by omega)]; exact e j hj))
    · split
      · exact VT.hand (X := (dieA X.1 (X.2.1 m), uR X.2.1 m (pasS m r (X.2.1 m)), X.2.2)) v1
      · exact v1
theorem VT.doubted (v : VT n W X.2.1) {e : Int} : VT n W (doubtedF m a e X h c).2.1.2.1 := by
  unfold doubtedF sndF
  split
  · refine v.row (fun j hj => Or.inl ?_)
    unfold dou2 dou1
    repeat (first | rw [u1_ne (by omega)] | split)
    all_goals rfl
  · split
    · refine v.row (fun j hj => Or.inr ?_)
      exact if_pos (by omega)
    · exact v
theorem VT.voted (v : VT n W X.2.1) (ha : a < n) (hn6 : n ≤ 6) {e y : Int} (hy : 0 ≤ y ∧ y ≤ (W : Int)) (hm : m < 6) : VT n W (votedF n m a e y X h c).2.1.2.1 := by
  unfold votedF
  split
  · exact v
  · split
    · intro i hi j hj
      show (0 ≤ uR X.2.1 m _ i (24 + j) ∧ uR X.2.1 m _ i (24 + j) ≤ (W : Int)) ∧ (n ≤ j → uR X.2.1 m _ i (24 + j) = 0)
      by_cases him : i = m
      · subst him
        rw [uR_at]
        by_cases hja : j = a
        · subst hja
          unfold votR
          rw [u1_at]
          exact ⟨hy, fun h => by omega⟩
        · rw [votR_lo (by omega)]
          exact v i hi j hj
      · rw [uR_ne him]
        exact v i hi j hj
    · exact v.row (fun j hj => Or.inr (by rw [mad_at hm, if_neg (by omega), if_neg (by omega), if_neg (by omega), if_pos (by omega)]))
/-- all that holds of a net -/
def GJ (n k W : Nat) (X : NT) : Prop := GI n k W X ∧ VT n W X.2.1
theorem GJ.deliver (g : GJ n k W X) (hp : p < k) (hW : W + 2 ≤ 1000000000) : ∃ k', GJ n k' (W + 2) (delF n p X).2.1 ∧ k' ≤ k := by
  obtain ⟨g, v⟩ := g
  have gt := g.take hp
  have hn6 := g.A.2.2.2.1
  obtain ⟨⟨a, m, ha, hm, ham, e0, e1⟩, m2, m3, m4, m5, m6⟩ := g.1.2.2.2.2.2.2.1 p hp
  have v2 : VT n (W + 2) X.2.1 := v.mono (by omega)
  have vt : VT n (W + 2) (tkF p X).2.1 := v2
  show ∃ k', GJ n k' (W + 2) (delF1 n (X.2.2 p) (tkF p X)).2.1 ∧ k' ≤ k
  unfold delF1
  rw [e0, e1, Int.toNat_natCast, Int.toNat_natCast]
  by_cases h0 : X.2.2 p 2 = 0
  · rw [if_pos h0]
    obtain ⟨k', q1, q2⟩ := gt.asked (h := 0) (c := -1) hm ha (r := X.2.2 p) m3 ⟨m4.1, m5 h0⟩ hW
    exact ⟨k', ⟨q1, VT.asked vt (by omega)⟩, by omega⟩
  · rw [if_neg h0]
    by_cases h1 : X.2.2 p 2 = 1
    · rw [if_pos h1]
      obtain ⟨k', q1, q2⟩ := g.passed (h := 0) (c := -1) hp hm e1 h1 hW
      exact ⟨k', ⟨q1, VT.passed vt (by omega)⟩, q2⟩
    · rw [if_neg h1]
      by_cases h2 : X.2.2 p 2 = 2
      · rw [if_pos h2]
        obtain ⟨k', q1, q2⟩ := g.doubted (h := 0) (c := -1) hp hm ha ham e0 e1 h2 (by omega)
        exact ⟨k', ⟨q1.mono (by omega) hW, VT.doubted vt⟩, q2⟩
      · rw [if_neg h2]
        by_cases h3 : X.2.2 p 2 = 3
        · rw [if_pos h3]
          refine ⟨k - 1, ?_, by omega⟩
          dsimp only
          split
          · exact ⟨(gt.drop hm).mono (by omega) hW, vt.row (fun j hj => Or.inr (if_pos (by omega)))⟩
          · exact ⟨gt.mono (by omega) hW, vt⟩
        · rw [if_neg h3]
          refine ⟨k - 1, ⟨(g.voted (h := 0) (c := -1) hp hm ha ham e0 e1 (by omega) (by omega) (fun i hi j hj => (v i hi j hj).1)).mono (by omega) hW, VT.voted vt ha hn6 (by omega) (by omega)⟩, by omega⟩
theorem GJ.take (g : GJ n k W X) (hp : p < k) : GJ n (k - 1) W (tkF p X) := ⟨g.1.take hp, g.2⟩
/-- to LEAVE -/
def levF (n m : Nat) (X : NT) (h c : Int) : RT :=
  if 0 < levR m (X.2.1 m) 30 then handF n m (u1 X.1 4 (X.1 4 + 1), uR X.2.1 m (levR m (X.2.1 m)), X.2.2) h c
  else ((m : Int), (u1 X.1 4 (X.1 4 + 1), uR X.2.1 m (levR m (X.2.1 m)), X.2.2), h, c)
theorem levR_at {b : Nat → Int} (hm : m < 6) (j : Nat) : levR m b j = if j = 3 then 0 else if j = 0 then b (6 + m) else if 0 < b 30 ∧ j = 32 + m then b (6 + m) else b j := by
  unfold levR
  by_cases h30 : 0 < b 30
  · rw [if_pos h30]
    by_cases h1 : j = 32 + m
    · subst h1
      rw [u1_at, if_neg (by omega), if_neg (by omega), if_pos ⟨h30, rfl⟩]
    · rw [u1_ne h1]
      by_cases h2 : j = 0
      · subst h2
        rw [u1_at, if_neg (by omega), if_pos rfl]
      · rw [u1_ne h2]
        by_cases h3 : j = 3
        · subst h3
          rw [u1_at, if_pos rfl]
        · rw [u1_ne h3, if_neg h3, if_neg h2, if_neg (fun q => h1 q.2)]
  · rw [if_neg h30]
    by_cases h2 : j = 0
    · subst h2
      rw [u1_at, if_neg (by omega), if_pos rfl]
    · rw [u1_ne h2]
      by_cases h3 : j = 3
      · subst h3
        rw [u1_at, if_pos rfl]
      · rw [u1_ne h3, if_neg h3, if_neg h2, if_neg (fun q => h30 q.1)]
theorem GJ.lev (g : GJ n k W X) (hm : m < n) (hW : W + 2 ≤ 1000000000) : ∃ k', GJ n k' (W + 2) (levF n m X h c).2.1 ∧ k' ≤ k + 1 := by
  obtain ⟨g, v⟩ := g
  have hn6 := g.A.2.2.2.1
  have hm6 : m < 6 := by omega
  have la := levR_at (b := X.2.1 m) hm6
  obtain ⟨i1, i2, i3, i4, i5, i6, i7, i8, i9, L, i10⟩ := g.row hm
  have hL := i10.len
  have ll : ∀ j, j ≠ 3 → j ≠ 0 → j ≠ 32 + m → levR m (X.2.1 m) j = X.2.1 m j := fun j j1 j2 j3 => by rw [la j, if_neg j1, if_neg j2, if_neg (fun q => j3 q.2)]
  have hI : rowI n (W + 1) (levR m (X.2.1 m)) := by
    obtain ⟨q1, q2, q3, q4⟩ := i10
    refine rowI.mono (W := W) ⟨by rw [la 0, if_neg (by omega), if_pos rfl]; exact i6 m hm6, by rw [ll _ (by omega) (by omega) (by omega)]; exact i2, by rw [ll _ (by omega) (by omega) (by omega)]; exact i3, Or.inl (by rw [la 3, if_pos rfl]), by rw [ll _ (by omega) (by omega) (by omega)]; exact i5, fun j hj => by rw [ll _ (by omega) (by omega) (by omega)]; exact i6 j hj, fun j hj => by rw [ll _ (by omega) (by omega) (by omega)]; exact i7 j hj, by rw [ll _ (by omega) (by omega) (by omega)]; exact i8, fun j hj => ?_, L, by rw [ll _ (by omega) (by omega) (by omega)]; exact q1, fun i hi => by rw [ll _ (by omega) (by omega) (by omega)]; exact q2 i hi, fun i j hi hj => by rw [ll _ (by omega) (by omega) (by omega), ll _ (by omega) (by omega) (by omega)]; exact q3 i j hi hj, fun i hi => by rw [ll _ (by omega) (by omega) (by omega)]; exact q4 i hi⟩ (by omega)
    rw [la _, if_neg (by omega), if_neg (by omega)]
    split
    · exact i6 m hm6
    · exact i9 j hj
  have g1 : GI n k (W + 1) (u1 X.1 4 (X.1 4 + 1), uR X.2.1 m (levR m (X.2.1 m)), X.2.2) := by
    refine g.upd hm (by rw [u1_ne (by omega)]) (by rw [u1_ne (by omega)]) (fun j j1 j4 => ?_) hI (ll _ (by omega) (by omega) (by omega)) (ll _ (by omega) (by omega) (by omega)) (ll _ (by omega) (by omega) (by omega)) (ll _ (by omega) (by omega) (by omega)) (ll _ (by omega) (by omega) (by omega)) (by omega)
    have := g.1.2.2.2.2.1 j j1 j4
    by_cases hj4 : j = 4
    · subst hj4
      rw [u1_at]
      omega
    · rw [u1_ne hj4]
      omega
  have v1 : VT n (W + 2) (uR X.2.1 m (levR m (X.2.1 m))) := (v.mono (by omega)).row (fun j hj => Or.inl (ll _ (by omega) (by omega) (by omega)))
  unfold levF
  split
  · next hh =>
    obtain ⟨k', q1, q2⟩ := g1.hand (m := m) (h := h) (c := c) hm (by show 0 < uR X.2.1 m _ m 30; rw [uR_at]; exact hh) (by omega)
    exact ⟨k', ⟨q1, VT.hand (X := (u1 X.1 4 (X.1 4 + 1), uR X.2.1 m (levR m (X.2.1 m)), X.2.2)) v1⟩, q2⟩
  · exact ⟨k, ⟨g1.mono (by omega) hW, v1⟩, by omega⟩
end GI
