section GI
variable {n k W m p a : Nat} {X : NT} {h c : Int}
/-- all that are IN leave, the eldest message is delivered -/
noncomputable def onceF (n : Nat) (X : NT) : RT := if (lvF n n X).1 5 = 0 then (0, lvF n n X, 0, -1) else (1, (delF n 0 (lvF n n X)).2)
theorem GJ.once (g : GJ n k W X) (hW : W + 14 ≤ 1000000000) : ∃ k', GJ n k' (W + 14) (onceF n X).2.1 := by
  have hn6 := g.1.A.2.2.2.1
  obtain ⟨k', g'⟩ := g.lvs (by omega) n (Nat.le_refl _)
  unfold onceF
  split
  · exact ⟨k', g'.1.mono (by omega) (by omega), g'.2.mono (by omega)⟩
  · next h0 =>
    have h5 := g'.1.A.2.1
    obtain ⟨k2, g2, -⟩ := g'.deliver (p := 0) (by omega) (by omega)
    exact ⟨k2, g2.1.mono (by omega) (by omega), g2.2.mono (by omega)⟩
noncomputable def setF (n : Nat) : Nat → NT → Int × NT
  | 0, X => (0, X)
  | t + 1, X => if (onceF n X).1 = 0 then (0, (onceF n X).2.1) else ((setF n t (onceF n X).2.1).1 + 1, (setF n t (onceF n X).2.1).2)
theorem setF_b (n : Nat) : ∀ t X, 0 ≤ (setF n t X).1 ∧ (setF n t X).1 ≤ t
  | 0, X => by simp [setF]
  | t + 1, X => by
    have := setF_b n t (onceF n X).2.1
    unfold setF
    split
    · simp; omega
    · simp; omega
theorem GJ.set : ∀ t {k W : Nat} {X : NT}, GJ n k W X → W + 14 * t ≤ 1000000000 → ∃ k', GJ n k' (W + 14 * t) (setF n t X).2
  | 0, k, W, X, g, _ => ⟨k, g⟩
  | t + 1, k, W, X, g, hW => by
    obtain ⟨k', g'⟩ := g.once (by omega)
    unfold setF
    split
    · exact ⟨k', g'.1.mono (by omega) (by omega), g'.2.mono (by omega)⟩
    · obtain ⟨k2, g2⟩ := GJ.set t g' (by omega)
      exact ⟨k2, g2.1.mono (by omega) (by omega), g2.2.mono (by omega)⟩
def losF (p : Nat) (X : NT) : NT := (u1 (tkF p X).1 3 ((tkF p X).1 3 + 1), (tkF p X).2.1, (tkF p X).2.2)
theorem GJ.lose (g : GJ n k W X) (hp : p < k) (hW : W + 1 ≤ 1000000000) : GJ n (k - 1) (W + 1) (losF p X) := by
  have g' := g.take hp
  refine ⟨g'.1.cnt (u1_ne (by omega)) (u1_ne (by omega)) (fun j j1 j4 => ?_) hW, g'.2.mono (by omega)⟩
  have := g'.1.Aj j1 j4
  have h3 := g'.1.1.2.2.2.2.1 3 (by omega) (by omega)
  by_cases hj : j = 3
  · subst hj; rw [u1_at]; omega
  · rw [u1_ne hj]; omega
theorem fst_b {C : Nat → Nat → Int} {a b : Int} : ∀ r k, fst_ C a b k r = -1 ∨ ((k : Int) ≤ fst_ C a b k r ∧ fst_ C a b k r < ((k + r : Nat) : Int))
  | 0, k => Or.inl rfl
  | r + 1, k => by
    unfold fst_
    split
    · right; omega
    · rcases fst_b (C := C) (a := a) (b := b) r (k + 1) with h | h
      · exact Or.inl h
      · right; omega
/-- an act: kind t with its numbers x, y -/
noncomputable def actF (n k : Nat) (t x y : Int) (X : NT) : Int × NT :=
  if t = 0 then (if 0 ≤ x ∧ x < n then ((askF n x.toNat X 0 0).1, (askF n x.toNat X 0 0).2.1) else (-1, X))
  else if t = 1 then (if (0 ≤ x ∧ x < n) ∧ X.2.1 x.toNat 3 ≠ 0 then ((levF n x.toNat X 0 0).1, (levF n x.toNat X 0 0).2.1) else (-1, X))
  else if t = 2 then (if 0 ≤ x ∧ x < n then ((susF n x.toNat X 0 0).1, (susF n x.toNat X 0 0).2.1) else (-1, X))
  else if t = 3 then (if fst_ X.2.2 x y 0 k = -1 then (-1, X) else ((delF n (fst_ X.2.2 x y 0 k).toNat X).1, (delF n (fst_ X.2.2 x y 0 k).toNat X).2.1))
  else if t = 4 then (if fst_ X.2.2 x y 0 k = -1 then (-1, X) else (X.2.2 (fst_ X.2.2 x y 0 k).toNat 2, losF (fst_ X.2.2 x y 0 k).toNat X))
  else setF n x.toNat X
theorem GJ.act (g : GJ n k W X) {t x y : Int} (h5 : t = 0 ∨ t = 1 ∨ t = 2 ∨ t = 3 ∨ t = 4 ∨ x ≤ 99) (h9 : 9 ≤ W) (hW : W + 1400 ≤ 1000000000) : ∃ k', GJ n k' (W + 1400) (actF n k t x y X).2 := by
  have up : ∀ {k' W' : Nat} {Y : NT}, GJ n k' W' Y → W' ≤ W + 1400 → ∃ k', GJ n k' (W + 1400) Y := fun {k' W' Y} g' h' => ⟨k', g'.1.mono h' hW, g'.2.mono h'⟩
  have hf := fst_b (C := X.2.2) (a := x) (b := y) k 0
  unfold actF
  split
  · split
    · obtain ⟨k', g'⟩ := g.ask (m := x.toNat) (h := 0) (c := 0) (by omega) h9 (by omega)
      exact up g' (by omega)
    · exact up g (by omega)
  · split
    · split
      · obtain ⟨k', g', -⟩ := g.lev (m := x.toNat) (h := 0) (c := 0) (by omega) (by omega)
        exact up g' (by omega)
      · exact up g (by omega)
    · split
      · split
        · obtain ⟨k', g'⟩ := g.sus (m := x.toNat) (h := 0) (c := 0) (by omega) h9 (by omega)
          exact up g' (by omega)
        · exact up g (by omega)
      · split
        · split
          · exact up g (by omega)
          · obtain ⟨k', g', -⟩ := g.deliver (p := (fst_ X.2.2 x y 0 k).toNat) (by omega) (by omega)
            exact up g' (by omega)
        · split
          · split
            · exact up g (by omega)
            · exact up (g.lose (p := (fst_ X.2.2 x y 0 k).toNat) (by omega) (by omega)) (by omega)
          · obtain ⟨k', g'⟩ := GJ.set x.toNat g (by omega)
            exact up g' (by omega)
/-- a net at its beginning: n members, ranks r -/
def begN (n : Nat) (r : Nat → Int) : NT := (fun j => if j = 0 then (n : Int) else 0, fun i j => if n ≤ i then 0 else if j = 1 then 1 else if i = 0 ∧ j = 30 then 1 else if 12 ≤ j ∧ j < 18 then r (j - 12) else 0, fun _ _ => 0)
theorem begN_row {r : Nat → Int} {i : Nat} (hi : i < n) (j : Nat) : (begN n r).2.1 i j = if j = 1 then 1 else if i = 0 ∧ j = 30 then 1 else if 12 ≤ j ∧ j < 18 then r (j - 12) else 0 := if_neg (by omega)
theorem GJ.beg {r : Nat → Int} (h2 : 2 ≤ n) (h6 : n ≤ 6) (hr : ∀ j, j < 6 → 0 ≤ r j ∧ r j ≤ 9) : GJ n 0 9 (begN n r) := by
  have e := fun {i : Nat} (hi : i < n) (j : Nat) => begN_row (r := r) hi j
  refine ⟨⟨⟨⟨h2, h6⟩, by simp [begN], rfl, by omega, fun j j1 j4 => ?_, fun i hi => ?_, fun j hj => absurd hj (by omega), by omega⟩, ?_, fun i hi => ?_, by omega, fun _ => by omega, fun j hj => absurd hj (by omega)⟩, fun i hi j hj => ?_⟩
  · show 0 ≤ (if j = 0 then (n : Int) else 0) ∧ (if j = 0 then (n : Int) else 0) ≤ ((9 : Nat) : Int)
    rw [if_neg (by omega)]; omega
  · refine ⟨?_, ?_, ?_, ?_, ?_, fun j hj => ?_, fun j hj => ?_, ?_, fun j hj => ?_, 0, ?_, fun i hi => absurd hi (by omega), fun i j hi => absurd hi (by omega), fun i hi => absurd hi (by omega)⟩
    · rw [e hi]; simp
    · rw [e hi]; simp
    · rw [e hi]; simp
    · rw [e hi]; simp
    · rw [e hi]; simp
    · rw [e hi, if_neg (by omega), if_neg (by omega), if_neg (by omega)]; omega
    · rw [e hi, if_neg (by omega), if_neg (by omega), if_pos (by omega), show 12 + j - 12 = j by omega]; exact hr j hj
    · rw [e hi, if_neg (by omega)]
      by_cases h0 : i = 0
      · rw [if_pos (by omega)]; omega
      · rw [if_neg (by omega), if_neg (by omega)]; omega
    · rw [e hi, if_neg (by omega), if_neg (by omega), if_neg (by omega)]; omega
    · rw [e hi, if_neg (by omega), if_neg (by omega), if_neg (by omega)]; rfl
  · have z4 : ∀ i, i < n → (begN n r).2.1 i 4 = 0 := fun i hi => by rw [e hi]; simp
    have z2 : ∀ i, i < n → (begN n r).2.1 i 2 = 0 := fun i hi => by rw [e hi]; simp
    have z5 : ∀ i, i < n → (begN n r).2.1 i 5 = 0 := fun i hi => by rw [e hi]; simp
    have z1 : ∀ i, i < n → (begN n r).2.1 i 1 = 1 := fun i hi => by rw [e hi]; simp
    have z30 : ∀ i, i < n → (begN n r).2.1 i 30 = if i = 0 then 1 else 0 := fun i hi => by rw [e hi]; simp
    refine ⟨?_, ?_, ?_, ?_, fun j hj => absurd hj (by omega), fun j hj => absurd hj (by omega), fun j hj => absurd hj (by omega), ?_, fun j hj => absurd hj (by omega), ?_, ?_, ?_, fun j hj => absurd hj (by omega)⟩
    all_goals dsimp only
    all_goals grind
  · rw [e hi]; simp; exact VO_0
  · rw [e hi, if_neg (by omega), if_neg (by omega), if_neg (by omega)]
    exact ⟨by omega, fun _ => rfl⟩
end GI
