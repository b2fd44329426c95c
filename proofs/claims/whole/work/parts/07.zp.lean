/-! the protocol: what holds of ages, votes and passes in every net -/
def PV (n k : Nat) (ag as co mk : Nat → Int) (vo : Nat → Nat → Prop) (fr to kd vl pm : Nat → Int) : Prop :=
  (∀ i, i < n → 0 < mk i → mk i = ag i) ∧
  (∀ i, i < n → as i = 1 → mk i = 0) ∧
  (∀ i, i < n → 0 < co i → as i = 1) ∧
  (∀ i, i < n → co i ≤ ag i) ∧
  (∀ j, j < k → kd j = 2 → ∀ a : Nat, a < n → fr j = (a : Int) → vl j ≤ ag a) ∧
  (∀ j, j < k → kd j = 4 → ∀ b : Nat, b < n → to j = (b : Int) → vl j ≤ ag b) ∧
  (∀ j, j < k → kd j = 4 → ∀ a : Nat, a < n → fr j = (a : Int) → vl j ≤ ag a ∧ (ag a = vl j → co a ≠ vl j)) ∧
  (∀ b, b < n → 0 < co b → ∀ a, a < n → vo b a → co b ≤ ag a ∧ (ag a = co b → co a ≠ co b)) ∧
  (∀ j, j < k → kd j = 1 → ∀ a : Nat, a < n → fr j = (a : Int) → pm j ≤ ag a) ∧
  (∀ b : Nat, b < n → 0 < co b → ag b = co b → ((∃ i, i < n ∧ co b ≤ mk i) ∨ ∃ j, j < k ∧ kd j = 1 ∧ co b ≤ pm j) → ∃ c : Nat, c < n ∧ c ≠ b ∧ co b ≤ ag c ∧ ¬ vo b c ∧ ∀ j, j < k → kd j = 4 → fr j = (c : Int) → to j = (b : Int) → vl j ≠ co b) ∧
  (∀ i, i < n → ∀ i', i' < n → 0 < mk i → 0 < mk i' → i = i') ∧
  (∀ i, i < n → 0 < mk i → ∀ j, j < k → kd j = 1 → ∀ b : Nat, b < n → to j = (b : Int) → pm j < ag b) ∧
  (∀ j, j < k → ∀ j', j' < k → kd j = 1 → kd j' = 1 → (∀ b : Nat, b < n → to j = (b : Int) → ag b ≤ pm j) → (∀ b : Nat, b < n → to j' = (b : Int) → ag b ≤ pm j') → j = j')
/-- the message at p is taken away -/
def sk (p : Nat) (f : Nat → Int) : Nat → Int := fun j => if j < p then f j else f (j + 1)
section PV
variable {n k m a p : Nat} {ag as co mk : Nat → Int} {vo : Nat → Nat → Prop} {fr to kd vl pm : Nat → Int} {e x : Int}
theorem PV.take (h : PV n k ag as co mk vo fr to kd vl pm) (hp : p < k) : PV n (k - 1) ag as co mk vo (sk p fr) (sk p to) (sk p kd) (sk p vl) (sk p pm) := by
  unfold sk
  obtain ⟨p1, p2, p3, p4, p5, p6, p7, p8, p9, p10, p11, p12, p13⟩ := h
  refine ⟨?_, ?_, ?_, ?_, ?_, ?_, ?_, ?_, ?_, ?_, ?_, ?_, ?_⟩
  · exact p1
  · exact p2
  · exact p3
  · exact p4
  · grind
  · grind
  · grind
  · exact p8
  · grind
  · intro b hb h1 h2 h3
    have h3 : ((∃ i, i < n ∧ co b ≤ mk i) ∨ ∃ j, j < k ∧ kd j = 1 ∧ co b ≤ pm j) := by
      rcases h3 with h3 | ⟨j, q1, q2, q3⟩
      · exact Or.inl h3
      · refine Or.inr ⟨if j < p then j else j + 1, ?_⟩
        grind
    obtain ⟨c, c1, c2, c3, c4, c5⟩ := p10 b hb h1 h2 h3
    refine ⟨c, c1, c2, c3, c4, ?_⟩
    grind
  · exact p11
  · grind
  · intro j hj j' hj' h1 h2 h3 h4
    have := p13 (if j < p then j else j + 1) (by grind) (if j' < p then j' else j' + 1) (by grind) (by grind) (by grind) (by grind) (by grind)
    grind
/-- asks -/
theorem PV.ask (h : PV n k ag as co mk vo fr to kd vl pm) (hm : mk m = 0) : PV n k ag (u1 as m 1) co mk vo fr to kd vl pm := by
  unfold PV u1 at *
  grind
/-- suspects -/
theorem PV.suspect (h : PV n k ag as co mk vo fr to kd vl pm) (hmn : m < n) (ha : as m = 1) (h0 : ∀ i, i < n → 1 ≤ ag i ∧ 0 ≤ mk i) (hmsg : ∀ j, j < k → ∃ c : Nat, c < n ∧ fr j = (c : Int)) (hne : ∀ j, j < k → fr j ≠ to j) : PV n k (u1 ag m (ag m + 1)) as (u1 co m (ag m + 1)) mk (fun b c => b ≠ m ∧ vo b c) fr to kd vl pm := by
  obtain ⟨p1, p2, p3, p4, p5, p6, p7, p8, p9, p10, p11, p12, p13⟩ := h
  have a1 : ∀ i, ag i ≤ u1 ag m (ag m + 1) i := by unfold u1; grind
  have a2 : ∀ i, i ≠ m → u1 ag m (ag m + 1) i = ag i := by unfold u1; grind
  have a3 : u1 ag m (ag m + 1) m = ag m + 1 := u1_at
  have c2 : ∀ i, i ≠ m → u1 co m (ag m + 1) i = co i := by unfold u1; grind
  have c3 : u1 co m (ag m + 1) m = ag m + 1 := u1_at
  generalize u1 ag m (ag m + 1) = ag' at *
  generalize u1 co m (ag m + 1) = co' at *
  refine ⟨?_, ?_, ?_, ?_, ?_, ?_, ?_, ?_, ?_, ?_, ?_, ?_, ?_⟩
  · grind
  · grind
  · grind
  · grind
  · grind
  · grind
  · intro j hj h4 a ha hf
    have := p7 j hj h4 a ha hf
    by_cases ham : a = m
    · subst ham
      grind
    · grind
  · intro b hb h1 a ha hv
    have hbm : b ≠ m := hv.1
    have := p8 b hb (by grind) a ha hv.2
    by_cases ham : a = m
    · subst ham
      grind
    · grind
  · grind
  · intro b hb h1 h2 h3
    by_cases hbm : b = m
    · subst hbm
      rw [c3] at h3 ⊢
      rcases h3 with ⟨i, q1, q2⟩ | ⟨j, q1, q2, q3⟩
      · refine ⟨i, q1, ?_, ?_, fun h => h.1 rfl, ?_⟩
        · grind
        · grind
        · grind
      · obtain ⟨cc, cc1, cc2⟩ := hmsg j q1
        refine ⟨cc, cc1, ?_, ?_, fun h => h.1 rfl, ?_⟩
        · grind
        · grind
        · grind
    · obtain ⟨cc, cc1, cc2, cc3, cc4, cc5⟩ := p10 b hb (by grind) (by grind) (by grind)
      refine ⟨cc, cc1, cc2, ?_, fun h => cc4 h.2, ?_⟩
      · grind
      · grind
  · exact p11
  · grind
  · intro j hj j' hj' h1 h2 h3 h4
    refine p13 j hj j' hj' h1 h2 ?_ ?_
    · grind
    · grind
end PV
