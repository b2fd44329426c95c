section PV
variable {n k m a p : Nat} {ag as co mk : Nat → Int} {vo : Nat → Nat → Prop} {fr to kd vl pm : Nat → Int} {e x : Int}
/-- a message that tells nothing of passes comes -/
theorem PV.add0 (h : PV n k ag as co mk vo fr to kd vl pm) {f t c v q : Int} (hc : c = 0 ∨ c = 3) : PV n (k + 1) ag as co mk vo (u1 fr k f) (u1 to k t) (u1 kd k c) (u1 vl k v) (u1 pm k q) := by
  obtain ⟨p1, p2, p3, p4, p5, p6, p7, p8, p9, p10, p11, p12, p13⟩ := h
  refine ⟨p1, p2, p3, p4, ?_, ?_, ?_, p8, ?_, ?_, p11, ?_, ?_⟩
  · intro j hj h1 b hb h2
    have hjk : j ≠ k := fun e => by subst e; rw [u1_at] at h1; omega
    rw [u1_ne hjk] at h1 h2 ⊢
    exact p5 j (by omega) h1 b hb h2
  · intro j hj h1 b hb h2
    have hjk : j ≠ k := fun e => by subst e; rw [u1_at] at h1; omega
    rw [u1_ne hjk] at h1 h2 ⊢
    exact p6 j (by omega) h1 b hb h2
  · intro j hj h1 b hb h2
    have hjk : j ≠ k := fun e => by subst e; rw [u1_at] at h1; omega
    rw [u1_ne hjk] at h1 h2 ⊢
    exact p7 j (by omega) h1 b hb h2
  · intro j hj h1 b hb h2
    have hjk : j ≠ k := fun e => by subst e; rw [u1_at] at h1; omega
    rw [u1_ne hjk] at h1 h2 ⊢
    exact p9 j (by omega) h1 b hb h2
  · intro b hb h1 h2 h3
    have h3 : ((∃ i, i < n ∧ co b ≤ mk i) ∨ ∃ j, j < k ∧ kd j = 1 ∧ co b ≤ pm j) := by
      rcases h3 with h3 | ⟨j, q1, q2, q3⟩
      · exact Or.inl h3
      · have hjk : j ≠ k := fun e => by subst e; rw [u1_at] at q2; exact absurd q2 (by rcases hc with hc | hc <;> rw [hc] <;> decide)
        rw [u1_ne hjk] at q2 q3
        exact Or.inr ⟨j, by omega, q2, q3⟩
    obtain ⟨cc, cc1, cc2, cc3, cc4, cc5⟩ := p10 b hb h1 h2 h3
    refine ⟨cc, cc1, cc2, cc3, cc4, fun j hj g1 g2 g3 => ?_⟩
    have hjk : j ≠ k := fun e => by subst e; rw [u1_at] at g1; exact absurd g1 (by rcases hc with hc | hc <;> rw [hc] <;> decide)
    rw [u1_ne hjk] at g1 g2 g3 ⊢
    exact cc5 j (by omega) g1 g2 g3
  · intro i hi h1 j hj h2 b hb h3
    have hjk : j ≠ k := fun e => by subst e; rw [u1_at] at h2; omega
    rw [u1_ne hjk] at h2 h3 ⊢
    exact p12 i hi h1 j (by omega) h2 b hb h3
  · intro j hj j' hj' h1 h2 h3 h4
    have hjk : j ≠ k := fun e => by subst e; rw [u1_at] at h1; omega
    have hjk' : j' ≠ k := fun e => by subst e; rw [u1_at] at h2; omega
    rw [u1_ne hjk, u1_ne hjk] at h3
    rw [u1_ne hjk', u1_ne hjk'] at h4
    rw [u1_ne hjk] at h1
    rw [u1_ne hjk'] at h2
    exact p13 j (by omega) j' (by omega) h1 h2 h3 h4
/-- a DOUBT comes -/
theorem PV.add2 (h : PV n k ag as co mk vo fr to kd vl pm) {f : Nat} {t v q : Int} (hv : v ≤ ag f) : PV n (k + 1) ag as co mk vo (u1 fr k (f : Int)) (u1 to k t) (u1 kd k 2) (u1 vl k v) (u1 pm k q) := by
  obtain ⟨p1, p2, p3, p4, p5, p6, p7, p8, p9, p10, p11, p12, p13⟩ := h
  refine ⟨p1, p2, p3, p4, ?_, ?_, ?_, p8, ?_, ?_, p11, ?_, ?_⟩
  · intro j hj h1 b hb h2
    by_cases hjk : j = k
    · subst hjk
      rw [u1_at] at h2 ⊢
      have : b = f := by omega
      subst this
      exact hv
    · rw [u1_ne hjk] at h1 h2 ⊢
      exact p5 j (by omega) h1 b hb h2
  · intro j hj h1 b hb h2
    have hjk : j ≠ k := fun e => by subst e; rw [u1_at] at h1; omega
    rw [u1_ne hjk] at h1 h2 ⊢
    exact p6 j (by omega) h1 b hb h2
  · intro j hj h1 b hb h2
    have hjk : j ≠ k := fun e => by subst e; rw [u1_at] at h1; omega
    rw [u1_ne hjk] at h1 h2 ⊢
    exact p7 j (by omega) h1 b hb h2
  · intro j hj h1 b hb h2
    have hjk : j ≠ k := fun e => by subst e; rw [u1_at] at h1; omega
    rw [u1_ne hjk] at h1 h2 ⊢
    exact p9 j (by omega) h1 b hb h2
  · intro b hb h1 h2 h3
    have h3 : ((∃ i, i < n ∧ co b ≤ mk i) ∨ ∃ j, j < k ∧ kd j = 1 ∧ co b ≤ pm j) := by
      rcases h3 with h3 | ⟨j, q1, q2, q3⟩
      · exact Or.inl h3
      · have hjk : j ≠ k := fun e => by subst e; rw [u1_at] at q2; omega
        rw [u1_ne hjk] at q2 q3
        exact Or.inr ⟨j, by omega, q2, q3⟩
    obtain ⟨cc, cc1, cc2, cc3, cc4, cc5⟩ := p10 b hb h1 h2 h3
    refine ⟨cc, cc1, cc2, cc3, cc4, fun j hj g1 g2 g3 => ?_⟩
    have hjk : j ≠ k := fun e => by subst e; rw [u1_at] at g1; omega
    rw [u1_ne hjk] at g1 g2 g3 ⊢
    exact cc5 j (by omega) g1 g2 g3
  · intro i hi h1 j hj h2 b hb h3
    have hjk : j ≠ k := fun e => by subst e; rw [u1_at] at h2; omega
    rw [u1_ne hjk] at h2 h3 ⊢
    exact p12 i hi h1 j (by omega) h2 b hb h3
  · intro j hj j' hj' h1 h2 h3 h4
    have hjk : j ≠ k := fun e => by subst e; rw [u1_at] at h1; omega
    have hjk' : j' ≠ k := fun e => by subst e; rw [u1_at] at h2; omega
    rw [u1_ne hjk, u1_ne hjk] at h3
    rw [u1_ne hjk', u1_ne hjk'] at h4
    rw [u1_ne hjk] at h1
    rw [u1_ne hjk'] at h2
    exact p13 j (by omega) j' (by omega) h1 h2 h3 h4
/-- the pass is handed on -/
theorem PV.hand (h : PV n k ag as co mk vo fr to kd vl pm) (hmn : m < n) (hm : 0 < mk m) {t : Nat} {v : Int} (h0 : ∀ i, i < n → 0 ≤ mk i) (hto : ∀ j, j < k → ∃ b : Nat, b < n ∧ to j = (b : Int)) : PV n (k + 1) ag as co (u1 mk m 0) vo (u1 fr k (m : Int)) (u1 to k (t : Int)) (u1 kd k 1) (u1 vl k v) (u1 pm k (mk m)) := by
  obtain ⟨p1, p2, p3, p4, p5, p6, p7, p8, p9, p10, p11, p12, p13⟩ := h
  have m2 : ∀ i, i < n → u1 mk m 0 i = 0 := by
    intro i hi
    unfold u1
    by_cases him : i = m
    · rw [if_pos him]
    · rw [if_neg him]
      have := h0 i hi
      have := p11 i hi m hmn
      omega
  have pm1 := p1 m hmn hm
  refine ⟨?_, ?_, p3, p4, ?_, ?_, ?_, p8, ?_, ?_, ?_, ?_, ?_⟩
  · grind
  · grind
  · unfold u1; grind
  · unfold u1; grind
  · unfold u1; grind
  · intro j hj h1 b hb h2
    by_cases hjk : j = k
    · subst hjk
      rw [u1_at] at h2 ⊢
      have : b = m := by omega
      subst this
      omega
    · rw [u1_ne hjk] at h1 h2 ⊢
      exact p9 j (by omega) h1 b hb h2
  · intro b hb h1 h2 h3
    have h3 : ((∃ i, i < n ∧ co b ≤ mk i) ∨ ∃ j, j < k ∧ kd j = 1 ∧ co b ≤ pm j) := by
      rcases h3 with ⟨i, q1, q2⟩ | ⟨j, q1, q2, q3⟩
      · rw [m2 i q1] at q2
        omega
      · by_cases hjk : j = k
        · subst hjk
          rw [u1_at] at q3
          exact Or.inl ⟨m, hmn, q3⟩
        · rw [u1_ne hjk] at q2 q3
          exact Or.inr ⟨j, by omega, q2, q3⟩
    obtain ⟨cc, cc1, cc2, cc3, cc4, cc5⟩ := p10 b hb h1 h2 h3
    refine ⟨cc, cc1, cc2, cc3, cc4, ?_⟩
    unfold u1
    grind
  · grind
  · grind
  · intro j hj j' hj' h1 h2 h3 h4
    have dead : ∀ i, i < k → kd i = 1 → ∀ b : Nat, b < n → to i = (b : Int) → pm i < ag b := fun i hi h1 => p12 m hmn hm i hi h1
    have none : ∀ i, i < k → kd i = 1 → ¬ (∀ b : Nat, b < n → to i = (b : Int) → ag b ≤ pm i) := by
      intro i hi h1 h2
      obtain ⟨b, hb, hb2⟩ := hto i hi
      have g1 := dead i hi h1 b hb hb2
      have g2 := h2 b hb hb2
      omega
    by_cases hjk : j = k
    · by_cases hjk' : j' = k
      · omega
      · rw [u1_ne hjk'] at h2
        exact absurd (fun b hb hb2 => by have := h4 b hb (by rw [u1_ne hjk']; exact hb2); rw [u1_ne hjk'] at this; exact this) (none j' (by omega) h2)
    · rw [u1_ne hjk] at h1
      exact absurd (fun b hb hb2 => by have := h3 b hb (by rw [u1_ne hjk]; exact hb2); rw [u1_ne hjk] at this; exact this) (none j (by omega) h1)
/-- a pass comes that is not too old -/
theorem PV.arrive (h : PV n k ag as co mk vo fr to kd vl pm) (hp : p < k) (hmn : m < n) (hk1 : kd p = 1) (ht : to p = (m : Int)) (hl : ag m ≤ pm p) (h0 : ∀ i, i < n → 1 ≤ ag i ∧ 0 ≤ mk i) (hv : ∀ j, j < k → 1 ≤ vl j) (hto : ∀ j, j < k → ∃ b : Nat, b < n ∧ to j = (b : Int)) :
    PV n (k - 1) (u1 ag m (pm p)) (u1 as m 0) (u1 co m 0) (u1 mk m (pm p)) (fun b c => b ≠ m ∧ vo b c) (sk p fr) (sk p to) (sk p kd) (sk p vl) (sk p pm) := by
  have ht' := h.take hp
  obtain ⟨p1, p2, p3, p4, p5, p6, p7, p8, p9, p10, p11, p12, p13⟩ := h
  obtain ⟨t1, t2, t3, t4, t5, t6, t7, t8, t9, t10, t11, t12, t13⟩ := ht'
  have hno : ∀ i, i < n → mk i = 0 := by
    intro i hi
    have := h0 i hi
    by_cases hz : 0 < mk i
    · have := p12 i hi hz p hp hk1 m hmn ht
      omega
    · omega
  have hsk : ∀ (f : Nat → Int) j, sk p f j = f (if j < p then j else j + 1) := by
    intro f j
    unfold sk
    split <;> rfl
  have dead : ∀ j, j < k - 1 → sk p kd j = 1 → ∀ b : Nat, b < n → sk p to j = (b : Int) → sk p pm j < ag b := by
    intro j hj h1 b hb h2
    rw [hsk] at h1 h2 ⊢
    generalize hJ : (if j < p then j else j + 1) = J at h1 h2 ⊢
    have hJk : J < k ∧ J ≠ p := by
      subst hJ
      split <;> omega
    by_cases hlt : pm J < ag b
    · exact hlt
    · exfalso
      refine hJk.2 (p13 J hJk.1 p hp h1 hk1 ?_ ?_)
      · intro b' hb' h2'
        have : b' = b := by omega
        subst this
        omega
      · intro b' hb' h2'
        have : b' = m := by omega
        subst this
        exact hl
  have hto' : ∀ j, j < k - 1 → ∃ b : Nat, b < n ∧ sk p to j = (b : Int) := by
    intro j hj
    rw [hsk]
    exact hto _ (by split <;> omega)
  have hv' : ∀ j, j < k - 1 → 1 ≤ sk p vl j := by
    intro j hj
    rw [hsk]
    exact hv _ (by split <;> omega)
  have a1 : ∀ i, ag i ≤ u1 ag m (pm p) i := by
    intro i
    unfold u1
    split
    · next h => subst h; exact hl
    · exact Int.le_refl _
  have a2 : ∀ i, i ≠ m → u1 ag m (pm p) i = ag i := fun i hi => u1_ne hi
  have a3 : u1 ag m (pm p) m = pm p := u1_at
  have c2 : ∀ i, i ≠ m → u1 co m 0 i = co i := fun i hi => u1_ne hi
  have c3 : u1 co m 0 m = 0 := u1_at
  have m2 : ∀ i, i ≠ m → u1 mk m (pm p) i = mk i := fun i hi => u1_ne hi
  have m3 : u1 mk m (pm p) m = pm p := u1_at
  have s2 : ∀ i, i ≠ m → u1 as m 0 i = as i := fun i hi => u1_ne hi
  have s3 : u1 as m 0 m = 0 := u1_at
  have p10' : ∀ b : Nat, b < n → b ≠ m → 0 < co b → ag b = co b → co b ≤ pm p → ∃ c : Nat, c < n ∧ c ≠ b ∧ co b ≤ ag c ∧ ¬ vo b c ∧ ∀ j, j < k - 1 → sk p kd j = 4 → sk p fr j = (c : Int) → sk p to j = (b : Int) → sk p vl j ≠ co b := by
    intro b hb hbm h1 h2 h3
    obtain ⟨cc, cc1, cc2, cc3, cc4, cc5⟩ := p10 b hb h1 h2 (Or.inr ⟨p, hp, hk1, h3⟩)
    refine ⟨cc, cc1, cc2, cc3, cc4, fun j hj => ?_⟩
    rw [hsk, hsk, hsk, hsk]
    exact cc5 _ (by split <;> omega)
  clear p1 p2 p3 p4 p5 p6 p7 p8 p9 p10 p11 p12 p13
  generalize u1 ag m (pm p) = ag' at *
  generalize u1 co m 0 = co' at *
  generalize u1 mk m (pm p) = mk' at *
  generalize u1 as m 0 = as' at *
  generalize sk p fr = fr' at *
  generalize sk p to = to' at *
  generalize sk p kd = kd' at *
  generalize sk p vl = vl' at *
  generalize sk p pm = pm' at *
  refine ⟨?_, ?_, ?_, ?_, ?_, ?_, ?_, ?_, ?_, ?_, ?_, ?_, ?_⟩
  · grind
  · grind
  · grind
  · grind
  · grind
  · grind
  · intro j hj h4 a ha hf
    have := t7 j hj h4 a ha hf
    by_cases ham : a = m
    · subst ham
      have := hv' j hj
      grind
    · grind
  · intro b hb h1 a ha hv2
    have hbm : b ≠ m := hv2.1
    have := t8 b hb (by grind) a ha hv2.2
    by_cases ham : a = m
    · subst ham
      grind
    · grind
  · grind
  · intro b hb h1 h2 h3
    by_cases hbm : b = m
    · subst hbm
      grind
    · have q1 : 0 < co b := by grind
      have q2 : ag b = co b := by grind
      have q3 : (co b ≤ pm p) ∨ ((∃ i, i < n ∧ co b ≤ mk i) ∨ ∃ j, j < k - 1 ∧ kd' j = 1 ∧ co b ≤ pm' j) := by
        rcases h3 with ⟨i, i1, i2⟩ | h3
        · by_cases him : i = m
          · left
            grind
          · right; left
            exact ⟨i, i1, by grind⟩
        · right; right
          grind
      have : ∃ c : Nat, c < n ∧ c ≠ b ∧ co b ≤ ag c ∧ ¬ vo b c ∧ ∀ j, j < k - 1 → kd' j = 4 → fr' j = (c : Int) → to' j = (b : Int) → vl' j ≠ co b := by
        rcases q3 with q3 | q3
        · exact p10' b hb hbm q1 q2 q3
        · exact t10 b hb q1 q2 q3
      obtain ⟨cc, cc1, cc2, cc3, cc4, cc5⟩ := this
      refine ⟨cc, cc1, cc2, ?_, fun h => cc4 h.2, ?_⟩
      · have := a1 cc
        rw [c2 b hbm]
        omega
      · rw [c2 b hbm]
        exact cc5
  · grind
  · intro i hi h1 j hj h2 b hb h3
    have := dead j hj h2 b hb h3
    have := a1 b
    omega
  · intro j hj j' hj' h1 h2 h3 h4
    exfalso
    obtain ⟨b, hb, hb2⟩ := hto' j hj
    have g1 := dead j hj h1 b hb hb2
    have g2 := h3 b hb hb2
    have g3 := a1 b
    omega
/-- a DOUBT comes to one who has a pass of the age before -/
theorem PV.raise (h : PV n k ag as co mk vo fr to kd vl pm) (hmn : m < n) (hm : 0 < mk m) (h0 : ∀ i, i < n → 1 ≤ ag i ∧ 0 ≤ mk i) (hto : ∀ j, j < k → ∃ b : Nat, b < n ∧ to j = (b : Int)) :
    PV n k (u1 ag m (mk m + 1)) as co (u1 mk m (mk m + 1)) vo fr to kd vl pm := by
  obtain ⟨p1, p2, p3, p4, p5, p6, p7, p8, p9, p10, p11, p12, p13⟩ := h
  have e0 := p1 m hmn hm
  have as0 : as m ≠ 1 := fun e => by have := p2 m hmn e; omega
  have co0 : co m ≤ 0 := by
    by_cases hz : 0 < co m
    · exact absurd (p3 m hmn hz) as0
    · omega
  have a1 : ∀ i, ag i ≤ u1 ag m (mk m + 1) i := by
    intro i
    unfold u1
    split
    · next h => subst h; omega
    · exact Int.le_refl _
  have a2 : ∀ i, i ≠ m → u1 ag m (mk m + 1) i = ag i := fun i hi => u1_ne hi
  have a3 : u1 ag m (mk m + 1) m = mk m + 1 := u1_at
  have m2 : ∀ i, i ≠ m → u1 mk m (mk m + 1) i = mk i := fun i hi => u1_ne hi
  have m3 : u1 mk m (mk m + 1) m = mk m + 1 := u1_at
  have dead : ∀ i, i < k → kd i = 1 → ∀ b : Nat, b < n → to i = (b : Int) → pm i < ag b := fun i hi h1 => p12 m hmn hm i hi h1
  generalize u1 ag m (mk m + 1) = ag' at *
  generalize u1 mk m (mk m + 1) = mk' at *
  refine ⟨?_, ?_, p3, ?_, ?_, ?_, ?_, ?_, ?_, ?_, ?_, ?_, ?_⟩
  · grind
  · grind
  · grind
  · grind
  · grind
  · intro j hj h4 a ha hf
    have := p7 j hj h4 a ha hf
    by_cases ham : a = m
    · subst ham
      grind
    · grind
  · intro b hb h1 a ha hv
    have := p8 b hb h1 a ha hv
    by_cases ham : a = m
    · subst ham
      grind
    · grind
  · grind
  · intro b hb h1 h2 h3
    have hbm : b ≠ m := fun e => by subst e; omega
    rw [a2 b hbm] at h2
    by_cases hex : ((∃ i, i < n ∧ co b ≤ mk i) ∨ ∃ j, j < k ∧ kd j = 1 ∧ co b ≤ pm j)
    · obtain ⟨cc, cc1, cc2, cc3, cc4, cc5⟩ := p10 b hb h1 h2 hex
      exact ⟨cc, cc1, cc2, by have := a1 cc; omega, cc4, cc5⟩
    · have hmk : co b ≤ mk m + 1 := by
        rcases h3 with ⟨i, q1, q2⟩ | h3
        · by_cases him : i = m
          · subst him
            omega
          · rw [m2 i him] at q2
            exact absurd (Or.inl ⟨i, q1, q2⟩) hex
        · exact absurd (Or.inr h3) hex
      have hmk2 : ¬ co b ≤ mk m := fun h => hex (Or.inl ⟨m, hmn, h⟩)
      refine ⟨m, hmn, fun e => hbm e.symm, by omega, fun hv => ?_, fun j hj g1 g2 g3 g4 => ?_⟩
      · have := p8 b hb h1 m hmn hv
        omega
      · have := p7 j hj g1 m hmn g2
        omega
  · grind
  · intro i hi h1 j hj h2 b hb h3
    have := dead j hj h2 b hb h3
    have := a1 b
    omega
  · intro j hj j' hj' h1 h2 h3 h4
    exfalso
    obtain ⟨b, hb, hb2⟩ := hto j hj
    have g1 := dead j hj h1 b hb hb2
    have g2 := h3 b hb hb2
    have g3 := a1 b
    omega
/-- a vote is sent: it is of that age now, its pass dies, it collects no more -/
theorem PV.vote (h : PV n k ag as co mk vo fr to kd vl pm) (hmn : m < n) (han : a < n) (he : ag m < e) (hea : e ≤ ag a) (ham : a ≠ m) (h0 : ∀ i, i < n → 1 ≤ ag i ∧ 0 ≤ mk i) (hv : ∀ j, j < k → 1 ≤ vl j) {q : Int} :
    PV n (k + 1) (u1 ag m e) as (u1 co m 0) (u1 mk m 0) (fun b c => b ≠ m ∧ vo b c) (u1 fr k (m : Int)) (u1 to k (a : Int)) (u1 kd k 4) (u1 vl k e) (u1 pm k q) := by
  obtain ⟨p1, p2, p3, p4, p5, p6, p7, p8, p9, p10, p11, p12, p13⟩ := h
  have g0 := h0 m hmn
  have a1 : ∀ i, ag i ≤ u1 ag m e i := by
    intro i
    unfold u1
    split
    · next h => subst h; omega
    · exact Int.le_refl _
  have a2 : ∀ i, i ≠ m → u1 ag m e i = ag i := fun i hi => u1_ne hi
  have a3 : u1 ag m e m = e := u1_at
  have c2 : ∀ i, i ≠ m → u1 co m 0 i = co i := fun i hi => u1_ne hi
  have c3 : u1 co m 0 m = 0 := u1_at
  have m2 : ∀ i, i ≠ m → u1 mk m 0 i = mk i := fun i hi => u1_ne hi
  have m3 : u1 mk m 0 m = 0 := u1_at
  generalize u1 ag m e = ag' at *
  generalize u1 co m 0 = co' at *
  generalize u1 mk m 0 = mk' at *
  refine ⟨?_, ?_, ?_, ?_, ?_, ?_, ?_, ?_, ?_, ?_, ?_, ?_, ?_⟩
  · grind
  · grind
  · grind
  · grind
  · intro j hj h1 b hb h2
    have hjk : j ≠ k := fun e => by subst e; rw [u1_at] at h1; omega
    rw [u1_ne hjk] at h1 h2 ⊢
    have := p5 j (by omega) h1 b hb h2
    have := a1 b
    omega
  · intro j hj h1 b hb h2
    by_cases hjk : j = k
    · subst hjk
      rw [u1_at] at h2 ⊢
      have : b = a := by omega
      subst this
      rw [a2 b ham]
      exact hea
    · rw [u1_ne hjk] at h1 h2 ⊢
      have := p6 j (by omega) h1 b hb h2
      have := a1 b
      omega
  · intro j hj h1 b hb h2
    by_cases hjk : j = k
    · subst hjk
      rw [u1_at] at h2 ⊢
      have : b = m := by omega
      subst this
      rw [a3, c3]
      exact ⟨Int.le_refl _, fun _ => by omega⟩
    · rw [u1_ne hjk] at h1 h2 ⊢
      have := p7 j (by omega) h1 b hb h2
      have := hv j (by omega)
      have := a1 b
      by_cases hbm : b = m
      · subst hbm
        rw [c3]
        exact ⟨by omega, fun _ => by omega⟩
      · rw [a2 b hbm, c2 b hbm]
        assumption
  · intro b hb h1 a' ha' hv2
    have hbm : b ≠ m := hv2.1
    rw [c2 b hbm] at h1 ⊢
    have := p8 b hb h1 a' ha' hv2.2
    by_cases h3 : a' = m
    · subst h3
      rw [a3, c3]
      exact ⟨by omega, fun _ => by omega⟩
    · rw [a2 a' h3, c2 a' h3]
      exact this
  · intro j hj h1 b hb h2
    have hjk : j ≠ k := fun e => by subst e; rw [u1_at] at h1; omega
    rw [u1_ne hjk] at h1 h2 ⊢
    have := p9 j (by omega) h1 b hb h2
    have := a1 b
    omega
  · intro b hb h1 h2 h3
    have hbm : b ≠ m := fun e => by subst e; omega
    rw [c2 b hbm] at h1 h2 h3 ⊢
    rw [a2 b hbm] at h2
    have h3 : ((∃ i, i < n ∧ co b ≤ mk i) ∨ ∃ j, j < k ∧ kd j = 1 ∧ co b ≤ pm j) := by
      rcases h3 with ⟨i, q1, q2⟩ | ⟨j, q1, q2, q3⟩
      · by_cases him : i = m
        · subst him
          omega
        · rw [m2 i him] at q2
          exact Or.inl ⟨i, q1, q2⟩
      · have hjk : j ≠ k := fun e => by subst e; rw [u1_at] at q2; omega
        rw [u1_ne hjk] at q2 q3
        exact Or.inr ⟨j, by omega, q2, q3⟩
    obtain ⟨cc, cc1, cc2, cc3, cc4, cc5⟩ := p10 b hb h1 h2 h3
    refine ⟨cc, cc1, cc2, by have := a1 cc; omega, fun h => cc4 h.2, fun j hj g1 g2 g3 => ?_⟩
    by_cases hjk : j = k
    · subst hjk
      rw [u1_at] at g2 g3 ⊢
      have e1 : cc = m := by omega
      have e2 : b = a := by omega
      subst e1; subst e2
      omega
    · rw [u1_ne hjk] at g1 g2 g3 ⊢
      exact cc5 j (by omega) g1 g2 g3
  · grind
  · intro i hi h1 j hj h2 b hb h3
    have hjk : j ≠ k := fun e => by subst e; rw [u1_at] at h2; omega
    have him : i ≠ m := fun e => by subst e; omega
    rw [m2 i him] at h1
    rw [u1_ne hjk] at h2 h3 ⊢
    have := p12 i hi h1 j (by omega) h2 b hb h3
    have := a1 b
    omega
  · intro j hj j' hj' h1 h2 h3 h4
    have hjk : j ≠ k := fun e => by subst e; rw [u1_at] at h1; omega
    have hjk' : j' ≠ k := fun e => by subst e; rw [u1_at] at h2; omega
    rw [u1_ne hjk, u1_ne hjk] at h3
    rw [u1_ne hjk', u1_ne hjk'] at h4
    rw [u1_ne hjk] at h1
    rw [u1_ne hjk'] at h2
    exact p13 j (by omega) j' (by omega) h1 h2 (fun b hb g => by have := h3 b hb g; have := a1 b; omega) (fun b hb g => by have := h4 b hb g; have := a1 b; omega)
/-- votes are dropped -/
theorem PV.drop (h : PV n k ag as co mk vo fr to kd vl pm) (hmn : m < n) (h0 : ∀ i, i < n → 1 ≤ ag i) (hv : ∀ j, j < k → 1 ≤ vl j) : PV n k ag as (u1 co m 0) mk (fun b c => b ≠ m ∧ vo b c) fr to kd vl pm := by
  obtain ⟨p1, p2, p3, p4, p5, p6, p7, p8, p9, p10, p11, p12, p13⟩ := h
  have c2 : ∀ i, i ≠ m → u1 co m 0 i = co i := fun i hi => u1_ne hi
  have c3 : u1 co m 0 m = 0 := u1_at
  have g0 := h0 m hmn
  generalize u1 co m 0 = co' at *
  refine ⟨p1, p2, ?_, ?_, p5, p6, ?_, ?_, p9, ?_, p11, p12, p13⟩
  · grind
  · grind
  · intro j hj h1 b hb h2
    have := p7 j hj h1 b hb h2
    have := hv j hj
    by_cases hbm : b = m
    · subst hbm
      rw [c3]
      exact ⟨by omega, fun _ => by omega⟩
    · rw [c2 b hbm]
      assumption
  · intro b hb h1 a' ha' hv2
    have hbm : b ≠ m := hv2.1
    rw [c2 b hbm] at h1 ⊢
    have := p8 b hb h1 a' ha' hv2.2
    by_cases h3 : a' = m
    · subst h3
      rw [c3]
      exact ⟨by omega, fun _ => by omega⟩
    · rw [c2 a' h3]
      exact this
  · intro b hb h1 h2 h3
    have hbm : b ≠ m := fun e => by subst e; omega
    rw [c2 b hbm] at h1 h2 h3 ⊢
    obtain ⟨cc, cc1, cc2, cc3, cc4, cc5⟩ := p10 b hb h1 h2 h3
    exact ⟨cc, cc1, cc2, cc3, fun h => cc4 h.2, cc5⟩
/-- a vote comes that counts -/
theorem PV.count (h : PV n k ag as co mk vo fr to kd vl pm) (hp : p < k) (hk4 : kd p = 4) (hf : fr p = (a : Int)) (ht : to p = (m : Int)) (he : vl p = co m) (han : a < n) :
    PV n (k - 1) ag as co mk (fun b c => vo b c ∨ (b = m ∧ c = a)) (sk p fr) (sk p to) (sk p kd) (sk p vl) (sk p pm) := by
  have ht' := h.take hp
  obtain ⟨p1, p2, p3, p4, p5, p6, p7, p8, p9, p10, p11, p12, p13⟩ := h
  obtain ⟨t1, t2, t3, t4, t5, t6, t7, t8, t9, t10, t11, t12, t13⟩ := ht'
  have hsk : ∀ (f : Nat → Int) j, sk p f j = f (if j < p then j else j + 1) := by
    intro f j
    unfold sk
    split <;> rfl
  have hv7 := p7 p hp hk4 a han hf
  refine ⟨t1, t2, t3, t4, t5, t6, t7, ?_, t9, ?_, t11, t12, t13⟩
  · intro b hb h1 a' ha' hv2
    rcases hv2 with hv2 | ⟨e1, e2⟩
    · exact p8 b hb h1 a' ha' hv2
    · subst e1; subst e2
      rw [← he]
      exact hv7
  · intro b hb h1 h2 h3
    have h3 : ((∃ i, i < n ∧ co b ≤ mk i) ∨ ∃ j, j < k ∧ kd j = 1 ∧ co b ≤ pm j) := by
      rcases h3 with h3 | ⟨j, q1, q2, q3⟩
      · exact Or.inl h3
      · rw [hsk] at q2 q3
        exact Or.inr ⟨_, by split <;> omega, q2, q3⟩
    obtain ⟨cc, cc1, cc2, cc3, cc4, cc5⟩ := p10 b hb h1 h2 h3
    refine ⟨cc, cc1, cc2, cc3, fun hv2 => ?_, fun j hj => ?_⟩
    · rcases hv2 with hv2 | ⟨e1, e2⟩
      · exact cc4 hv2
      · subst e1; subst e2
        exact cc5 p hp hk4 hf ht he
    · rw [hsk, hsk, hsk, hsk]
      exact cc5 _ (by split <;> omega)
/-- all have voted: a new pass -/
theorem PV.made (h : PV n k ag as co mk vo fr to kd vl pm) (hmn : m < n) (hc : 0 < co m) (hac : ag m = co m) (hall : ∀ c, c < n → c ≠ m → vo m c) (h0 : ∀ i, i < n → 1 ≤ ag i ∧ 0 ≤ mk i) (hv : ∀ j, j < k → 1 ≤ vl j) (hto : ∀ j, j < k → ∃ b : Nat, b < n ∧ to j = (b : Int)) (hne : ∀ j, j < k → fr j ≠ to j) :
    PV n k ag (u1 as m 0) (u1 co m 0) (u1 mk m (ag m)) (fun b c => b ≠ m ∧ vo b c) fr to kd vl pm := by
  obtain ⟨p1, p2, p3, p4, p5, p6, p7, p8, p9, p10, p11, p12, p13⟩ := h
  have has := p3 m hmn hc
  have hmk := p2 m hmn has
  have hnop : ¬ ((∃ i, i < n ∧ co m ≤ mk i) ∨ ∃ j, j < k ∧ kd j = 1 ∧ co m ≤ pm j) := by
    intro h3
    obtain ⟨cc, cc1, cc2, cc3, cc4, cc5⟩ := p10 m hmn hc hac h3
    exact cc4 (hall cc cc1 cc2)
  have hge : ∀ c, c < n → co m ≤ ag c := by
    intro c hcn
    by_cases hcm : c = m
    · subst hcm; omega
    · exact (p8 m hmn hc c hcn (hall c hcn hcm)).1
  have hno : ∀ i, i < n → mk i = 0 := by
    intro i hi
    have := h0 i hi
    by_cases hz : 0 < mk i
    · have := p1 i hi hz
      have := hge i hi
      exact absurd (Or.inl ⟨i, hi, by omega⟩) hnop
    · omega
  have dead : ∀ j, j < k → kd j = 1 → ∀ b : Nat, b < n → to j = (b : Int) → pm j < ag b := by
    intro j hj h1 b hb h2
    have := hge b hb
    by_cases hz : pm j < co m
    · omega
    · exact absurd (Or.inr ⟨j, hj, h1, by omega⟩) hnop
  have c2 : ∀ i, i ≠ m → u1 co m 0 i = co i := fun i hi => u1_ne hi
  have c3 : u1 co m 0 m = 0 := u1_at
  have m2 : ∀ i, i ≠ m → u1 mk m (ag m) i = mk i := fun i hi => u1_ne hi
  have m3 : u1 mk m (ag m) m = ag m := u1_at
  have s2 : ∀ i, i ≠ m → u1 as m 0 i = as i := fun i hi => u1_ne hi
  have s3 : u1 as m 0 m = 0 := u1_at
  generalize u1 co m 0 = co' at *
  generalize u1 mk m (ag m) = mk' at *
  generalize u1 as m 0 = as' at *
  refine ⟨?_, ?_, ?_, ?_, p5, p6, ?_, ?_, p9, ?_, ?_, ?_, p13⟩
  · grind
  · grind
  · grind
  · grind
  · intro j hj h1 b hb h2
    have := p7 j hj h1 b hb h2
    have := hv j hj
    by_cases hbm : b = m
    · subst hbm
      rw [c3]
      exact ⟨by omega, fun _ => by omega⟩
    · rw [c2 b hbm]
      assumption
  · intro b hb h1 a' ha' hv2
    have hbm : b ≠ m := hv2.1
    rw [c2 b hbm] at h1 ⊢
    have := p8 b hb h1 a' ha' hv2.2
    by_cases h3 : a' = m
    · subst h3
      rw [c3]
      exact ⟨by omega, fun _ => by omega⟩
    · rw [c2 a' h3]
      exact this
  · intro b hb h1 h2 h3
    have hbm : b ≠ m := fun e => by subst e; omega
    rw [c2 b hbm] at h1 h2 h3 ⊢
    by_cases hex : ((∃ i, i < n ∧ co b ≤ mk i) ∨ ∃ j, j < k ∧ kd j = 1 ∧ co b ≤ pm j)
    · obtain ⟨cc, cc1, cc2, cc3, cc4, cc5⟩ := p10 b hb h1 h2 hex
      exact ⟨cc, cc1, cc2, cc3, fun h => cc4 h.2, cc5⟩
    · exfalso
      have hle : co b ≤ ag m := by
        rcases h3 with ⟨i, q1, q2⟩ | h3
        · by_cases him : i = m
          · subst him
            omega
          · rw [m2 i him] at q2
            exact absurd (Or.inl ⟨i, q1, q2⟩) hex
        · exact absurd (Or.inr h3) hex
      have g := p8 m hmn hc b hb (hall b hb hbm)
      exact g.2 (by omega) (by omega)
  · intro i hi i' hi' h1 h2
    by_cases e1 : i = m <;> by_cases e2 : i' = m
    · omega
    · rw [m2 i' e2, hno i' hi'] at h2
      omega
    · rw [m2 i e1, hno i hi] at h1
      omega
    · rw [m2 i e1, hno i hi] at h1
      omega
  · intro i hi h1 j hj h2 b hb h3
    exact dead j hj h2 b hb h3
end PV
