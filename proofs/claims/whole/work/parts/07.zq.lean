/-! queues: what holds of a member's row -/
theorem pig : ∀ (n L : Nat) (f : Nat → Nat), (∀ i, i < L → f i < n) → (∀ i j, i < L → j < L → f i = f j → i = j) → L ≤ n
  | 0, L, f, h, _ => by
    rcases Nat.eq_zero_or_pos L with h0 | h0
    · omega
    · exact absurd (h 0 h0) (by omega)
  | n + 1, L, f, h, hi => by
    by_cases hx : ∃ i, i < L ∧ f i = n
    · obtain ⟨i, h1, h2⟩ := hx
      have := pig n (L - 1) (fun j => if j = i then f (L - 1) else f j) (fun j hj => ?_) (fun j k hj hk e => ?_)
      · omega
      · show (if j = i then f (L - 1) else f j) < n
        by_cases hji : j = i
        · rw [if_pos hji]
          have g1 := h (L - 1) (by omega)
          have g2 : f (L - 1) ≠ n := fun g => by
            have := hi (L - 1) i (by omega) h1 (by rw [g, h2])
            omega
          omega
        · rw [if_neg hji]
          have g1 := h j (by omega)
          have g2 : f j ≠ n := fun g => hji (hi j i (by omega) h1 (by rw [g, h2]))
          omega
      · have e : (if j = i then f (L - 1) else f j) = (if k = i then f (L - 1) else f k) := e
        by_cases hji : j = i <;> by_cases hki : k = i
        · omega
        · rw [if_pos hji, if_neg hki] at e
          have := hi (L - 1) k (by omega) (by omega) e
          omega
        · rw [if_neg hji, if_pos hki] at e
          have := hi j (L - 1) (by omega) (by omega) e
          omega
        · rw [if_neg hji, if_neg hki] at e
          exact hi j k (by omega) (by omega) e
    · have := pig n L f (fun j hj => by
        have g1 := h j hj
        have g2 : f j ≠ n := fun g => hx ⟨j, hj, g⟩
        omega) hi
      omega
/-- a queue of L different members below n, with waits up to W -/
def QI (n W : Nat) (b : Nat → Int) (L : Nat) : Prop := b 31 = (L : Int) ∧ (∀ i, i < L → ∃ q : Nat, q < n ∧ b (38 + i) = (q : Int)) ∧ (∀ i j, i < L → j < L → b (38 + i) = b (38 + j) → i = j) ∧ (∀ i, i < L → 0 ≤ b (44 + i) ∧ b (44 + i) ≤ (W : Int))
theorem QI.len {n W : Nat} {b : Nat → Int} {L : Nat} (h : QI n W b L) : L ≤ n := by
  obtain ⟨-, h2, h3, -⟩ := h
  refine pig n L (fun i => (b (38 + i)).toNat) (fun i hi => ?_) (fun i j hi hj e => ?_)
  · obtain ⟨q, h4, h5⟩ := h2 i hi
    show (b (38 + i)).toNat < n
    rw [h5, Int.toNat_natCast]
    exact h4
  · obtain ⟨q, h4, h5⟩ := h2 i hi
    obtain ⟨q', h6, h7⟩ := h2 j hj
    have e : (b (38 + i)).toNat = (b (38 + j)).toNat := e
    rw [h5, h7, Int.toNat_natCast, Int.toNat_natCast] at e
    exact h3 i j hi hj (by rw [h5, h7, e])
/-- one short, if some member isn't there -/
theorem QI.len1 {n W : Nat} {b : Nat → Int} {L x : Nat} (h : QI n W b L) (hx : x < n) (hn : ∀ i, i < L → b (38 + i) ≠ (x : Int)) : L + 1 ≤ n := by
  obtain ⟨-, h2, h3, -⟩ := h
  refine pig n (L + 1) (fun i => if i = L then x else (b (38 + i)).toNat) (fun i hi => ?_) (fun i j hi hj e => ?_)
  · show (if i = L then x else (b (38 + i)).toNat) < n
    by_cases hiL : i = L
    · rw [if_pos hiL]
      exact hx
    · rw [if_neg hiL]
      obtain ⟨q, h4, h5⟩ := h2 i (by omega)
      rw [h5, Int.toNat_natCast]
      exact h4
  · have e : (if i = L then x else (b (38 + i)).toNat) = (if j = L then x else (b (38 + j)).toNat) := e
    by_cases hiL : i = L <;> by_cases hjL : j = L
    · omega
    · rw [if_pos hiL, if_neg hjL] at e
      obtain ⟨q, h4, h5⟩ := h2 j (by omega)
      rw [h5, Int.toNat_natCast] at e
      exact absurd (by rw [h5, e]) (hn j (by omega))
    · rw [if_neg hiL, if_pos hjL] at e
      obtain ⟨q, h4, h5⟩ := h2 i (by omega)
      rw [h5, Int.toNat_natCast] at e
      exact absurd (by rw [h5, e]) (hn i (by omega))
    · rw [if_neg hiL, if_neg hjL] at e
      obtain ⟨q, h4, h5⟩ := h2 i (by omega)
      obtain ⟨q', h6, h7⟩ := h2 j (by omega)
      rw [h5, h7, Int.toNat_natCast, Int.toNat_natCast] at e
      exact h3 i j (by omega) (by omega) (by rw [h5, h7, e])
theorem pfd_spec (b : Nat → Int) (x : Int) : ∀ r k : Nat, (pfd b x k r = -1 ∧ ∀ i, k ≤ i → i < k + r → b (38 + i) ≠ x) ∨ ∃ i : Nat, k ≤ i ∧ i < k + r ∧ pfd b x k r = (i : Int) ∧ b (38 + i) = x
  | 0, k => Or.inl ⟨rfl, fun i h1 h2 => by omega⟩
  | r + 1, k => by
    by_cases h : b (38 + k) = x
    · exact Or.inr ⟨k, by omega, by omega, if_pos h, h⟩
    · rw [show pfd b x k (r + 1) = pfd b x (k + 1) r from if_neg h]
      rcases pfd_spec b x r (k + 1) with ⟨h1, h2⟩ | ⟨i, h1, h2, h3, h4⟩
      · refine Or.inl ⟨h1, fun i hi hj => ?_⟩
        by_cases hik : i = k
        · rw [hik]; exact h
        · exact h2 i (by omega) (by omega)
      · exact Or.inr ⟨i, by omega, by omega, h3, h4⟩
theorem plc_spec {b : Nat → Int} {L : Nat} (hL : b 31 = (L : Int)) (x : Int) : (plc b x = -1 ∧ ∀ i, i < L → b (38 + i) ≠ x) ∨ ∃ i : Nat, i < L ∧ plc b x = (i : Int) ∧ b (38 + i) = x := by
  unfold plc
  rw [hL, Int.toNat_natCast]
  rcases pfd_spec b x L 0 with ⟨h1, h2⟩ | ⟨i, h1, h2, h3, h4⟩
  · exact Or.inl ⟨h1, fun i hi => h2 i (by omega) (by omega)⟩
  · exact Or.inr ⟨i, by omega, h3, h4⟩
/-- the queue of outR: the k-th is gone -/
theorem outR_q {b : Nat → Int} {L k : Nat} (hL : b 31 = (L : Int)) (hk : k < L) (h6 : L ≤ 6) : outR b k 31 = ((L - 1 : Nat) : Int) ∧ ∀ i, i < L - 1 → outR b k (38 + i) = b (38 + (if i < k then i else i + 1)) ∧ outR b k (44 + i) = b (44 + (if i < k then i else i + 1)) := by
  unfold outR
  rw [hL, Int.toNat_natCast]
  refine ⟨by rw [if_pos rfl]; omega, fun i hi => ?_⟩
  by_cases hik : i < k
  · simp only [if_pos hik]
    constructor
    · rw [if_neg (by omega), if_neg (by omega), if_neg (by omega)]
    · rw [if_neg (by omega), if_neg (by omega), if_neg (by omega)]
  · simp only [if_neg hik]
    constructor
    · rw [if_neg (by omega), if_pos (by omega), if_pos (by omega)]
      try exact congrArg b (by omega)
    · rw [if_neg (by omega), if_neg (by omega), if_pos (by omega), if_pos (by omega)]
      try exact congrArg b (by omega)
theorem outR_lo {b : Nat → Int} {k j : Nat} (hj : j < 31 ∨ (32 ≤ j ∧ j < 38) ∨ j = 30 ∨ 50 ≤ j) : outR b k j = b j := by
  unfold outR
  rw [if_neg (by omega), if_neg (by omega), if_neg (by omega)]
theorem QI.out {n W : Nat} {b : Nat → Int} {L k : Nat} (h : QI n W b L) (hk : k < L) (h6 : L ≤ 6) : QI n W (outR b k) (L - 1) := by
  obtain ⟨h1, h2, h3, h4⟩ := h
  obtain ⟨o1, o2⟩ := outR_q h1 hk h6
  refine ⟨o1, fun i hi => ?_, fun i j hi hj e => ?_, fun i hi => ?_⟩
  · rw [(o2 i hi).1]
    exact h2 _ (by split <;> omega)
  · rw [(o2 i hi).1, (o2 j hj).1] at e
    have := h3 _ _ (by split <;> omega) (by split <;> omega) e
    split at this <;> split at this <;> omega
  · rw [(o2 i hi).2]
    exact h4 _ (by split <;> omega)
theorem inR_q {b : Nat → Int} {L : Nat} {x : Int} (hL : b 31 = (L : Int)) (h6 : L < 6) : inR b x 31 = ((L + 1 : Nat) : Int) ∧ inR b x (38 + L) = x ∧ inR b x (44 + L) = 0 ∧ ∀ i, i < L → inR b x (38 + i) = b (38 + i) ∧ inR b x (44 + i) = b (44 + i) := by
  unfold inR
  rw [hL, Int.toNat_natCast]
  refine ⟨by rw [if_pos rfl]; omega, by rw [if_neg (by omega), if_pos rfl], by rw [if_neg (by omega), if_neg (by omega), if_pos rfl], fun i hi => ⟨?_, ?_⟩⟩
  · rw [if_neg (by omega), if_neg (by omega), if_neg (by omega)]
  · rw [if_neg (by omega), if_neg (by omega), if_neg (by omega)]
theorem inR_lo {b : Nat → Int} {x : Int} {j : Nat} (hj : j < 31 ∨ (32 ≤ j ∧ j < 38)) : inR b x j = b j := by
  unfold inR
  rw [if_neg (by omega), if_neg (by omega), if_neg (by omega)]
theorem QI.in {n W : Nat} {b : Nat → Int} {L x : Nat} (h : QI n W b L) (h6 : L < 6) (hx : x < n) (hn : ∀ i, i < L → b (38 + i) ≠ (x : Int)) : QI n W (inR b (x : Int)) (L + 1) := by
  obtain ⟨h1, h2, h3, h4⟩ := h
  obtain ⟨o1, o2, o3, o4⟩ := inR_q (x := (x : Int)) h1 h6
  refine ⟨o1, fun i hi => ?_, fun i j hi hj e => ?_, fun i hi => ?_⟩
  · by_cases hiL : i = L
    · subst hiL
      exact ⟨x, hx, o2⟩
    · rw [(o4 i (by omega)).1]
      exact h2 i (by omega)
  · by_cases hiL : i = L <;> by_cases hjL : j = L
    · omega
    · subst hiL
      rw [o2, (o4 j (by omega)).1] at e
      exact absurd e.symm (hn j (by omega))
    · subst hjL
      rw [o2, (o4 i (by omega)).1] at e
      exact absurd e (hn i (by omega))
    · rw [(o4 i (by omega)).1, (o4 j (by omega)).1] at e
      exact h3 i j (by omega) (by omega) e
  · by_cases hiL : i = L
    · subst hiL
      rw [o3]
      exact ⟨by omega, by omega⟩
    · rw [(o4 i (by omega)).2]
      exact h4 i (by omega)
def hnd1 (m : Nat) (b : Nat → Int) : Nat → Int := if plc b (m : Int) = -1 then b else outR b (plc b (m : Int)).toNat
/-- no m in the queue -/
def noQ (b : Nat → Int) (L : Nat) (x : Nat) : Prop := ∀ i, i < L → b (38 + i) ≠ (x : Int)
theorem hnd1_q {n W : Nat} {b : Nat → Int} {L m : Nat} (h : QI n W b L) (h6 : L ≤ 6) : ∃ L', L' ≤ L ∧ QI n W (hnd1 m b) L' ∧ noQ (hnd1 m b) L' m := by
  unfold hnd1
  rcases plc_spec h.1 (m : Int) with ⟨h1, h2⟩ | ⟨i, h1, h2, h3⟩
  · rw [if_pos h1]
    exact ⟨L, Nat.le_refl _, h, h2⟩
  · rw [if_neg (by omega), h2, Int.toNat_natCast]
    refine ⟨L - 1, by omega, h.out h1 h6, fun j hj e => ?_⟩
    rw [((outR_q h.1 h1 h6).2 j hj).1] at e
    have := h.2.2.1 (if j < i then j else j + 1) i (by split <;> omega) h1 (by rw [e, h3])
    split at this <;> omega
theorem hnd1_lo {b : Nat → Int} {m j : Nat} (hj : j < 31 ∨ (32 ≤ j ∧ j < 38) ∨ 50 ≤ j) : hnd1 m b j = b j := by
  unfold hnd1
  split
  · rfl
  · exact outR_lo (by omega)
theorem addR_q {n W m : Nat} {b : Nat → Int} (hn : n ≤ 6) (hm : m < n) : ∀ (x : Nat), x ≤ n → ∀ (L : Nat), QI n W b L → noQ b L m → ∃ L', QI n W (addR m x b) L' ∧ noQ (addR m x b) L' m ∧ L' + 1 ≤ n
  | 0, _, L, h, hm2 => ⟨L, h, hm2, h.len1 hm hm2⟩
  | x + 1, hx, L, h, hm2 => by
    obtain ⟨L', h1, h2, h3⟩ := addR_q hn hm x (by omega) L h hm2
    simp only [addR]
    by_cases hc : x ≠ m ∧ addR m x b (32 + x) < addR m x b (6 + x) ∧ plc (addR m x b) (x : Int) = -1
    · rw [if_pos hc]
      have hx2 : noQ (addR m x b) L' x := by
        rcases plc_spec h1.1 (x : Int) with ⟨g1, g2⟩ | ⟨i, g1, g2, g3⟩
        · exact g2
        · rw [g2] at hc
          omega
      have hq := h1.in (x := x) (by omega) (by omega) hx2
      have hno : noQ (inR (addR m x b) (x : Int)) (L' + 1) m := by
        intro i hi e
        obtain ⟨-, o2, -, o4⟩ := inR_q (x := (x : Int)) h1.1 (show L' < 6 by omega)
        by_cases hiL : i = L'
        · subst hiL
          rw [o2] at e
          exact hc.1 (by omega)
        · rw [(o4 i (by omega)).1] at e
          exact h2 i (by omega) e
      exact ⟨L' + 1, hq, hno, hq.len1 hm hno⟩
    · rw [if_neg hc]
      exact ⟨L', h1, h2, h3⟩
theorem addR_lo {m j : Nat} {b : Nat → Int} (hj : j < 31 ∨ (32 ≤ j ∧ j < 38)) : ∀ x, addR m x b j = b j
  | 0 => rfl
  | x + 1 => by
    simp only [addR]
    split
    · rw [inR_lo hj, addR_lo hj x]
    · exact addR_lo hj x
theorem bst_le (b : Nat → Int) : ∀ k, bst b k ≤ k
  | 0 => Nat.le_refl _
  | k + 1 => by
    have := bst_le b k
    simp only [bst]
    split
    · exact Nat.le_refl _
    · omega
def hnd2 (m n : Nat) (b : Nat → Int) : Nat → Int := addR m n (hnd1 m b)
def hndk (b : Nat → Int) : Nat := bst b ((b 31).toNat - 1)
def hnd5 (b : Nat → Int) : Nat → Int := rowR (wtR (outR b (hndk b)))
