/-! what holds of every net, and that every act keeps it -/
theorem PV.cg {n k : Nat} {ag as co mk ag' as' co' mk' : Nat → Int} {vo vo' : Nat → Nat → Prop} {fr to kd vl pm fr' to' kd' vl' pm' : Nat → Int} (h : PV n k ag as co mk vo fr to kd vl pm)
    (e1 : ∀ i, i < n → ag' i = ag i) (e2 : ∀ i, i < n → as' i = as i) (e3 : ∀ i, i < n → co' i = co i) (e4 : ∀ i, i < n → mk' i = mk i) (e5 : ∀ i, i < n → ∀ c, vo' i c ↔ vo i c)
    (f1 : ∀ j, j < k → fr' j = fr j) (f2 : ∀ j, j < k → to' j = to j) (f3 : ∀ j, j < k → kd' j = kd j) (f4 : ∀ j, j < k → kd j = 2 ∨ kd j = 4 → vl' j = vl j) (f5 : ∀ j, j < k → kd j = 1 → pm' j = pm j) : PV n k ag' as' co' mk' vo' fr' to' kd' vl' pm' := by
  obtain ⟨p1, p2, p3, p4, p5, p6, p7, p8, p9, p10, p11, p12, p13⟩ := h
  refine ⟨?_, ?_, ?_, ?_, ?_, ?_, ?_, ?_, ?_, ?_, ?_, ?_, ?_⟩
  · intro i hi h1
    rw [e4 i hi] at h1 ⊢
    rw [e1 i hi]
    exact p1 i hi h1
  · intro i hi h1
    rw [e2 i hi] at h1
    rw [e4 i hi]
    exact p2 i hi h1
  · intro i hi h1
    rw [e3 i hi] at h1
    rw [e2 i hi]
    exact p3 i hi h1
  · intro i hi
    rw [e3 i hi, e1 i hi]
    exact p4 i hi
  · intro j hj h1 a ha h2
    rw [f3 j hj] at h1
    rw [f1 j hj] at h2
    rw [f4 j hj (Or.inl h1), e1 a ha]
    exact p5 j hj h1 a ha h2
  · intro j hj h1 a ha h2
    rw [f3 j hj] at h1
    rw [f2 j hj] at h2
    rw [f4 j hj (Or.inr h1), e1 a ha]
    exact p6 j hj h1 a ha h2
  · intro j hj h1 a ha h2
    rw [f3 j hj] at h1
    rw [f1 j hj] at h2
    rw [f4 j hj (Or.inr h1), e1 a ha, e3 a ha]
    exact p7 j hj h1 a ha h2
  · intro b hb h1 a ha hv
    rw [e3 b hb] at h1 ⊢
    rw [e1 a ha, e3 a ha]
    exact p8 b hb h1 a ha ((e5 b hb a).mp hv)
  · intro j hj h1 a ha h2
    rw [f3 j hj] at h1
    rw [f1 j hj] at h2
    rw [f5 j hj h1, e1 a ha]
    exact p9 j hj h1 a ha h2
  · intro b hb h1 h2 h3
    rw [e3 b hb] at h1 h2 h3 ⊢
    rw [e1 b hb] at h2
    have h3 : ((∃ i, i < n ∧ co b ≤ mk i) ∨ ∃ j, j < k ∧ kd j = 1 ∧ co b ≤ pm j) := by
      rcases h3 with ⟨i, q1, q2⟩ | ⟨j, q1, q2, q3⟩
      · rw [e4 i q1] at q2
        exact Or.inl ⟨i, q1, q2⟩
      · rw [f3 j q1] at q2
        rw [f5 j q1 q2] at q3
        exact Or.inr ⟨j, q1, q2, q3⟩
    obtain ⟨cc, cc1, cc2, cc3, cc4, cc5⟩ := p10 b hb h1 h2 h3
    refine ⟨cc, cc1, cc2, by rw [e1 cc cc1]; exact cc3, fun h => cc4 ((e5 b hb cc).mp h), fun j hj g1 g2 g3 => ?_⟩
    rw [f3 j hj] at g1
    rw [f1 j hj] at g2
    rw [f2 j hj] at g3
    rw [f4 j hj (Or.inr g1)]
    exact cc5 j hj g1 g2 g3
  · intro i hi i' hi' h1 h2
    rw [e4 i hi] at h1
    rw [e4 i' hi'] at h2
    exact p11 i hi i' hi' h1 h2
  · intro i hi h1 j hj h2 b hb h3
    rw [e4 i hi] at h1
    rw [f3 j hj] at h2
    rw [f2 j hj] at h3
    rw [f5 j hj h2, e1 b hb]
    exact p12 i hi h1 j hj h2 b hb h3
  · intro j hj j' hj' h1 h2 h3 h4
    rw [f3 j hj] at h1
    rw [f3 j' hj'] at h2
    rw [f2 j hj, f5 j hj h1] at h3
    rw [f2 j' hj', f5 j' hj' h2] at h4
    exact p13 j hj j' hj' h1 h2 (fun b hb g => by have := h3 b hb g; rw [e1 b hb] at this; exact this) (fun b hb g => by have := h4 b hb g; rw [e1 b hb] at this; exact this)
/-- who has voted, by bits -/
def vb (x : Int) (c : Nat) : Prop := x.toNat.testBit c = true
/-- the view of a net that PV is about -/
abbrev PN (n k : Nat) (B C : Nat → Nat → Int) : Prop := PV n k (fun i => B i 1) (fun i => B i 2) (fun i => B i 4) (fun i => B i 30) (fun i c => vb (B i 5) c) (fun j => C j 0) (fun j => C j 1) (fun j => C j 2) (fun j => C j 3) (fun j => C j 5)
/-- voters of i: a number of bits of others -/
def VO (n i : Nat) (x : Int) : Prop := ∃ v : Nat, x = (v : Int) ∧ v < 64 ∧ ∀ c, v.testBit c = true → c < n ∧ c ≠ i
def GI (n k W : Nat) (X : NT) : Prop := NI n k W X ∧ PN n k X.2.1 X.2.2 ∧ (∀ i, i < n → VO n i (X.2.1 i 5)) ∧ k ≤ 41 ∧ ((∃ i, i < n ∧ 0 < X.2.1 i 30) → k ≤ 40) ∧ ∀ j, j < k → 1 ≤ X.2.2 j 3
theorem QI.mono {n W W' L : Nat} {b : Nat → Int} (h : QI n W b L) (hw : W ≤ W') : QI n W' b L := by
  obtain ⟨h1, h2, h3, h4⟩ := h
  exact ⟨h1, h2, h3, fun i hi => by have := h4 i hi; omega⟩
theorem rowI.mono {n W W' : Nat} {b : Nat → Int} (h : rowI n W b) (hw : W ≤ W') : rowI n W' b := by
  obtain ⟨i1, i2, i3, i4, i5, i6, i7, i8, i9, L, i10⟩ := h
  exact ⟨by omega, by omega, i3, i4, by omega, fun j hj => by have := i6 j hj; omega, i7, by omega, fun j hj => by have := i9 j hj; omega, L, i10.mono hw⟩
theorem msgI.mono {n W W' : Nat} {r : Nat → Int} (h : msgI n W r) (hw : W ≤ W') : msgI n W' r := by
  obtain ⟨h1, h2, h3, h4, h5, h6⟩ := h
  refine ⟨h1, h2, by omega, by omega, h5, fun e => ?_⟩
  obtain ⟨q1, q2, q3, q4, L, q5⟩ := h6 e
  exact ⟨by omega, q2, q3, fun j hj => by have := q4 j hj; omega, L, q5.mono hw⟩
theorem vw_B {B : Nat → Nat → Int} {m : Nat} {b : Nat → Int} {j : Nat} : (fun i => uR B m b i j) = u1 (fun i => B i j) m (b j) := by
  funext i
  by_cases hi : i = m
  · subst hi
    rw [uR_at, u1_at]
  · rw [uR_ne hi, u1_ne hi]
theorem vw_s {B : Nat → Nat → Int} {m : Nat} {b : Nat → Int} {j : Nat} (h : b j = B m j) : (fun i => uR B m b i j) = (fun i => B i j) := by
  funext i
  by_cases hi : i = m
  · subst hi
    rw [uR_at, h]
  · rw [uR_ne hi]
/-- a member's row changed in what PV doesn't see -/
theorem PN.row {n k m : Nat} {B C : Nat → Nat → Int} {b : Nat → Int} (h : PN n k B C) (h1 : b 1 = B m 1) (h2 : b 2 = B m 2) (h4 : b 4 = B m 4) (h5 : b 5 = B m 5) (h30 : b 30 = B m 30) : PN n k (uR B m b) C := by
  refine h.cg (fun i _ => ?_) (fun i _ => ?_) (fun i _ => ?_) (fun i _ => ?_) (fun i _ c => ?_) (fun _ _ => rfl) (fun _ _ => rfl) (fun _ _ => rfl) (fun _ _ _ => rfl) (fun _ _ _ => rfl)
  · exact congrFun (vw_s h1) i
  · exact congrFun (vw_s h2) i
  · exact congrFun (vw_s h4) i
  · exact congrFun (vw_s h30) i
  · rw [show uR B m b i 5 = B i 5 from congrFun (vw_s h5) i]
theorem shC_sk {C : Nat → Nat → Int} {p k q j : Nat} (hj : j < k - 1) : shC C p k j q = sk p (fun j => C j q) j := by
  unfold shC sk
  by_cases h : j < p
  · rw [if_neg (by omega), if_pos h]
  · rw [if_pos (by omega), if_neg h]
theorem PN.take {n k p : Nat} {B C : Nat → Nat → Int} (h : PN n k B C) (hp : p < k) : PN n (k - 1) B (shC C p k) :=
  (PV.take h hp).cg (fun _ _ => rfl) (fun _ _ => rfl) (fun _ _ => rfl) (fun _ _ => rfl) (fun _ _ _ => Iff.rfl) (fun _ hj => shC_sk hj) (fun _ hj => shC_sk hj) (fun _ hj => shC_sk hj) (fun _ hj _ => shC_sk hj) (fun _ hj _ => shC_sk hj)
theorem vb_0 (c : Nat) : ¬ vb 0 c := by
  unfold vb
  simp
theorem bor_ok : ∀ x, x < 64 → ∀ a, a < 6 → bOr ((x : Nat) : Int) (bShl 1 ((a : Nat) : Int)) = ((x ||| 2 ^ a : Nat) : Int) ∧ x ||| 2 ^ a < 64 := by decide +kernel
theorem vb_or {x a c : Nat} (hx : x < 64) (ha : a < 6) : vb (bOr ((x : Nat) : Int) (bShl 1 ((a : Nat) : Int))) c ↔ vb ((x : Nat) : Int) c ∨ c = a := by
  unfold vb
  rw [(bor_ok x hx a ha).1, Int.toNat_natCast, Int.toNat_natCast, Nat.testBit_or, Nat.testBit_two_pow]
  simp
  constructor
  · rintro (h | h)
    · exact Or.inl h
    · exact Or.inr h.symm
  · rintro (h | h)
    · exact Or.inl h
    · exact Or.inr h.symm
theorem VO_0 {n i : Nat} : VO n i 0 := ⟨0, rfl, by decide, fun c h => by simp at h⟩
