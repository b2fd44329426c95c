/-! what a tape says: tokens, as functions of its numbers -/
abbrev isB (c : Int) : Prop := c = 32 ∨ c = 10
abbrev isLt (c : Int) : Prop := 97 ≤ c ∧ c ≤ 122
abbrev isDg (c : Int) : Prop := 48 ≤ c ∧ c ≤ 57
def sk0 (T : Nat → Int) : Nat → Nat → Nat
  | 0, p => p
  | r + 1, p => if isB (T p) then sk0 T r (p + 1) else p
def ru0 (T : Nat → Int) : Nat → Nat → Nat
  | 0, p => p
  | r + 1, p => if isLt (T p) ∨ isDg (T p) then ru0 T r (p + 1) else p
/-- where the token behind p begins -/
def tkB (T : Nat → Int) (L p : Nat) : Nat := sk0 T (L - p) p
def tkR (T : Nat → Int) (L p : Nat) : Nat := ru0 T (L - p) p
def alL (T : Nat → Int) (s : Nat) : Nat → Bool
  | 0 => true
  | i + 1 => alL T s i && decide (isLt (T (s + i)))
def alD (T : Nat → Int) (s : Nat) : Nat → Bool
  | 0 => true
  | i + 1 => alD T s i && decide (isDg (T (s + i)))
/-- the kind of the token behind p: 0 none left, 1 wrong, 2 word, 3 number, 4 sign -/
def tkK (T : Nat → Int) (L p : Nat) : Nat :=
  if 600 < L ∧ 600 ≤ tkB T L p then 1
  else if L ≤ tkB T L p then 0
  else if isLt (T (tkB T L p)) ∨ isDg (T (tkB T L p)) then
    (if alL T (tkB T L p) (tkR T L (tkB T L p) - tkB T L p) then 2
     else if alD T (tkB T L p) (tkR T L (tkB T L p) - tkB T L p) ∧ tkR T L (tkB T L p) - tkB T L p ≤ 2 then 3 else 1)
  else if T (tkB T L p) = 59 then 4 else 1
/-- its place -/
def tkS (T : Nat → Int) (L p : Nat) : Nat := if 600 < L ∧ 600 ≤ tkB T L p then 600 else tkB T L p
/-- where it ends, if it is a word, a number or a sign -/
def tkE (T : Nat → Int) (L p : Nat) : Nat := if isLt (T (tkB T L p)) ∨ isDg (T (tkB T L p)) then tkR T L (tkB T L p) else tkB T L p + 1
noncomputable def wrd (T : Nat → Int) (s : Nat) : Nat → Int
  | 0 => 0
  | i + 1 => if i < 8 then wl (wl (wl (27 * wrd T s i) + T (s + i)) - 96) else wrd T s i
noncomputable def nmb (T : Nat → Int) (s : Nat) : Nat → Int
  | 0 => 0
  | i + 1 => if i < 2 then wr (wr (wr (10 * nmb T s i) + T (s + i)) - 48) else nmb T s i
/-- its number -/
noncomputable def tkN (T : Nat → Int) (L p : Nat) : Int := nmb T (tkB T L p) (tkR T L (tkB T L p) - tkB T L p)
theorem sk0_b {T : Nat → Int} : ∀ r p, p ≤ sk0 T r p ∧ sk0 T r p ≤ p + r
  | 0, p => by simp [sk0]
  | r + 1, p => by
    have := sk0_b (T := T) r (p + 1)
    unfold sk0
    split <;> omega
theorem ru0_b {T : Nat → Int} : ∀ r p, p ≤ ru0 T r p ∧ ru0 T r p ≤ p + r
  | 0, p => by simp [ru0]
  | r + 1, p => by
    have := ru0_b (T := T) r (p + 1)
    unfold ru0
    split <;> omega
theorem ru0_in {T : Nat → Int} : ∀ r p j, p ≤ j → j < ru0 T r p → isLt (T j) ∨ isDg (T j)
  | 0, p, j, h1, h2 => by simp [ru0] at h2; omega
  | r + 1, p, j, h1, h2 => by
    unfold ru0 at h2
    split at h2
    · next h =>
      by_cases hj : j = p
      · subst hj; exact h
      · exact ru0_in r (p + 1) j (by omega) h2
    · omega
theorem ru0_end {T : Nat → Int} : ∀ r p, ru0 T r p = p + r ∨ ¬ (isLt (T (ru0 T r p)) ∨ isDg (T (ru0 T r p)))
  | 0, p => Or.inl rfl
  | r + 1, p => by
    unfold ru0
    split
    · rcases ru0_end (T := T) r (p + 1) with h | h
      · left; omega
      · exact Or.inr h
    · next h => exact Or.inr h
theorem tkB_b {T : Nat → Int} {L p : Nat} (h : p ≤ L) : p ≤ tkB T L p ∧ tkB T L p ≤ L := by
  have := sk0_b (T := T) (L - p) p
  unfold tkB
  omega
theorem tkR_b {T : Nat → Int} {L p : Nat} (h : p ≤ L) : p ≤ tkR T L p ∧ tkR T L p ≤ L := by
  have := ru0_b (T := T) (L - p) p
  unfold tkR
  omega
theorem alL_iff {T : Nat → Int} {s : Nat} : ∀ i, alL T s i = true ↔ ∀ j, j < i → isLt (T (s + j))
  | 0 => ⟨fun _ j hj => absurd hj (by omega), fun _ => rfl⟩
  | i + 1 => by
    have ih := alL_iff (T := T) (s := s) i
    unfold alL
    rw [Bool.and_eq_true, decide_eq_true_eq]
    constructor
    · intro h j hj
      by_cases e : j = i
      · subst e; exact h.2
      · exact ih.mp h.1 j (by omega)
    · intro h
      exact ⟨ih.mpr (fun j hj => h j (by omega)), h i (by omega)⟩
theorem alD_iff {T : Nat → Int} {s : Nat} : ∀ i, alD T s i = true ↔ ∀ j, j < i → isDg (T (s + j))
  | 0 => ⟨fun _ j hj => absurd hj (by omega), fun _ => rfl⟩
  | i + 1 => by
    have ih := alD_iff (T := T) (s := s) i
    unfold alD
    rw [Bool.and_eq_true, decide_eq_true_eq]
    constructor
    · intro h j hj
      by_cases e : j = i
      · subst e; exact h.2
      · exact ih.mp h.1 j (by omega)
    · intro h
      exact ⟨ih.mpr (fun j hj => h j (by omega)), h i (by omega)⟩
/-- the fields size, to, from, sort, number, word of the reference -/
def FT (F : Nat → Int) (L to from_ sort num : Int) (wd : Int) : Nat → Int := uF (uF (uF (uF (uF (uF F 3 L) 4 to) 5 from_) 6 sort) 7 num) 10 wd
section FTS
variable {F : Nat → Int} {L t f s m v x : Int} {i : Nat}
theorem FT_3 : FT F L t f s m v 3 = L := by simp [FT, uF]
theorem FT_4 : FT F L t f s m v 4 = t := by simp [FT, uF]
theorem FT_5 : FT F L t f s m v 5 = f := by simp [FT, uF]
theorem FT_6 : FT F L t f s m v 6 = s := by simp [FT, uF]
theorem FT_7 : FT F L t f s m v 7 = m := by simp [FT, uF]
theorem FT_10 : FT F L t f s m v 10 = v := by simp [FT, uF]
theorem FT_ne (h3 : i ≠ 3) (h4 : i ≠ 4) (h5 : i ≠ 5) (h6 : i ≠ 6) (h7 : i ≠ 7) (h10 : i ≠ 10) : FT F L t f s m v i = F i := by simp [FT, uF, h3, h4, h5, h6, h7, h10]
theorem FT_u4 : uF (FT F L t f s m v) 4 x = FT F L x f s m v := by
  funext j
  unfold FT uF
  repeat' split
  all_goals first | rfl | omega
theorem FT_u5 : uF (FT F L t f s m v) 5 x = FT F L t x s m v := by
  funext j
  unfold FT uF
  repeat' split
  all_goals first | rfl | omega
theorem FT_u6 : uF (FT F L t f s m v) 6 x = FT F L t f x m v := by
  funext j
  unfold FT uF
  repeat' split
  all_goals first | rfl | omega
theorem FT_u7 : uF (FT F L t f s m v) 7 x = FT F L t f s x v := by
  funext j
  unfold FT uF
  repeat' split
  all_goals first | rfl | omega
theorem FT_u10 : uF (FT F L t f s m v) 10 x = FT F L t f s m x := by
  funext j
  unfold FT uF
  repeat' split
  all_goals first | rfl | omega
theorem FT_u (h3 : i ≠ 3) (h4 : i ≠ 4) (h5 : i ≠ 5) (h6 : i ≠ 6) (h7 : i ≠ 7) (h10 : i ≠ 10) : uF (FT F L t f s m v) i x = FT (uF F i x) L t f s m v := by
  funext j
  unfold FT uF
  repeat' split
  all_goals first | rfl | omega
end FTS
theorem ML.FT {Γ : GM} {M : Nat} {F : Nat → Int} {L t f s m v : Int} (h : ML Γ M F) : ML Γ M (FT F L t f s m v) := (((((h.uF (by omega)).uF (by omega)).uF (by omega)).uF (by omega)).uF (by omega)).uF (by omega)
