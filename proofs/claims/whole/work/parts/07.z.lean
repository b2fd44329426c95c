/-! the net's functions -/
def mrow (a b c x y : Int) (g : Nat → Int) : Nat → Int := fun i => match i with
  | 0 => a
  | 1 => b
  | 2 => c
  | 3 => x
  | 4 => y
  | i + 5 => if i < 20 then g i else 0
def zrow (f : Nat → Int) (a b : Nat) : Nat → Int := fun j => if a ≤ j ∧ j < b then 0 else f j
section FN
variable {f : Nat → Nat → Int} {a k b : Nat} {r s : Nat → Int} {x : Int}
theorem uR_eq : uR f a (f a) = f := by
  funext i
  unfold uR
  split
  · next h => rw [h]
  · rfl
theorem u2_uR : u2 (uR f a r) a k x = uR f a (u1 r k x) := by
  funext i j
  by_cases hi : i = a <;> by_cases hj : j = k <;> simp [u2, uR, u1, hi, hj]
theorem u2_is : u2 f a k x = uR f a (u1 (f a) k x) := by
  funext i j
  by_cases hi : i = a <;> by_cases hj : j = k <;> simp [u2, uR, u1, hi, hj]
theorem uR_at : uR f a r a = r := if_pos rfl
theorem uR_ne (h : b ≠ a) : uR f a r b = f b := if_neg h
theorem uR_uR : uR (uR f a r) a s = uR f a s := by
  funext i
  by_cases hi : i = a <;> simp [uR, hi]
end FN
theorem fl_cc {A : Nat → Int} {B C C' : Nat → Nat → Int} (h : ∀ m, m < 60 → ∀ k, k < 30 → C m k = C' m k) : fl A B C = fl A B C' := by
  funext j
  unfold fl
  by_cases h6 : j < 6
  · rw [if_pos h6, if_pos h6]
  · by_cases h7 : j < 426
    · rw [if_neg h6, if_neg h6, if_pos h7, if_pos h7]
    · by_cases h8 : j < 2226
      · rw [if_neg h6, if_neg h6, if_neg h7, if_neg h7, if_pos h8, if_pos h8]
        exact h _ (by omega) _ (by omega)
      · rw [if_neg h6, if_neg h6, if_neg h7, if_neg h7, if_neg h8, if_neg h8]
theorem fl_bb {A : Nat → Int} {B B' C : Nat → Nat → Int} (h : ∀ m, m < 6 → ∀ k, k < 70 → B m k = B' m k) : fl A B C = fl A B' C := by
  funext j
  unfold fl
  by_cases h6 : j < 6
  · rw [if_pos h6, if_pos h6]
  · by_cases h7 : j < 426
    · rw [if_neg h6, if_neg h6, if_pos h7, if_pos h7]
      exact h _ (by omega) _ (by omega)
    · rw [if_neg h6, if_neg h6, if_neg h7, if_neg h7]
theorem fl_rc {A : Nat → Int} {B C : Nat → Nat → Int} {k : Nat} {r s : Nat → Int} (h : ∀ j, j < 30 → r j = s j) : fl A B (uR C k r) = fl A B (uR C k s) := by
  refine fl_cc (fun m _ j hj => ?_)
  by_cases hm : m = k
  · subst hm
    rw [uR_at, uR_at]
    exact h j hj
  · rw [uR_ne hm, uR_ne hm]
-- of a member's row: where a member is in the queue
def pfd (b : Nat → Int) (x : Int) : Nat → Nat → Int
  | _, 0 => -1
  | k, r + 1 => if b (38 + k) = x then (k : Int) else pfd b x (k + 1) r
def plc (b : Nat → Int) (x : Int) : Int := pfd b x 0 (b 31).toNat
def outR (b : Nat → Int) (k : Nat) : Nat → Int := fun j =>
  if j = 31 then b 31 - 1
  else if 38 ≤ j ∧ j < 44 ∧ k ≤ j - 38 then (if j - 38 + 1 < (b 31).toNat then b (j + 1) else if j - 38 + 1 = (b 31).toNat then 0 else b j)
  else if 44 ≤ j ∧ j < 50 ∧ k ≤ j - 44 then (if j - 44 + 1 < (b 31).toNat then b (j + 1) else if j - 44 + 1 = (b 31).toNat then 0 else b j)
  else b j
def inR (b : Nat → Int) (x : Int) : Nat → Int := fun j => if j = 31 then b 31 + 1 else if j = 38 + (b 31).toNat then x else if j = 44 + (b 31).toNat then 0 else b j
def rowR (b : Nat → Int) : Nat → Int := fun j => if 18 ≤ j ∧ j < 24 then b (j + 14) else b j
def drpR (b : Nat → Int) : Nat → Int := fun j => if j = 4 ∨ j = 5 ∨ (24 ≤ j ∧ j < 30) then 0 else b j
def wtR (b : Nat → Int) : Nat → Int := fun j => if 44 ≤ j ∧ j < 50 ∧ j - 44 < (b 31).toNat then b j + 1 else b j
def addR (m : Nat) : Nat → (Nat → Int) → (Nat → Int)
  | 0, b => b
  | x + 1, b => if x ≠ m ∧ addR m x b (32 + x) < addR m x b (6 + x) ∧ plc (addR m x b) (x : Int) = -1 then inR (addR m x b) (x : Int) else addR m x b
def urg (b : Nat → Int) (k : Nat) : Int := b (12 + (b (38 + k)).toNat) + b (44 + k)
def bst (b : Nat → Int) : Nat → Nat
  | 0 => 0
  | k + 1 => if urg b (bst b k) < urg b (k + 1) then k + 1 else bst b k
