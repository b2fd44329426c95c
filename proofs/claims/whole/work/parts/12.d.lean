/-! THE CLASS: the script as tables -/
def scF (s : Nat) (m a fk fp : Int) (j : Nat) : Int := if j < 5 then ((s + 1 + j : Nat) : Int) else if j = 5 then m else if j = 6 then a else if j = 7 then fk else if j = 8 then fp else 0
def sS (V : VH) (s : Nat) (m a fk fp : Int) (R K F G P : Nat → Int) : VH := fun c j => if c = s then scF s m a fk fp j else if c = s + 1 then R j else if c = s + 2 then K j else if c = s + 3 then F j else if c = s + 4 then G j else if c = s + 5 then P j else V c j
section SS
variable {V : VH} {s c j o : Nat} {m a fk fp x L kd st sp v : Int} {R K F G P T : Nat → Int}
theorem y_r0 : sS V s m a fk fp R K F G P s 0 = ((s + 1 : Nat) : Int) := by simp [sS, scF]
theorem y_r1 : sS V s m a fk fp R K F G P s 1 = ((s + 2 : Nat) : Int) := by simp [sS, scF]; omega
theorem y_r2 : sS V s m a fk fp R K F G P s 2 = ((s + 3 : Nat) : Int) := by simp [sS, scF]; omega
theorem y_r3 : sS V s m a fk fp R K F G P s 3 = ((s + 4 : Nat) : Int) := by simp [sS, scF]; omega
theorem y_r4 : sS V s m a fk fp R K F G P s 4 = ((s + 5 : Nat) : Int) := by simp [sS, scF]; omega
theorem y_r5 : sS V s m a fk fp R K F G P s 5 = m := by simp [sS, scF]
theorem y_w5 : up (sS V s m a fk fp R K F G P) s 5 x = sS V s x a fk fp R K F G P := by
  funext c j
  unfold up sS scF
  by_cases h : c = s <;> by_cases h1 : j = 5 <;> simp [h, h1]
theorem y_r6 : sS V s m a fk fp R K F G P s 6 = a := by simp [sS, scF]
theorem y_w6 : up (sS V s m a fk fp R K F G P) s 6 x = sS V s m x fk fp R K F G P := by
  funext c j
  unfold up sS scF
  by_cases h : c = s <;> by_cases h1 : j = 6 <;> simp [h, h1]
theorem y_r7 : sS V s m a fk fp R K F G P s 7 = fk := by simp [sS, scF]
theorem y_w7 : up (sS V s m a fk fp R K F G P) s 7 x = sS V s m a x fp R K F G P := by
  funext c j
  unfold up sS scF
  by_cases h : c = s <;> by_cases h1 : j = 7 <;> simp [h, h1]
theorem y_r8 : sS V s m a fk fp R K F G P s 8 = fp := by simp [sS, scF]
theorem y_w8 : up (sS V s m a fk fp R K F G P) s 8 x = sS V s m a fk x R K F G P := by
  funext c j
  unfold up sS scF
  by_cases h : c = s <;> by_cases h1 : j = 8 <;> simp [h, h1]
theorem y_a1 : sS V s m a fk fp R K F G P (s + 1) j = R j := by simp [sS]
theorem y_b1 : up (sS V s m a fk fp R K F G P) (s + 1) j x = sS V s m a fk fp (u1 R j x) K F G P := by
  funext c k
  unfold up sS u1
  by_cases h : c = s + 1 <;> by_cases h1 : k = j <;> simp [h, h1]
theorem y_a2 : sS V s m a fk fp R K F G P (s + 2) j = K j := by simp [sS]
theorem y_b2 : up (sS V s m a fk fp R K F G P) (s + 2) j x = sS V s m a fk fp R (u1 K j x) F G P := by
  funext c k
  unfold up sS u1
  by_cases h : c = s + 2 <;> by_cases h1 : k = j <;> simp [h, h1]
theorem y_a3 : sS V s m a fk fp R K F G P (s + 3) j = F j := by simp [sS]
theorem y_b3 : up (sS V s m a fk fp R K F G P) (s + 3) j x = sS V s m a fk fp R K (u1 F j x) G P := by
  funext c k
  unfold up sS u1
  by_cases h : c = s + 3 <;> by_cases h1 : k = j <;> simp [h, h1]
theorem y_a4 : sS V s m a fk fp R K F G P (s + 4) j = G j := by simp [sS]
theorem y_b4 : up (sS V s m a fk fp R K F G P) (s + 4) j x = sS V s m a fk fp R K F (u1 G j x) P := by
  funext c k
  unfold up sS u1
  by_cases h : c = s + 4 <;> by_cases h1 : k = j <;> simp [h, h1]
theorem y_a5 : sS V s m a fk fp R K F G P (s + 5) j = P j := by simp [sS]
theorem y_b5 : up (sS V s m a fk fp R K F G P) (s + 5) j x = sS V s m a fk fp R K F G (u1 P j x) := by
  funext c k
  unfold up sS u1
  by_cases h : c = s + 5 <;> by_cases h1 : k = j <;> simp [h, h1]
theorem y_o (h : c < s ∨ s + 6 ≤ c) : sS V s m a fk fp R K F G P c j = V c j := by
  unfold sS
  rw [if_neg (by omega), if_neg (by omega), if_neg (by omega), if_neg (by omega), if_neg (by omega), if_neg (by omega)]
theorem y_up (h : c < s ∨ s + 6 ≤ c) : up (sS V s m a fk fp R K F G P) c j x = sS (up V c j x) s m a fk fp R K F G P := by
  funext b k
  by_cases hb : b < s ∨ s + 6 ≤ b
  · rw [y_o hb]
    unfold up
    rw [y_o hb]
  · unfold up
    rw [if_neg (by omega)]
    unfold sS
    have : b = s ∨ b = s + 1 ∨ b = s + 2 ∨ b = s + 3 ∨ b = s + 4 ∨ b = s + 5 := by omega
    rcases this with h | h | h | h | h | h <;> simp [h]
theorem tsC (h : o + 2 ≤ s) : sS (tS V o L kd st sp v T) s m a fk fp R K F G P = tS (sS V s m a fk fp R K F G P) o L kd st sp v T := by
  funext b k
  by_cases hb : b < s ∨ s + 6 ≤ b
  · rw [y_o hb]
    unfold tS
    rw [y_o hb]
  · rw [t_o (by omega)]
    unfold sS
    have : b = s ∨ b = s + 1 ∨ b = s + 2 ∨ b = s + 3 ∨ b = s + 4 ∨ b = s + 5 := by omega
    rcases this with h | h | h | h | h | h <;> simp [h]
theorem y_id (h0 : ∀ j, V s j = scF s m a fk fp j) (h1 : ∀ j, V (s + 1) j = R j) (h2 : ∀ j, V (s + 2) j = K j) (h3 : ∀ j, V (s + 3) j = F j) (h4 : ∀ j, V (s + 4) j = G j) (h5 : ∀ j, V (s + 5) j = P j) : sS V s m a fk fp R K F G P = V := by
  funext c j
  by_cases hb : c < s ∨ s + 6 ≤ c
  · exact y_o hb
  · unfold sS
    have : c = s ∨ c = s + 1 ∨ c = s + 2 ∨ c = s + 3 ∨ c = s + 4 ∨ c = s + 5 := by omega
    rcases this with h | h | h | h | h | h <;> simp [h, h0, h1, h2, h3, h4, h5]
theorem strI.ss {Γ : GM} {t : Nat} {l : List Int} (h : strI Γ V t l) (ht : t < s) : strI Γ (sS V s m a fk fp R K F G P) t l := ⟨h.1, h.2.1, fun j hj => by rw [y_o (Or.inl ht)]; exact h.2.2 j hj⟩
end SS
def SK (Γ : GM) (s : Nat) : Prop := (Γ.1 s = 6 ∧ Γ.1 (s + 1) = 10 ∧ Γ.1 (s + 2) = 10 ∧ Γ.1 (s + 3) = 10 ∧ Γ.1 (s + 4) = 10 ∧ Γ.1 (s + 5) = 10) ∧ ((Γ.2.1 (s + 1) : Int) = 6 ∧ (Γ.2.1 (s + 2) : Int) = 100 ∧ (Γ.2.1 (s + 3) : Int) = 100 ∧ (Γ.2.1 (s + 4) : Int) = 100 ∧ (Γ.2.1 (s + 5) : Int) = 100)
