/-! THE CLASS: the tape and the script as tables -/
def tpF (o : Nat) (L kd st sp v : Int) (j : Nat) : Int := if j = 0 then ((o + 1 : Nat) : Int) else if j = 1 then L else if j = 2 then kd else if j = 3 then st else if j = 4 then sp else if j = 5 then v else 0
def tS (V : VH) (o : Nat) (L kd st sp v : Int) (T : Nat → Int) : VH := fun c j => if c = o then tpF o L kd st sp v j else if c = o + 1 then T j else V c j
section TS
variable {V : VH} {o c j : Nat} {L kd st sp v x : Int} {T : Nat → Int}
theorem t_r0 : tS V o L kd st sp v T o 0 = ((o + 1 : Nat) : Int) := by simp [tS, tpF]
theorem t_r1 : tS V o L kd st sp v T o 1 = L := by simp [tS, tpF]
theorem t_r2 : tS V o L kd st sp v T o 2 = kd := by simp [tS, tpF]
theorem t_r3 : tS V o L kd st sp v T o 3 = st := by simp [tS, tpF]
theorem t_r4 : tS V o L kd st sp v T o 4 = sp := by simp [tS, tpF]
theorem t_r5 : tS V o L kd st sp v T o 5 = v := by simp [tS, tpF]
theorem t_a : tS V o L kd st sp v T (o + 1) j = T j := by simp [tS]
theorem t_o (h : c < o ∨ o + 2 ≤ c) : tS V o L kd st sp v T c j = V c j := by
  unfold tS
  rw [if_neg (by omega), if_neg (by omega)]
theorem t_w1 : up (tS V o L kd st sp v T) o 1 x = tS V o x kd st sp v T := by
  funext c j
  unfold up tS tpF
  by_cases h : c = o <;> by_cases h1 : j = 1 <;> simp [h, h1]
theorem t_w2 : up (tS V o L kd st sp v T) o 2 x = tS V o L x st sp v T := by
  funext c j
  unfold up tS tpF
  by_cases h : c = o <;> by_cases h1 : j = 2 <;> simp [h, h1]
theorem t_w3 : up (tS V o L kd st sp v T) o 3 x = tS V o L kd x sp v T := by
  funext c j
  unfold up tS tpF
  by_cases h : c = o <;> by_cases h1 : j = 3 <;> simp [h, h1]
theorem t_w4 : up (tS V o L kd st sp v T) o 4 x = tS V o L kd st x v T := by
  funext c j
  unfold up tS tpF
  by_cases h : c = o <;> by_cases h1 : j = 4 <;> simp [h, h1]
theorem t_w5 : up (tS V o L kd st sp v T) o 5 x = tS V o L kd st sp x T := by
  funext c j
  unfold up tS tpF
  by_cases h : c = o <;> by_cases h1 : j = 5 <;> simp [h, h1]
theorem t_wa : up (tS V o L kd st sp v T) (o + 1) j x = tS V o L kd st sp v (u1 T j x) := by
  funext c k
  unfold up tS u1
  by_cases h : c = o + 1 <;> by_cases h1 : k = j <;> simp [h, h1]
theorem t_id (h0 : ∀ j, V o j = tpF o L kd st sp v j) (h1 : ∀ j, V (o + 1) j = T j) : tS V o L kd st sp v T = V := by
  funext c j
  unfold tS
  by_cases h : c = o
  · rw [if_pos h, h, h0]
  · rw [if_neg h]
    by_cases h2 : c = o + 1
    · rw [if_pos h2, h2, h1]
    · rw [if_neg h2]
end TS
def TK (Γ : GM) (o : Nat) : Prop := Γ.1 o = 7 ∧ Γ.1 (o + 1) = 11 ∧ (Γ.2.1 (o + 1) : Int) = 640
/-- a byte as the class has it -/
def sg (x : Int) : Int := if 128 ≤ x then x - 256 else x
/-- the class's tape holds the reference's -/
def TB (L : Nat) (T' T : Nat → Int) : Prop := ∀ j, j < L → (0 ≤ T j ∧ T j ≤ 255) ∧ T' j = sg (T j)
theorem sg_B {x : Int} (h : 0 ≤ x ∧ x ≤ 255) : isB (sg x) ↔ isB x := by
  unfold sg isB
  split <;> omega
theorem sg_L {x : Int} (h : 0 ≤ x ∧ x ≤ 255) : isLt (sg x) ↔ isLt x := by
  unfold sg isLt
  split <;> omega
theorem sg_D {x : Int} (h : 0 ≤ x ∧ x ≤ 255) : isDg (sg x) ↔ isDg x := by
  unfold sg isDg
  split <;> omega
theorem sg_S {x : Int} (h : 0 ≤ x ∧ x ≤ 255) : sg x = 59 ↔ x = 59 := by
  unfold sg
  split <;> omega
theorem sg_id {x : Int} (h : x < 128) : sg x = x := if_neg (by omega)
/-- how many digits -/
def dgs (T : Nat → Int) (s : Nat) : Nat → Nat
  | 0 => 0
  | i + 1 => dgs T s i + if isDg (T (s + i)) then 1 else 0
theorem dgs_le {T : Nat → Int} {s : Nat} : ∀ i, dgs T s i ≤ i
  | 0 => Nat.le_refl _
  | i + 1 => by
    have := dgs_le (T := T) (s := s) i
    unfold dgs
    split <;> omega
theorem dgs_all {T : Nat → Int} {s : Nat} : ∀ i, dgs T s i = i ↔ alD T s i = true
  | 0 => by simp [dgs, alD]
  | i + 1 => by
    have ih := dgs_all (T := T) (s := s) i
    have := dgs_le (T := T) (s := s) i
    unfold dgs alD
    by_cases h : isDg (T (s + i))
    · rw [if_pos h, Bool.and_eq_true, ← ih]
      simp [h]
    · rw [if_neg h, Bool.and_eq_true]
      simp only [h, decide_false, Bool.false_eq_true, and_false, iff_false]
      omega
theorem dgs_non {T : Nat → Int} {s : Nat} : ∀ i, (∀ j, j < i → isLt (T (s + j)) ∨ isDg (T (s + j))) → (dgs T s i = 0 ↔ alL T s i = true)
  | 0, _ => by simp [dgs, alL]
  | i + 1, hj => by
    have ih := dgs_non (T := T) (s := s) i (fun j h => hj j (by omega))
    have h1 := hj i (by omega)
    unfold dgs alL
    by_cases h : isDg (T (s + i))
    · rw [if_pos h, Bool.and_eq_true]
      have : ¬ isLt (T (s + i)) := by
        unfold isLt isDg at *
        omega
      simp only [this, decide_false, Bool.false_eq_true, and_false, iff_false]
      omega
    · rw [if_neg h, Bool.and_eq_true, ← ih]
      have : isLt (T (s + i)) := h1.elim id (fun h' => absurd h' h)
      simp [this]
/-- the class's number -/
noncomputable def vlu (T : Nat → Int) (s : Nat) : Nat → Int
  | 0 => 0
  | i + 1 => if isDg (T (s + i)) then wr (wr (wr (vlu T s i * 10) + T (s + i)) - 48) else vlu T s i
theorem vlu_nmb {T : Nat → Int} {s : Nat} : ∀ i, i ≤ 2 → alD T s i = true → vlu T s i = nmb T s i
  | 0, _, _ => rfl
  | i + 1, hi, h => by
    have h' : alD T s i = true ∧ isDg (T (s + i)) := by
      unfold alD at h
      rw [Bool.and_eq_true] at h
      exact ⟨h.1, of_decide_eq_true h.2⟩
    have ih := vlu_nmb i (by omega) h'.1
    unfold vlu nmb
    rw [if_pos h'.2, if_pos (by omega), ih, Int.mul_comm]
/-- kinds of tokens as the class has them -/
def ckd (k : Nat) : Int := if k = 0 then 3 else if k = 1 then 4 else if k = 2 then 0 else if k = 3 then 1 else 2
def TKc (T : Nat → Int) (L p : Nat) (kd st sp v : Int) : Prop := kd = ckd (tkK T L p) ∧ st = (tkS T L p : Int) ∧ (2 ≤ tkK T L p → sp = (tkE T L p : Int)) ∧ (tkK T L p = 3 → v = tkN T L p)
theorem ileF {x y : Int} (h : ¬ x ≤ y) : (x ≤ y) = False := eq_false h
theorem bi_T [Decidable True] : bi True = 1 := if_pos trivial
theorem bi_F [Decidable False] : bi False = 0 := if_neg id
