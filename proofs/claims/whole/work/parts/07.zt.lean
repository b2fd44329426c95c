/-! the net's acts as functions on its three tables; what holds of a net -/
def shC (C : Nat → Nat → Int) (k n : Nat) : Nat → Nat → Int := fun j => if k ≤ j ∧ j + 1 < n then C (j + 1) else C j
abbrev RT : Type := Int × NT × Int × Int
/-- a pass that comes in a message's row, as a member's row has it -/
def pb (r : Nat → Int) : Nat → Int := fun j => r (j - 25)
def pasR (b r : Nat → Int) : Nat → Int := fun j => if 30 ≤ j ∧ j < 50 then r (j - 25) else b j
def handF (n m : Nat) (X : NT) (h c : Int) : RT :=
  if hnd2 m n (X.2.1 m) 31 = 0 then ((m : Int), (X.1, uR X.2.1 m (hnd2 m n (X.2.1 m)), X.2.2), h, c)
  else (hnd2 m n (X.2.1 m) (38 + hndk (hnd2 m n (X.2.1 m))), (u1 X.1 5 (X.1 5 + 1), uR X.2.1 m (zrow (hnd5 (hnd2 m n (X.2.1 m))) 30 50), uR X.2.2 (X.1 5).toNat (mrow (m : Int) (hnd2 m n (X.2.1 m) (38 + hndk (hnd2 m n (X.2.1 m)))) 1 (hnd5 (hnd2 m n (X.2.1 m)) 30) (hnd5 (hnd2 m n (X.2.1 m)) 31) (fun i => hnd5 (hnd2 m n (X.2.1 m)) (30 + i)))), 1, c)
def askR (a : Nat) (r b : Nat → Int) : Nat → Int := if b (6 + a) < r 3 then u1 (u1 b (6 + a) (r 3)) (12 + a) (r 4) else u1 b (12 + a) (r 4)
def askedF (n m a : Nat) (r : Nat → Int) (X : NT) (h c : Int) : RT :=
  if 0 < askR a r (X.2.1 m) 30 ∧ askR a r (X.2.1 m) 3 = 0 then handF n m (X.1, uR X.2.1 m (askR a r (X.2.1 m)), X.2.2) h c
  else (0, (X.1, uR X.2.1 m (askR a r (X.2.1 m)), X.2.2), h, c)
/-- the row of one to whom a pass has come, but for the end -/
def pasS (m : Nat) (r b : Nat → Int) : Nat → Int := rowR (if drpR (u1 (pasR b r) 1 (r 5)) (32 + m) < drpR (u1 (pasR b r) 1 (r 5)) 0 then u1 (drpR (u1 (pasR b r) 1 (r 5))) (32 + m) (drpR (u1 (pasR b r) 1 (r 5)) 0) else drpR (u1 (pasR b r) 1 (r 5)))
def comR (b : Nat → Int) : Nat → Int := u1 (u1 b 2 0) 3 1
def dieA (A b : Nat → Int) : Nat → Int := if 0 < b 30 then u1 A 1 (A 1 + 1) else A
def passedF (n m : Nat) (r : Nat → Int) (X : NT) (h c : Int) : RT :=
  if r 5 < X.2.1 m 1 then (0, (u1 X.1 1 (X.1 1 + 1), X.2.1, X.2.2), h, c)
  else if pasS m r (X.2.1 m) 2 = 1 then (0, (dieA X.1 (X.2.1 m), uR X.2.1 m (comR (pasS m r (X.2.1 m))), X.2.2), h, (m : Int))
  else if pasS m r (X.2.1 m) 3 = 0 then handF n m (dieA X.1 (X.2.1 m), uR X.2.1 m (pasS m r (X.2.1 m)), X.2.2) h c
  else (0, (dieA X.1 (X.2.1 m), uR X.2.1 m (pasS m r (X.2.1 m)), X.2.2), h, c)
def sndF (X : NT) (a b c x y : Int) : NT := (u1 X.1 5 (X.1 5 + 1), X.2.1, uR X.2.2 (X.1 5).toNat (mrow a b c x y (fun _ => 0)))
def dou1 (e : Int) (b : Nat → Int) : Nat → Int := if b 30 < e then u1 b 30 e else b
def dou2 (e : Int) (b : Nat → Int) : Nat → Int := if dou1 e b 1 < e then u1 (dou1 e b) 1 e else dou1 e b
def losD (b : Nat → Int) : Nat → Int := if 0 < b 30 then zrow b 30 50 else b
def doubtedF (m a : Nat) (e : Int) (X : NT) (h c : Int) : RT :=
  if 0 < X.2.1 m 30 ∧ e - 1 ≤ X.2.1 m 30 then (0, sndF (X.1, uR X.2.1 m (dou2 e (X.2.1 m)), X.2.2) (m : Int) (a : Int) 3 e 0, h, c)
  else if X.2.1 m 1 < e then (0, sndF (dieA X.1 (X.2.1 m), uR X.2.1 m (drpR (losD (u1 (X.2.1 m) 1 e))), X.2.2) (m : Int) (a : Int) 4 e (X.2.1 m 0), h, c)
  else (0, X, h, c)
def votR (a : Nat) (v : Int) (b : Nat → Int) : Nat → Int := u1 (u1 b 5 (bOr (b 5) (bShl 1 (a : Int)))) (24 + a) v
noncomputable def allV (n m : Nat) : Int := wr (wr (bShl 1 (n : Int) - 1) - bShl 1 (m : Int))
def madR (m : Nat) (e : Int) (b : Nat → Int) : Nat → Int := fun j => if 32 ≤ j ∧ j < 38 then (if j = 32 + m then b 0 else b (j - 8)) else u1 (zrow b 30 50) 30 e j
noncomputable def votedF (n m a : Nat) (e v : Int) (X : NT) (h c : Int) : RT :=
  if X.2.1 m 4 ≠ e ∨ X.2.1 m 1 ≠ e then (0, X, h, c)
  else if votR a v (X.2.1 m) 5 ≠ allV n m then (0, (X.1, uR X.2.1 m (votR a v (X.2.1 m)), X.2.2), h, c)
  else (0, (u1 X.1 2 (X.1 2 + 1), uR X.2.1 m (comR (rowR (drpR (madR m e (votR a v (X.2.1 m)))))), X.2.2), h, (m : Int))
def tkF (k : Nat) (X : NT) : NT := (u1 X.1 5 (X.1 5 - 1), X.2.1, shC X.2.2 k (X.1 5).toNat)
noncomputable def delF1 (n : Nat) (r : Nat → Int) (X : NT) : RT :=
  if r 2 = 0 then askedF n (r 1).toNat (r 0).toNat r X 0 (-1)
  else if r 2 = 1 then passedF n (r 1).toNat r X 0 (-1)
  else if r 2 = 2 then doubtedF (r 1).toNat (r 0).toNat (r 3) X 0 (-1)
  else if r 2 = 3 then (0, (if X.2.1 (r 1).toNat 4 = r 3 then (X.1, uR X.2.1 (r 1).toNat (drpR (X.2.1 (r 1).toNat)), X.2.2) else X), 0, -1)
  else votedF n (r 1).toNat (r 0).toNat (r 3) (r 4) X 0 (-1)
/-- a delivery: what it was, the net, handed, came -/
noncomputable def delF (n k : Nat) (X : NT) : RT := (X.2.2 k 2, (delF1 n (X.2.2 k) (tkF k X)).2)
/-- of a member's row -/
def rowI (n W : Nat) (b : Nat → Int) : Prop :=
  (0 ≤ b 0 ∧ b 0 ≤ W) ∧ (1 ≤ b 1 ∧ b 1 ≤ W) ∧ (b 2 = 0 ∨ b 2 = 1) ∧ (b 3 = 0 ∨ b 3 = 1) ∧ (0 ≤ b 4 ∧ b 4 ≤ W) ∧ (∀ j, j < 6 → 0 ≤ b (6 + j) ∧ b (6 + j) ≤ W) ∧ (∀ j, j < 6 → 0 ≤ b (12 + j) ∧ b (12 + j) ≤ 9) ∧ (0 ≤ b 30 ∧ b 30 ≤ W) ∧ (∀ j, j < 6 → 0 ≤ b (32 + j) ∧ b (32 + j) ≤ W) ∧ (∃ L, QI n W b L)
def msgI (n W : Nat) (r : Nat → Int) : Prop :=
  (∃ a b : Nat, a < n ∧ b < n ∧ a ≠ b ∧ r 0 = (a : Int) ∧ r 1 = (b : Int)) ∧ (0 ≤ r 2 ∧ r 2 ≤ 4) ∧ (0 ≤ r 3 ∧ r 3 ≤ W) ∧ (0 ≤ r 4 ∧ r 4 ≤ W) ∧ (r 2 = 0 → r 4 ≤ 9) ∧ (r 2 = 1 → (1 ≤ r 5 ∧ r 5 ≤ W) ∧ r 3 = r 5 ∧ r 4 = r 6 ∧ (∀ j, j < 6 → 0 ≤ r (7 + j) ∧ r (7 + j) ≤ W) ∧ ∃ L, QI n W (pb r) L)
/-- of a net: n members, k messages, numbers up to W -/
def NI (n k W : Nat) (X : NT) : Prop :=
  (2 ≤ n ∧ n ≤ 6) ∧ X.1 0 = (n : Int) ∧ X.1 5 = (k : Int) ∧ k ≤ 46 ∧ (∀ j, 1 ≤ j → j ≤ 4 → 0 ≤ X.1 j ∧ X.1 j ≤ W) ∧ (∀ i, i < n → rowI n W (X.2.1 i)) ∧ (∀ j, j < k → msgI n W (X.2.2 j)) ∧ (6 ≤ W ∧ W ≤ 1000000000)
