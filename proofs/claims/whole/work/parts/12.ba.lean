/-! bits of an int (kit/laws/BITS), bytes of the tape -/
def bt (x : Int32) (i : Nat) : Bool := x.toBitVec.getLsbD i
theorem b_ext {x y : Int32} (h : ∀ i, i < 32 → bt x i = bt y i) : x = y := Int32.toBitVec_inj.mp (BitVec.eq_of_getLsbD_eq (fun i hi => h i hi))
theorem b_and (x y : Int32) (i : Nat) : bt (x &&& y) i = (bt x i && bt y i) := by unfold bt; rw [Int32.toBitVec_and, BitVec.getLsbD_and]
theorem b_big {x : Int32} {i : Nat} (h : 32 ≤ i) : bt x i = false := BitVec.getLsbD_of_ge _ _ h
theorem b_255 (i : Nat) : bt 255 i = decide (i < 8) := by
  rcases Nat.lt_or_ge i 32 with h | h
  · exact (by decide +kernel : ∀ i, i < 32 → bt 255 i = decide (i < 8)) i h
  · rw [b_big h, decide_eq_false (by omega)]
theorem s_l : ∀ n, n < 32 → ((nI n &&& 31).toBitVec.smod 32).toNat = n := by decide +kernel
theorem s_u : ∀ n, n < 32 → (((nI n).toUInt32 &&& Int32.toUInt32 31).toBitVec % 32).toNat = n := by decide +kernel
theorem b_ushr (n : Nat) (hn : n < 32) (x : Int32) (i : Nat) : bt ((x.toUInt32 >>> ((nI n).toUInt32 &&& Int32.toUInt32 31)).toInt32) i = bt x (n + i) := by
  show (x.toUInt32 >>> ((nI n).toUInt32 &&& Int32.toUInt32 31)).toBitVec.getLsbD i = x.toUInt32.toBitVec.getLsbD (n + i)
  rw [UInt32.toBitVec_shiftRight]
  show (x.toUInt32.toBitVec >>> (((nI n).toUInt32 &&& Int32.toUInt32 31).toBitVec % 32).toNat).getLsbD i = _
  rw [s_u n hn, BitVec.getLsbD_ushiftRight]
theorem b_sshr (n : Nat) (hn : n < 32) (x : Int32) {i : Nat} (hi : i < 32) : bt (x >>> (nI n &&& 31)) i = if n + i < 32 then bt x (n + i) else bt x 31 := by
  unfold bt
  rw [Int32.toBitVec_shiftRight]
  show (x.toBitVec.sshiftRight ((nI n &&& 31).toBitVec.smod 32).toNat).getLsbD i = _
  rw [s_l n hn, BitVec.getLsbD_sshiftRight, BitVec.msb_eq_getLsbD_last]
  simp [hi]
theorem bp_b (x : Int32) : x.toInt8.toInt32 &&& 255 = x &&& 255 := by
  apply Int32.toBitVec_inj.mp
  rw [Int32.toBitVec_and, Int32.toBitVec_and, Int8.toBitVec_toInt32, Int32.toBitVec_toInt8]
  apply BitVec.eq_of_getLsbD_eq
  intro i hi
  rw [BitVec.getLsbD_and, BitVec.getLsbD_and]
  have hm : ∀ i < 32, 8 ≤ i → (255 : Int32).toBitVec.getLsbD i = false := by decide
  rcases Nat.lt_or_ge i 8 with z | z
  · rw [BitVec.getLsbD_signExtend, BitVec.getLsbD_signExtend, if_pos z, if_pos hi]
    simp only [z, hi, decide_true, Bool.true_and]
  · rw [hm i hi z]; simp
theorem by_and : ∀ k, k < 256 → bAnd ((k : Nat) - 128 : Int) 255 = if ((k : Nat) : Int) - 128 < 0 then ((k : Nat) : Int) - 128 + 256 else ((k : Nat) : Int) - 128 := by decide +kernel
theorem i2b_r (y : Int) : -128 ≤ bI2b y ∧ bI2b y ≤ 127 := by
  unfold bI2b
  rw [Int8.toInt_toInt32]
  have h1 := (Int32.ofInt y).toInt8.le_toInt
  have h2 := (Int32.ofInt y).toInt8.toInt_lt
  omega
theorem byt_sg (x : Int) (i : Nat) (hi : i < 4) : bI2b (bShr x (24 - 8 * (i : Int))) = sg (byt x i) ∧ 0 ≤ byt x i ∧ byt x i ≤ 255 := by
  obtain ⟨n, hn, e1, e2⟩ : ∃ n : Nat, n ≤ 24 ∧ 24 - 8 * (i : Int) = (n : Int) ∧ Int32.ofInt (n : Int) = nI n := ⟨24 - 8 * i, by omega, by omega, rfl⟩
  have hr := i2b_r (bShr x (24 - 8 * (i : Int)))
  have hby : byt x i = bAnd (bI2b (bShr x (24 - 8 * (i : Int)))) 255 := by
    unfold byt bAnd bI2b bUsh bShr
    rw [e1, e2]
    rw [Int32.ofInt_toInt, Int32.ofInt_toInt, Int32.ofInt_toInt]
    congr 1
    show _ &&& (255 : Int32) = _ &&& (255 : Int32)
    rw [bp_b]
    refine b_ext (fun j hj => ?_)
    rw [b_and, b_and, b_255, b_ushr n (by omega), b_sshr n (by omega) _ hj]
    by_cases h8 : j < 8
    · rw [if_pos (by omega)]
    · rw [decide_eq_false h8, Bool.and_false, Bool.and_false]
  obtain ⟨z, hz⟩ : ∃ z, z = bI2b (bShr x (24 - 8 * (i : Int))) := ⟨_, rfl⟩
  rw [← hz] at hr hby ⊢
  have := by_and (z + 128).toNat (by omega)
  rw [show (((z + 128).toNat : Nat) : Int) - 128 = z by omega] at this
  rw [hby, this]
  unfold sg
  by_cases h0 : z < 0
  · rw [if_pos h0, if_pos (by omega)]
    omega
  · rw [if_neg h0, if_neg (by omega)]
    omega
theorem nat_a {a b : Nat} : (a : Int) + (b : Int) = ((a + b : Nat) : Int) := by omega
