/-! the looking calls hold -/
theorem bi_1 {p : Prop} [Decidable p] (h : p) : bi p = 1 := if_pos h
theorem bi_0 {p : Prop} [Decidable p] (h : ¬ p) : bi p = 0 := if_neg h
section TB
variable {w : WP} {d : Nat} {Γ : GM} {V : VH} {Q : QT}
theorem p_isIn (hd : 1 ≤ d) {v a b : Int} (hq : Q (some (.inl (bi (a ≤ v ∧ v ≤ b)))) Γ V) : tC w d nMod_isIn [.inl v, .inl a, .inl b] Γ V Q := by
  refine tC_enter (nL := 3) (by decide +kernel) (by decide +kernel) rfl (Nat.le_of_ble_eq_true rfl) (fun hok => ?_)
  simp only [ent]
  have k0 : ¬ (a ≤ v ∧ v ≤ b) → tG w d nMod_isIn 14 [some (Sum.inl v), some (Sum.inl a), some (Sum.inl b)] [] Γ V 0 0 Q := by
    intro h
    refine rn_ok hd _ _ (fun k hk => absurd hk (by simp [npu, bMod_isIn_14])) kMod_isIn_14 _ _ _ _ _ _ ?_
    simp only [bMod_isIn_14, rn, sm, lg, lt_, cmpP, tk, pr_, pu, swl, cs, Nat.reduceAdd, Nat.reduceLeDiff, Nat.zero_le, Nat.le_refl, true_and, and_true, Int.toNat_natCast, Int.reduceToNat, Int.reduceEq, false_implies, true_implies, Int.reduceNeg, Int.cast_ofNat_Int]
    refine rn_ok hd _ _ (fun k hk => absurd hk (by simp [npu, bMod_isIn_15])) kMod_isIn_15 _ _ _ _ _ _ ?_
    simp only [bMod_isIn_15, rn, sm, lg, lt_, cmpP, tk, pr_, pu, swl, cs, Nat.reduceAdd, Nat.reduceLeDiff, Nat.zero_le, Nat.le_refl, true_and, and_true, Int.toNat_natCast, Int.reduceToNat, Int.reduceEq, false_implies, true_implies, Int.reduceNeg, Int.cast_ofNat_Int]
    rw [bi_0 h] at hq
    exact ⟨Or.inl trivial, hq⟩
  refine rn_ok hd _ _ (fun k hk => absurd hk (by simp [npu, bMod_isIn_0])) kMod_isIn_0 _ _ _ _ _ _ ?_
  simp only [bMod_isIn_0, rn, sm, lg, lt_, cmpP, tk, pr_, pu, swl, cs, Nat.reduceAdd, Nat.reduceLeDiff, Nat.zero_le, Nat.le_refl, true_and, and_true, Int.toNat_natCast, Int.reduceToNat, Int.reduceEq, false_implies, true_implies, Int.reduceNeg, Int.cast_ofNat_Int]
  refine ⟨fun h => k0 (by omega), fun h => ?_⟩
  refine rn_ok hd _ _ (fun k hk => absurd hk (by simp [npu, bMod_isIn_5])) kMod_isIn_5 _ _ _ _ _ _ ?_
  simp only [bMod_isIn_5, rn, sm, lg, lt_, cmpP, tk, pr_, pu, swl, cs, Nat.reduceAdd, Nat.reduceLeDiff, Nat.zero_le, Nat.le_refl, true_and, and_true, Int.toNat_natCast, Int.reduceToNat, Int.reduceEq, false_implies, true_implies, Int.reduceNeg, Int.cast_ofNat_Int]
  refine ⟨fun h => k0 (by omega), fun h2 => ?_⟩
  refine rn_ok hd _ _ (fun k hk => absurd hk (by simp [npu, bMod_isIn_10])) kMod_isIn_10 _ _ _ _ _ _ ?_
  simp only [bMod_isIn_10, rn, sm, lg, lt_, cmpP, tk, pr_, pu, swl, cs, Nat.reduceAdd, Nat.reduceLeDiff, Nat.zero_le, Nat.le_refl, true_and, and_true, Int.toNat_natCast, Int.reduceToNat, Int.reduceEq, false_implies, true_implies, Int.reduceNeg, Int.cast_ofNat_Int]
  refine rn_ok hd _ _ (fun k hk => absurd hk (by simp [npu, bMod_isIn_15])) kMod_isIn_15 _ _ _ _ _ _ ?_
  simp only [bMod_isIn_15, rn, sm, lg, lt_, cmpP, tk, pr_, pu, swl, cs, Nat.reduceAdd, Nat.reduceLeDiff, Nat.zero_le, Nat.le_refl, true_and, and_true, Int.toNat_natCast, Int.reduceToNat, Int.reduceEq, false_implies, true_implies, Int.reduceNeg, Int.cast_ofNat_Int]
  rw [bi_1 ⟨by omega, by omega⟩] at hq
  exact ⟨Or.inr trivial, hq⟩
theorem p_isDigit (hd : 1 ≤ d) {c : Int} (hq : Q (some (.inl (bi (48 ≤ c ∧ c ≤ 57)))) Γ V) : tC w d nMod_isDigit [.inl c] Γ V Q := by
  refine tC_enter (nL := 1) (by decide +kernel) (by decide +kernel) rfl (Nat.le_of_ble_eq_true rfl) (fun hok => ?_)
  simp only [ent]
  have k0 : ¬ (48 ≤ c ∧ c ≤ 57) → tG w d nMod_isDigit 16 [some (Sum.inl c)] [] Γ V 0 0 Q := by
    intro h
    refine rn_ok hd _ _ (fun k hk => absurd hk (by simp [npu, bMod_isDigit_16])) kMod_isDigit_16 _ _ _ _ _ _ ?_
    simp only [bMod_isDigit_16, rn, sm, lg, lt_, cmpP, tk, pr_, pu, swl, cs, Nat.reduceAdd, Nat.reduceLeDiff, Nat.zero_le, Nat.le_refl, true_and, and_true, Int.toNat_natCast, Int.reduceToNat, Int.reduceEq, false_implies, true_implies, Int.reduceNeg, Int.cast_ofNat_Int]
    refine rn_ok hd _ _ (fun k hk => absurd hk (by simp [npu, bMod_isDigit_17])) kMod_isDigit_17 _ _ _ _ _ _ ?_
    simp only [bMod_isDigit_17, rn, sm, lg, lt_, cmpP, tk, pr_, pu, swl, cs, Nat.reduceAdd, Nat.reduceLeDiff, Nat.zero_le, Nat.le_refl, true_and, and_true, Int.toNat_natCast, Int.reduceToNat, Int.reduceEq, false_implies, true_implies, Int.reduceNeg, Int.cast_ofNat_Int]
    rw [bi_0 h] at hq
    exact ⟨Or.inl trivial, hq⟩
  refine rn_ok hd _ _ (fun k hk => absurd hk (by simp [npu, bMod_isDigit_0])) kMod_isDigit_0 _ _ _ _ _ _ ?_
  simp only [bMod_isDigit_0, rn, sm, lg, lt_, cmpP, tk, pr_, pu, swl, cs, Nat.reduceAdd, Nat.reduceLeDiff, Nat.zero_le, Nat.le_refl, true_and, and_true, Int.toNat_natCast, Int.reduceToNat, Int.reduceEq, false_implies, true_implies, Int.reduceNeg, Int.cast_ofNat_Int]
  refine ⟨fun h => k0 (by omega), fun h => ?_⟩
  refine rn_ok hd _ _ (fun k hk => absurd hk (by simp [npu, bMod_isDigit_6])) kMod_isDigit_6 _ _ _ _ _ _ ?_
  simp only [bMod_isDigit_6, rn, sm, lg, lt_, cmpP, tk, pr_, pu, swl, cs, Nat.reduceAdd, Nat.reduceLeDiff, Nat.zero_le, Nat.le_refl, true_and, and_true, Int.toNat_natCast, Int.reduceToNat, Int.reduceEq, false_implies, true_implies, Int.reduceNeg, Int.cast_ofNat_Int]
  refine ⟨fun h => k0 (by omega), fun h2 => ?_⟩
  refine rn_ok hd _ _ (fun k hk => absurd hk (by simp [npu, bMod_isDigit_12])) kMod_isDigit_12 _ _ _ _ _ _ ?_
  simp only [bMod_isDigit_12, rn, sm, lg, lt_, cmpP, tk, pr_, pu, swl, cs, Nat.reduceAdd, Nat.reduceLeDiff, Nat.zero_le, Nat.le_refl, true_and, and_true, Int.toNat_natCast, Int.reduceToNat, Int.reduceEq, false_implies, true_implies, Int.reduceNeg, Int.cast_ofNat_Int]
  refine rn_ok hd _ _ (fun k hk => absurd hk (by simp [npu, bMod_isDigit_17])) kMod_isDigit_17 _ _ _ _ _ _ ?_
  simp only [bMod_isDigit_17, rn, sm, lg, lt_, cmpP, tk, pr_, pu, swl, cs, Nat.reduceAdd, Nat.reduceLeDiff, Nat.zero_le, Nat.le_refl, true_and, and_true, Int.toNat_natCast, Int.reduceToNat, Int.reduceEq, false_implies, true_implies, Int.reduceNeg, Int.cast_ofNat_Int]
  rw [bi_1 ⟨by omega, by omega⟩] at hq
  exact ⟨Or.inr trivial, hq⟩
theorem p_isLetter (hd : 1 ≤ d) {c : Int} (hq : Q (some (.inl (bi (97 ≤ c ∧ c ≤ 122)))) Γ V) : tC w d nMod_isLetter [.inl c] Γ V Q := by
  refine tC_enter (nL := 1) (by decide +kernel) (by decide +kernel) rfl (Nat.le_of_ble_eq_true rfl) (fun hok => ?_)
  simp only [ent]
  have k0 : ¬ (97 ≤ c ∧ c ≤ 122) → tG w d nMod_isLetter 16 [some (Sum.inl c)] [] Γ V 0 0 Q := by
    intro h
    refine rn_ok hd _ _ (fun k hk => absurd hk (by simp [npu, bMod_isLetter_16])) kMod_isLetter_16 _ _ _ _ _ _ ?_
    simp only [bMod_isLetter_16, rn, sm, lg, lt_, cmpP, tk, pr_, pu, swl, cs, Nat.reduceAdd, Nat.reduceLeDiff, Nat.zero_le, Nat.le_refl, true_and, and_true, Int.toNat_natCast, Int.reduceToNat, Int.reduceEq, false_implies, true_implies, Int.reduceNeg, Int.cast_ofNat_Int]
    refine rn_ok hd _ _ (fun k hk => absurd hk (by simp [npu, bMod_isLetter_17])) kMod_isLetter_17 _ _ _ _ _ _ ?_
    simp only [bMod_isLetter_17, rn, sm, lg, lt_, cmpP, tk, pr_, pu, swl, cs, Nat.reduceAdd, Nat.reduceLeDiff, Nat.zero_le, Nat.le_refl, true_and, and_true, Int.toNat_natCast, Int.reduceToNat, Int.reduceEq, false_implies, true_implies, Int.reduceNeg, Int.cast_ofNat_Int]
    rw [bi_0 h] at hq
    exact ⟨Or.inl trivial, hq⟩
  refine rn_ok hd _ _ (fun k hk => absurd hk (by simp [npu, bMod_isLetter_0])) kMod_isLetter_0 _ _ _ _ _ _ ?_
  simp only [bMod_isLetter_0, rn, sm, lg, lt_, cmpP, tk, pr_, pu, swl, cs, Nat.reduceAdd, Nat.reduceLeDiff, Nat.zero_le, Nat.le_refl, true_and, and_true, Int.toNat_natCast, Int.reduceToNat, Int.reduceEq, false_implies, true_implies, Int.reduceNeg, Int.cast_ofNat_Int]
  refine ⟨fun h => k0 (by omega), fun h => ?_⟩
  refine rn_ok hd _ _ (fun k hk => absurd hk (by simp [npu, bMod_isLetter_6])) kMod_isLetter_6 _ _ _ _ _ _ ?_
  simp only [bMod_isLetter_6, rn, sm, lg, lt_, cmpP, tk, pr_, pu, swl, cs, Nat.reduceAdd, Nat.reduceLeDiff, Nat.zero_le, Nat.le_refl, true_and, and_true, Int.toNat_natCast, Int.reduceToNat, Int.reduceEq, false_implies, true_implies, Int.reduceNeg, Int.cast_ofNat_Int]
  refine ⟨fun h => k0 (by omega), fun h2 => ?_⟩
  refine rn_ok hd _ _ (fun k hk => absurd hk (by simp [npu, bMod_isLetter_12])) kMod_isLetter_12 _ _ _ _ _ _ ?_
  simp only [bMod_isLetter_12, rn, sm, lg, lt_, cmpP, tk, pr_, pu, swl, cs, Nat.reduceAdd, Nat.reduceLeDiff, Nat.zero_le, Nat.le_refl, true_and, and_true, Int.toNat_natCast, Int.reduceToNat, Int.reduceEq, false_implies, true_implies, Int.reduceNeg, Int.cast_ofNat_Int]
  refine rn_ok hd _ _ (fun k hk => absurd hk (by simp [npu, bMod_isLetter_17])) kMod_isLetter_17 _ _ _ _ _ _ ?_
  simp only [bMod_isLetter_17, rn, sm, lg, lt_, cmpP, tk, pr_, pu, swl, cs, Nat.reduceAdd, Nat.reduceLeDiff, Nat.zero_le, Nat.le_refl, true_and, and_true, Int.toNat_natCast, Int.reduceToNat, Int.reduceEq, false_implies, true_implies, Int.reduceNeg, Int.cast_ofNat_Int]
  rw [bi_1 ⟨by omega, by omega⟩] at hq
  exact ⟨Or.inr trivial, hq⟩
theorem p_tDigit (hd : 1 ≤ d) {c : Int} (hq : Q (some (.inl (bi (48 ≤ c ∧ c ≤ 57)))) Γ V) : tC w d nTape_isDigit [.inl c] Γ V Q := by
  refine tC_enter (nL := 1) (by decide +kernel) (by decide +kernel) rfl (Nat.le_of_ble_eq_true rfl) (fun hok => ?_)
  simp only [ent]
  have k0 : ¬ (48 ≤ c ∧ c ≤ 57) → tG w d nTape_isDigit 16 [some (Sum.inl c)] [] Γ V 0 0 Q := by
    intro h
    refine rn_ok hd _ _ (fun k hk => absurd hk (by simp [npu, bTape_isDigit_16])) kTape_isDigit_16 _ _ _ _ _ _ ?_
    simp only [bTape_isDigit_16, rn, sm, lg, lt_, cmpP, tk, pr_, pu, swl, cs, Nat.reduceAdd, Nat.reduceLeDiff, Nat.zero_le, Nat.le_refl, true_and, and_true, Int.toNat_natCast, Int.reduceToNat, Int.reduceEq, false_implies, true_implies, Int.reduceNeg, Int.cast_ofNat_Int]
    refine rn_ok hd _ _ (fun k hk => absurd hk (by simp [npu, bTape_isDigit_17])) kTape_isDigit_17 _ _ _ _ _ _ ?_
    simp only [bTape_isDigit_17, rn, sm, lg, lt_, cmpP, tk, pr_, pu, swl, cs, Nat.reduceAdd, Nat.reduceLeDiff, Nat.zero_le, Nat.le_refl, true_and, and_true, Int.toNat_natCast, Int.reduceToNat, Int.reduceEq, false_implies, true_implies, Int.reduceNeg, Int.cast_ofNat_Int]
    rw [bi_0 h] at hq
    exact ⟨Or.inl trivial, hq⟩
  refine rn_ok hd _ _ (fun k hk => absurd hk (by simp [npu, bTape_isDigit_0])) kTape_isDigit_0 _ _ _ _ _ _ ?_
  simp only [bTape_isDigit_0, rn, sm, lg, lt_, cmpP, tk, pr_, pu, swl, cs, Nat.reduceAdd, Nat.reduceLeDiff, Nat.zero_le, Nat.le_refl, true_and, and_true, Int.toNat_natCast, Int.reduceToNat, Int.reduceEq, false_implies, true_implies, Int.reduceNeg, Int.cast_ofNat_Int]
  refine ⟨fun h => k0 (by omega), fun h => ?_⟩
  refine rn_ok hd _ _ (fun k hk => absurd hk (by simp [npu, bTape_isDigit_6])) kTape_isDigit_6 _ _ _ _ _ _ ?_
  simp only [bTape_isDigit_6, rn, sm, lg, lt_, cmpP, tk, pr_, pu, swl, cs, Nat.reduceAdd, Nat.reduceLeDiff, Nat.zero_le, Nat.le_refl, true_and, and_true, Int.toNat_natCast, Int.reduceToNat, Int.reduceEq, false_implies, true_implies, Int.reduceNeg, Int.cast_ofNat_Int]
  refine ⟨fun h => k0 (by omega), fun h2 => ?_⟩
  refine rn_ok hd _ _ (fun k hk => absurd hk (by simp [npu, bTape_isDigit_12])) kTape_isDigit_12 _ _ _ _ _ _ ?_
  simp only [bTape_isDigit_12, rn, sm, lg, lt_, cmpP, tk, pr_, pu, swl, cs, Nat.reduceAdd, Nat.reduceLeDiff, Nat.zero_le, Nat.le_refl, true_and, and_true, Int.toNat_natCast, Int.reduceToNat, Int.reduceEq, false_implies, true_implies, Int.reduceNeg, Int.cast_ofNat_Int]
  refine rn_ok hd _ _ (fun k hk => absurd hk (by simp [npu, bTape_isDigit_17])) kTape_isDigit_17 _ _ _ _ _ _ ?_
  simp only [bTape_isDigit_17, rn, sm, lg, lt_, cmpP, tk, pr_, pu, swl, cs, Nat.reduceAdd, Nat.reduceLeDiff, Nat.zero_le, Nat.le_refl, true_and, and_true, Int.toNat_natCast, Int.reduceToNat, Int.reduceEq, false_implies, true_implies, Int.reduceNeg, Int.cast_ofNat_Int]
  rw [bi_1 ⟨by omega, by omega⟩] at hq
  exact ⟨Or.inr trivial, hq⟩
theorem p_tLetter (hd : 1 ≤ d) {c : Int} (hq : Q (some (.inl (bi (97 ≤ c ∧ c ≤ 122)))) Γ V) : tC w d nTape_isLetter [.inl c] Γ V Q := by
  refine tC_enter (nL := 1) (by decide +kernel) (by decide +kernel) rfl (Nat.le_of_ble_eq_true rfl) (fun hok => ?_)
  simp only [ent]
  have k0 : ¬ (97 ≤ c ∧ c ≤ 122) → tG w d nTape_isLetter 16 [some (Sum.inl c)] [] Γ V 0 0 Q := by
    intro h
    refine rn_ok hd _ _ (fun k hk => absurd hk (by simp [npu, bTape_isLetter_16])) kTape_isLetter_16 _ _ _ _ _ _ ?_
    simp only [bTape_isLetter_16, rn, sm, lg, lt_, cmpP, tk, pr_, pu, swl, cs, Nat.reduceAdd, Nat.reduceLeDiff, Nat.zero_le, Nat.le_refl, true_and, and_true, Int.toNat_natCast, Int.reduceToNat, Int.reduceEq, false_implies, true_implies, Int.reduceNeg, Int.cast_ofNat_Int]
    refine rn_ok hd _ _ (fun k hk => absurd hk (by simp [npu, bTape_isLetter_17])) kTape_isLetter_17 _ _ _ _ _ _ ?_
    simp only [bTape_isLetter_17, rn, sm, lg, lt_, cmpP, tk, pr_, pu, swl, cs, Nat.reduceAdd, Nat.reduceLeDiff, Nat.zero_le, Nat.le_refl, true_and, and_true, Int.toNat_natCast, Int.reduceToNat, Int.reduceEq, false_implies, true_implies, Int.reduceNeg, Int.cast_ofNat_Int]
    rw [bi_0 h] at hq
    exact ⟨Or.inl trivial, hq⟩
  refine rn_ok hd _ _ (fun k hk => absurd hk (by simp [npu, bTape_isLetter_0])) kTape_isLetter_0 _ _ _ _ _ _ ?_
  simp only [bTape_isLetter_0, rn, sm, lg, lt_, cmpP, tk, pr_, pu, swl, cs, Nat.reduceAdd, Nat.reduceLeDiff, Nat.zero_le, Nat.le_refl, true_and, and_true, Int.toNat_natCast, Int.reduceToNat, Int.reduceEq, false_implies, true_implies, Int.reduceNeg, Int.cast_ofNat_Int]
  refine ⟨fun h => k0 (by omega), fun h => ?_⟩
  refine rn_ok hd _ _ (fun k hk => absurd hk (by simp [npu, bTape_isLetter_6])) kTape_isLetter_6 _ _ _ _ _ _ ?_
  simp only [bTape_isLetter_6, rn, sm, lg, lt_, cmpP, tk, pr_, pu, swl, cs, Nat.reduceAdd, Nat.reduceLeDiff, Nat.zero_le, Nat.le_refl, true_and, and_true, Int.toNat_natCast, Int.reduceToNat, Int.reduceEq, false_implies, true_implies, Int.reduceNeg, Int.cast_ofNat_Int]
  refine ⟨fun h => k0 (by omega), fun h2 => ?_⟩
  refine rn_ok hd _ _ (fun k hk => absurd hk (by simp [npu, bTape_isLetter_12])) kTape_isLetter_12 _ _ _ _ _ _ ?_
  simp only [bTape_isLetter_12, rn, sm, lg, lt_, cmpP, tk, pr_, pu, swl, cs, Nat.reduceAdd, Nat.reduceLeDiff, Nat.zero_le, Nat.le_refl, true_and, and_true, Int.toNat_natCast, Int.reduceToNat, Int.reduceEq, false_implies, true_implies, Int.reduceNeg, Int.cast_ofNat_Int]
  refine rn_ok hd _ _ (fun k hk => absurd hk (by simp [npu, bTape_isLetter_17])) kTape_isLetter_17 _ _ _ _ _ _ ?_
  simp only [bTape_isLetter_17, rn, sm, lg, lt_, cmpP, tk, pr_, pu, swl, cs, Nat.reduceAdd, Nat.reduceLeDiff, Nat.zero_le, Nat.le_refl, true_and, and_true, Int.toNat_natCast, Int.reduceToNat, Int.reduceEq, false_implies, true_implies, Int.reduceNeg, Int.cast_ofNat_Int]
  rw [bi_1 ⟨by omega, by omega⟩] at hq
  exact ⟨Or.inr trivial, hq⟩
theorem p_tBlank (hd : 1 ≤ d) {c : Int} (hq : Q (some (.inl (bi (c = 32 ∨ c = 10)))) Γ V) : tC w d nTape_isBlank [.inl c] Γ V Q := by
  refine tC_enter (nL := 1) (by decide +kernel) (by decide +kernel) rfl (Nat.le_of_ble_eq_true rfl) (fun hok => ?_)
  simp only [ent]
  have k1 : (c = 32 ∨ c = 10) → tG w d nTape_isBlank 12 [some (Sum.inl c)] [] Γ V 0 0 Q := by
    intro h
    refine rn_ok hd _ _ (fun k hk => absurd hk (by simp [npu, bTape_isBlank_12])) kTape_isBlank_12 _ _ _ _ _ _ ?_
    simp only [bTape_isBlank_12, rn, sm, lg, lt_, cmpP, tk, pr_, pu, swl, cs, Nat.reduceAdd, Nat.reduceLeDiff, Nat.zero_le, Nat.le_refl, true_and, and_true, Int.toNat_natCast, Int.reduceToNat, Int.reduceEq, false_implies, true_implies, Int.reduceNeg, Int.cast_ofNat_Int]
    refine rn_ok hd _ _ (fun k hk => absurd hk (by simp [npu, bTape_isBlank_17])) kTape_isBlank_17 _ _ _ _ _ _ ?_
    simp only [bTape_isBlank_17, rn, sm, lg, lt_, cmpP, tk, pr_, pu, swl, cs, Nat.reduceAdd, Nat.reduceLeDiff, Nat.zero_le, Nat.le_refl, true_and, and_true, Int.toNat_natCast, Int.reduceToNat, Int.reduceEq, false_implies, true_implies, Int.reduceNeg, Int.cast_ofNat_Int]
    rw [bi_1 h] at hq
    exact ⟨Or.inr trivial, hq⟩
  refine rn_ok hd _ _ (fun k hk => absurd hk (by simp [npu, bTape_isBlank_0])) kTape_isBlank_0 _ _ _ _ _ _ ?_
  simp only [bTape_isBlank_0, rn, sm, lg, lt_, cmpP, tk, pr_, pu, swl, cs, Nat.reduceAdd, Nat.reduceLeDiff, Nat.zero_le, Nat.le_refl, true_and, and_true, Int.toNat_natCast, Int.reduceToNat, Int.reduceEq, false_implies, true_implies, Int.reduceNeg, Int.cast_ofNat_Int]
  refine ⟨fun h => k1 (by omega), fun h => ?_⟩
  refine rn_ok hd _ _ (fun k hk => absurd hk (by simp [npu, bTape_isBlank_6])) kTape_isBlank_6 _ _ _ _ _ _ ?_
  simp only [bTape_isBlank_6, rn, sm, lg, lt_, cmpP, tk, pr_, pu, swl, cs, Nat.reduceAdd, Nat.reduceLeDiff, Nat.zero_le, Nat.le_refl, true_and, and_true, Int.toNat_natCast, Int.reduceToNat, Int.reduceEq, false_implies, true_implies, Int.reduceNeg, Int.cast_ofNat_Int]
  refine ⟨fun h2 => ?_, fun h2 => k1 (by omega)⟩
  refine rn_ok hd _ _ (fun k hk => absurd hk (by simp [npu, bTape_isBlank_16])) kTape_isBlank_16 _ _ _ _ _ _ ?_
  simp only [bTape_isBlank_16, rn, sm, lg, lt_, cmpP, tk, pr_, pu, swl, cs, Nat.reduceAdd, Nat.reduceLeDiff, Nat.zero_le, Nat.le_refl, true_and, and_true, Int.toNat_natCast, Int.reduceToNat, Int.reduceEq, false_implies, true_implies, Int.reduceNeg, Int.cast_ofNat_Int]
  refine rn_ok hd _ _ (fun k hk => absurd hk (by simp [npu, bTape_isBlank_17])) kTape_isBlank_17 _ _ _ _ _ _ ?_
  simp only [bTape_isBlank_17, rn, sm, lg, lt_, cmpP, tk, pr_, pu, swl, cs, Nat.reduceAdd, Nat.reduceLeDiff, Nat.zero_le, Nat.le_refl, true_and, and_true, Int.toNat_natCast, Int.reduceToNat, Int.reduceEq, false_implies, true_implies, Int.reduceNeg, Int.cast_ofNat_Int]
  rw [bi_0 (by omega)] at hq
  exact ⟨Or.inl trivial, hq⟩
theorem p_nMember (hd : 1 ≤ d) {o : Nat} {m : Int} (h1 : Γ.1 o = 4) (hq : Q (some (.inl (bi (0 ≤ m ∧ m < V o 3)))) Γ V) : tC w d nNet_isMember [.inr (.inl o), .inl m] Γ V Q := by
  refine tC_enter (nL := 2) (by decide +kernel) (by decide +kernel) rfl (Nat.le_of_ble_eq_true rfl) (fun hok => ?_)
  simp only [ent]
  have k0 : ¬ (0 ≤ m ∧ m < V o 3) → tG w d nNet_isMember 16 [some (Sum.inr (Sum.inl o)), some (Sum.inl m)] [] Γ V 0 0 Q := by
    intro h
    refine rn_ok hd _ _ (fun k hk => absurd hk (by simp [npu, bNet_isMember_16])) kNet_isMember_16 _ _ _ _ _ _ ?_
    simp only [bNet_isMember_16, rn, sm, lg, lt_, cmpP, tk, pr_, pu, swl, cs, Nat.reduceAdd, Nat.reduceLeDiff, Nat.zero_le, Nat.le_refl, true_and, and_true, Int.toNat_natCast, Int.reduceToNat, Int.reduceEq, false_implies, true_implies, Int.reduceNeg, Int.cast_ofNat_Int]
    refine rn_ok hd _ _ (fun k hk => absurd hk (by simp [npu, bNet_isMember_17])) kNet_isMember_17 _ _ _ _ _ _ ?_
    simp only [bNet_isMember_17, rn, sm, lg, lt_, cmpP, tk, pr_, pu, swl, cs, Nat.reduceAdd, Nat.reduceLeDiff, Nat.zero_le, Nat.le_refl, true_and, and_true, Int.toNat_natCast, Int.reduceToNat, Int.reduceEq, false_implies, true_implies, Int.reduceNeg, Int.cast_ofNat_Int]
    rw [bi_0 h] at hq
    exact ⟨Or.inl trivial, hq⟩
  refine rn_ok hd _ _ (fun k hk => absurd hk (by simp [npu, bNet_isMember_0])) kNet_isMember_0 _ _ _ _ _ _ ?_
  simp only [bNet_isMember_0, rn, sm, lg, lt_, cmpP, tk, pr_, pu, swl, cs, Nat.reduceAdd, Nat.reduceLeDiff, Nat.zero_le, Nat.le_refl, true_and, and_true, Int.toNat_natCast, Int.reduceToNat, Int.reduceEq, false_implies, true_implies, Int.reduceNeg, Int.cast_ofNat_Int]
  refine ⟨fun h => k0 (by omega), fun h => ?_⟩
  refine rn_ok hd _ _ (fun k hk => absurd hk (by simp [npu, bNet_isMember_4])) kNet_isMember_4 _ _ _ _ _ _ ?_
  simp only [bNet_isMember_4, rn, sm, lg, lt_, cmpP, tk, pr_, pu, swl, cs, Nat.reduceAdd, Nat.reduceLeDiff, Nat.zero_le, Nat.le_refl, true_and, and_true, Int.toNat_natCast, Int.reduceToNat, Int.reduceEq, false_implies, true_implies, Int.reduceNeg, Int.cast_ofNat_Int]
  refine ⟨by omega, fun h => k0 (by omega), fun h2 => ?_⟩
  refine rn_ok hd _ _ (fun k hk => absurd hk (by simp [npu, bNet_isMember_12])) kNet_isMember_12 _ _ _ _ _ _ ?_
  simp only [bNet_isMember_12, rn, sm, lg, lt_, cmpP, tk, pr_, pu, swl, cs, Nat.reduceAdd, Nat.reduceLeDiff, Nat.zero_le, Nat.le_refl, true_and, and_true, Int.toNat_natCast, Int.reduceToNat, Int.reduceEq, false_implies, true_implies, Int.reduceNeg, Int.cast_ofNat_Int]
  refine rn_ok hd _ _ (fun k hk => absurd hk (by simp [npu, bNet_isMember_17])) kNet_isMember_17 _ _ _ _ _ _ ?_
  simp only [bNet_isMember_17, rn, sm, lg, lt_, cmpP, tk, pr_, pu, swl, cs, Nat.reduceAdd, Nat.reduceLeDiff, Nat.zero_le, Nat.le_refl, true_and, and_true, Int.toNat_natCast, Int.reduceToNat, Int.reduceEq, false_implies, true_implies, Int.reduceNeg, Int.cast_ofNat_Int]
  rw [bi_1 ⟨by omega, by omega⟩] at hq
  exact ⟨Or.inr trivial, hq⟩
theorem p_at (hd : 1 ≤ d) {m x : Int} (hq : Q (some (.inl (at_ m x))) Γ V) : tC w d nMod_at [.inl m, .inl x] Γ V Q := by
  refine tC_enter (nL := 2) (by decide +kernel) (by decide +kernel) rfl (Nat.le_of_ble_eq_true rfl) (fun hok => ?_)
  simp only [ent]
  refine rn_ok hd _ _ (fun k hk => absurd hk (by simp [npu, bMod_at_0])) kMod_at_0 _ _ _ _ _ _ ?_
  simp only [bMod_at_0, rn, sm, lg, lt_, cmpP, tk, pr_, pu, swl, cs, Nat.reduceAdd, Nat.reduceLeDiff, Nat.zero_le, Nat.le_refl, true_and, and_true, Int.toNat_natCast, Int.reduceToNat, Int.reduceEq, false_implies, true_implies, Int.reduceNeg, Int.cast_ofNat_Int]
  exact hq
theorem p_sent (hd : 1 ≤ d) {m x : Int} (hq : Q (some (.inl (sn_ m x))) Γ V) : tC w d nMod_sent [.inl m, .inl x] Γ V Q := by
  refine tC_enter (nL := 2) (by decide +kernel) (by decide +kernel) rfl (Nat.le_of_ble_eq_true rfl) (fun hok => ?_)
  simp only [ent]
  refine rn_ok hd _ _ (fun k hk => absurd hk (by simp [npu, bMod_sent_0])) kMod_sent_0 _ _ _ _ _ _ ?_
  simp only [bMod_sent_0, rn, sm, lg, lt_, cmpP, tk, pr_, pu, swl, cs, Nat.reduceAdd, Nat.reduceLeDiff, Nat.zero_le, Nat.le_refl, true_and, and_true, Int.toNat_natCast, Int.reduceToNat, Int.reduceEq, false_implies, true_implies, Int.reduceNeg, Int.cast_ofNat_Int]
  exact hq
theorem p_three (hd : 1 ≤ d) {a b c : Int} (hq : Q (some (.inr (.inr (th_ a b c)))) Γ V) : tC w d nMod_three [.inl a, .inl b, .inl c] Γ V Q := by
  refine tC_enter (nL := 3) (by decide +kernel) (by decide +kernel) rfl (Nat.le_of_ble_eq_true rfl) (fun hok => ?_)
  simp only [ent]
  refine rn_ok hd _ _ (fun k hk => absurd hk (by simp [npu, bMod_three_0])) kMod_three_0 _ _ _ _ _ _ ?_
  simp only [bMod_three_0, rn, sm, lg, lt_, cmpP, tk, pr_, pu, swl, cs, Nat.reduceAdd, Nat.reduceLeDiff, Nat.zero_le, Nat.le_refl, true_and, and_true, Int.toNat_natCast, Int.reduceToNat, Int.reduceEq, false_implies, true_implies, Int.reduceNeg, Int.cast_ofNat_Int]
  exact hq
theorem pk_3 (hd : 2 ≤ d) : PuK w d 3 := by
  intro a args Γ V h r ha hpu hh Q hq
  have ha : nMod_three = a := Option.some.inj ha
  subst ha
  unfold pu at hpu
  split at hpu <;> first | (exfalso; omega) | skip
  all_goals first | (rename_i hz; exact absurd hz (by decide)) | skip
  all_goals first | (cases hpu; exact p_three (by omega) hq) | (cases hpu)
theorem pk_6 (hd : 2 ≤ d) : PuK w d 6 := by
  intro a args Γ V h r ha hpu hh Q hq
  have ha : nMod_at = a := Option.some.inj ha
  subst ha
  unfold pu at hpu
  split at hpu <;> first | (exfalso; omega) | skip
  all_goals first | (rename_i hz; exact absurd hz (by decide)) | skip
  all_goals first | (cases hpu; exact p_at (by omega) hq) | (cases hpu)
theorem pk_0 (hd : 2 ≤ d) : PuK w d 0 := by
  intro a args Γ V h r ha hpu hh Q hq
  have ha : nMod_isIn = a := Option.some.inj ha
  subst ha
  unfold pu at hpu
  split at hpu <;> first | (exfalso; omega) | skip
  all_goals first | (rename_i hz; exact absurd hz (by decide)) | skip
  all_goals first | (cases hpu; exact p_isIn (by omega) hq) | (cases hpu)
theorem p_six (hd2 : 2 ≤ d) {a b c x y z : Int} (hq : Q (some (.inr (.inr (si_ a b c x y z)))) Γ V) : tC w d nMod_six [.inl a, .inl b, .inl c, .inl x, .inl y, .inl z] Γ V Q := by
  have hd : 1 ≤ d := by omega
  have hp : ∀ k ∈ npu bMod_six_0, k < 20 → PuK w d k := by
    intro k hk _
    have : k = 3 := by simpa [npu, bMod_six_0] using hk
    rw [this]
    exact pk_3 hd2
  refine tC_enter (nL := 6) (by decide +kernel) (by decide +kernel) rfl (Nat.le_of_ble_eq_true rfl) (fun hok => ?_)
  simp only [ent]
  refine rn_ok hd _ _ hp kMod_six_0 _ _ _ _ _ _ ?_
  simp only [bMod_six_0, rn, sm, lg, lt_, cmpP, tk, pr_, pu, swl, cs, Nat.reduceAdd, Nat.reduceLeDiff, Nat.zero_le, Nat.le_refl, true_and, and_true, Int.toNat_natCast, Int.reduceToNat, Int.reduceEq, false_implies, true_implies, Int.reduceNeg, Int.cast_ofNat_Int]
  exact hq
theorem p_four (hd2 : 2 ≤ d) {a b c x : Int} (hq : Q (some (.inr (.inr (fo_ a b c x)))) Γ V) : tC w d nMod_four [.inl a, .inl b, .inl c, .inl x] Γ V Q := by
  have hd : 1 ≤ d := by omega
  have hp : ∀ k ∈ npu bMod_four_0, k < 20 → PuK w d k := by
    intro k hk _
    have : k = 3 := by simpa [npu, bMod_four_0] using hk
    rw [this]
    exact pk_3 hd2
  refine tC_enter (nL := 4) (by decide +kernel) (by decide +kernel) rfl (Nat.le_of_ble_eq_true rfl) (fun hok => ?_)
  simp only [ent]
  refine rn_ok hd _ _ hp kMod_four_0 _ _ _ _ _ _ ?_
  simp only [bMod_four_0, rn, sm, lg, lt_, cmpP, tk, pr_, pu, swl, cs, Nat.reduceAdd, Nat.reduceLeDiff, Nat.zero_le, Nat.le_refl, true_and, and_true, Int.toNat_natCast, Int.reduceToNat, Int.reduceEq, false_implies, true_implies, Int.reduceNeg, Int.cast_ofNat_Int]
  exact hq
theorem p_its (hd2 : 2 ≤ d) {o : Nat} {m x : Int} (h1 : Γ.1 o = 9) (h2 : Γ.1 (V o 11).toNat = 10) (h3 : 0 ≤ at_ m x) (h4 : at_ m x < (Γ.2.1 (V o 11).toNat : Int)) (hq : Q (some (.inl (V (V o 11).toNat (at_ m x).toNat))) Γ V) : tC w d nMod_its [.inr (.inl o), .inl m, .inl x] Γ V Q := by
  have hd : 1 ≤ d := by omega
  have hp : ∀ k ∈ npu bMod_its_0, k < 20 → PuK w d k := by
    intro k hk _
    have : k = 6 := by simpa [npu, bMod_its_0] using hk
    rw [this]
    exact pk_6 hd2
  refine tC_enter (nL := 3) (by decide +kernel) (by decide +kernel) rfl (Nat.le_of_ble_eq_true rfl) (fun hok => ?_)
  simp only [ent]
  refine rn_ok hd _ _ hp kMod_its_0 _ _ _ _ _ _ ?_
  simp only [bMod_its_0, rn, sm, lg, lt_, cmpP, tk, pr_, pu, swl, cs, Nat.reduceAdd, Nat.reduceLeDiff, Nat.zero_le, Nat.le_refl, true_and, and_true, Int.toNat_natCast, Int.reduceToNat, Int.reduceEq, false_implies, true_implies, Int.reduceNeg, Int.cast_ofNat_Int]
  exact ⟨h1, Or.inl h2, h3, h4, hq⟩
theorem p_isMember (hd2 : 2 ≤ d) {o : Nat} {m : Int} (h1 : Γ.1 o = 9) (h2 : Γ.1 (V o 11).toNat = 10) (h3 : 0 < (Γ.2.1 (V o 11).toNat : Int)) (hq : Q (some (.inl (bi (0 ≤ m ∧ m ≤ wr (V (V o 11).toNat 0 - 1))))) Γ V) : tC w d nMod_isMember [.inr (.inl o), .inl m] Γ V Q := by
  have hd : 1 ≤ d := by omega
  have hp : ∀ k ∈ npu bMod_isMember_0, k < 20 → PuK w d k := by
    intro k hk _
    have : k = 0 := by simpa [npu, bMod_isMember_0] using hk
    rw [this]
    exact pk_0 hd2
  refine tC_enter (nL := 2) (by decide +kernel) (by decide +kernel) rfl (Nat.le_of_ble_eq_true rfl) (fun hok => ?_)
  simp only [ent]
  refine rn_ok hd _ _ hp kMod_isMember_0 _ _ _ _ _ _ ?_
  simp only [bMod_isMember_0, rn, sm, lg, lt_, cmpP, tk, pr_, pu, swl, cs, Nat.reduceAdd, Nat.reduceLeDiff, Nat.zero_le, Nat.le_refl, true_and, and_true, Int.toNat_natCast, Int.reduceToNat, Int.reduceEq, false_implies, true_implies, Int.reduceNeg, Int.cast_ofNat_Int]
  refine ⟨h1, Or.inl h2, by omega, h3, ?_, hq⟩
  unfold bi
  split
  · exact Or.inr rfl
  · exact Or.inl rfl
theorem pk_10 (hd : 3 ≤ d) : PuK w d 10 := by
  intro a args Γ V h r ha hpu hh Q hq
  have ha : nMod_its = a := Option.some.inj ha
  subst ha
  unfold pu at hpu
  split at hpu <;> first | (exfalso; omega) | skip
  all_goals first | (rename_i hz; exact absurd hz (by decide)) | skip
  all_goals first | (cases hpu; exact p_its (by omega) hh.1 hh.2.1 hh.2.2.1 hh.2.2.2 hq) | (cases hpu)
theorem p_has (hd2 : 3 ≤ d) {o : Nat} {m : Int} (h1 : Γ.1 o = 9) (h2 : Γ.1 (V o 11).toNat = 10) (h3 : 0 ≤ at_ m 30) (h4 : at_ m 30 < (Γ.2.1 (V o 11).toNat : Int)) (hq : Q (some (.inl (bi (0 < V (V o 11).toNat (at_ m 30).toNat)))) Γ V) : tC w d nMod_has [.inr (.inl o), .inl m] Γ V Q := by
  have hd : 1 ≤ d := by omega
  have hp : ∀ k ∈ npu bMod_has_0, k < 20 → PuK w d k := by
    intro k hk _
    have : k = 10 := by simpa [npu, bMod_has_0] using hk
    rw [this]
    exact pk_10 hd2
  refine tC_enter (nL := 2) (by decide +kernel) (by decide +kernel) rfl (Nat.le_of_ble_eq_true rfl) (fun hok => ?_)
  simp only [ent]
  refine rn_ok hd _ _ hp kMod_has_0 _ _ _ _ _ _ ?_
  simp only [bMod_has_0, rn, sm, lg, lt_, cmpP, tk, pr_, pu, swl, cs, Nat.reduceAdd, Nat.reduceLeDiff, Nat.zero_le, Nat.le_refl, true_and, and_true, Int.toNat_natCast, Int.reduceToNat, Int.reduceEq, false_implies, true_implies, Int.reduceNeg, Int.cast_ofNat_Int]
  refine ⟨by omega, ⟨h1, h2, h3, h4⟩, fun h => ?_, fun h => ?_⟩
  · refine rn_ok hd _ _ (fun k hk => absurd hk (by simp [npu, bMod_has_14])) kMod_has_14 _ _ _ _ _ _ ?_
    simp only [bMod_has_14, rn, sm, lg, lt_, cmpP, tk, pr_, pu, swl, cs, Nat.reduceAdd, Nat.reduceLeDiff, Nat.zero_le, Nat.le_refl, true_and, and_true, Int.toNat_natCast, Int.reduceToNat, Int.reduceEq, false_implies, true_implies, Int.reduceNeg, Int.cast_ofNat_Int]
    refine rn_ok hd _ _ (fun k hk => absurd hk (by simp [npu, bMod_has_15])) kMod_has_15 _ _ _ _ _ _ ?_
    simp only [bMod_has_15, rn, sm, lg, lt_, cmpP, tk, pr_, pu, swl, cs, Nat.reduceAdd, Nat.reduceLeDiff, Nat.zero_le, Nat.le_refl, true_and, and_true, Int.toNat_natCast, Int.reduceToNat, Int.reduceEq, false_implies, true_implies, Int.reduceNeg, Int.cast_ofNat_Int]
    rw [bi_0 (by omega)] at hq
    exact ⟨Or.inl trivial, hq⟩
  · refine rn_ok hd _ _ (fun k hk => absurd hk (by simp [npu, bMod_has_10])) kMod_has_10 _ _ _ _ _ _ ?_
    simp only [bMod_has_10, rn, sm, lg, lt_, cmpP, tk, pr_, pu, swl, cs, Nat.reduceAdd, Nat.reduceLeDiff, Nat.zero_le, Nat.le_refl, true_and, and_true, Int.toNat_natCast, Int.reduceToNat, Int.reduceEq, false_implies, true_implies, Int.reduceNeg, Int.cast_ofNat_Int]
    refine rn_ok hd _ _ (fun k hk => absurd hk (by simp [npu, bMod_has_15])) kMod_has_15 _ _ _ _ _ _ ?_
    simp only [bMod_has_15, rn, sm, lg, lt_, cmpP, tk, pr_, pu, swl, cs, Nat.reduceAdd, Nat.reduceLeDiff, Nat.zero_le, Nat.le_refl, true_and, and_true, Int.toNat_natCast, Int.reduceToNat, Int.reduceEq, false_implies, true_implies, Int.reduceNeg, Int.cast_ofNat_Int]
    rw [bi_1 (by omega)] at hq
    exact ⟨Or.inr trivial, hq⟩
set_option maxHeartbeats 4000000 in
/-- all of them -/
theorem pk_all (hd : 4 ≤ d) (k : Nat) (hk : k < 20) : PuK w d k := by
  intro a args Γ V h r ha hpu hh Q hq
  unfold pu at hpu
  split at hpu
  all_goals first | (cases hpu; done) | skip
  all_goals (cases hpu)
  · cases ha; exact p_isIn (by omega) hq
  · cases ha; exact p_isDigit (by omega) hq
  · cases ha; exact p_isLetter (by omega) hq
  · cases ha; exact p_three (by omega) hq
  · cases ha; exact p_six (by omega) hq
  · cases ha; exact p_four (by omega) hq
  · cases ha; exact p_at (by omega) hq
  · cases ha; exact p_sent (by omega) hq
  · cases ha; exact p_its (by omega) hh.1 hh.2.1 hh.2.2.1 hh.2.2.2 hq
  · cases ha; exact p_isMember (by omega) hh.1 hh.2.1 hh.2.2 hq
  · cases ha; exact p_has (by omega) hh.1 hh.2.1 hh.2.2.1 hh.2.2.2 hq
  · cases ha; exact p_nMember (by omega) hh hq
  · cases ha; exact p_tBlank (by omega) hq
  · cases ha; exact p_tLetter (by omega) hq
  · cases ha; exact p_tDigit (by omega) hq
  · omega
  · omega
/-- THE STEP: a row of instructions, run by the small machine -/
theorem tG_at {n pc : Nat} {blk : List EN} {ls : LT} {st : List TV} {uc us : Nat} (hd : 4 ≤ d) (hok : okb (mth n) pc blk = true)
    (h : rn (sad w) (tC w (d - 1)) (fun pc' ls st Γ V uc us => tG w d n pc' ls st Γ V uc us Q) Q pc blk ls st Γ V uc us) : tG w d n pc ls st Γ V uc us Q :=
  rn_ok (by omega) blk pc (fun k _ hk => pk_all hd k hk) hok ls st Γ V uc us h
end TB
