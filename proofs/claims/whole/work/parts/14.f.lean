/-! THE LAW: its loop and its start -/
theorem st_ {a b c c' k i : Nat} (h1 : c ≤ a + k * i) (h2 : c' ≤ c + k) (hb : b = i + 1) : c' ≤ a + k * b := by
  rw [hb, Nat.mul_add, Nat.mul_one]
  omega
section LW
variable {w : WP} {Q : QT} {bb Ls x M : Nat}
theorem lw_loop (hLs : Ls ≤ 3072) (hq : ∀ Γ V, Q (some (.inl 1)) Γ V) : ∀ (m i : Nat) (Γ : GM) (V : VH) (uc us : Nat), i + m = 512 → JI w Γ V bb Ls x M (150000 + 1400 * i) → uc ≤ 602 + 292 * i → us ≤ 32054 + 1786 * i → tG w 13 nLaw_law 23 (lsL bb x M i) [] Γ V uc us Q
  | 0, i, Γ, V, uc, us, hm, J, h1, h2 => by
    have hd : 4 ≤ 13 := by omega
    obtain ⟨L, T, fk, n, k, X, c, Y, hC, hMI, ⟨b16, bL0⟩, ⟨g12, l12⟩, hbx, hxM⟩ := id J
    have bL : (Γ.2.1 bb : Int) = (Ls : Int) := by rw [bL0]
    have g8 := hC.k8
    have g9 := True.intro
    refine tG_at hd kLaw_law_23 ?_
    simp (disch := omega) only [bLaw_law_23, rn, sm, lg, lt_, cmpP, tk, pr_, pu, swl, cs, Nat.reduceAdd, Nat.reduceLeDiff, Nat.zero_le, Nat.le_refl, true_and, and_true, Int.toNat_natCast, Int.reduceToNat, Int.reduceEq, false_implies, true_implies, Int.reduceNeg, Int.cast_ofNat_Int, g8, g9, b16, bL, reduceIte, Nat.reduceEqDiff, true_or, or_true, Int.reduceLE, Int.reduceLT, Int.reduceAdd, Int.reduceSub, Int.reduceMul, not_true_eq_false, not_false_eq_true, implies_true, nat_s, wr_id, uR_at, uR_uR, u1_at, u1_ne, uf_at, uf_ne, iltT, iltF, ileT, ieqT, ieqF]
    refine tG_at hd kLaw_law_764 ?_
    simp (disch := omega) only [bLaw_law_764, rn, sm, lg, lt_, cmpP, tk, pr_, pu, swl, cs, Nat.reduceAdd, Nat.reduceLeDiff, Nat.zero_le, Nat.le_refl, true_and, and_true, Int.toNat_natCast, Int.reduceToNat, Int.reduceEq, false_implies, true_implies, Int.reduceNeg, Int.cast_ofNat_Int, g8, g9, b16, bL, reduceIte, Nat.reduceEqDiff, true_or, or_true, Int.reduceLE, Int.reduceLT, Int.reduceAdd, Int.reduceSub, Int.reduceMul, not_true_eq_false, not_false_eq_true, implies_true, nat_s, wr_id, uR_at, uR_uR, u1_at, u1_ne, uf_at, uf_ne, iltT, iltF, ileT, ieqT, ieqF]
    exact hq _ _
  | m + 1, i, Γ, V, uc, us, hm, J, h1, h2 => by
    have hd : 4 ≤ 13 := by omega
    obtain ⟨L, T, fk, n, k, X, c, Y, hC, hMI, ⟨b16, bL0⟩, ⟨g12, l12⟩, hbx, hxM⟩ := id J
    have bL : (Γ.2.1 bb : Int) = (Ls : Int) := by rw [bL0]
    have g8 := hC.k8
    have g9 := True.intro
    refine tG_at hd kLaw_law_23 ?_
    simp (disch := omega) only [bLaw_law_23, rn, sm, lg, lt_, cmpP, tk, pr_, pu, swl, cs, Nat.reduceAdd, Nat.reduceLeDiff, Nat.zero_le, Nat.le_refl, true_and, and_true, Int.toNat_natCast, Int.reduceToNat, Int.reduceEq, false_implies, true_implies, Int.reduceNeg, Int.cast_ofNat_Int, g8, g9, b16, bL, reduceIte, Nat.reduceEqDiff, true_or, or_true, Int.reduceLE, Int.reduceLT, Int.reduceAdd, Int.reduceSub, Int.reduceMul, not_true_eq_false, not_false_eq_true, implies_true, nat_s, wr_id, uR_at, uR_uR, u1_at, u1_ne, uf_at, uf_ne, iltT, iltF, ileT, ieqT, ieqF]
    refine ⟨fun _ => ?_, fun h => ?_⟩
    · refine tG_at hd kLaw_law_764 ?_
      simp (disch := omega) only [bLaw_law_764, rn, sm, lg, lt_, cmpP, tk, pr_, pu, swl, cs, Nat.reduceAdd, Nat.reduceLeDiff, Nat.zero_le, Nat.le_refl, true_and, and_true, Int.toNat_natCast, Int.reduceToNat, Int.reduceEq, false_implies, true_implies, Int.reduceNeg, Int.cast_ofNat_Int, g8, g9, b16, bL, reduceIte, Nat.reduceEqDiff, true_or, or_true, Int.reduceLE, Int.reduceLT, Int.reduceAdd, Int.reduceSub, Int.reduceMul, not_true_eq_false, not_false_eq_true, implies_true, nat_s, wr_id, uR_at, uR_uR, u1_at, u1_ne, uf_at, uf_ne, iltT, iltF, ileT, ieqT, ieqF]
      exact hq _ _
    have hi : 6 * i + 6 ≤ Ls := by omega
    have kn : KN_ w Q bb Ls x M (150000 + 1400 * i + 1400) i uc us := fun Γ' V' uc' us' J' a1 a2 => by
      have b16 := True.intro
      have bL := True.intro
      have g8 := True.intro
      refine tG_at hd kLaw_law_758 ?_
      simp (disch := omega) only [bLaw_law_758, rn, sm, lg, lt_, cmpP, tk, pr_, pu, swl, cs, Nat.reduceAdd, Nat.reduceLeDiff, Nat.zero_le, Nat.le_refl, true_and, and_true, Int.toNat_natCast, Int.reduceToNat, Int.reduceEq, false_implies, true_implies, Int.reduceNeg, Int.cast_ofNat_Int, g8, g9, b16, bL, reduceIte, Nat.reduceEqDiff, true_or, or_true, Int.reduceLE, Int.reduceLT, Int.reduceAdd, Int.reduceSub, Int.reduceMul, not_true_eq_false, not_false_eq_true, implies_true, nat_s, wr_id, uR_at, uR_uR, u1_at, u1_ne, uf_at, uf_ne, iltT, iltF, ileT, ieqT, ieqF]
      have := lw_loop hLs hq m (i + 1) Γ' V' uc' us' (by omega) (by rw [Nat.mul_add, Nat.mul_one, ← Nat.add_assoc]; exact J') (st_ h1 a1 rfl) (st_ h2 a2 rfl)
      have e6 : lsL bb x M (i + 1) = [some (.inr (.inl bb)), some (.inr (.inl x)), some (.inr (.inl M)), some (.inr (.inl (M + 6))), some (.inl (((6 * i : Nat) : Int) + 6)), none, none] := by
        rw [lsL, show ((6 * (i + 1) : Nat) : Int) = ((6 * i : Nat) : Int) + 6 from by rw [Nat.mul_add, Nat.mul_one, Int.natCast_add]; rfl]
      rw [e6] at this
      exact this
    have w1 : 150000 + 1400 * i + 1400 ≤ 150000 + 1400 * i + 1400 := Nat.le_refl _
    have w2 : 150000 + 1400 * i + 1400 + 2800 ≤ 1000000000 := by omega
    have w3 : 150000 ≤ 150000 + 1400 * i + 1400 := by omega
    have w4 : uc + 292 ≤ 674013 := by omega
    have w5 : us + 1786 ≤ 7074066 := by omega
    refine tG_at hd kLaw_law_33 ?_
    simp (disch := omega) only [bLaw_law_33, rn, sm, lg, lt_, cmpP, tk, pr_, pu, swl, cs, Nat.reduceAdd, Nat.reduceLeDiff, Nat.zero_le, Nat.le_refl, true_and, and_true, Int.toNat_natCast, Int.reduceToNat, Int.reduceEq, false_implies, true_implies, Int.reduceNeg, Int.cast_ofNat_Int, g8, g9, b16, bL, reduceIte, Nat.reduceEqDiff, true_or, or_true, Int.reduceLE, Int.reduceLT, Int.reduceAdd, Int.reduceSub, Int.reduceMul, not_true_eq_false, not_false_eq_true, implies_true, nat_s, wr_id, uR_at, uR_uR, u1_at, u1_ne, uf_at, uf_ne, iltT, iltF, ileT, ieqT, ieqF]
    refine ⟨fun _ => kn Γ V uc us (J.mono (by omega) (by omega)) (by omega) (by omega), fun _ => lc_feed hi hLs J w1 w2 w3 w4 w5 kn, fun _ => lc_end hi hLs J w1 w2 w3 w4 w5 kn, fun _ => lc_text hi hLs J w1 w2 w3 w4 w5 kn, fun _ => lc_fault hi hLs J w1 w2 w3 w4 w5 kn, fun _ => lc_now hi hLs J w1 w2 w3 w4 w5 kn, fun _ => lc_member hi hLs J w1 w2 w3 w4 w5 kn, fun _ => lc_pass hi hLs J w1 w2 w3 w4 w5 kn, fun _ => lc_way hi hLs J w1 w2 w3 w4 w5 kn, fun _ => lc_message hi hLs J w1 w2 w3 w4 w5 kn, fun _ => lc_would hi hLs J w1 w2 w3 w4 w5 kn, fun _ => lc_soon hi hLs J w1 w2 w3 w4 w5 kn, fun _ => lc_order hi hLs J w1 w2 w3 w4 w5 kn, fun _ => lc_ask hi hLs J w1 w2 w3 w4 w5 kn, fun _ => lc_leave hi hLs J w1 w2 w3 w4 w5 kn, fun _ => lc_suspect hi hLs J w1 w2 w3 w4 w5 kn, fun _ => lc_send hi hLs J w1 w2 w3 w4 w5 kn, fun _ => lc_lose hi hLs J w1 w2 w3 w4 w5 kn, fun _ => lc_settle hi hLs J w1 w2 w3 w4 w5 kn, fun _ => lc_undo hi hLs J w1 w2 w3 w4 w5 kn⟩
end LW
