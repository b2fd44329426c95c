/-! THE CLASS: bytes fed; is the token a word -/
def layC (x : Int) (L i : Nat) (T : Nat → Int) : Nat → Int := fun j => if L ≤ j ∧ j < L + i then bI2b (bShr x (24 - 8 * ((j - L : Nat) : Int))) else T j
theorem layC_s {x : Int} {L i : Nat} {T : Nat → Int} : u1 (layC x L i T) (L + i) (bI2b (bShr x (24 - 8 * (i : Int)))) = layC x L (i + 1) T := by
  funext j
  unfold layC
  by_cases hj : j = L + i
  · subst hj; rw [u1_at, if_pos (by omega), show L + i - L = i by omega]
  · rw [u1_ne hj]
    by_cases h : L ≤ j ∧ j < L + i
    · rw [if_pos h, if_pos (by omega)]
    · rw [if_neg h, if_neg (by omega)]
theorem TB.lay {L : Nat} {T' T : Nat → Int} (h : TB L T' T) (x : Int) : TB (L + 4) (layC x L 4 T') (layT x L 4 T) := by
  intro j hj
  unfold layC layT
  by_cases h4 : L ≤ j ∧ j < L + 4
  · rw [if_pos h4, if_pos h4]
    have := byt_sg x (j - L) (by omega)
    exact ⟨this.2, this.1⟩
  · rw [if_neg h4, if_neg h4]
    exact h j (by omega)
/-- a String constant holds the word l (its letters backwards) -/
def strI (Γ : GM) (V : VH) (t : Nat) (l : List Int) : Prop := Γ.1 t = 20 ∧ Γ.2.1 t = l.length ∧ ∀ j, j < l.length → V t j = l.getD (l.length - 1 - j) 0
theorem wdl_at {T : Nat → Int} {s : Nat} : ∀ i j, j < i → (wdl T s i).getD (i - 1 - j) 0 = T (s + j)
  | 0, j, h => absurd h (by omega)
  | i + 1, j, h => by
    unfold wdl
    by_cases hj : j = i
    · subst hj
      rw [show j + 1 - 1 - j = 0 by omega]
      rfl
    · rw [show i + 1 - 1 - j = (i - 1 - j) + 1 by omega, List.getD_cons_succ]
      exact wdl_at i j (by omega)
theorem wdl_eq {T : Nat → Int} {s i : Nat} {l : List Int} (hl : l.length = i) (h : ∀ j, j < i → T (s + j) = l.getD (i - 1 - j) 0) : wdl T s i = l := by
  apply List.ext_getElem
  · rw [wdl_len, hl]
  · intro k h1 h2
    rw [wdl_len] at h1
    have a := wdl_at (T := T) (s := s) i (i - 1 - k) (by omega)
    have b := h (i - 1 - k) (by omega)
    rw [show i - 1 - (i - 1 - k) = k by omega] at a b
    rw [List.getD_eq_getElem?_getD, List.getElem?_eq_getElem (by rw [wdl_len]; exact h1), Option.getD_some] at a
    rw [List.getD_eq_getElem?_getD, List.getElem?_eq_getElem h2, Option.getD_some] at b
    rw [a, b]
section TN
variable {w : WP} {d : Nat} {Γ : GM} {V : VH} {Q : QT} {o L p : Nat} {kd st sp v : Int} {T T' : Nat → Int}
theorem k_add (hd : 4 ≤ d) (hK : TK Γ o) {x : Int} (hL : L + 4 ≤ 640) (hq : Q none Γ (tS V o ((L + 4 : Nat) : Int) kd st sp v (layC x L 4 T'))) : tC w d nTape_add [.inr (.inl o), .inl x] Γ (tS V o (L : Int) kd st sp v T') Q := by
  obtain ⟨z0, z1, z2⟩ := hK
  refine tC_enter (nL := 3) (by decide +kernel) (by decide +kernel) rfl (Nat.le_of_ble_eq_true rfl) (fun hok => ?_)
  simp only [ent]
  refine tG_at hd kTape_add_0 ?_
  simp (disch := omega) only [bTape_add_0, rn, sm, lg, lt_, cmpP, tk, pr_, pu, swl, cs, Nat.reduceAdd, Nat.reduceLeDiff, Nat.zero_le, Nat.le_refl, true_and, and_true, Int.toNat_natCast, Int.reduceToNat, Int.reduceEq, false_implies, true_implies, Int.reduceNeg, Int.cast_ofNat_Int, t_r0, t_r1, t_r2, t_r3, t_r4, t_r5, t_a, t_w1, t_w2, t_w3, t_w4, t_w5, t_wa, z0, z1, z2, reduceIte, Nat.reduceEqDiff, true_or, or_true, Int.reduceLE, Int.reduceLT, Int.reduceAdd, Int.reduceSub, Int.reduceMul, not_true_eq_false, not_false_eq_true, implies_true, nat_s, wr_id, uR_at, uR_uR, u1_at, u1_ne, uf_at, uf_ne, iltT, iltF, ileT, ieqT, ieqF]
  have := tG_loop (w := w) (d := d) (n := nTape_add) (pc := 3) (Γ := Γ) (uc := 0) (us := 0) (Q := Q) (fun i => [some (.inr (.inl o)), some (.inl x), some (.inl (24 - 8 * (i : Int)))]) (fun i V' => V' = tS V o ((L + i : Nat) : Int) kd st sp v (layC x L i T')) 4 ?_ ?_ 0 (tS V o (L : Int) kd st sp v T') (Nat.zero_le _) ?_
  · exact this
  · intro i V' hi hV k1
    subst hV
    have e3 : wr (24 - 8 * (i : Int) + -8) = 24 - 8 * ((i + 1 : Nat) : Int) := by rw [wr_id (by omega) (by omega)]; omega
    have hr := i2b_r (bShr x (24 - 8 * (i : Int)))
    refine tG_at hd kTape_add_3 ?_
    simp (disch := omega) only [bTape_add_3, rn, sm, lg, lt_, cmpP, tk, pr_, pu, swl, cs, Nat.reduceAdd, Nat.reduceLeDiff, Nat.zero_le, Nat.le_refl, true_and, and_true, Int.toNat_natCast, Int.reduceToNat, Int.reduceEq, false_implies, true_implies, Int.reduceNeg, Int.cast_ofNat_Int, t_r0, t_r1, t_r2, t_r3, t_r4, t_r5, t_a, t_w1, t_w2, t_w3, t_w4, t_w5, t_wa, z0, z1, z2, reduceIte, Nat.reduceEqDiff, true_or, or_true, Int.reduceLE, Int.reduceLT, Int.reduceAdd, Int.reduceSub, Int.reduceMul, not_true_eq_false, not_false_eq_true, implies_true, nat_s, wr_id, uR_at, uR_uR, u1_at, u1_ne, uf_at, uf_ne, iltT, iltF, ileT, ieqT, ieqF]
    refine tG_at hd kTape_add_7 ?_
    simp (disch := omega) only [bTape_add_7, rn, sm, lg, lt_, cmpP, tk, pr_, pu, swl, cs, Nat.reduceAdd, Nat.reduceLeDiff, Nat.zero_le, Nat.le_refl, true_and, and_true, Int.toNat_natCast, Int.reduceToNat, Int.reduceEq, false_implies, true_implies, Int.reduceNeg, Int.cast_ofNat_Int, t_r0, t_r1, t_r2, t_r3, t_r4, t_r5, t_a, t_w1, t_w2, t_w3, t_w4, t_w5, t_wa, z0, z1, z2, reduceIte, Nat.reduceEqDiff, true_or, or_true, Int.reduceLE, Int.reduceLT, Int.reduceAdd, Int.reduceSub, Int.reduceMul, not_true_eq_false, not_false_eq_true, implies_true, nat_s, wr_id, uR_at, uR_uR, u1_at, u1_ne, uf_at, uf_ne, iltT, iltF, ileT, ieqT, ieqF]
    refine tG_at hd kTape_add_17 ?_
    simp (disch := omega) only [bTape_add_17, rn, sm, lg, lt_, cmpP, tk, pr_, pu, swl, cs, Nat.reduceAdd, Nat.reduceLeDiff, Nat.zero_le, Nat.le_refl, true_and, and_true, Int.toNat_natCast, Int.reduceToNat, Int.reduceEq, false_implies, true_implies, Int.reduceNeg, Int.cast_ofNat_Int, t_r0, t_r1, t_r2, t_r3, t_r4, t_r5, t_a, t_w1, t_w2, t_w3, t_w4, t_w5, t_wa, z0, z1, z2, reduceIte, Nat.reduceEqDiff, true_or, or_true, Int.reduceLE, Int.reduceLT, Int.reduceAdd, Int.reduceSub, Int.reduceMul, not_true_eq_false, not_false_eq_true, implies_true, nat_s, wr_id, uR_at, uR_uR, u1_at, u1_ne, uf_at, uf_ne, iltT, iltF, ileT, ieqT, ieqF, layC_s]
    rw [show 24 - 8 * (i : Int) + -8 = 24 - 8 * ((i + 1 : Nat) : Int) by omega]
    exact k1 _ rfl
  · intro V' hV
    subst hV
    refine tG_at hd kTape_add_3 ?_
    simp (disch := omega) only [bTape_add_3, rn, sm, lg, lt_, cmpP, tk, pr_, pu, swl, cs, Nat.reduceAdd, Nat.reduceLeDiff, Nat.zero_le, Nat.le_refl, true_and, and_true, Int.toNat_natCast, Int.reduceToNat, Int.reduceEq, false_implies, true_implies, Int.reduceNeg, Int.cast_ofNat_Int, t_r0, t_r1, t_r2, t_r3, t_r4, t_r5, t_a, t_w1, t_w2, t_w3, t_w4, t_w5, t_wa, z0, z1, z2, reduceIte, Nat.reduceEqDiff, true_or, or_true, Int.reduceLE, Int.reduceLT, Int.reduceAdd, Int.reduceSub, Int.reduceMul, not_true_eq_false, not_false_eq_true, implies_true, nat_s, wr_id, uR_at, uR_uR, u1_at, u1_ne, uf_at, uf_ne, iltT, iltF, ileT, ieqT, ieqF]
    refine tG_at hd kTape_add_46 ?_
    simp (disch := omega) only [bTape_add_46, rn, sm, lg, lt_, cmpP, tk, pr_, pu, swl, cs, Nat.reduceAdd, Nat.reduceLeDiff, Nat.zero_le, Nat.le_refl, true_and, and_true, Int.toNat_natCast, Int.reduceToNat, Int.reduceEq, false_implies, true_implies, Int.reduceNeg, Int.cast_ofNat_Int, t_r0, t_r1, t_r2, t_r3, t_r4, t_r5, t_a, t_w1, t_w2, t_w3, t_w4, t_w5, t_wa, z0, z1, z2, reduceIte, Nat.reduceEqDiff, true_or, or_true, Int.reduceLE, Int.reduceLT, Int.reduceAdd, Int.reduceSub, Int.reduceMul, not_true_eq_false, not_false_eq_true, implies_true, nat_s, wr_id, uR_at, uR_uR, u1_at, u1_ne, uf_at, uf_ne, iltT, iltF, ileT, ieqT, ieqF]
    exact hq
  · rw [show layC x L 0 T' = T' from funext fun j => if_neg (by omega)]
    rfl
theorem k_isWord (hd5 : 5 ≤ d) (hK : TK Γ o) (hL : L ≤ 640) (hp : p ≤ L) (hT : TB L T' T) (hk : TKc T L p kd st sp v) {t : Nat} {l : List Int} (hs : strI Γ V t l) (hl : ∀ c ∈ l, isLt c) (hn : l.length ≤ 7) (ht : t < o)
    (hq : Q (some (.inl (bi (isW T L p l)))) Γ (tS V o (L : Int) kd st sp v T')) :
    tC w d nTape_isWord [.inr (.inl o), .inr (.inl t)] Γ (tS V o (L : Int) kd st sp v T') Q := by
  have hd : 4 ≤ d := by omega
  obtain ⟨z0, z1, z2⟩ := id hK
  obtain ⟨h1, h2, h3, h4⟩ := hk
  obtain ⟨s1, s2, s3⟩ := hs
  have st' : ∀ j, j < l.length → tS V o (L : Int) kd st sp v T' t j = l.getD (l.length - 1 - j) 0 := fun j hj => by rw [t_o (by omega)]; exact s3 j hj
  have c20 : ((Γ.1 t : Nat) : Int) = 20 := by rw [s1]; rfl
  have k23 : ∀ x, ¬ isW T L p l → tG w d nTape_isWord 23 [some (.inr (.inl o)), some (.inr (.inl t)), x] [] Γ (tS V o (L : Int) kd st sp v T') 0 0 Q := by
    intro x h
    rw [bi_0 h] at hq
    cases x with
    | none =>
      refine tG_at hd kTape_isWord_23 ?_
      simp (disch := omega) only [bTape_isWord_23, rn, sm, lg, lt_, cmpP, tk, pr_, pu, swl, cs, Nat.reduceAdd, Nat.reduceLeDiff, Nat.zero_le, Nat.le_refl, true_and, and_true, Int.toNat_natCast, Int.reduceToNat, Int.reduceEq, false_implies, true_implies, Int.reduceNeg, Int.cast_ofNat_Int, t_r0, t_r1, t_r2, t_r3, t_r4, t_r5, t_a, t_w1, t_w2, t_w3, t_w4, t_w5, t_wa, z0, z1, z2, reduceIte, Nat.reduceEqDiff, true_or, or_true, Int.reduceLE, Int.reduceLT, Int.reduceAdd, Int.reduceSub, Int.reduceMul, not_true_eq_false, not_false_eq_true, implies_true, nat_s, wr_id, uR_at, uR_uR, u1_at, u1_ne, uf_at, uf_ne, iltT, iltF, ileT, ieqT, ieqF]
      exact hq
    | some x =>
      refine tG_at hd kTape_isWord_23 ?_
      simp (disch := omega) only [bTape_isWord_23, rn, sm, lg, lt_, cmpP, tk, pr_, pu, swl, cs, Nat.reduceAdd, Nat.reduceLeDiff, Nat.zero_le, Nat.le_refl, true_and, and_true, Int.toNat_natCast, Int.reduceToNat, Int.reduceEq, false_implies, true_implies, Int.reduceNeg, Int.cast_ofNat_Int, t_r0, t_r1, t_r2, t_r3, t_r4, t_r5, t_a, t_w1, t_w2, t_w3, t_w4, t_w5, t_wa, z0, z1, z2, reduceIte, Nat.reduceEqDiff, true_or, or_true, Int.reduceLE, Int.reduceLT, Int.reduceAdd, Int.reduceSub, Int.reduceMul, not_true_eq_false, not_false_eq_true, implies_true, nat_s, wr_id, uR_at, uR_uR, u1_at, u1_ne, uf_at, uf_ne, iltT, iltF, ileT, ieqT, ieqF]
      exact hq
  refine tC_enter (nL := 3) (by decide +kernel) (by decide +kernel) rfl (Nat.le_of_ble_eq_true rfl) (fun hok => ?_)
  simp only [ent]
  by_cases hk2 : tkK T L p = 2
  · have hE := tkE_b (T := T) hp (by omega)
    obtain ⟨w1, w2, w3, w4⟩ := tkK_2 hk2
    have hEe : tkE T L p = tkR T L (tkB T L p) := by
      unfold tkE
      rw [if_pos w3]
    have hkd : kd = 0 := by rw [h1, hk2]; rfl
    have hsp := h3 (by omega)
    rw [hE.2.2.2] at h2
    obtain ⟨s, hs⟩ : ∃ s, s = tkB T L p := ⟨_, rfl⟩
    obtain ⟨e, he⟩ : ∃ e, e = tkR T L (tkB T L p) := ⟨_, rfl⟩
    rw [hEe, ← he] at hsp
    rw [hEe, ← he, ← hs] at hE
    rw [← he, ← hs] at w4
    rw [← hs] at h2
    have hw : isW T L p l ↔ wdl T s (e - s) = l := by
      unfold isW
      rw [← he, ← hs]
      exact ⟨fun h => h.2, fun h => ⟨hk2, h⟩⟩
    have haL := (alL_iff (T := T) (s := s) (e - s)).mp w4
    have eT : ∀ j, j < e - s → T' (s + j) = T (s + j) := fun j hj => by
      rw [(hT (s + j) (by omega)).2]
      exact sg_id (by have := haL j hj; unfold isLt at this; omega)
    rw [hkd, h2, hsp] at hq k23 st' ⊢
    refine tG_at hd kTape_isWord_0 ?_
    simp (disch := omega) only [bTape_isWord_0, rn, sm, lg, lt_, cmpP, tk, pr_, pu, swl, cs, Nat.reduceAdd, Nat.reduceLeDiff, Nat.zero_le, Nat.le_refl, true_and, and_true, Int.toNat_natCast, Int.reduceToNat, Int.reduceEq, false_implies, true_implies, Int.reduceNeg, Int.cast_ofNat_Int, t_r0, t_r1, t_r2, t_r3, t_r4, t_r5, t_a, t_w1, t_w2, t_w3, t_w4, t_w5, t_wa, z0, z1, z2, reduceIte, Nat.reduceEqDiff, true_or, or_true, Int.reduceLE, Int.reduceLT, Int.reduceAdd, Int.reduceSub, Int.reduceMul, not_true_eq_false, not_false_eq_true, implies_true, nat_s, wr_id, uR_at, uR_uR, u1_at, u1_ne, uf_at, uf_ne, iltT, iltF, ileT, ieqT, ieqF]
    refine tG_at hd kTape_isWord_7 ?_
    simp (disch := omega) only [bTape_isWord_7, rn, sm, lg, lt_, cmpP, tk, pr_, pu, swl, cs, Nat.reduceAdd, Nat.reduceLeDiff, Nat.zero_le, Nat.le_refl, true_and, and_true, Int.toNat_natCast, Int.reduceToNat, Int.reduceEq, false_implies, true_implies, Int.reduceNeg, Int.cast_ofNat_Int, t_r0, t_r1, t_r2, t_r3, t_r4, t_r5, t_a, t_w1, t_w2, t_w3, t_w4, t_w5, t_wa, z0, z1, z2, reduceIte, Nat.reduceEqDiff, true_or, or_true, Int.reduceLE, Int.reduceLT, Int.reduceAdd, Int.reduceSub, Int.reduceMul, not_true_eq_false, not_false_eq_true, implies_true, nat_s, wr_id, uR_at, uR_uR, u1_at, u1_ne, uf_at, uf_ne, iltT, iltF, ileT, ieqT, ieqF, c20]
    refine k_strLen (by omega) s1 ?_
    rw [s2]
    by_cases hlen : e - s = l.length
    · have key : ∀ r j : Nat, j + r = l.length → (∀ i, i < j → T (s + i) = l.getD (l.length - 1 - i) 0) → tG w d nTape_isWord 27 [some (.inr (.inl o)), some (.inr (.inl t)), some (.inl (j : Int))] [] Γ (tS V o (L : Int) 0 (s : Int) (e : Int) v T') 0 0 Q := by
        intro r
        induction r with
        | zero =>
          intro j hj hall
          refine tG_at hd kTape_isWord_27 ?_
          simp (disch := omega) only [bTape_isWord_27, rn, sm, lg, lt_, cmpP, tk, pr_, pu, swl, cs, Nat.reduceAdd, Nat.reduceLeDiff, Nat.zero_le, Nat.le_refl, true_and, and_true, Int.toNat_natCast, Int.reduceToNat, Int.reduceEq, false_implies, true_implies, Int.reduceNeg, Int.cast_ofNat_Int, t_r0, t_r1, t_r2, t_r3, t_r4, t_r5, t_a, t_w1, t_w2, t_w3, t_w4, t_w5, t_wa, z0, z1, z2, reduceIte, Nat.reduceEqDiff, true_or, or_true, Int.reduceLE, Int.reduceLT, Int.reduceAdd, Int.reduceSub, Int.reduceMul, not_true_eq_false, not_false_eq_true, implies_true, nat_s, wr_id, uR_at, uR_uR, u1_at, u1_ne, uf_at, uf_ne, iltT, iltF, ileT, ieqT, ieqF, c20]
          refine k_strLen (by omega) s1 ?_
          rw [s2]
          refine tG_at hd kTape_isWord_32 ?_
          simp (disch := omega) only [bTape_isWord_32, rn, sm, lg, lt_, cmpP, tk, pr_, pu, swl, cs, Nat.reduceAdd, Nat.reduceLeDiff, Nat.zero_le, Nat.le_refl, true_and, and_true, Int.toNat_natCast, Int.reduceToNat, Int.reduceEq, false_implies, true_implies, Int.reduceNeg, Int.cast_ofNat_Int, t_r0, t_r1, t_r2, t_r3, t_r4, t_r5, t_a, t_w1, t_w2, t_w3, t_w4, t_w5, t_wa, z0, z1, z2, reduceIte, Nat.reduceEqDiff, true_or, or_true, Int.reduceLE, Int.reduceLT, Int.reduceAdd, Int.reduceSub, Int.reduceMul, not_true_eq_false, not_false_eq_true, implies_true, nat_s, wr_id, uR_at, uR_uR, u1_at, u1_ne, uf_at, uf_ne, iltT, iltF, ileT, ieqT, ieqF]
          refine tG_at hd kTape_isWord_62 ?_
          simp (disch := omega) only [bTape_isWord_62, rn, sm, lg, lt_, cmpP, tk, pr_, pu, swl, cs, Nat.reduceAdd, Nat.reduceLeDiff, Nat.zero_le, Nat.le_refl, true_and, and_true, Int.toNat_natCast, Int.reduceToNat, Int.reduceEq, false_implies, true_implies, Int.reduceNeg, Int.cast_ofNat_Int, t_r0, t_r1, t_r2, t_r3, t_r4, t_r5, t_a, t_w1, t_w2, t_w3, t_w4, t_w5, t_wa, z0, z1, z2, reduceIte, Nat.reduceEqDiff, true_or, or_true, Int.reduceLE, Int.reduceLT, Int.reduceAdd, Int.reduceSub, Int.reduceMul, not_true_eq_false, not_false_eq_true, implies_true, nat_s, wr_id, uR_at, uR_uR, u1_at, u1_ne, uf_at, uf_ne, iltT, iltF, ileT, ieqT, ieqF]
          rw [bi_1 (hw.mpr (wdl_eq hlen.symm (fun i hi => by rw [hlen]; exact hall i (by omega))))] at hq
          exact hq
        | succ r ih =>
          intro j hj hall
          refine tG_at hd kTape_isWord_27 ?_
          simp (disch := omega) only [bTape_isWord_27, rn, sm, lg, lt_, cmpP, tk, pr_, pu, swl, cs, Nat.reduceAdd, Nat.reduceLeDiff, Nat.zero_le, Nat.le_refl, true_and, and_true, Int.toNat_natCast, Int.reduceToNat, Int.reduceEq, false_implies, true_implies, Int.reduceNeg, Int.cast_ofNat_Int, t_r0, t_r1, t_r2, t_r3, t_r4, t_r5, t_a, t_w1, t_w2, t_w3, t_w4, t_w5, t_wa, z0, z1, z2, reduceIte, Nat.reduceEqDiff, true_or, or_true, Int.reduceLE, Int.reduceLT, Int.reduceAdd, Int.reduceSub, Int.reduceMul, not_true_eq_false, not_false_eq_true, implies_true, nat_s, wr_id, uR_at, uR_uR, u1_at, u1_ne, uf_at, uf_ne, iltT, iltF, ileT, ieqT, ieqF, c20]
          refine k_strLen (by omega) s1 ?_
          rw [s2]
          refine tG_at hd kTape_isWord_32 ?_
          simp (disch := omega) only [bTape_isWord_32, rn, sm, lg, lt_, cmpP, tk, pr_, pu, swl, cs, Nat.reduceAdd, Nat.reduceLeDiff, Nat.zero_le, Nat.le_refl, true_and, and_true, Int.toNat_natCast, Int.reduceToNat, Int.reduceEq, false_implies, true_implies, Int.reduceNeg, Int.cast_ofNat_Int, t_r0, t_r1, t_r2, t_r3, t_r4, t_r5, t_a, t_w1, t_w2, t_w3, t_w4, t_w5, t_wa, z0, z1, z2, reduceIte, Nat.reduceEqDiff, true_or, or_true, Int.reduceLE, Int.reduceLT, Int.reduceAdd, Int.reduceSub, Int.reduceMul, not_true_eq_false, not_false_eq_true, implies_true, nat_s, wr_id, uR_at, uR_uR, u1_at, u1_ne, uf_at, uf_ne, iltT, iltF, ileT, ieqT, ieqF]
          refine tG_at hd kTape_isWord_35 ?_
          simp (disch := omega) only [bTape_isWord_35, rn, sm, lg, lt_, cmpP, tk, pr_, pu, swl, cs, Nat.reduceAdd, Nat.reduceLeDiff, Nat.zero_le, Nat.le_refl, true_and, and_true, Int.toNat_natCast, Int.reduceToNat, Int.reduceEq, false_implies, true_implies, Int.reduceNeg, Int.cast_ofNat_Int, t_r0, t_r1, t_r2, t_r3, t_r4, t_r5, t_a, t_w1, t_w2, t_w3, t_w4, t_w5, t_wa, z0, z1, z2, reduceIte, Nat.reduceEqDiff, true_or, or_true, Int.reduceLE, Int.reduceLT, Int.reduceAdd, Int.reduceSub, Int.reduceMul, not_true_eq_false, not_false_eq_true, implies_true, nat_s, wr_id, uR_at, uR_uR, u1_at, u1_ne, uf_at, uf_ne, iltT, iltF, ileT, ieqT, ieqF, c20, nat_a]
          refine k_charAt (by omega) s1 (by rw [s2]; omega) ?_
          rw [st' j (by omega), eT j (by omega)]
          by_cases hc : T (s + j) = l.getD (l.length - 1 - j) 0
          · refine tG_at hd kTape_isWord_51 ?_
            simp (disch := omega) only [bTape_isWord_51, rn, sm, lg, lt_, cmpP, tk, pr_, pu, swl, cs, Nat.reduceAdd, Nat.reduceLeDiff, Nat.zero_le, Nat.le_refl, true_and, and_true, Int.toNat_natCast, Int.reduceToNat, Int.reduceEq, false_implies, true_implies, Int.reduceNeg, Int.cast_ofNat_Int, t_r0, t_r1, t_r2, t_r3, t_r4, t_r5, t_a, t_w1, t_w2, t_w3, t_w4, t_w5, t_wa, z0, z1, z2, reduceIte, Nat.reduceEqDiff, true_or, or_true, Int.reduceLE, Int.reduceLT, Int.reduceAdd, Int.reduceSub, Int.reduceMul, not_true_eq_false, not_false_eq_true, implies_true, nat_s, wr_id, uR_at, uR_uR, u1_at, u1_ne, uf_at, uf_ne, iltT, iltF, ileT, ieqT, ieqF, hc]
            refine tG_at hd kTape_isWord_56 ?_
            simp (disch := omega) only [bTape_isWord_56, rn, sm, lg, lt_, cmpP, tk, pr_, pu, swl, cs, Nat.reduceAdd, Nat.reduceLeDiff, Nat.zero_le, Nat.le_refl, true_and, and_true, Int.toNat_natCast, Int.reduceToNat, Int.reduceEq, false_implies, true_implies, Int.reduceNeg, Int.cast_ofNat_Int, t_r0, t_r1, t_r2, t_r3, t_r4, t_r5, t_a, t_w1, t_w2, t_w3, t_w4, t_w5, t_wa, z0, z1, z2, reduceIte, Nat.reduceEqDiff, true_or, or_true, Int.reduceLE, Int.reduceLT, Int.reduceAdd, Int.reduceSub, Int.reduceMul, not_true_eq_false, not_false_eq_true, implies_true, nat_s, wr_id, uR_at, uR_uR, u1_at, u1_ne, uf_at, uf_ne, iltT, iltF, ileT, ieqT, ieqF]
            refine ih (j + 1) (by omega) (fun i hi => ?_)
            by_cases hij : i = j
            · rw [hij]; exact hc
            · exact hall i (by omega)
          · refine tG_at hd kTape_isWord_51 ?_
            simp (disch := omega) only [bTape_isWord_51, rn, sm, lg, lt_, cmpP, tk, pr_, pu, swl, cs, Nat.reduceAdd, Nat.reduceLeDiff, Nat.zero_le, Nat.le_refl, true_and, and_true, Int.toNat_natCast, Int.reduceToNat, Int.reduceEq, false_implies, true_implies, Int.reduceNeg, Int.cast_ofNat_Int, t_r0, t_r1, t_r2, t_r3, t_r4, t_r5, t_a, t_w1, t_w2, t_w3, t_w4, t_w5, t_wa, z0, z1, z2, reduceIte, Nat.reduceEqDiff, true_or, or_true, Int.reduceLE, Int.reduceLT, Int.reduceAdd, Int.reduceSub, Int.reduceMul, not_true_eq_false, not_false_eq_true, implies_true, nat_s, wr_id, uR_at, uR_uR, u1_at, u1_ne, uf_at, uf_ne, iltT, iltF, ileT, ieqT, ieqF]
            refine tG_at hd kTape_isWord_54 ?_
            simp (disch := omega) only [bTape_isWord_54, rn, sm, lg, lt_, cmpP, tk, pr_, pu, swl, cs, Nat.reduceAdd, Nat.reduceLeDiff, Nat.zero_le, Nat.le_refl, true_and, and_true, Int.toNat_natCast, Int.reduceToNat, Int.reduceEq, false_implies, true_implies, Int.reduceNeg, Int.cast_ofNat_Int, t_r0, t_r1, t_r2, t_r3, t_r4, t_r5, t_a, t_w1, t_w2, t_w3, t_w4, t_w5, t_wa, z0, z1, z2, reduceIte, Nat.reduceEqDiff, true_or, or_true, Int.reduceLE, Int.reduceLT, Int.reduceAdd, Int.reduceSub, Int.reduceMul, not_true_eq_false, not_false_eq_true, implies_true, nat_s, wr_id, uR_at, uR_uR, u1_at, u1_ne, uf_at, uf_ne, iltT, iltF, ileT, ieqT, ieqF]
            rw [bi_0 (fun h => hc ?_)] at hq
            · exact hq
            · have h := hw.mp h
              have := wdl_at (T := T) (s := s) (e - s) j (by omega)
              rw [h, hlen] at this
              exact this.symm
      refine tG_at hd kTape_isWord_20 ?_
      simp (disch := omega) only [bTape_isWord_20, rn, sm, lg, lt_, cmpP, tk, pr_, pu, swl, cs, Nat.reduceAdd, Nat.reduceLeDiff, Nat.zero_le, Nat.le_refl, true_and, and_true, Int.toNat_natCast, Int.reduceToNat, Int.reduceEq, false_implies, true_implies, Int.reduceNeg, Int.cast_ofNat_Int, t_r0, t_r1, t_r2, t_r3, t_r4, t_r5, t_a, t_w1, t_w2, t_w3, t_w4, t_w5, t_wa, z0, z1, z2, reduceIte, Nat.reduceEqDiff, true_or, or_true, Int.reduceLE, Int.reduceLT, Int.reduceAdd, Int.reduceSub, Int.reduceMul, not_true_eq_false, not_false_eq_true, implies_true, nat_s, wr_id, uR_at, uR_uR, u1_at, u1_ne, uf_at, uf_ne, iltT, iltF, ileT, ieqT, ieqF]
      refine tG_at hd kTape_isWord_25 ?_
      simp (disch := omega) only [bTape_isWord_25, rn, sm, lg, lt_, cmpP, tk, pr_, pu, swl, cs, Nat.reduceAdd, Nat.reduceLeDiff, Nat.zero_le, Nat.le_refl, true_and, and_true, Int.toNat_natCast, Int.reduceToNat, Int.reduceEq, false_implies, true_implies, Int.reduceNeg, Int.cast_ofNat_Int, t_r0, t_r1, t_r2, t_r3, t_r4, t_r5, t_a, t_w1, t_w2, t_w3, t_w4, t_w5, t_wa, z0, z1, z2, reduceIte, Nat.reduceEqDiff, true_or, or_true, Int.reduceLE, Int.reduceLT, Int.reduceAdd, Int.reduceSub, Int.reduceMul, not_true_eq_false, not_false_eq_true, implies_true, nat_s, wr_id, uR_at, uR_uR, u1_at, u1_ne, uf_at, uf_ne, iltT, iltF, ileT, ieqT, ieqF]
      exact key l.length 0 (by omega) (fun i hi => absurd hi (by omega))
    · refine tG_at hd kTape_isWord_20 ?_
      simp (disch := omega) only [bTape_isWord_20, rn, sm, lg, lt_, cmpP, tk, pr_, pu, swl, cs, Nat.reduceAdd, Nat.reduceLeDiff, Nat.zero_le, Nat.le_refl, true_and, and_true, Int.toNat_natCast, Int.reduceToNat, Int.reduceEq, false_implies, true_implies, Int.reduceNeg, Int.cast_ofNat_Int, t_r0, t_r1, t_r2, t_r3, t_r4, t_r5, t_a, t_w1, t_w2, t_w3, t_w4, t_w5, t_wa, z0, z1, z2, reduceIte, Nat.reduceEqDiff, true_or, or_true, Int.reduceLE, Int.reduceLT, Int.reduceAdd, Int.reduceSub, Int.reduceMul, not_true_eq_false, not_false_eq_true, implies_true, nat_s, wr_id, uR_at, uR_uR, u1_at, u1_ne, uf_at, uf_ne, iltT, iltF, ileT, ieqT, ieqF]
      refine k23 _ (fun h => hlen ?_)
      have := hw.mp h
      rw [← this, wdl_len]
  · have hkd : ¬ kd = 0 := by
      rw [h1]
      unfold ckd
      (repeat' split) <;> omega
    refine tG_at hd kTape_isWord_0 ?_
    simp (disch := omega) only [bTape_isWord_0, rn, sm, lg, lt_, cmpP, tk, pr_, pu, swl, cs, Nat.reduceAdd, Nat.reduceLeDiff, Nat.zero_le, Nat.le_refl, true_and, and_true, Int.toNat_natCast, Int.reduceToNat, Int.reduceEq, false_implies, true_implies, Int.reduceNeg, Int.cast_ofNat_Int, t_r0, t_r1, t_r2, t_r3, t_r4, t_r5, t_a, t_w1, t_w2, t_w3, t_w4, t_w5, t_wa, z0, z1, z2, reduceIte, Nat.reduceEqDiff, true_or, or_true, Int.reduceLE, Int.reduceLT, Int.reduceAdd, Int.reduceSub, Int.reduceMul, not_true_eq_false, not_false_eq_true, implies_true, nat_s, wr_id, uR_at, uR_uR, u1_at, u1_ne, uf_at, uf_ne, iltT, iltF, ileT, ieqT, ieqF, hkd]
    exact k23 _ (fun h => hk2 h.1)
end TN
