/-! THE CLASS: numbers, signs, members, ranks -/
section SC
variable {w : WP} {d : Nat} {Γ : GM} {V : VH} {Q : QT} {o s L p : Nat} {m a fk fp kd st sp v : Int} {R K F G P T T' : Nat → Int}
theorem k_nextS (hd5 : 5 ≤ d) (hK : TK Γ o) (hos : o + 2 ≤ s) (hL : L ≤ 640) (hp : p ≤ L) (hT : TB L T' T)
    (hq : ∀ kd st sp v, TKc T L p kd st sp v → Q none Γ (sS (tS V o (L : Int) kd st sp v T') s m a fk fp R K F G P)) :
    tC w d nTape_next [.inr (.inl o)] Γ (sS (tS V o (L : Int) kd st (p : Int) v T') s m a fk fp R K F G P) Q := by
  rw [tsC hos]
  refine k_next hd5 hK hL hp hT (fun kd st sp v h => ?_)
  rw [← tsC hos]
  exact hq _ _ _ _ h
theorem k_isWordS (hd5 : 5 ≤ d) (hK : TK Γ o) (hos : o + 2 ≤ s) (hL : L ≤ 640) (hp : p ≤ L) (hT : TB L T' T) (hk : TKc T L p kd st sp v) {t : Nat} {l : List Int} (hs : strI Γ V t l) (hl : ∀ c ∈ l, isLt c) (hn : l.length ≤ 7) (ht : t < o)
    (hq : Q (some (.inl (bi (isW T L p l)))) Γ (sS (tS V o (L : Int) kd st sp v T') s m a fk fp R K F G P)) :
    tC w d nTape_isWord [.inr (.inl o), .inr (.inl t)] Γ (sS (tS V o (L : Int) kd st sp v T') s m a fk fp R K F G P) Q := by
  rw [tsC hos]
  refine k_isWord hd5 hK hL hp hT hk (hs.ss (by omega)) hl hn ht ?_
  rw [← tsC hos]
  exact hq
theorem k_refuse (hd : 4 ≤ d) (hK : TK Γ o) (hS : SK Γ s) (hos : o + 2 ≤ s) {x : Int} (hq : Q (some (.inl 0)) Γ (sS (tS V o (L : Int) kd st sp v T') s m a x st R K F G P)) :
    tC w d nScr_refuse [.inr (.inl s), .inl x, .inr (.inl o)] Γ (sS (tS V o (L : Int) kd st sp v T') s m a fk fp R K F G P) Q := by
  obtain ⟨z0, z1, z2⟩ := hK
  obtain ⟨⟨y0, y1, y2, y3, y4, y5⟩, m1, m2, m3, m4, m5⟩ := hS
  refine tC_enter (nL := 3) (by decide +kernel) (by decide +kernel) rfl (Nat.le_of_ble_eq_true rfl) (fun hok => ?_)
  simp only [ent]
  refine tG_at hd kScr_refuse_0 ?_
  simp (disch := omega) only [bScr_refuse_0, rn, sm, lg, lt_, cmpP, tk, pr_, pu, swl, cs, Nat.reduceAdd, Nat.reduceLeDiff, Nat.zero_le, Nat.le_refl, true_and, and_true, Int.toNat_natCast, Int.reduceToNat, Int.reduceEq, false_implies, true_implies, Int.reduceNeg, Int.cast_ofNat_Int, y_r0, y_r1, y_r2, y_r3, y_r4, y_r5, y_r6, y_r7, y_r8, y_w5, y_w6, y_w7, y_w8, y_a1, y_a2, y_a3, y_a4, y_a5, y_b1, y_b2, y_b3, y_b4, y_b5, y_o, y_up, t_r0, t_r1, t_r2, t_r3, t_r4, t_r5, t_a, t_w1, t_w2, t_w3, t_w4, t_w5, t_wa, z0, z1, z2, y0, y1, y2, y3, y4, y5, m1, m2, m3, m4, m5, reduceIte, Nat.reduceEqDiff, true_or, or_true, Int.reduceLE, Int.reduceLT, Int.reduceAdd, Int.reduceSub, Int.reduceMul, not_true_eq_false, not_false_eq_true, implies_true, nat_s, wr_id, uR_at, uR_uR, u1_at, u1_ne, uf_at, uf_ne, iltT, iltF, ileT, ieqT, ieqF]
  exact hq
theorem ckd_1 {k : Nat} : ckd k = 1 ↔ k = 3 := by
  unfold ckd
  (repeat' split) <;> omega
theorem ckd_2 {k : Nat} (hk : k ≤ 4) : ckd k = 2 ↔ k = 4 := by
  unfold ckd
  (repeat' split) <;> omega
theorem ckd_3 {k : Nat} : ckd k = 3 ↔ k = 0 := by
  unfold ckd
  (repeat' split) <;> omega
theorem k_readNumber (hd6 : 6 ≤ d) (hK : TK Γ o) (hS : SK Γ s) (hos : o + 2 ≤ s) (hL : L ≤ 640) (hp : p ≤ L) (hT : TB L T' T) {lo hi : Int}
    (hq0 : ∀ f pl : Nat, rdN T L p lo hi = .inl (f, pl) → ∀ kd st sp v, Q (some (.inl 0)) Γ (sS (tS V o (L : Int) kd st sp v T') s m a (f : Int) (pl : Int) R K F G P))
    (hq1 : ∀ x p1 : Nat, rdN T L p lo hi = .inr (x, p1) → ∀ kd st, Q (some (.inl 1)) Γ (sS (tS V o (L : Int) kd st (p1 : Int) (x : Int) T') s m a fk fp R K F G P)) :
    tC w d nScr_readNumber [.inr (.inl s), .inr (.inl o), .inl lo, .inl hi] Γ (sS (tS V o (L : Int) kd st (p : Int) v T') s m a fk fp R K F G P) Q := by
  have hd : 4 ≤ d := by omega
  obtain ⟨z0, z1, z2⟩ := id hK
  obtain ⟨⟨y0, y1, y2, y3, y4, y5⟩, m1, m2, m3, m4, m5⟩ := id hS
  refine tC_enter (nL := 4) (by decide +kernel) (by decide +kernel) rfl (Nat.le_of_ble_eq_true rfl) (fun hok => ?_)
  simp only [ent]
  refine tG_at hd kScr_readNumber_0 ?_
  simp (disch := omega) only [bScr_readNumber_0, rn, sm, lg, lt_, cmpP, tk, pr_, pu, swl, cs, Nat.reduceAdd, Nat.reduceLeDiff, Nat.zero_le, Nat.le_refl, true_and, and_true, Int.toNat_natCast, Int.reduceToNat, Int.reduceEq, false_implies, true_implies, Int.reduceNeg, Int.cast_ofNat_Int, y_r0, y_r1, y_r2, y_r3, y_r4, y_r5, y_r6, y_r7, y_r8, y_w5, y_w6, y_w7, y_w8, y_a1, y_a2, y_a3, y_a4, y_a5, y_b1, y_b2, y_b3, y_b4, y_b5, y_o, y_up, t_r0, t_r1, t_r2, t_r3, t_r4, t_r5, t_a, t_w1, t_w2, t_w3, t_w4, t_w5, t_wa, z0, z1, z2, y0, y1, y2, y3, y4, y5, m1, m2, m3, m4, m5, reduceIte, Nat.reduceEqDiff, true_or, or_true, Int.reduceLE, Int.reduceLT, Int.reduceAdd, Int.reduceSub, Int.reduceMul, not_true_eq_false, not_false_eq_true, implies_true, nat_s, wr_id, uR_at, uR_uR, u1_at, u1_ne, uf_at, uf_ne, iltT, iltF, ileT, ieqT, ieqF]
  refine k_nextS (by omega) hK hos hL hp hT (fun kd st sp v hk => ?_)
  obtain ⟨h1, h2, h3, h4⟩ := hk
  by_cases hk3 : tkK T L p = 3
  · have hkd : kd = 1 := by rw [h1, ckd_1]; exact hk3
    have hv := h4 hk3
    have hsp := h3 (by omega)
    have hNb := tkN_b hk3
    have k35 : ¬ (lo ≤ tkN T L p ∧ tkN T L p ≤ hi) → tG w d nScr_readNumber 35 [some (.inr (.inl s)), some (.inr (.inl o)), some (.inl lo), some (.inl hi)] [] Γ (sS (tS V o (L : Int) kd st sp v T') s m a fk fp R K F G P) 0 0 Q := by
      intro hno
      refine tG_at hd kScr_readNumber_35 ?_
      simp (disch := omega) only [bScr_readNumber_35, rn, sm, lg, lt_, cmpP, tk, pr_, pu, swl, cs, Nat.reduceAdd, Nat.reduceLeDiff, Nat.zero_le, Nat.le_refl, true_and, and_true, Int.toNat_natCast, Int.reduceToNat, Int.reduceEq, false_implies, true_implies, Int.reduceNeg, Int.cast_ofNat_Int, y_r0, y_r1, y_r2, y_r3, y_r4, y_r5, y_r6, y_r7, y_r8, y_w5, y_w6, y_w7, y_w8, y_a1, y_a2, y_a3, y_a4, y_a5, y_b1, y_b2, y_b3, y_b4, y_b5, y_o, y_up, t_r0, t_r1, t_r2, t_r3, t_r4, t_r5, t_a, t_w1, t_w2, t_w3, t_w4, t_w5, t_wa, z0, z1, z2, y0, y1, y2, y3, y4, y5, m1, m2, m3, m4, m5, reduceIte, Nat.reduceEqDiff, true_or, or_true, Int.reduceLE, Int.reduceLT, Int.reduceAdd, Int.reduceSub, Int.reduceMul, not_true_eq_false, not_false_eq_true, implies_true, nat_s, wr_id, uR_at, uR_uR, u1_at, u1_ne, uf_at, uf_ne, iltT, iltF, ileT, ieqT, ieqF]
      refine k_refuse (by omega) hK hS hos ?_
      refine tG_at hd kScr_readNumber_41 ?_
      simp (disch := omega) only [bScr_readNumber_41, rn, sm, lg, lt_, cmpP, tk, pr_, pu, swl, cs, Nat.reduceAdd, Nat.reduceLeDiff, Nat.zero_le, Nat.le_refl, true_and, and_true, Int.toNat_natCast, Int.reduceToNat, Int.reduceEq, false_implies, true_implies, Int.reduceNeg, Int.cast_ofNat_Int, y_r0, y_r1, y_r2, y_r3, y_r4, y_r5, y_r6, y_r7, y_r8, y_w5, y_w6, y_w7, y_w8, y_a1, y_a2, y_a3, y_a4, y_a5, y_b1, y_b2, y_b3, y_b4, y_b5, y_o, y_up, t_r0, t_r1, t_r2, t_r3, t_r4, t_r5, t_a, t_w1, t_w2, t_w3, t_w4, t_w5, t_wa, z0, z1, z2, y0, y1, y2, y3, y4, y5, m1, m2, m3, m4, m5, reduceIte, Nat.reduceEqDiff, true_or, or_true, Int.reduceLE, Int.reduceLT, Int.reduceAdd, Int.reduceSub, Int.reduceMul, not_true_eq_false, not_false_eq_true, implies_true, nat_s, wr_id, uR_at, uR_uR, u1_at, u1_ne, uf_at, uf_ne, iltT, iltF, ileT, ieqT, ieqF]
      have := hq0 2 (tkS T L p) (by unfold rdN; rw [if_pos hk3, if_neg hno]) kd st sp v
      rw [h2]
      rw [h2] at this
      exact this
    refine tG_at hd kScr_readNumber_4 ?_
    simp (disch := omega) only [bScr_readNumber_4, rn, sm, lg, lt_, cmpP, tk, pr_, pu, swl, cs, Nat.reduceAdd, Nat.reduceLeDiff, Nat.zero_le, Nat.le_refl, true_and, and_true, Int.toNat_natCast, Int.reduceToNat, Int.reduceEq, false_implies, true_implies, Int.reduceNeg, Int.cast_ofNat_Int, y_r0, y_r1, y_r2, y_r3, y_r4, y_r5, y_r6, y_r7, y_r8, y_w5, y_w6, y_w7, y_w8, y_a1, y_a2, y_a3, y_a4, y_a5, y_b1, y_b2, y_b3, y_b4, y_b5, y_o, y_up, t_r0, t_r1, t_r2, t_r3, t_r4, t_r5, t_a, t_w1, t_w2, t_w3, t_w4, t_w5, t_wa, z0, z1, z2, y0, y1, y2, y3, y4, y5, m1, m2, m3, m4, m5, reduceIte, Nat.reduceEqDiff, true_or, or_true, Int.reduceLE, Int.reduceLT, Int.reduceAdd, Int.reduceSub, Int.reduceMul, not_true_eq_false, not_false_eq_true, implies_true, nat_s, wr_id, uR_at, uR_uR, u1_at, u1_ne, uf_at, uf_ne, iltT, iltF, ileT, ieqT, ieqF]
    by_cases hlo : lo ≤ tkN T L p
    · refine tG_at hd kScr_readNumber_19 ?_
      simp (disch := omega) only [bScr_readNumber_19, rn, sm, lg, lt_, cmpP, tk, pr_, pu, swl, cs, Nat.reduceAdd, Nat.reduceLeDiff, Nat.zero_le, Nat.le_refl, true_and, and_true, Int.toNat_natCast, Int.reduceToNat, Int.reduceEq, false_implies, true_implies, Int.reduceNeg, Int.cast_ofNat_Int, y_r0, y_r1, y_r2, y_r3, y_r4, y_r5, y_r6, y_r7, y_r8, y_w5, y_w6, y_w7, y_w8, y_a1, y_a2, y_a3, y_a4, y_a5, y_b1, y_b2, y_b3, y_b4, y_b5, y_o, y_up, t_r0, t_r1, t_r2, t_r3, t_r4, t_r5, t_a, t_w1, t_w2, t_w3, t_w4, t_w5, t_wa, z0, z1, z2, y0, y1, y2, y3, y4, y5, m1, m2, m3, m4, m5, reduceIte, Nat.reduceEqDiff, true_or, or_true, Int.reduceLE, Int.reduceLT, Int.reduceAdd, Int.reduceSub, Int.reduceMul, not_true_eq_false, not_false_eq_true, implies_true, nat_s, wr_id, uR_at, uR_uR, u1_at, u1_ne, uf_at, uf_ne, iltT, iltF, ileT, ieqT, ieqF, hv]
      by_cases hhi : tkN T L p ≤ hi
      · refine tG_at hd kScr_readNumber_27 ?_
        simp (disch := omega) only [bScr_readNumber_27, rn, sm, lg, lt_, cmpP, tk, pr_, pu, swl, cs, Nat.reduceAdd, Nat.reduceLeDiff, Nat.zero_le, Nat.le_refl, true_and, and_true, Int.toNat_natCast, Int.reduceToNat, Int.reduceEq, false_implies, true_implies, Int.reduceNeg, Int.cast_ofNat_Int, y_r0, y_r1, y_r2, y_r3, y_r4, y_r5, y_r6, y_r7, y_r8, y_w5, y_w6, y_w7, y_w8, y_a1, y_a2, y_a3, y_a4, y_a5, y_b1, y_b2, y_b3, y_b4, y_b5, y_o, y_up, t_r0, t_r1, t_r2, t_r3, t_r4, t_r5, t_a, t_w1, t_w2, t_w3, t_w4, t_w5, t_wa, z0, z1, z2, y0, y1, y2, y3, y4, y5, m1, m2, m3, m4, m5, reduceIte, Nat.reduceEqDiff, true_or, or_true, Int.reduceLE, Int.reduceLT, Int.reduceAdd, Int.reduceSub, Int.reduceMul, not_true_eq_false, not_false_eq_true, implies_true, nat_s, wr_id, uR_at, uR_uR, u1_at, u1_ne, uf_at, uf_ne, iltT, iltF, ileT, ieqT, ieqF, hv]
        refine tG_at hd kScr_readNumber_42 ?_
        simp (disch := omega) only [bScr_readNumber_42, rn, sm, lg, lt_, cmpP, tk, pr_, pu, swl, cs, Nat.reduceAdd, Nat.reduceLeDiff, Nat.zero_le, Nat.le_refl, true_and, and_true, Int.toNat_natCast, Int.reduceToNat, Int.reduceEq, false_implies, true_implies, Int.reduceNeg, Int.cast_ofNat_Int, y_r0, y_r1, y_r2, y_r3, y_r4, y_r5, y_r6, y_r7, y_r8, y_w5, y_w6, y_w7, y_w8, y_a1, y_a2, y_a3, y_a4, y_a5, y_b1, y_b2, y_b3, y_b4, y_b5, y_o, y_up, t_r0, t_r1, t_r2, t_r3, t_r4, t_r5, t_a, t_w1, t_w2, t_w3, t_w4, t_w5, t_wa, z0, z1, z2, y0, y1, y2, y3, y4, y5, m1, m2, m3, m4, m5, reduceIte, Nat.reduceEqDiff, true_or, or_true, Int.reduceLE, Int.reduceLT, Int.reduceAdd, Int.reduceSub, Int.reduceMul, not_true_eq_false, not_false_eq_true, implies_true, nat_s, wr_id, uR_at, uR_uR, u1_at, u1_ne, uf_at, uf_ne, iltT, iltF, ileT, ieqT, ieqF]
        have := hq1 (tkN T L p).toNat (tkE T L p) (by unfold rdN; rw [if_pos hk3, if_pos ⟨hlo, hhi⟩]) kd st
        rw [show (((tkN T L p).toNat : Nat) : Int) = tkN T L p by omega] at this
        rw [hsp]
        exact this
      · refine tG_at hd kScr_readNumber_27 ?_
        simp (disch := omega) only [bScr_readNumber_27, rn, sm, lg, lt_, cmpP, tk, pr_, pu, swl, cs, Nat.reduceAdd, Nat.reduceLeDiff, Nat.zero_le, Nat.le_refl, true_and, and_true, Int.toNat_natCast, Int.reduceToNat, Int.reduceEq, false_implies, true_implies, Int.reduceNeg, Int.cast_ofNat_Int, y_r0, y_r1, y_r2, y_r3, y_r4, y_r5, y_r6, y_r7, y_r8, y_w5, y_w6, y_w7, y_w8, y_a1, y_a2, y_a3, y_a4, y_a5, y_b1, y_b2, y_b3, y_b4, y_b5, y_o, y_up, t_r0, t_r1, t_r2, t_r3, t_r4, t_r5, t_a, t_w1, t_w2, t_w3, t_w4, t_w5, t_wa, z0, z1, z2, y0, y1, y2, y3, y4, y5, m1, m2, m3, m4, m5, reduceIte, Nat.reduceEqDiff, true_or, or_true, Int.reduceLE, Int.reduceLT, Int.reduceAdd, Int.reduceSub, Int.reduceMul, not_true_eq_false, not_false_eq_true, implies_true, nat_s, wr_id, uR_at, uR_uR, u1_at, u1_ne, uf_at, uf_ne, iltT, iltF, ileT, ieqT, ieqF, hv]
        rw [hv] at k35
        exact k35 (fun h => hhi h.2)
    · refine tG_at hd kScr_readNumber_19 ?_
      simp (disch := omega) only [bScr_readNumber_19, rn, sm, lg, lt_, cmpP, tk, pr_, pu, swl, cs, Nat.reduceAdd, Nat.reduceLeDiff, Nat.zero_le, Nat.le_refl, true_and, and_true, Int.toNat_natCast, Int.reduceToNat, Int.reduceEq, false_implies, true_implies, Int.reduceNeg, Int.cast_ofNat_Int, y_r0, y_r1, y_r2, y_r3, y_r4, y_r5, y_r6, y_r7, y_r8, y_w5, y_w6, y_w7, y_w8, y_a1, y_a2, y_a3, y_a4, y_a5, y_b1, y_b2, y_b3, y_b4, y_b5, y_o, y_up, t_r0, t_r1, t_r2, t_r3, t_r4, t_r5, t_a, t_w1, t_w2, t_w3, t_w4, t_w5, t_wa, z0, z1, z2, y0, y1, y2, y3, y4, y5, m1, m2, m3, m4, m5, reduceIte, Nat.reduceEqDiff, true_or, or_true, Int.reduceLE, Int.reduceLT, Int.reduceAdd, Int.reduceSub, Int.reduceMul, not_true_eq_false, not_false_eq_true, implies_true, nat_s, wr_id, uR_at, uR_uR, u1_at, u1_ne, uf_at, uf_ne, iltT, iltF, ileT, ieqT, ieqF, hv]
      rw [hv] at k35
      exact k35 (fun h => hlo h.1)
  · have hkd : ¬ kd = 1 := by rw [h1, ckd_1]; exact hk3
    refine tG_at hd kScr_readNumber_4 ?_
    simp (disch := omega) only [bScr_readNumber_4, rn, sm, lg, lt_, cmpP, tk, pr_, pu, swl, cs, Nat.reduceAdd, Nat.reduceLeDiff, Nat.zero_le, Nat.le_refl, true_and, and_true, Int.toNat_natCast, Int.reduceToNat, Int.reduceEq, false_implies, true_implies, Int.reduceNeg, Int.cast_ofNat_Int, y_r0, y_r1, y_r2, y_r3, y_r4, y_r5, y_r6, y_r7, y_r8, y_w5, y_w6, y_w7, y_w8, y_a1, y_a2, y_a3, y_a4, y_a5, y_b1, y_b2, y_b3, y_b4, y_b5, y_o, y_up, t_r0, t_r1, t_r2, t_r3, t_r4, t_r5, t_a, t_w1, t_w2, t_w3, t_w4, t_w5, t_wa, z0, z1, z2, y0, y1, y2, y3, y4, y5, m1, m2, m3, m4, m5, reduceIte, Nat.reduceEqDiff, true_or, or_true, Int.reduceLE, Int.reduceLT, Int.reduceAdd, Int.reduceSub, Int.reduceMul, not_true_eq_false, not_false_eq_true, implies_true, nat_s, wr_id, uR_at, uR_uR, u1_at, u1_ne, uf_at, uf_ne, iltT, iltF, ileT, ieqT, ieqF]
    refine tG_at hd kScr_readNumber_12 ?_
    simp (disch := omega) only [bScr_readNumber_12, rn, sm, lg, lt_, cmpP, tk, pr_, pu, swl, cs, Nat.reduceAdd, Nat.reduceLeDiff, Nat.zero_le, Nat.le_refl, true_and, and_true, Int.toNat_natCast, Int.reduceToNat, Int.reduceEq, false_implies, true_implies, Int.reduceNeg, Int.cast_ofNat_Int, y_r0, y_r1, y_r2, y_r3, y_r4, y_r5, y_r6, y_r7, y_r8, y_w5, y_w6, y_w7, y_w8, y_a1, y_a2, y_a3, y_a4, y_a5, y_b1, y_b2, y_b3, y_b4, y_b5, y_o, y_up, t_r0, t_r1, t_r2, t_r3, t_r4, t_r5, t_a, t_w1, t_w2, t_w3, t_w4, t_w5, t_wa, z0, z1, z2, y0, y1, y2, y3, y4, y5, m1, m2, m3, m4, m5, reduceIte, Nat.reduceEqDiff, true_or, or_true, Int.reduceLE, Int.reduceLT, Int.reduceAdd, Int.reduceSub, Int.reduceMul, not_true_eq_false, not_false_eq_true, implies_true, nat_s, wr_id, uR_at, uR_uR, u1_at, u1_ne, uf_at, uf_ne, iltT, iltF, ileT, ieqT, ieqF]
    refine k_refuse (by omega) hK hS hos ?_
    refine tG_at hd kScr_readNumber_18 ?_
    simp (disch := omega) only [bScr_readNumber_18, rn, sm, lg, lt_, cmpP, tk, pr_, pu, swl, cs, Nat.reduceAdd, Nat.reduceLeDiff, Nat.zero_le, Nat.le_refl, true_and, and_true, Int.toNat_natCast, Int.reduceToNat, Int.reduceEq, false_implies, true_implies, Int.reduceNeg, Int.cast_ofNat_Int, y_r0, y_r1, y_r2, y_r3, y_r4, y_r5, y_r6, y_r7, y_r8, y_w5, y_w6, y_w7, y_w8, y_a1, y_a2, y_a3, y_a4, y_a5, y_b1, y_b2, y_b3, y_b4, y_b5, y_o, y_up, t_r0, t_r1, t_r2, t_r3, t_r4, t_r5, t_a, t_w1, t_w2, t_w3, t_w4, t_w5, t_wa, z0, z1, z2, y0, y1, y2, y3, y4, y5, m1, m2, m3, m4, m5, reduceIte, Nat.reduceEqDiff, true_or, or_true, Int.reduceLE, Int.reduceLT, Int.reduceAdd, Int.reduceSub, Int.reduceMul, not_true_eq_false, not_false_eq_true, implies_true, nat_s, wr_id, uR_at, uR_uR, u1_at, u1_ne, uf_at, uf_ne, iltT, iltF, ileT, ieqT, ieqF]
    have := hq0 1 (tkS T L p) (by unfold rdN; rw [if_neg hk3]) kd st sp v
    rw [h2]
    rw [h2] at this
    exact this
theorem k_readSign (hd6 : 6 ≤ d) (hK : TK Γ o) (hS : SK Γ s) (hos : o + 2 ≤ s) (hL : L ≤ 640) (hp : p ≤ L) (hT : TB L T' T)
    (hq0 : ∀ f pl : Nat, rdS T L p = .inl (f, pl) → ∀ kd st sp v, Q (some (.inl 0)) Γ (sS (tS V o (L : Int) kd st sp v T') s m a (f : Int) (pl : Int) R K F G P))
    (hq1 : ∀ p1 : Nat, rdS T L p = .inr p1 → ∀ kd v, Q (some (.inl 1)) Γ (sS (tS V o (L : Int) kd (tkS T L p : Int) (p1 : Int) v T') s m a fk fp R K F G P)) :
    tC w d nScr_readSign [.inr (.inl s), .inr (.inl o)] Γ (sS (tS V o (L : Int) kd st (p : Int) v T') s m a fk fp R K F G P) Q := by
  have hd : 4 ≤ d := by omega
  obtain ⟨z0, z1, z2⟩ := id hK
  obtain ⟨⟨y0, y1, y2, y3, y4, y5⟩, m1, m2, m3, m4, m5⟩ := id hS
  refine tC_enter (nL := 2) (by decide +kernel) (by decide +kernel) rfl (Nat.le_of_ble_eq_true rfl) (fun hok => ?_)
  simp only [ent]
  refine tG_at hd kScr_readSign_0 ?_
  simp (disch := omega) only [bScr_readSign_0, rn, sm, lg, lt_, cmpP, tk, pr_, pu, swl, cs, Nat.reduceAdd, Nat.reduceLeDiff, Nat.zero_le, Nat.le_refl, true_and, and_true, Int.toNat_natCast, Int.reduceToNat, Int.reduceEq, false_implies, true_implies, Int.reduceNeg, Int.cast_ofNat_Int, y_r0, y_r1, y_r2, y_r3, y_r4, y_r5, y_r6, y_r7, y_r8, y_w5, y_w6, y_w7, y_w8, y_a1, y_a2, y_a3, y_a4, y_a5, y_b1, y_b2, y_b3, y_b4, y_b5, y_o, y_up, t_r0, t_r1, t_r2, t_r3, t_r4, t_r5, t_a, t_w1, t_w2, t_w3, t_w4, t_w5, t_wa, z0, z1, z2, y0, y1, y2, y3, y4, y5, m1, m2, m3, m4, m5, reduceIte, Nat.reduceEqDiff, true_or, or_true, Int.reduceLE, Int.reduceLT, Int.reduceAdd, Int.reduceSub, Int.reduceMul, not_true_eq_false, not_false_eq_true, implies_true, nat_s, wr_id, uR_at, uR_uR, u1_at, u1_ne, uf_at, uf_ne, iltT, iltF, ileT, ieqT, ieqF]
  refine k_nextS (by omega) hK hos hL hp hT (fun kd st sp v hk => ?_)
  obtain ⟨h1, h2, h3, h4⟩ := hk
  have hle := tkK_le (T := T) (L := L) (p := p)
  by_cases hk4 : tkK T L p = 4
  · have hkd : kd = 2 := by rw [h1, ckd_2 hle]; exact hk4
    have hsp := h3 (by omega)
    refine tG_at hd kScr_readSign_4 ?_
    simp (disch := omega) only [bScr_readSign_4, rn, sm, lg, lt_, cmpP, tk, pr_, pu, swl, cs, Nat.reduceAdd, Nat.reduceLeDiff, Nat.zero_le, Nat.le_refl, true_and, and_true, Int.toNat_natCast, Int.reduceToNat, Int.reduceEq, false_implies, true_implies, Int.reduceNeg, Int.cast_ofNat_Int, y_r0, y_r1, y_r2, y_r3, y_r4, y_r5, y_r6, y_r7, y_r8, y_w5, y_w6, y_w7, y_w8, y_a1, y_a2, y_a3, y_a4, y_a5, y_b1, y_b2, y_b3, y_b4, y_b5, y_o, y_up, t_r0, t_r1, t_r2, t_r3, t_r4, t_r5, t_a, t_w1, t_w2, t_w3, t_w4, t_w5, t_wa, z0, z1, z2, y0, y1, y2, y3, y4, y5, m1, m2, m3, m4, m5, reduceIte, Nat.reduceEqDiff, true_or, or_true, Int.reduceLE, Int.reduceLT, Int.reduceAdd, Int.reduceSub, Int.reduceMul, not_true_eq_false, not_false_eq_true, implies_true, nat_s, wr_id, uR_at, uR_uR, u1_at, u1_ne, uf_at, uf_ne, iltT, iltF, ileT, ieqT, ieqF]
    refine tG_at hd kScr_readSign_21 ?_
    simp (disch := omega) only [bScr_readSign_21, rn, sm, lg, lt_, cmpP, tk, pr_, pu, swl, cs, Nat.reduceAdd, Nat.reduceLeDiff, Nat.zero_le, Nat.le_refl, true_and, and_true, Int.toNat_natCast, Int.reduceToNat, Int.reduceEq, false_implies, true_implies, Int.reduceNeg, Int.cast_ofNat_Int, y_r0, y_r1, y_r2, y_r3, y_r4, y_r5, y_r6, y_r7, y_r8, y_w5, y_w6, y_w7, y_w8, y_a1, y_a2, y_a3, y_a4, y_a5, y_b1, y_b2, y_b3, y_b4, y_b5, y_o, y_up, t_r0, t_r1, t_r2, t_r3, t_r4, t_r5, t_a, t_w1, t_w2, t_w3, t_w4, t_w5, t_wa, z0, z1, z2, y0, y1, y2, y3, y4, y5, m1, m2, m3, m4, m5, reduceIte, Nat.reduceEqDiff, true_or, or_true, Int.reduceLE, Int.reduceLT, Int.reduceAdd, Int.reduceSub, Int.reduceMul, not_true_eq_false, not_false_eq_true, implies_true, nat_s, wr_id, uR_at, uR_uR, u1_at, u1_ne, uf_at, uf_ne, iltT, iltF, ileT, ieqT, ieqF]
    refine tG_at hd kScr_readSign_26 ?_
    simp (disch := omega) only [bScr_readSign_26, rn, sm, lg, lt_, cmpP, tk, pr_, pu, swl, cs, Nat.reduceAdd, Nat.reduceLeDiff, Nat.zero_le, Nat.le_refl, true_and, and_true, Int.toNat_natCast, Int.reduceToNat, Int.reduceEq, false_implies, true_implies, Int.reduceNeg, Int.cast_ofNat_Int, y_r0, y_r1, y_r2, y_r3, y_r4, y_r5, y_r6, y_r7, y_r8, y_w5, y_w6, y_w7, y_w8, y_a1, y_a2, y_a3, y_a4, y_a5, y_b1, y_b2, y_b3, y_b4, y_b5, y_o, y_up, t_r0, t_r1, t_r2, t_r3, t_r4, t_r5, t_a, t_w1, t_w2, t_w3, t_w4, t_w5, t_wa, z0, z1, z2, y0, y1, y2, y3, y4, y5, m1, m2, m3, m4, m5, reduceIte, Nat.reduceEqDiff, true_or, or_true, Int.reduceLE, Int.reduceLT, Int.reduceAdd, Int.reduceSub, Int.reduceMul, not_true_eq_false, not_false_eq_true, implies_true, nat_s, wr_id, uR_at, uR_uR, u1_at, u1_ne, uf_at, uf_ne, iltT, iltF, ileT, ieqT, ieqF]
    have := hq1 (tkE T L p) (by unfold rdS; rw [if_pos hk4]) kd v
    rw [hsp, h2]
    exact this
  · have hkd : ¬ kd = 2 := by rw [h1, ckd_2 hle]; exact hk4
    refine tG_at hd kScr_readSign_4 ?_
    simp (disch := omega) only [bScr_readSign_4, rn, sm, lg, lt_, cmpP, tk, pr_, pu, swl, cs, Nat.reduceAdd, Nat.reduceLeDiff, Nat.zero_le, Nat.le_refl, true_and, and_true, Int.toNat_natCast, Int.reduceToNat, Int.reduceEq, false_implies, true_implies, Int.reduceNeg, Int.cast_ofNat_Int, y_r0, y_r1, y_r2, y_r3, y_r4, y_r5, y_r6, y_r7, y_r8, y_w5, y_w6, y_w7, y_w8, y_a1, y_a2, y_a3, y_a4, y_a5, y_b1, y_b2, y_b3, y_b4, y_b5, y_o, y_up, t_r0, t_r1, t_r2, t_r3, t_r4, t_r5, t_a, t_w1, t_w2, t_w3, t_w4, t_w5, t_wa, z0, z1, z2, y0, y1, y2, y3, y4, y5, m1, m2, m3, m4, m5, reduceIte, Nat.reduceEqDiff, true_or, or_true, Int.reduceLE, Int.reduceLT, Int.reduceAdd, Int.reduceSub, Int.reduceMul, not_true_eq_false, not_false_eq_true, implies_true, nat_s, wr_id, uR_at, uR_uR, u1_at, u1_ne, uf_at, uf_ne, iltT, iltF, ileT, ieqT, ieqF]
    refine tG_at hd kScr_readSign_12 ?_
    simp (disch := omega) only [bScr_readSign_12, rn, sm, lg, lt_, cmpP, tk, pr_, pu, swl, cs, Nat.reduceAdd, Nat.reduceLeDiff, Nat.zero_le, Nat.le_refl, true_and, and_true, Int.toNat_natCast, Int.reduceToNat, Int.reduceEq, false_implies, true_implies, Int.reduceNeg, Int.cast_ofNat_Int, y_r0, y_r1, y_r2, y_r3, y_r4, y_r5, y_r6, y_r7, y_r8, y_w5, y_w6, y_w7, y_w8, y_a1, y_a2, y_a3, y_a4, y_a5, y_b1, y_b2, y_b3, y_b4, y_b5, y_o, y_up, t_r0, t_r1, t_r2, t_r3, t_r4, t_r5, t_a, t_w1, t_w2, t_w3, t_w4, t_w5, t_wa, z0, z1, z2, y0, y1, y2, y3, y4, y5, m1, m2, m3, m4, m5, reduceIte, Nat.reduceEqDiff, true_or, or_true, Int.reduceLE, Int.reduceLT, Int.reduceAdd, Int.reduceSub, Int.reduceMul, not_true_eq_false, not_false_eq_true, implies_true, nat_s, wr_id, uR_at, uR_uR, u1_at, u1_ne, uf_at, uf_ne, iltT, iltF, ileT, ieqT, ieqF]
    refine k_refuse (by omega) hK hS hos ?_
    refine tG_at hd kScr_readSign_18 ?_
    simp (disch := omega) only [bScr_readSign_18, rn, sm, lg, lt_, cmpP, tk, pr_, pu, swl, cs, Nat.reduceAdd, Nat.reduceLeDiff, Nat.zero_le, Nat.le_refl, true_and, and_true, Int.toNat_natCast, Int.reduceToNat, Int.reduceEq, false_implies, true_implies, Int.reduceNeg, Int.cast_ofNat_Int, y_r0, y_r1, y_r2, y_r3, y_r4, y_r5, y_r6, y_r7, y_r8, y_w5, y_w6, y_w7, y_w8, y_a1, y_a2, y_a3, y_a4, y_a5, y_b1, y_b2, y_b3, y_b4, y_b5, y_o, y_up, t_r0, t_r1, t_r2, t_r3, t_r4, t_r5, t_a, t_w1, t_w2, t_w3, t_w4, t_w5, t_wa, z0, z1, z2, y0, y1, y2, y3, y4, y5, m1, m2, m3, m4, m5, reduceIte, Nat.reduceEqDiff, true_or, or_true, Int.reduceLE, Int.reduceLT, Int.reduceAdd, Int.reduceSub, Int.reduceMul, not_true_eq_false, not_false_eq_true, implies_true, nat_s, wr_id, uR_at, uR_uR, u1_at, u1_ne, uf_at, uf_ne, iltT, iltF, ileT, ieqT, ieqF]
    refine tG_at hd kScr_readSign_25 ?_
    simp (disch := omega) only [bScr_readSign_25, rn, sm, lg, lt_, cmpP, tk, pr_, pu, swl, cs, Nat.reduceAdd, Nat.reduceLeDiff, Nat.zero_le, Nat.le_refl, true_and, and_true, Int.toNat_natCast, Int.reduceToNat, Int.reduceEq, false_implies, true_implies, Int.reduceNeg, Int.cast_ofNat_Int, y_r0, y_r1, y_r2, y_r3, y_r4, y_r5, y_r6, y_r7, y_r8, y_w5, y_w6, y_w7, y_w8, y_a1, y_a2, y_a3, y_a4, y_a5, y_b1, y_b2, y_b3, y_b4, y_b5, y_o, y_up, t_r0, t_r1, t_r2, t_r3, t_r4, t_r5, t_a, t_w1, t_w2, t_w3, t_w4, t_w5, t_wa, z0, z1, z2, y0, y1, y2, y3, y4, y5, m1, m2, m3, m4, m5, reduceIte, Nat.reduceEqDiff, true_or, or_true, Int.reduceLE, Int.reduceLT, Int.reduceAdd, Int.reduceSub, Int.reduceMul, not_true_eq_false, not_false_eq_true, implies_true, nat_s, wr_id, uR_at, uR_uR, u1_at, u1_ne, uf_at, uf_ne, iltT, iltF, ileT, ieqT, ieqF]
    refine tG_at hd kScr_readSign_26 ?_
    simp (disch := omega) only [bScr_readSign_26, rn, sm, lg, lt_, cmpP, tk, pr_, pu, swl, cs, Nat.reduceAdd, Nat.reduceLeDiff, Nat.zero_le, Nat.le_refl, true_and, and_true, Int.toNat_natCast, Int.reduceToNat, Int.reduceEq, false_implies, true_implies, Int.reduceNeg, Int.cast_ofNat_Int, y_r0, y_r1, y_r2, y_r3, y_r4, y_r5, y_r6, y_r7, y_r8, y_w5, y_w6, y_w7, y_w8, y_a1, y_a2, y_a3, y_a4, y_a5, y_b1, y_b2, y_b3, y_b4, y_b5, y_o, y_up, t_r0, t_r1, t_r2, t_r3, t_r4, t_r5, t_a, t_w1, t_w2, t_w3, t_w4, t_w5, t_wa, z0, z1, z2, y0, y1, y2, y3, y4, y5, m1, m2, m3, m4, m5, reduceIte, Nat.reduceEqDiff, true_or, or_true, Int.reduceLE, Int.reduceLT, Int.reduceAdd, Int.reduceSub, Int.reduceMul, not_true_eq_false, not_false_eq_true, implies_true, nat_s, wr_id, uR_at, uR_uR, u1_at, u1_ne, uf_at, uf_ne, iltT, iltF, ileT, ieqT, ieqF]
    have := hq0 1 (tkS T L p) (by unfold rdS; rw [if_neg hk4]) kd st sp v
    rw [h2]
    rw [h2] at this
    exact this
theorem lt_mem : ∀ c ∈ wMem, isLt c := by decide
theorem lt_ran : ∀ c ∈ wRan, isLt c := by decide
theorem k_readMembers (hd7 : 7 ≤ d) (hK : TK Γ o) (hS : SK Γ s) (hos : o + 2 ≤ s) (hL : L ≤ 640) (hT : TB L T' T) (hs0 : strI Γ V (sad w 0) wMem) (ht0 : sad w 0 < o)
    (hq0 : ∀ f pl : Nat, rdM T L 0 = .inl (f, pl) → ∀ m' : Nat, m' ≤ 6 → ∀ kd st sp v, Q (some (.inl 0)) Γ (sS (tS V o (L : Int) kd st sp v T') s (m' : Int) a (f : Int) (pl : Int) R K F G P))
    (hq1 : ∀ n p1 : Nat, rdM T L 0 = .inr (n, p1) → ∀ kd st v, Q (some (.inl 1)) Γ (sS (tS V o (L : Int) kd st (p1 : Int) v T') s (n : Int) a fk fp R K F G P)) :
    tC w d nScr_readMembers [.inr (.inl s), .inr (.inl o)] Γ (sS (tS V o (L : Int) kd st 0 v T') s 0 a fk fp R K F G P) Q := by
  have hd : 4 ≤ d := by omega
  obtain ⟨z0, z1, z2⟩ := id hK
  obtain ⟨⟨y0, y1, y2, y3, y4, y5⟩, m1, m2, m3, m4, m5⟩ := id hS
  refine tC_enter (nL := 2) (by decide +kernel) (by decide +kernel) rfl (Nat.le_of_ble_eq_true rfl) (fun hok => ?_)
  simp only [ent]
  refine tG_at hd kScr_readMembers_0 ?_
  simp (disch := omega) only [bScr_readMembers_0, rn, sm, lg, lt_, cmpP, tk, pr_, pu, swl, cs, Nat.reduceAdd, Nat.reduceLeDiff, Nat.zero_le, Nat.le_refl, true_and, and_true, Int.toNat_natCast, Int.reduceToNat, Int.reduceEq, false_implies, true_implies, Int.reduceNeg, Int.cast_ofNat_Int, y_r0, y_r1, y_r2, y_r3, y_r4, y_r5, y_r6, y_r7, y_r8, y_w5, y_w6, y_w7, y_w8, y_a1, y_a2, y_a3, y_a4, y_a5, y_b1, y_b2, y_b3, y_b4, y_b5, y_o, y_up, t_r0, t_r1, t_r2, t_r3, t_r4, t_r5, t_a, t_w1, t_w2, t_w3, t_w4, t_w5, t_wa, z0, z1, z2, y0, y1, y2, y3, y4, y5, m1, m2, m3, m4, m5, reduceIte, Nat.reduceEqDiff, true_or, or_true, Int.reduceLE, Int.reduceLT, Int.reduceAdd, Int.reduceSub, Int.reduceMul, not_true_eq_false, not_false_eq_true, implies_true, nat_s, wr_id, uR_at, uR_uR, u1_at, u1_ne, uf_at, uf_ne, iltT, iltF, ileT, ieqT, ieqF]
  refine k_nextS (p := 0) (by omega) hK hos hL (Nat.zero_le _) hT (fun kd st sp v hk => ?_)
  refine tG_at hd kScr_readMembers_4 ?_
  simp (disch := omega) only [bScr_readMembers_4, rn, sm, lg, lt_, cmpP, tk, pr_, pu, swl, cs, Nat.reduceAdd, Nat.reduceLeDiff, Nat.zero_le, Nat.le_refl, true_and, and_true, Int.toNat_natCast, Int.reduceToNat, Int.reduceEq, false_implies, true_implies, Int.reduceNeg, Int.cast_ofNat_Int, y_r0, y_r1, y_r2, y_r3, y_r4, y_r5, y_r6, y_r7, y_r8, y_w5, y_w6, y_w7, y_w8, y_a1, y_a2, y_a3, y_a4, y_a5, y_b1, y_b2, y_b3, y_b4, y_b5, y_o, y_up, t_r0, t_r1, t_r2, t_r3, t_r4, t_r5, t_a, t_w1, t_w2, t_w3, t_w4, t_w5, t_wa, z0, z1, z2, y0, y1, y2, y3, y4, y5, m1, m2, m3, m4, m5, reduceIte, Nat.reduceEqDiff, true_or, or_true, Int.reduceLE, Int.reduceLT, Int.reduceAdd, Int.reduceSub, Int.reduceMul, not_true_eq_false, not_false_eq_true, implies_true, nat_s, wr_id, uR_at, uR_uR, u1_at, u1_ne, uf_at, uf_ne, iltT, iltF, ileT, ieqT, ieqF]
  refine k_isWordS (p := 0) (by omega) hK hos hL (Nat.zero_le _) hT hk hs0 lt_mem (by decide) ht0 ?_
  by_cases hw : isW T L 0 wMem
  · have hE := wrd_b (T := T) (Nat.zero_le L) hw
    have hsp := hk.2.2.1 (by have := hw.1; omega)
    rw [bi_1 hw]
    refine tG_at hd kScr_readMembers_10 ?_
    simp (disch := omega) only [bScr_readMembers_10, rn, sm, lg, lt_, cmpP, tk, pr_, pu, swl, cs, Nat.reduceAdd, Nat.reduceLeDiff, Nat.zero_le, Nat.le_refl, true_and, and_true, Int.toNat_natCast, Int.reduceToNat, Int.reduceEq, false_implies, true_implies, Int.reduceNeg, Int.cast_ofNat_Int, y_r0, y_r1, y_r2, y_r3, y_r4, y_r5, y_r6, y_r7, y_r8, y_w5, y_w6, y_w7, y_w8, y_a1, y_a2, y_a3, y_a4, y_a5, y_b1, y_b2, y_b3, y_b4, y_b5, y_o, y_up, t_r0, t_r1, t_r2, t_r3, t_r4, t_r5, t_a, t_w1, t_w2, t_w3, t_w4, t_w5, t_wa, z0, z1, z2, y0, y1, y2, y3, y4, y5, m1, m2, m3, m4, m5, reduceIte, Nat.reduceEqDiff, true_or, or_true, Int.reduceLE, Int.reduceLT, Int.reduceAdd, Int.reduceSub, Int.reduceMul, not_true_eq_false, not_false_eq_true, implies_true, nat_s, wr_id, uR_at, uR_uR, u1_at, u1_ne, uf_at, uf_ne, iltT, iltF, ileT, ieqT, ieqF]
    refine tG_at hd kScr_readMembers_20 ?_
    simp (disch := omega) only [bScr_readMembers_20, rn, sm, lg, lt_, cmpP, tk, pr_, pu, swl, cs, Nat.reduceAdd, Nat.reduceLeDiff, Nat.zero_le, Nat.le_refl, true_and, and_true, Int.toNat_natCast, Int.reduceToNat, Int.reduceEq, false_implies, true_implies, Int.reduceNeg, Int.cast_ofNat_Int, y_r0, y_r1, y_r2, y_r3, y_r4, y_r5, y_r6, y_r7, y_r8, y_w5, y_w6, y_w7, y_w8, y_a1, y_a2, y_a3, y_a4, y_a5, y_b1, y_b2, y_b3, y_b4, y_b5, y_o, y_up, t_r0, t_r1, t_r2, t_r3, t_r4, t_r5, t_a, t_w1, t_w2, t_w3, t_w4, t_w5, t_wa, z0, z1, z2, y0, y1, y2, y3, y4, y5, m1, m2, m3, m4, m5, reduceIte, Nat.reduceEqDiff, true_or, or_true, Int.reduceLE, Int.reduceLT, Int.reduceAdd, Int.reduceSub, Int.reduceMul, not_true_eq_false, not_false_eq_true, implies_true, nat_s, wr_id, uR_at, uR_uR, u1_at, u1_ne, uf_at, uf_ne, iltT, iltF, ileT, ieqT, ieqF]
    rw [hsp]
    refine k_readNumber (by omega) hK hS hos hL hE.2 hT (fun f pl e kd st sp v => ?_) (fun x p1 e kd st => ?_)
    · refine tG_at hd kScr_readMembers_28 ?_
      simp (disch := omega) only [bScr_readMembers_28, rn, sm, lg, lt_, cmpP, tk, pr_, pu, swl, cs, Nat.reduceAdd, Nat.reduceLeDiff, Nat.zero_le, Nat.le_refl, true_and, and_true, Int.toNat_natCast, Int.reduceToNat, Int.reduceEq, false_implies, true_implies, Int.reduceNeg, Int.cast_ofNat_Int, y_r0, y_r1, y_r2, y_r3, y_r4, y_r5, y_r6, y_r7, y_r8, y_w5, y_w6, y_w7, y_w8, y_a1, y_a2, y_a3, y_a4, y_a5, y_b1, y_b2, y_b3, y_b4, y_b5, y_o, y_up, t_r0, t_r1, t_r2, t_r3, t_r4, t_r5, t_a, t_w1, t_w2, t_w3, t_w4, t_w5, t_wa, z0, z1, z2, y0, y1, y2, y3, y4, y5, m1, m2, m3, m4, m5, reduceIte, Nat.reduceEqDiff, true_or, or_true, Int.reduceLE, Int.reduceLT, Int.reduceAdd, Int.reduceSub, Int.reduceMul, not_true_eq_false, not_false_eq_true, implies_true, nat_s, wr_id, uR_at, uR_uR, u1_at, u1_ne, uf_at, uf_ne, iltT, iltF, ileT, ieqT, ieqF]
      refine tG_at hd kScr_readMembers_31 ?_
      simp (disch := omega) only [bScr_readMembers_31, rn, sm, lg, lt_, cmpP, tk, pr_, pu, swl, cs, Nat.reduceAdd, Nat.reduceLeDiff, Nat.zero_le, Nat.le_refl, true_and, and_true, Int.toNat_natCast, Int.reduceToNat, Int.reduceEq, false_implies, true_implies, Int.reduceNeg, Int.cast_ofNat_Int, y_r0, y_r1, y_r2, y_r3, y_r4, y_r5, y_r6, y_r7, y_r8, y_w5, y_w6, y_w7, y_w8, y_a1, y_a2, y_a3, y_a4, y_a5, y_b1, y_b2, y_b3, y_b4, y_b5, y_o, y_up, t_r0, t_r1, t_r2, t_r3, t_r4, t_r5, t_a, t_w1, t_w2, t_w3, t_w4, t_w5, t_wa, z0, z1, z2, y0, y1, y2, y3, y4, y5, m1, m2, m3, m4, m5, reduceIte, Nat.reduceEqDiff, true_or, or_true, Int.reduceLE, Int.reduceLT, Int.reduceAdd, Int.reduceSub, Int.reduceMul, not_true_eq_false, not_false_eq_true, implies_true, nat_s, wr_id, uR_at, uR_uR, u1_at, u1_ne, uf_at, uf_ne, iltT, iltF, ileT, ieqT, ieqF]
      exact hq0 f pl (by unfold rdM; rw [if_pos hw, e]) 0 (by omega) _ _ _ _
    · have ok := rdN_ok e
      have hp1 := rdN_p hE.2 e
      refine tG_at hd kScr_readMembers_28 ?_
      simp (disch := omega) only [bScr_readMembers_28, rn, sm, lg, lt_, cmpP, tk, pr_, pu, swl, cs, Nat.reduceAdd, Nat.reduceLeDiff, Nat.zero_le, Nat.le_refl, true_and, and_true, Int.toNat_natCast, Int.reduceToNat, Int.reduceEq, false_implies, true_implies, Int.reduceNeg, Int.cast_ofNat_Int, y_r0, y_r1, y_r2, y_r3, y_r4, y_r5, y_r6, y_r7, y_r8, y_w5, y_w6, y_w7, y_w8, y_a1, y_a2, y_a3, y_a4, y_a5, y_b1, y_b2, y_b3, y_b4, y_b5, y_o, y_up, t_r0, t_r1, t_r2, t_r3, t_r4, t_r5, t_a, t_w1, t_w2, t_w3, t_w4, t_w5, t_wa, z0, z1, z2, y0, y1, y2, y3, y4, y5, m1, m2, m3, m4, m5, reduceIte, Nat.reduceEqDiff, true_or, or_true, Int.reduceLE, Int.reduceLT, Int.reduceAdd, Int.reduceSub, Int.reduceMul, not_true_eq_false, not_false_eq_true, implies_true, nat_s, wr_id, uR_at, uR_uR, u1_at, u1_ne, uf_at, uf_ne, iltT, iltF, ileT, ieqT, ieqF]
      refine tG_at hd kScr_readMembers_33 ?_
      simp (disch := omega) only [bScr_readMembers_33, rn, sm, lg, lt_, cmpP, tk, pr_, pu, swl, cs, Nat.reduceAdd, Nat.reduceLeDiff, Nat.zero_le, Nat.le_refl, true_and, and_true, Int.toNat_natCast, Int.reduceToNat, Int.reduceEq, false_implies, true_implies, Int.reduceNeg, Int.cast_ofNat_Int, y_r0, y_r1, y_r2, y_r3, y_r4, y_r5, y_r6, y_r7, y_r8, y_w5, y_w6, y_w7, y_w8, y_a1, y_a2, y_a3, y_a4, y_a5, y_b1, y_b2, y_b3, y_b4, y_b5, y_o, y_up, t_r0, t_r1, t_r2, t_r3, t_r4, t_r5, t_a, t_w1, t_w2, t_w3, t_w4, t_w5, t_wa, z0, z1, z2, y0, y1, y2, y3, y4, y5, m1, m2, m3, m4, m5, reduceIte, Nat.reduceEqDiff, true_or, or_true, Int.reduceLE, Int.reduceLT, Int.reduceAdd, Int.reduceSub, Int.reduceMul, not_true_eq_false, not_false_eq_true, implies_true, nat_s, wr_id, uR_at, uR_uR, u1_at, u1_ne, uf_at, uf_ne, iltT, iltF, ileT, ieqT, ieqF]
      refine k_readSign (by omega) hK hS hos hL hp1 hT (fun f pl e2 kd st sp v => ?_) (fun p2 e2 kd v => ?_)
      · refine tG_at hd kScr_readMembers_46 ?_
        simp (disch := omega) only [bScr_readMembers_46, rn, sm, lg, lt_, cmpP, tk, pr_, pu, swl, cs, Nat.reduceAdd, Nat.reduceLeDiff, Nat.zero_le, Nat.le_refl, true_and, and_true, Int.toNat_natCast, Int.reduceToNat, Int.reduceEq, false_implies, true_implies, Int.reduceNeg, Int.cast_ofNat_Int, y_r0, y_r1, y_r2, y_r3, y_r4, y_r5, y_r6, y_r7, y_r8, y_w5, y_w6, y_w7, y_w8, y_a1, y_a2, y_a3, y_a4, y_a5, y_b1, y_b2, y_b3, y_b4, y_b5, y_o, y_up, t_r0, t_r1, t_r2, t_r3, t_r4, t_r5, t_a, t_w1, t_w2, t_w3, t_w4, t_w5, t_wa, z0, z1, z2, y0, y1, y2, y3, y4, y5, m1, m2, m3, m4, m5, reduceIte, Nat.reduceEqDiff, true_or, or_true, Int.reduceLE, Int.reduceLT, Int.reduceAdd, Int.reduceSub, Int.reduceMul, not_true_eq_false, not_false_eq_true, implies_true, nat_s, wr_id, uR_at, uR_uR, u1_at, u1_ne, uf_at, uf_ne, iltT, iltF, ileT, ieqT, ieqF]
        exact hq0 f pl (by unfold rdM; rw [if_pos hw, e]; dsimp only; rw [e2]) x (by omega) _ _ _ _
      · refine tG_at hd kScr_readMembers_46 ?_
        simp (disch := omega) only [bScr_readMembers_46, rn, sm, lg, lt_, cmpP, tk, pr_, pu, swl, cs, Nat.reduceAdd, Nat.reduceLeDiff, Nat.zero_le, Nat.le_refl, true_and, and_true, Int.toNat_natCast, Int.reduceToNat, Int.reduceEq, false_implies, true_implies, Int.reduceNeg, Int.cast_ofNat_Int, y_r0, y_r1, y_r2, y_r3, y_r4, y_r5, y_r6, y_r7, y_r8, y_w5, y_w6, y_w7, y_w8, y_a1, y_a2, y_a3, y_a4, y_a5, y_b1, y_b2, y_b3, y_b4, y_b5, y_o, y_up, t_r0, t_r1, t_r2, t_r3, t_r4, t_r5, t_a, t_w1, t_w2, t_w3, t_w4, t_w5, t_wa, z0, z1, z2, y0, y1, y2, y3, y4, y5, m1, m2, m3, m4, m5, reduceIte, Nat.reduceEqDiff, true_or, or_true, Int.reduceLE, Int.reduceLT, Int.reduceAdd, Int.reduceSub, Int.reduceMul, not_true_eq_false, not_false_eq_true, implies_true, nat_s, wr_id, uR_at, uR_uR, u1_at, u1_ne, uf_at, uf_ne, iltT, iltF, ileT, ieqT, ieqF]
        exact hq1 x p2 (by unfold rdM; rw [if_pos hw, e]; dsimp only; rw [e2]) _ _ _
  · rw [bi_0 hw]
    refine tG_at hd kScr_readMembers_10 ?_
    simp (disch := omega) only [bScr_readMembers_10, rn, sm, lg, lt_, cmpP, tk, pr_, pu, swl, cs, Nat.reduceAdd, Nat.reduceLeDiff, Nat.zero_le, Nat.le_refl, true_and, and_true, Int.toNat_natCast, Int.reduceToNat, Int.reduceEq, false_implies, true_implies, Int.reduceNeg, Int.cast_ofNat_Int, y_r0, y_r1, y_r2, y_r3, y_r4, y_r5, y_r6, y_r7, y_r8, y_w5, y_w6, y_w7, y_w8, y_a1, y_a2, y_a3, y_a4, y_a5, y_b1, y_b2, y_b3, y_b4, y_b5, y_o, y_up, t_r0, t_r1, t_r2, t_r3, t_r4, t_r5, t_a, t_w1, t_w2, t_w3, t_w4, t_w5, t_wa, z0, z1, z2, y0, y1, y2, y3, y4, y5, m1, m2, m3, m4, m5, reduceIte, Nat.reduceEqDiff, true_or, or_true, Int.reduceLE, Int.reduceLT, Int.reduceAdd, Int.reduceSub, Int.reduceMul, not_true_eq_false, not_false_eq_true, implies_true, nat_s, wr_id, uR_at, uR_uR, u1_at, u1_ne, uf_at, uf_ne, iltT, iltF, ileT, ieqT, ieqF]
    refine tG_at hd kScr_readMembers_13 ?_
    simp (disch := omega) only [bScr_readMembers_13, rn, sm, lg, lt_, cmpP, tk, pr_, pu, swl, cs, Nat.reduceAdd, Nat.reduceLeDiff, Nat.zero_le, Nat.le_refl, true_and, and_true, Int.toNat_natCast, Int.reduceToNat, Int.reduceEq, false_implies, true_implies, Int.reduceNeg, Int.cast_ofNat_Int, y_r0, y_r1, y_r2, y_r3, y_r4, y_r5, y_r6, y_r7, y_r8, y_w5, y_w6, y_w7, y_w8, y_a1, y_a2, y_a3, y_a4, y_a5, y_b1, y_b2, y_b3, y_b4, y_b5, y_o, y_up, t_r0, t_r1, t_r2, t_r3, t_r4, t_r5, t_a, t_w1, t_w2, t_w3, t_w4, t_w5, t_wa, z0, z1, z2, y0, y1, y2, y3, y4, y5, m1, m2, m3, m4, m5, reduceIte, Nat.reduceEqDiff, true_or, or_true, Int.reduceLE, Int.reduceLT, Int.reduceAdd, Int.reduceSub, Int.reduceMul, not_true_eq_false, not_false_eq_true, implies_true, nat_s, wr_id, uR_at, uR_uR, u1_at, u1_ne, uf_at, uf_ne, iltT, iltF, ileT, ieqT, ieqF]
    refine k_refuse (by omega) hK hS hos ?_
    refine tG_at hd kScr_readMembers_19 ?_
    simp (disch := omega) only [bScr_readMembers_19, rn, sm, lg, lt_, cmpP, tk, pr_, pu, swl, cs, Nat.reduceAdd, Nat.reduceLeDiff, Nat.zero_le, Nat.le_refl, true_and, and_true, Int.toNat_natCast, Int.reduceToNat, Int.reduceEq, false_implies, true_implies, Int.reduceNeg, Int.cast_ofNat_Int, y_r0, y_r1, y_r2, y_r3, y_r4, y_r5, y_r6, y_r7, y_r8, y_w5, y_w6, y_w7, y_w8, y_a1, y_a2, y_a3, y_a4, y_a5, y_b1, y_b2, y_b3, y_b4, y_b5, y_o, y_up, t_r0, t_r1, t_r2, t_r3, t_r4, t_r5, t_a, t_w1, t_w2, t_w3, t_w4, t_w5, t_wa, z0, z1, z2, y0, y1, y2, y3, y4, y5, m1, m2, m3, m4, m5, reduceIte, Nat.reduceEqDiff, true_or, or_true, Int.reduceLE, Int.reduceLT, Int.reduceAdd, Int.reduceSub, Int.reduceMul, not_true_eq_false, not_false_eq_true, implies_true, nat_s, wr_id, uR_at, uR_uR, u1_at, u1_ne, uf_at, uf_ne, iltT, iltF, ileT, ieqT, ieqF]
    have := hq0 1 (tkS T L 0) (by unfold rdM; rw [if_neg hw]) 0 (by omega) kd st sp v
    rw [hk.2.1]
    rw [hk.2.1] at this
    exact this
end SC
