/-! THE CLASS: now, message, would, soon, order -/
theorem nth_b {C : Nat → Nat → Int} {a b : Int} : ∀ r i l, nth C a b i r l = -1 ∨ ∃ p : Nat, i ≤ p ∧ p < i + r ∧ nth C a b i r l = (p : Int) ∧ C p 0 = a ∧ C p 1 = b ∧ 0 ≤ l
  | 0, i, l => Or.inl rfl
  | r + 1, i, l => by
    unfold nth
    split
    · next h =>
      split
      · next h0 => exact Or.inr ⟨i, Nat.le_refl _, by omega, rfl, h.1, h.2, by omega⟩
      · rcases nth_b (C := C) (a := a) (b := b) r (i + 1) (l - 1) with h' | ⟨p, h1, h2, h3, h4, h5, h6⟩
        · exact Or.inl h'
        · exact Or.inr ⟨p, by omega, by omega, h3, h4, h5, by omega⟩
    · rcases nth_b (C := C) (a := a) (b := b) r (i + 1) l with h' | ⟨p, h1, h2, h3, h4, h5, h6⟩
      · exact Or.inl h'
      · exact Or.inr ⟨p, by omega, by omega, h3, h4, h5, h6⟩
theorem pas_01 {n k W : Nat} {X : NT} (g : GJ n k W X) : pasF n k 0 X = pasF n k 1 X := by
  unfold pasF
  have h1 : cnt (fun i => 0 < X.2.1 i 30 ∧ 0 ≤ X.2.1 i 30) n = cnt (fun i => 0 < X.2.1 i 30 ∧ 1 ≤ X.2.1 i 30) n := cnt_cg n (fun j hj => by constructor <;> (intro h; omega))
  have h2 : cnt (fun j => X.2.2 j 2 = 1 ∧ 0 ≤ X.2.2 j 5) k = cnt (fun j => X.2.2 j 2 = 1 ∧ 1 ≤ X.2.2 j 5) k := cnt_cg k (fun j hj => by
    obtain ⟨-, -, -, -, -, h⟩ := g.1.1.2.2.2.2.2.2.1 j hj
    constructor
    · intro hh
      exact ⟨hh.1, (h hh.1).1.1⟩
    · intro hh
      exact ⟨hh.1, by omega⟩)
  rw [h1, h2]
theorem handF_h {n m : Nat} {X : NT} {c : Int} : (handF n m X 0 c).2.2.1 = 0 ∨ (handF n m X 0 c).2.2.1 = 1 := by
  unfold handF
  split
  · exact Or.inl rfl
  · exact Or.inr rfl
theorem delF_h {n p : Nat} {X : NT} : (delF n p X).2.2.1 = 0 ∨ (delF n p X).2.2.1 = 1 := by
  show (delF1 n (X.2.2 p) (tkF p X)).2.2.1 = 0 ∨ (delF1 n (X.2.2 p) (tkF p X)).2.2.1 = 1
  unfold delF1
  split
  · unfold askedF
    split
    · exact handF_h
    · exact Or.inl rfl
  · split
    · unfold passedF
      split
      · exact Or.inl rfl
      · split
        · exact Or.inl rfl
        · split
          · exact handF_h
          · exact Or.inl rfl
    · split
      · unfold doubtedF
        split
        · exact Or.inl rfl
        · split <;> exact Or.inl rfl
      · split
        · exact Or.inl rfl
        · unfold votedF
          split
          · exact Or.inl rfl
          · split <;> exact Or.inl rfl
section CM
variable {w : WP} {d : Nat} {Γ : GM} {V : VH} {Q : QT} {x Z L n k W c hh : Nat} {T : Nat → Int} {fk : Int} {X : NT} {Y : Nat → NT} {ad : Nat → Nat} {tb : Nat → TBL}
theorem LY.b (h : LY Γ V x Z ad tb hh) (hZ : x + 595 ≤ Z + 1) {u : Nat} (hu : u < 2 + hh) : x + 11 ≤ ad u := by
  have := (h.1 u hu).2.2.2.1
  omega
theorem LY.f (h : LY Γ V x Z ad tb hh) {u j : Nat} (hu : u < 2 + hh) : V (ad u) j = nC (ad u) (tb u).1 (tb u).2.1 (tb u).2.2.1 (tb u).2.2.2 0 j := (h.1 u hu).2.2.1 0 j (by omega)
theorem CI.paper (hC : CI w Γ V x Z L T fk n k W X c Y) (hc1 : c ≤ hh) (hh10 : hh ≤ 10) (cx : CX Γ V x ad fk c hh) (ly : LY Γ V x Z ad tb hh) (cm : CM tb n k W X c Y) {A : Nat → Int} {B S : Nat → Nat → Int} {q : Nat → Nat} (hq : QP q) : CI w Γ (nP V (ad 1) A B S q) x Z L T fk n k W X c Y ∧ FR x Z V (nP V (ad 1) A B S q) := by
  obtain ⟨h1, h2, h3, h4, -⟩ := hC
  have b1 := ly.b h1.1 (u := 1) (by omega)
  refine ⟨⟨h1, h2.fr (fun c j hc => nP_o (by omega)), h3.fr (fun c j a b => nP_o (by omega)), h4.fr (fun c j a b => nP_o (by omega)), ad, _, hh, hc1, hh10, cx.fr (fun b j hb => nP_o (by omega)), ly.set (u := 1) (by omega) hq, ?_⟩, FR.net ly (by omega)⟩
  exact ⟨⟨cm.1.1, cm.1.2.1, by rw [ut_ne (by omega)]; exact cm.1.2.2⟩, fun i hi => by rw [ut_ne (by omega)]; exact cm.2 i hi⟩
theorem L_copy (hd6 : 6 ≤ d) (ly : LY Γ V x Z ad tb hh) (g : GJ n k W X) (hR : RN n W (tb 0).1 (tb 0).2.1 (tb 0).2.2.1 (tb 0).2.2.2 X)
    (hq : ∀ A' B' S', RN n W A' B' S' (tb 1).2.2.2 X → A' 6 = (tb 0).1 6 → Q none Γ (nP V (ad 1) A' B' S' (tb 1).2.2.2)) : tC w d nNet_copyFrom [.inr (.inl (ad 1)), .inr (.inl (ad 0))] Γ V Q := by
  have e0 := (ly.1 0 (by omega)).2.2.1.eq
  have e1 := (ly.1 1 (by omega)).2.2.1.eq
  have dis := ly.2 0 1 (by omega) (by omega) (by omega)
  have := k_copyNet (w := w) (Q := Q) (V := V) (A := (tb 1).1) (B := (tb 1).2.1) (S := (tb 1).2.2.1) hd6 (ly.1 1 (by omega)).1 (ly.1 0 (by omega)).1 dis g hR (ly.1 1 (by omega)).2.1 (fun A' B' S' r1 r2 r3 => by rw [e0]; exact hq A' B' S' r1 r2)
  rw [e0, e1] at this
  exact this
theorem T_now (hd7 : 7 ≤ d) (hC : CI w Γ V x Z L T fk n k W X c Y) {a : Int} (hq : Q (some (.inl (nowF n k c L X a))) Γ V) : tC w d nTok_now [.inr (.inl x), .inl a] Γ V Q := by
  have hd : 4 ≤ d := by omega
  obtain ⟨⟨c1, c2, c3⟩, cs_, ⟨⟨z0, z1, z2⟩, cl, kd, st, sp, v, T', ct0, ct1, ct2⟩, cc, ad, tb, hh, ch, ch10, ⟨⟨g8, g1, g15, g10⟩, ⟨v0, v1, v2, v3, v4, v5⟩, u0, u1, u2⟩, ly, cm⟩ := id hC
  have n0 := (ly.1 0 (by omega)).1.1.1
  have n1 := (ly.1 1 (by omega)).1.1.1
  have eN := (ly.1 0 (by omega)).2.2.1.eq
  have hN := (ly.1 0 (by omega)).1
  have f := fun j => ly.f (u := 0) (j := j) (by omega)
  obtain ⟨rA, -⟩ := id cm.1.2.2
  obtain ⟨n0', n5, hn2, hn6, hk41, hW⟩ := cm.1.1.1.A
  have f3 : V (ad 0) 3 = (n : Int) := (f 3).trans ((rA 0 (by omega)).trans n0')
  have f4 : V (ad 0) 4 = (k : Int) := (f 4).trans ((rA 5 (by omega)).trans n5)
  have f5 : V (ad 0) 5 = X.1 1 := (f 5).trans (rA 1 (by omega))
  have f6 : V (ad 0) 6 = X.1 2 := (f 6).trans (rA 2 (by omega))
  have f7 : V (ad 0) 7 = X.1 3 := (f 7).trans (rA 3 (by omega))
  have f8 : V (ad 0) 8 = X.1 4 := (f 8).trans (rA 4 (by omega))
  have fL : V (x + 1) 1 = (L : Int) := ct0 1
  refine tC_enter (nL := 2) (by decide +kernel) (by decide +kernel) rfl (Nat.le_of_ble_eq_true rfl) (fun hok => ?_)
  simp only [ent]
  by_cases ha : 0 ≤ a ∧ a ≤ 12
  · have : a = 0 ∨ a = 1 ∨ a = 2 ∨ a = 3 ∨ a = 4 ∨ a = 5 ∨ a = 6 ∨ a = 7 ∨ a = 8 ∨ a = 9 ∨ a = 10 ∨ a = 11 ∨ a = 12 := by omega
    rcases this with rfl | rfl | rfl | rfl | rfl | rfl | rfl | rfl | rfl | rfl | rfl | rfl | rfl
    all_goals simp only [nowF, Int.reduceEq, reduceIte] at hq
    · refine tG_at hd kTok_now_0 ?_
      simp (disch := omega) only [bTok_now_0, rn, sm, lg, lt_, cmpP, tk, pr_, pu, swl, cs, Nat.reduceAdd, Nat.reduceLeDiff, Nat.zero_le, Nat.le_refl, true_and, and_true, Int.toNat_natCast, Int.reduceToNat, Int.reduceEq, false_implies, true_implies, Int.reduceNeg, Int.cast_ofNat_Int, g8, g1, g15, g10, v0, v1, v2, v3, v4, v5, u0, u1, z0, n0, n1, reduceIte, Nat.reduceEqDiff, true_or, or_true, Int.reduceLE, Int.reduceLT, Int.reduceAdd, Int.reduceSub, Int.reduceMul, not_true_eq_false, not_false_eq_true, implies_true, nat_s, wr_id, uR_at, uR_uR, u1_at, u1_ne, uf_at, uf_ne, iltT, iltF, ileT, ieqT, ieqF, or_self]
      refine tG_at hd kTok_now_68 ?_
      simp (disch := omega) only [bTok_now_68, rn, sm, lg, lt_, cmpP, tk, pr_, pu, swl, cs, Nat.reduceAdd, Nat.reduceLeDiff, Nat.zero_le, Nat.le_refl, true_and, and_true, Int.toNat_natCast, Int.reduceToNat, Int.reduceEq, false_implies, true_implies, Int.reduceNeg, Int.cast_ofNat_Int, g8, g1, g15, g10, v0, v1, v2, v3, v4, v5, u0, u1, z0, n0, n1, reduceIte, Nat.reduceEqDiff, true_or, or_true, Int.reduceLE, Int.reduceLT, Int.reduceAdd, Int.reduceSub, Int.reduceMul, not_true_eq_false, not_false_eq_true, implies_true, nat_s, wr_id, uR_at, uR_uR, u1_at, u1_ne, uf_at, uf_ne, iltT, iltF, ileT, ieqT, ieqF, f3]
      exact hq
    · refine tG_at hd kTok_now_0 ?_
      simp (disch := omega) only [bTok_now_0, rn, sm, lg, lt_, cmpP, tk, pr_, pu, swl, cs, Nat.reduceAdd, Nat.reduceLeDiff, Nat.zero_le, Nat.le_refl, true_and, and_true, Int.toNat_natCast, Int.reduceToNat, Int.reduceEq, false_implies, true_implies, Int.reduceNeg, Int.cast_ofNat_Int, g8, g1, g15, g10, v0, v1, v2, v3, v4, v5, u0, u1, z0, n0, n1, reduceIte, Nat.reduceEqDiff, true_or, or_true, Int.reduceLE, Int.reduceLT, Int.reduceAdd, Int.reduceSub, Int.reduceMul, not_true_eq_false, not_false_eq_true, implies_true, nat_s, wr_id, uR_at, uR_uR, u1_at, u1_ne, uf_at, uf_ne, iltT, iltF, ileT, ieqT, ieqF, or_self]
      refine tG_at hd kTok_now_76 ?_
      simp (disch := omega) only [bTok_now_76, rn, sm, lg, lt_, cmpP, tk, pr_, pu, swl, cs, Nat.reduceAdd, Nat.reduceLeDiff, Nat.zero_le, Nat.le_refl, true_and, and_true, Int.toNat_natCast, Int.reduceToNat, Int.reduceEq, false_implies, true_implies, Int.reduceNeg, Int.cast_ofNat_Int, g8, g1, g15, g10, v0, v1, v2, v3, v4, v5, u0, u1, z0, n0, n1, reduceIte, Nat.reduceEqDiff, true_or, or_true, Int.reduceLE, Int.reduceLT, Int.reduceAdd, Int.reduceSub, Int.reduceMul, not_true_eq_false, not_false_eq_true, implies_true, nat_s, wr_id, uR_at, uR_uR, u1_at, u1_ne, uf_at, uf_ne, iltT, iltF, ileT, ieqT, ieqF, f4]
      exact hq
    · refine tG_at hd kTok_now_0 ?_
      simp (disch := omega) only [bTok_now_0, rn, sm, lg, lt_, cmpP, tk, pr_, pu, swl, cs, Nat.reduceAdd, Nat.reduceLeDiff, Nat.zero_le, Nat.le_refl, true_and, and_true, Int.toNat_natCast, Int.reduceToNat, Int.reduceEq, false_implies, true_implies, Int.reduceNeg, Int.cast_ofNat_Int, g8, g1, g15, g10, v0, v1, v2, v3, v4, v5, u0, u1, z0, n0, n1, reduceIte, Nat.reduceEqDiff, true_or, or_true, Int.reduceLE, Int.reduceLT, Int.reduceAdd, Int.reduceSub, Int.reduceMul, not_true_eq_false, not_false_eq_true, implies_true, nat_s, wr_id, uR_at, uR_uR, u1_at, u1_ne, uf_at, uf_ne, iltT, iltF, ileT, ieqT, ieqF, or_self]
      refine tG_at hd kTok_now_84 ?_
      simp (disch := omega) only [bTok_now_84, rn, sm, lg, lt_, cmpP, tk, pr_, pu, swl, cs, Nat.reduceAdd, Nat.reduceLeDiff, Nat.zero_le, Nat.le_refl, true_and, and_true, Int.toNat_natCast, Int.reduceToNat, Int.reduceEq, false_implies, true_implies, Int.reduceNeg, Int.cast_ofNat_Int, g8, g1, g15, g10, v0, v1, v2, v3, v4, v5, u0, u1, z0, n0, n1, reduceIte, Nat.reduceEqDiff, true_or, or_true, Int.reduceLE, Int.reduceLT, Int.reduceAdd, Int.reduceSub, Int.reduceMul, not_true_eq_false, not_false_eq_true, implies_true, nat_s, wr_id, uR_at, uR_uR, u1_at, u1_ne, uf_at, uf_ne, iltT, iltF, ileT, ieqT, ieqF]
      rw [← eN]
      refine k_passesFrom (by omega) hN cm.1.1 cm.1.2.2 ?_
      rw [eN]
      refine tG_at hd kTok_now_92 ?_
      simp (disch := omega) only [bTok_now_92, rn, sm, lg, lt_, cmpP, tk, pr_, pu, swl, cs, Nat.reduceAdd, Nat.reduceLeDiff, Nat.zero_le, Nat.le_refl, true_and, and_true, Int.toNat_natCast, Int.reduceToNat, Int.reduceEq, false_implies, true_implies, Int.reduceNeg, Int.cast_ofNat_Int, g8, g1, g15, g10, v0, v1, v2, v3, v4, v5, u0, u1, z0, n0, n1, reduceIte, Nat.reduceEqDiff, true_or, or_true, Int.reduceLE, Int.reduceLT, Int.reduceAdd, Int.reduceSub, Int.reduceMul, not_true_eq_false, not_false_eq_true, implies_true, nat_s, wr_id, uR_at, uR_uR, u1_at, u1_ne, uf_at, uf_ne, iltT, iltF, ileT, ieqT, ieqF]
      rw [pas_01 cm.1.1]
      exact hq
    · refine tG_at hd kTok_now_0 ?_
      simp (disch := omega) only [bTok_now_0, rn, sm, lg, lt_, cmpP, tk, pr_, pu, swl, cs, Nat.reduceAdd, Nat.reduceLeDiff, Nat.zero_le, Nat.le_refl, true_and, and_true, Int.toNat_natCast, Int.reduceToNat, Int.reduceEq, false_implies, true_implies, Int.reduceNeg, Int.cast_ofNat_Int, g8, g1, g15, g10, v0, v1, v2, v3, v4, v5, u0, u1, z0, n0, n1, reduceIte, Nat.reduceEqDiff, true_or, or_true, Int.reduceLE, Int.reduceLT, Int.reduceAdd, Int.reduceSub, Int.reduceMul, not_true_eq_false, not_false_eq_true, implies_true, nat_s, wr_id, uR_at, uR_uR, u1_at, u1_ne, uf_at, uf_ne, iltT, iltF, ileT, ieqT, ieqF, or_self]
      refine tG_at hd kTok_now_93 ?_
      simp (disch := omega) only [bTok_now_93, rn, sm, lg, lt_, cmpP, tk, pr_, pu, swl, cs, Nat.reduceAdd, Nat.reduceLeDiff, Nat.zero_le, Nat.le_refl, true_and, and_true, Int.toNat_natCast, Int.reduceToNat, Int.reduceEq, false_implies, true_implies, Int.reduceNeg, Int.cast_ofNat_Int, g8, g1, g15, g10, v0, v1, v2, v3, v4, v5, u0, u1, z0, n0, n1, reduceIte, Nat.reduceEqDiff, true_or, or_true, Int.reduceLE, Int.reduceLT, Int.reduceAdd, Int.reduceSub, Int.reduceMul, not_true_eq_false, not_false_eq_true, implies_true, nat_s, wr_id, uR_at, uR_uR, u1_at, u1_ne, uf_at, uf_ne, iltT, iltF, ileT, ieqT, ieqF]
      rw [← eN]
      refine k_greatestMark (by omega) hN cm.1.1 cm.1.2.2 ?_
      rw [eN]
      refine tG_at hd kTok_now_104 ?_
      simp (disch := omega) only [bTok_now_104, rn, sm, lg, lt_, cmpP, tk, pr_, pu, swl, cs, Nat.reduceAdd, Nat.reduceLeDiff, Nat.zero_le, Nat.le_refl, true_and, and_true, Int.toNat_natCast, Int.reduceToNat, Int.reduceEq, false_implies, true_implies, Int.reduceNeg, Int.cast_ofNat_Int, g8, g1, g15, g10, v0, v1, v2, v3, v4, v5, u0, u1, z0, n0, n1, reduceIte, Nat.reduceEqDiff, true_or, or_true, Int.reduceLE, Int.reduceLT, Int.reduceAdd, Int.reduceSub, Int.reduceMul, not_true_eq_false, not_false_eq_true, implies_true, nat_s, wr_id, uR_at, uR_uR, u1_at, u1_ne, uf_at, uf_ne, iltT, iltF, ileT, ieqT, ieqF]
      rw [← eN]
      refine k_passesFrom (by omega) hN cm.1.1 cm.1.2.2 ?_
      rw [eN]
      refine tG_at hd kTok_now_107 ?_
      simp (disch := omega) only [bTok_now_107, rn, sm, lg, lt_, cmpP, tk, pr_, pu, swl, cs, Nat.reduceAdd, Nat.reduceLeDiff, Nat.zero_le, Nat.le_refl, true_and, and_true, Int.toNat_natCast, Int.reduceToNat, Int.reduceEq, false_implies, true_implies, Int.reduceNeg, Int.cast_ofNat_Int, g8, g1, g15, g10, v0, v1, v2, v3, v4, v5, u0, u1, z0, n0, n1, reduceIte, Nat.reduceEqDiff, true_or, or_true, Int.reduceLE, Int.reduceLT, Int.reduceAdd, Int.reduceSub, Int.reduceMul, not_true_eq_false, not_false_eq_true, implies_true, nat_s, wr_id, uR_at, uR_uR, u1_at, u1_ne, uf_at, uf_ne, iltT, iltF, ileT, ieqT, ieqF]
      exact hq
    · refine tG_at hd kTok_now_0 ?_
      simp (disch := omega) only [bTok_now_0, rn, sm, lg, lt_, cmpP, tk, pr_, pu, swl, cs, Nat.reduceAdd, Nat.reduceLeDiff, Nat.zero_le, Nat.le_refl, true_and, and_true, Int.toNat_natCast, Int.reduceToNat, Int.reduceEq, false_implies, true_implies, Int.reduceNeg, Int.cast_ofNat_Int, g8, g1, g15, g10, v0, v1, v2, v3, v4, v5, u0, u1, z0, n0, n1, reduceIte, Nat.reduceEqDiff, true_or, or_true, Int.reduceLE, Int.reduceLT, Int.reduceAdd, Int.reduceSub, Int.reduceMul, not_true_eq_false, not_false_eq_true, implies_true, nat_s, wr_id, uR_at, uR_uR, u1_at, u1_ne, uf_at, uf_ne, iltT, iltF, ileT, ieqT, ieqF, or_self]
      refine tG_at hd kTok_now_108 ?_
      simp (disch := omega) only [bTok_now_108, rn, sm, lg, lt_, cmpP, tk, pr_, pu, swl, cs, Nat.reduceAdd, Nat.reduceLeDiff, Nat.zero_le, Nat.le_refl, true_and, and_true, Int.toNat_natCast, Int.reduceToNat, Int.reduceEq, false_implies, true_implies, Int.reduceNeg, Int.cast_ofNat_Int, g8, g1, g15, g10, v0, v1, v2, v3, v4, v5, u0, u1, z0, n0, n1, reduceIte, Nat.reduceEqDiff, true_or, or_true, Int.reduceLE, Int.reduceLT, Int.reduceAdd, Int.reduceSub, Int.reduceMul, not_true_eq_false, not_false_eq_true, implies_true, nat_s, wr_id, uR_at, uR_uR, u1_at, u1_ne, uf_at, uf_ne, iltT, iltF, ileT, ieqT, ieqF, f5]
      exact hq
    · refine tG_at hd kTok_now_0 ?_
      simp (disch := omega) only [bTok_now_0, rn, sm, lg, lt_, cmpP, tk, pr_, pu, swl, cs, Nat.reduceAdd, Nat.reduceLeDiff, Nat.zero_le, Nat.le_refl, true_and, and_true, Int.toNat_natCast, Int.reduceToNat, Int.reduceEq, false_implies, true_implies, Int.reduceNeg, Int.cast_ofNat_Int, g8, g1, g15, g10, v0, v1, v2, v3, v4, v5, u0, u1, z0, n0, n1, reduceIte, Nat.reduceEqDiff, true_or, or_true, Int.reduceLE, Int.reduceLT, Int.reduceAdd, Int.reduceSub, Int.reduceMul, not_true_eq_false, not_false_eq_true, implies_true, nat_s, wr_id, uR_at, uR_uR, u1_at, u1_ne, uf_at, uf_ne, iltT, iltF, ileT, ieqT, ieqF, or_self]
      refine tG_at hd kTok_now_116 ?_
      simp (disch := omega) only [bTok_now_116, rn, sm, lg, lt_, cmpP, tk, pr_, pu, swl, cs, Nat.reduceAdd, Nat.reduceLeDiff, Nat.zero_le, Nat.le_refl, true_and, and_true, Int.toNat_natCast, Int.reduceToNat, Int.reduceEq, false_implies, true_implies, Int.reduceNeg, Int.cast_ofNat_Int, g8, g1, g15, g10, v0, v1, v2, v3, v4, v5, u0, u1, z0, n0, n1, reduceIte, Nat.reduceEqDiff, true_or, or_true, Int.reduceLE, Int.reduceLT, Int.reduceAdd, Int.reduceSub, Int.reduceMul, not_true_eq_false, not_false_eq_true, implies_true, nat_s, wr_id, uR_at, uR_uR, u1_at, u1_ne, uf_at, uf_ne, iltT, iltF, ileT, ieqT, ieqF, f6]
      exact hq
    · refine tG_at hd kTok_now_0 ?_
      simp (disch := omega) only [bTok_now_0, rn, sm, lg, lt_, cmpP, tk, pr_, pu, swl, cs, Nat.reduceAdd, Nat.reduceLeDiff, Nat.zero_le, Nat.le_refl, true_and, and_true, Int.toNat_natCast, Int.reduceToNat, Int.reduceEq, false_implies, true_implies, Int.reduceNeg, Int.cast_ofNat_Int, g8, g1, g15, g10, v0, v1, v2, v3, v4, v5, u0, u1, z0, n0, n1, reduceIte, Nat.reduceEqDiff, true_or, or_true, Int.reduceLE, Int.reduceLT, Int.reduceAdd, Int.reduceSub, Int.reduceMul, not_true_eq_false, not_false_eq_true, implies_true, nat_s, wr_id, uR_at, uR_uR, u1_at, u1_ne, uf_at, uf_ne, iltT, iltF, ileT, ieqT, ieqF, or_self]
      refine tG_at hd kTok_now_124 ?_
      simp (disch := omega) only [bTok_now_124, rn, sm, lg, lt_, cmpP, tk, pr_, pu, swl, cs, Nat.reduceAdd, Nat.reduceLeDiff, Nat.zero_le, Nat.le_refl, true_and, and_true, Int.toNat_natCast, Int.reduceToNat, Int.reduceEq, false_implies, true_implies, Int.reduceNeg, Int.cast_ofNat_Int, g8, g1, g15, g10, v0, v1, v2, v3, v4, v5, u0, u1, z0, n0, n1, reduceIte, Nat.reduceEqDiff, true_or, or_true, Int.reduceLE, Int.reduceLT, Int.reduceAdd, Int.reduceSub, Int.reduceMul, not_true_eq_false, not_false_eq_true, implies_true, nat_s, wr_id, uR_at, uR_uR, u1_at, u1_ne, uf_at, uf_ne, iltT, iltF, ileT, ieqT, ieqF, f7]
      exact hq
    · refine tG_at hd kTok_now_0 ?_
      simp (disch := omega) only [bTok_now_0, rn, sm, lg, lt_, cmpP, tk, pr_, pu, swl, cs, Nat.reduceAdd, Nat.reduceLeDiff, Nat.zero_le, Nat.le_refl, true_and, and_true, Int.toNat_natCast, Int.reduceToNat, Int.reduceEq, false_implies, true_implies, Int.reduceNeg, Int.cast_ofNat_Int, g8, g1, g15, g10, v0, v1, v2, v3, v4, v5, u0, u1, z0, n0, n1, reduceIte, Nat.reduceEqDiff, true_or, or_true, Int.reduceLE, Int.reduceLT, Int.reduceAdd, Int.reduceSub, Int.reduceMul, not_true_eq_false, not_false_eq_true, implies_true, nat_s, wr_id, uR_at, uR_uR, u1_at, u1_ne, uf_at, uf_ne, iltT, iltF, ileT, ieqT, ieqF, or_self]
      refine tG_at hd kTok_now_132 ?_
      simp (disch := omega) only [bTok_now_132, rn, sm, lg, lt_, cmpP, tk, pr_, pu, swl, cs, Nat.reduceAdd, Nat.reduceLeDiff, Nat.zero_le, Nat.le_refl, true_and, and_true, Int.toNat_natCast, Int.reduceToNat, Int.reduceEq, false_implies, true_implies, Int.reduceNeg, Int.cast_ofNat_Int, g8, g1, g15, g10, v0, v1, v2, v3, v4, v5, u0, u1, z0, n0, n1, reduceIte, Nat.reduceEqDiff, true_or, or_true, Int.reduceLE, Int.reduceLT, Int.reduceAdd, Int.reduceSub, Int.reduceMul, not_true_eq_false, not_false_eq_true, implies_true, nat_s, wr_id, uR_at, uR_uR, u1_at, u1_ne, uf_at, uf_ne, iltT, iltF, ileT, ieqT, ieqF, f8]
      exact hq
    · refine tG_at hd kTok_now_0 ?_
      simp (disch := omega) only [bTok_now_0, rn, sm, lg, lt_, cmpP, tk, pr_, pu, swl, cs, Nat.reduceAdd, Nat.reduceLeDiff, Nat.zero_le, Nat.le_refl, true_and, and_true, Int.toNat_natCast, Int.reduceToNat, Int.reduceEq, false_implies, true_implies, Int.reduceNeg, Int.cast_ofNat_Int, g8, g1, g15, g10, v0, v1, v2, v3, v4, v5, u0, u1, z0, n0, n1, reduceIte, Nat.reduceEqDiff, true_or, or_true, Int.reduceLE, Int.reduceLT, Int.reduceAdd, Int.reduceSub, Int.reduceMul, not_true_eq_false, not_false_eq_true, implies_true, nat_s, wr_id, uR_at, uR_uR, u1_at, u1_ne, uf_at, uf_ne, iltT, iltF, ileT, ieqT, ieqF, or_self]
      refine tG_at hd kTok_now_140 ?_
      simp (disch := omega) only [bTok_now_140, rn, sm, lg, lt_, cmpP, tk, pr_, pu, swl, cs, Nat.reduceAdd, Nat.reduceLeDiff, Nat.zero_le, Nat.le_refl, true_and, and_true, Int.toNat_natCast, Int.reduceToNat, Int.reduceEq, false_implies, true_implies, Int.reduceNeg, Int.cast_ofNat_Int, g8, g1, g15, g10, v0, v1, v2, v3, v4, v5, u0, u1, z0, n0, n1, reduceIte, Nat.reduceEqDiff, true_or, or_true, Int.reduceLE, Int.reduceLT, Int.reduceAdd, Int.reduceSub, Int.reduceMul, not_true_eq_false, not_false_eq_true, implies_true, nat_s, wr_id, uR_at, uR_uR, u1_at, u1_ne, uf_at, uf_ne, iltT, iltF, ileT, ieqT, ieqF]
      rw [← eN]
      refine k_bitsOf (f := 2) (by omega) hN cm.1.1 cm.1.2.2 (Or.inl ⟨rfl, rfl⟩) ?_
      rw [eN]
      refine tG_at hd kTok_now_148 ?_
      simp (disch := omega) only [bTok_now_148, rn, sm, lg, lt_, cmpP, tk, pr_, pu, swl, cs, Nat.reduceAdd, Nat.reduceLeDiff, Nat.zero_le, Nat.le_refl, true_and, and_true, Int.toNat_natCast, Int.reduceToNat, Int.reduceEq, false_implies, true_implies, Int.reduceNeg, Int.cast_ofNat_Int, g8, g1, g15, g10, v0, v1, v2, v3, v4, v5, u0, u1, z0, n0, n1, reduceIte, Nat.reduceEqDiff, true_or, or_true, Int.reduceLE, Int.reduceLT, Int.reduceAdd, Int.reduceSub, Int.reduceMul, not_true_eq_false, not_false_eq_true, implies_true, nat_s, wr_id, uR_at, uR_uR, u1_at, u1_ne, uf_at, uf_ne, iltT, iltF, ileT, ieqT, ieqF]
      exact hq
    · refine tG_at hd kTok_now_0 ?_
      simp (disch := omega) only [bTok_now_0, rn, sm, lg, lt_, cmpP, tk, pr_, pu, swl, cs, Nat.reduceAdd, Nat.reduceLeDiff, Nat.zero_le, Nat.le_refl, true_and, and_true, Int.toNat_natCast, Int.reduceToNat, Int.reduceEq, false_implies, true_implies, Int.reduceNeg, Int.cast_ofNat_Int, g8, g1, g15, g10, v0, v1, v2, v3, v4, v5, u0, u1, z0, n0, n1, reduceIte, Nat.reduceEqDiff, true_or, or_true, Int.reduceLE, Int.reduceLT, Int.reduceAdd, Int.reduceSub, Int.reduceMul, not_true_eq_false, not_false_eq_true, implies_true, nat_s, wr_id, uR_at, uR_uR, u1_at, u1_ne, uf_at, uf_ne, iltT, iltF, ileT, ieqT, ieqF, or_self]
      refine tG_at hd kTok_now_149 ?_
      simp (disch := omega) only [bTok_now_149, rn, sm, lg, lt_, cmpP, tk, pr_, pu, swl, cs, Nat.reduceAdd, Nat.reduceLeDiff, Nat.zero_le, Nat.le_refl, true_and, and_true, Int.toNat_natCast, Int.reduceToNat, Int.reduceEq, false_implies, true_implies, Int.reduceNeg, Int.cast_ofNat_Int, g8, g1, g15, g10, v0, v1, v2, v3, v4, v5, u0, u1, z0, n0, n1, reduceIte, Nat.reduceEqDiff, true_or, or_true, Int.reduceLE, Int.reduceLT, Int.reduceAdd, Int.reduceSub, Int.reduceMul, not_true_eq_false, not_false_eq_true, implies_true, nat_s, wr_id, uR_at, uR_uR, u1_at, u1_ne, uf_at, uf_ne, iltT, iltF, ileT, ieqT, ieqF]
      rw [← eN]
      refine k_bitsOf (f := 3) (by omega) hN cm.1.1 cm.1.2.2 (Or.inr (Or.inl ⟨rfl, rfl⟩)) ?_
      rw [eN]
      refine tG_at hd kTok_now_157 ?_
      simp (disch := omega) only [bTok_now_157, rn, sm, lg, lt_, cmpP, tk, pr_, pu, swl, cs, Nat.reduceAdd, Nat.reduceLeDiff, Nat.zero_le, Nat.le_refl, true_and, and_true, Int.toNat_natCast, Int.reduceToNat, Int.reduceEq, false_implies, true_implies, Int.reduceNeg, Int.cast_ofNat_Int, g8, g1, g15, g10, v0, v1, v2, v3, v4, v5, u0, u1, z0, n0, n1, reduceIte, Nat.reduceEqDiff, true_or, or_true, Int.reduceLE, Int.reduceLT, Int.reduceAdd, Int.reduceSub, Int.reduceMul, not_true_eq_false, not_false_eq_true, implies_true, nat_s, wr_id, uR_at, uR_uR, u1_at, u1_ne, uf_at, uf_ne, iltT, iltF, ileT, ieqT, ieqF]
      exact hq
    · refine tG_at hd kTok_now_0 ?_
      simp (disch := omega) only [bTok_now_0, rn, sm, lg, lt_, cmpP, tk, pr_, pu, swl, cs, Nat.reduceAdd, Nat.reduceLeDiff, Nat.zero_le, Nat.le_refl, true_and, and_true, Int.toNat_natCast, Int.reduceToNat, Int.reduceEq, false_implies, true_implies, Int.reduceNeg, Int.cast_ofNat_Int, g8, g1, g15, g10, v0, v1, v2, v3, v4, v5, u0, u1, z0, n0, n1, reduceIte, Nat.reduceEqDiff, true_or, or_true, Int.reduceLE, Int.reduceLT, Int.reduceAdd, Int.reduceSub, Int.reduceMul, not_true_eq_false, not_false_eq_true, implies_true, nat_s, wr_id, uR_at, uR_uR, u1_at, u1_ne, uf_at, uf_ne, iltT, iltF, ileT, ieqT, ieqF, or_self]
      refine tG_at hd kTok_now_158 ?_
      simp (disch := omega) only [bTok_now_158, rn, sm, lg, lt_, cmpP, tk, pr_, pu, swl, cs, Nat.reduceAdd, Nat.reduceLeDiff, Nat.zero_le, Nat.le_refl, true_and, and_true, Int.toNat_natCast, Int.reduceToNat, Int.reduceEq, false_implies, true_implies, Int.reduceNeg, Int.cast_ofNat_Int, g8, g1, g15, g10, v0, v1, v2, v3, v4, v5, u0, u1, z0, n0, n1, reduceIte, Nat.reduceEqDiff, true_or, or_true, Int.reduceLE, Int.reduceLT, Int.reduceAdd, Int.reduceSub, Int.reduceMul, not_true_eq_false, not_false_eq_true, implies_true, nat_s, wr_id, uR_at, uR_uR, u1_at, u1_ne, uf_at, uf_ne, iltT, iltF, ileT, ieqT, ieqF]
      rw [← eN]
      refine k_bitsOf (f := 30) (by omega) hN cm.1.1 cm.1.2.2 (Or.inr (Or.inr ⟨rfl, rfl⟩)) ?_
      rw [eN]
      refine tG_at hd kTok_now_167 ?_
      simp (disch := omega) only [bTok_now_167, rn, sm, lg, lt_, cmpP, tk, pr_, pu, swl, cs, Nat.reduceAdd, Nat.reduceLeDiff, Nat.zero_le, Nat.le_refl, true_and, and_true, Int.toNat_natCast, Int.reduceToNat, Int.reduceEq, false_implies, true_implies, Int.reduceNeg, Int.cast_ofNat_Int, g8, g1, g15, g10, v0, v1, v2, v3, v4, v5, u0, u1, z0, n0, n1, reduceIte, Nat.reduceEqDiff, true_or, or_true, Int.reduceLE, Int.reduceLT, Int.reduceAdd, Int.reduceSub, Int.reduceMul, not_true_eq_false, not_false_eq_true, implies_true, nat_s, wr_id, uR_at, uR_uR, u1_at, u1_ne, uf_at, uf_ne, iltT, iltF, ileT, ieqT, ieqF]
      exact hq
    · refine tG_at hd kTok_now_0 ?_
      simp (disch := omega) only [bTok_now_0, rn, sm, lg, lt_, cmpP, tk, pr_, pu, swl, cs, Nat.reduceAdd, Nat.reduceLeDiff, Nat.zero_le, Nat.le_refl, true_and, and_true, Int.toNat_natCast, Int.reduceToNat, Int.reduceEq, false_implies, true_implies, Int.reduceNeg, Int.cast_ofNat_Int, g8, g1, g15, g10, v0, v1, v2, v3, v4, v5, u0, u1, z0, n0, n1, reduceIte, Nat.reduceEqDiff, true_or, or_true, Int.reduceLE, Int.reduceLT, Int.reduceAdd, Int.reduceSub, Int.reduceMul, not_true_eq_false, not_false_eq_true, implies_true, nat_s, wr_id, uR_at, uR_uR, u1_at, u1_ne, uf_at, uf_ne, iltT, iltF, ileT, ieqT, ieqF, or_self]
      refine tG_at hd kTok_now_168 ?_
      simp (disch := omega) only [bTok_now_168, rn, sm, lg, lt_, cmpP, tk, pr_, pu, swl, cs, Nat.reduceAdd, Nat.reduceLeDiff, Nat.zero_le, Nat.le_refl, true_and, and_true, Int.toNat_natCast, Int.reduceToNat, Int.reduceEq, false_implies, true_implies, Int.reduceNeg, Int.cast_ofNat_Int, g8, g1, g15, g10, v0, v1, v2, v3, v4, v5, u0, u1, z0, n0, n1, reduceIte, Nat.reduceEqDiff, true_or, or_true, Int.reduceLE, Int.reduceLT, Int.reduceAdd, Int.reduceSub, Int.reduceMul, not_true_eq_false, not_false_eq_true, implies_true, nat_s, wr_id, uR_at, uR_uR, u1_at, u1_ne, uf_at, uf_ne, iltT, iltF, ileT, ieqT, ieqF]
      exact hq
    · refine tG_at hd kTok_now_0 ?_
      simp (disch := omega) only [bTok_now_0, rn, sm, lg, lt_, cmpP, tk, pr_, pu, swl, cs, Nat.reduceAdd, Nat.reduceLeDiff, Nat.zero_le, Nat.le_refl, true_and, and_true, Int.toNat_natCast, Int.reduceToNat, Int.reduceEq, false_implies, true_implies, Int.reduceNeg, Int.cast_ofNat_Int, g8, g1, g15, g10, v0, v1, v2, v3, v4, v5, u0, u1, z0, n0, n1, reduceIte, Nat.reduceEqDiff, true_or, or_true, Int.reduceLE, Int.reduceLT, Int.reduceAdd, Int.reduceSub, Int.reduceMul, not_true_eq_false, not_false_eq_true, implies_true, nat_s, wr_id, uR_at, uR_uR, u1_at, u1_ne, uf_at, uf_ne, iltT, iltF, ileT, ieqT, ieqF, or_self]
      refine tG_at hd kTok_now_176 ?_
      simp (disch := omega) only [bTok_now_176, rn, sm, lg, lt_, cmpP, tk, pr_, pu, swl, cs, Nat.reduceAdd, Nat.reduceLeDiff, Nat.zero_le, Nat.le_refl, true_and, and_true, Int.toNat_natCast, Int.reduceToNat, Int.reduceEq, false_implies, true_implies, Int.reduceNeg, Int.cast_ofNat_Int, g8, g1, g15, g10, v0, v1, v2, v3, v4, v5, u0, u1, z0, n0, n1, reduceIte, Nat.reduceEqDiff, true_or, or_true, Int.reduceLE, Int.reduceLT, Int.reduceAdd, Int.reduceSub, Int.reduceMul, not_true_eq_false, not_false_eq_true, implies_true, nat_s, wr_id, uR_at, uR_uR, u1_at, u1_ne, uf_at, uf_ne, iltT, iltF, ileT, ieqT, ieqF, fL]
      exact hq
  · have e : nowF n k c L X a = -1 := by
      unfold nowF
      rw [if_neg (by omega), if_neg (by omega), if_neg (by omega), if_neg (by omega), if_neg (by omega), if_neg (by omega), if_neg (by omega), if_neg (by omega), if_neg (by omega), if_neg (by omega), if_neg (by omega), if_neg (by omega), if_neg (by omega)]
    rw [e] at hq
    refine tG_at hd kTok_now_0 ?_
    simp (disch := omega) only [bTok_now_0, rn, sm, lg, lt_, cmpP, tk, pr_, pu, swl, cs, Nat.reduceAdd, Nat.reduceLeDiff, Nat.zero_le, Nat.le_refl, true_and, and_true, Int.toNat_natCast, Int.reduceToNat, Int.reduceEq, false_implies, true_implies, Int.reduceNeg, Int.cast_ofNat_Int, g8, g1, g15, g10, v0, v1, v2, v3, v4, v5, u0, u1, z0, n0, n1, reduceIte, Nat.reduceEqDiff, true_or, or_true, Int.reduceLE, Int.reduceLT, Int.reduceAdd, Int.reduceSub, Int.reduceMul, not_true_eq_false, not_false_eq_true, implies_true, nat_s, wr_id, uR_at, uR_uR, u1_at, u1_ne, uf_at, uf_ne, iltT, iltF, ileT, ieqT, ieqF]
    intro _
    refine tG_at hd kTok_now_184 ?_
    simp (disch := omega) only [bTok_now_184, rn, sm, lg, lt_, cmpP, tk, pr_, pu, swl, cs, Nat.reduceAdd, Nat.reduceLeDiff, Nat.zero_le, Nat.le_refl, true_and, and_true, Int.toNat_natCast, Int.reduceToNat, Int.reduceEq, false_implies, true_implies, Int.reduceNeg, Int.cast_ofNat_Int, g8, g1, g15, g10, v0, v1, v2, v3, v4, v5, u0, u1, z0, n0, n1, reduceIte, Nat.reduceEqDiff, true_or, or_true, Int.reduceLE, Int.reduceLT, Int.reduceAdd, Int.reduceSub, Int.reduceMul, not_true_eq_false, not_false_eq_true, implies_true, nat_s, wr_id, uR_at, uR_uR, u1_at, u1_ne, uf_at, uf_ne, iltT, iltF, ileT, ieqT, ieqF]
    exact hq
theorem T_message (hd6 : 6 ≤ d) (hC : CI w Γ V x Z L T fk n k W X c Y) {a b l y : Int} (hq : Q (some (.inl (mesF n k X a b l y))) Γ V) : tC w d nTok_message [.inr (.inl x), .inl a, .inl b, .inl l, .inl y] Γ V Q := by
  have hd : 4 ≤ d := by omega
  obtain ⟨⟨c1, c2, c3⟩, cs_, ⟨⟨z0, z1, z2⟩, cl, kd, st, sp, v, T', ct0, ct1, ct2⟩, cc, ad, tb, hh, ch, ch10, ⟨⟨g8, g1, g15, g10⟩, ⟨v0, v1, v2, v3, v4, v5⟩, u0, u1, u2⟩, ly, cm⟩ := id hC
  have n0 := (ly.1 0 (by omega)).1.1.1
  have n1 := (ly.1 1 (by omega)).1.1.1
  have eN := (ly.1 0 (by omega)).2.2.1.eq
  have hN := (ly.1 0 (by omega)).1
  have pn := (ly.1 0 (by omega)).2.2.1
  obtain ⟨rA, rW, rB, rM, rQ, rL⟩ := id cm.1.2.2
  obtain ⟨n0', n5, hn2, hn6, hk41, hW⟩ := cm.1.1.1.A
  refine tC_enter (nL := 7) (by decide +kernel) (by decide +kernel) rfl (Nat.le_of_ble_eq_true rfl) (fun hok => ?_)
  simp only [ent]
  refine tG_at hd kTok_message_0 ?_
  simp (disch := omega) only [bTok_message_0, rn, sm, lg, lt_, cmpP, tk, pr_, pu, swl, cs, Nat.reduceAdd, Nat.reduceLeDiff, Nat.zero_le, Nat.le_refl, true_and, and_true, Int.toNat_natCast, Int.reduceToNat, Int.reduceEq, false_implies, true_implies, Int.reduceNeg, Int.cast_ofNat_Int, g8, g1, g15, g10, v0, v1, v2, v3, v4, v5, u0, u1, z0, n0, n1, reduceIte, Nat.reduceEqDiff, true_or, or_true, Int.reduceLE, Int.reduceLT, Int.reduceAdd, Int.reduceSub, Int.reduceMul, not_true_eq_false, not_false_eq_true, implies_true, nat_s, wr_id, uR_at, uR_uR, u1_at, u1_ne, uf_at, uf_ne, iltT, iltF, ileT, ieqT, ieqF]
  rw [← eN]
  refine k_find (by omega) hN cm.1.2.2 n5 (by omega) ?_
  rw [eN]
  rcases nth_b (C := X.2.2) (a := a) (b := b) k 0 l with h | ⟨p, h1, h2, h3, h4, h5, h6⟩
  · have e : mesF n k X a b l y = -1 := by
      unfold mesF
      rw [if_pos h]
      split <;> rfl
    rw [e] at hq
    refine tG_at hd kTok_message_10 ?_
    simp (disch := omega) only [bTok_message_10, rn, sm, lg, lt_, cmpP, tk, pr_, pu, swl, cs, Nat.reduceAdd, Nat.reduceLeDiff, Nat.zero_le, Nat.le_refl, true_and, and_true, Int.toNat_natCast, Int.reduceToNat, Int.reduceEq, false_implies, true_implies, Int.reduceNeg, Int.cast_ofNat_Int, g8, g1, g15, g10, v0, v1, v2, v3, v4, v5, u0, u1, z0, n0, n1, reduceIte, Nat.reduceEqDiff, true_or, or_true, Int.reduceLE, Int.reduceLT, Int.reduceAdd, Int.reduceSub, Int.reduceMul, not_true_eq_false, not_false_eq_true, implies_true, nat_s, wr_id, uR_at, uR_uR, u1_at, u1_ne, uf_at, uf_ne, iltT, iltF, ileT, ieqT, ieqF, h]
    refine tG_at hd kTok_message_18 ?_
    simp (disch := omega) only [bTok_message_18, rn, sm, lg, lt_, cmpP, tk, pr_, pu, swl, cs, Nat.reduceAdd, Nat.reduceLeDiff, Nat.zero_le, Nat.le_refl, true_and, and_true, Int.toNat_natCast, Int.reduceToNat, Int.reduceEq, false_implies, true_implies, Int.reduceNeg, Int.cast_ofNat_Int, g8, g1, g15, g10, v0, v1, v2, v3, v4, v5, u0, u1, z0, n0, n1, reduceIte, Nat.reduceEqDiff, true_or, or_true, Int.reduceLE, Int.reduceLT, Int.reduceAdd, Int.reduceSub, Int.reduceMul, not_true_eq_false, not_false_eq_true, implies_true, nat_s, wr_id, uR_at, uR_uR, u1_at, u1_ne, uf_at, uf_ne, iltT, iltF, ileT, ieqT, ieqF]
    exact hq
  · have hpk : p < k := by omega
    obtain ⟨⟨a', b', ha, hb, hab, e0, e1⟩, -⟩ := cm.1.1.1.1.2.2.2.2.2.2.1 p hpk
    have h2n : two n a b := by
      rw [← h4, ← h5, e0, e1]
      exact ⟨by omega, by omega, by omega⟩
    have qp := rQ.1 p (by omega)
    have sp_ := sa_b qp
    have hr := rM p (by omega)
    obtain ⟨qq, hqq⟩ : ∃ qq, qq = (tb 0).2.2.2 p := ⟨_, rfl⟩
    rw [← hqq] at qp sp_ hr
    have fm : V (ad 0) 1 = ((ad 0 + 2 : Nat) : Int) := pn 0 1 (by omega)
    have fp : V (ad 0 + 2) p = ((ad 0 + sa qq : Nat) : Int) := by
      rw [pn 2 p (by omega)]
      show (if p < 46 then ((ad 0 + sa ((tb 0).2.2.2 p) : Nat) : Int) else 0) = _
      rw [if_pos (by omega), ← hqq]
    have gg : ∀ j, 1 ≤ j → j < 6 → V (ad 0 + sa qq) j = (tb 0).2.2.1 qq (j - 1) := fun j j1 j2 => by
      have := nC_g (o := ad 0) (A := (tb 0).1) (B := (tb 0).2.1) (S := (tb 0).2.2.1) (q := (tb 0).2.2.2) (j := j) qp (show 0 < 5 by omega)
      rw [Nat.add_zero] at this
      rw [pn (sa qq) j (by omega), this]
      exact pic_s (by unfold gI; rw [if_pos rfl, if_pos ⟨j1, j2⟩])
    have g3 : V (ad 0 + sa qq) 3 = X.2.2 p 2 := (gg 3 (by omega) (by omega)).trans (hr.1 2 (by omega))
    have g4 : V (ad 0 + sa qq) 4 = X.2.2 p 3 := (gg 4 (by omega) (by omega)).trans (hr.1 3 (by omega))
    have g5 : V (ad 0 + sa qq) 5 = X.2.2 p 4 := (gg 5 (by omega) (by omega)).trans (hr.1 4 (by omega))
    have k3 : Γ.1 (ad 0 + sa qq) = 3 := hN.2.2.2.2.1.1 qq qp
    have k14 : Γ.1 (ad 0 + 2) = 14 := hN.1.2.2
    have l46 : (Γ.2.1 (ad 0 + 2) : Int) = 46 := hN.2.1.2
    refine tG_at hd kTok_message_10 ?_
    simp (disch := omega) only [bTok_message_10, rn, sm, lg, lt_, cmpP, tk, pr_, pu, swl, cs, Nat.reduceAdd, Nat.reduceLeDiff, Nat.zero_le, Nat.le_refl, true_and, and_true, Int.toNat_natCast, Int.reduceToNat, Int.reduceEq, false_implies, true_implies, Int.reduceNeg, Int.cast_ofNat_Int, g8, g1, g15, g10, v0, v1, v2, v3, v4, v5, u0, u1, z0, n0, n1, reduceIte, Nat.reduceEqDiff, true_or, or_true, Int.reduceLE, Int.reduceLT, Int.reduceAdd, Int.reduceSub, Int.reduceMul, not_true_eq_false, not_false_eq_true, implies_true, nat_s, wr_id, uR_at, uR_uR, u1_at, u1_ne, uf_at, uf_ne, iltT, iltF, ileT, ieqT, ieqF, h3]
    by_cases hy : 0 ≤ y ∧ y ≤ 2
    · have e : mesF n k X a b l y = X.2.2 p (2 + y.toNat) := by
        unfold mesF
        rw [if_pos ⟨h2n, h6, hy.1, hy.2⟩, h3, if_neg (by omega), Int.toNat_natCast]
      rw [e] at hq
      have : y = 0 ∨ y = 1 ∨ y = 2 := by omega
      rcases this with rfl | rfl | rfl
      · refine tG_at hd kTok_message_20 ?_
        simp (disch := omega) only [bTok_message_20, rn, sm, lg, lt_, cmpP, tk, pr_, pu, swl, cs, Nat.reduceAdd, Nat.reduceLeDiff, Nat.zero_le, Nat.le_refl, true_and, and_true, Int.toNat_natCast, Int.reduceToNat, Int.reduceEq, false_implies, true_implies, Int.reduceNeg, Int.cast_ofNat_Int, g8, g1, g15, g10, v0, v1, v2, v3, v4, v5, u0, u1, z0, n0, n1, reduceIte, Nat.reduceEqDiff, true_or, or_true, Int.reduceLE, Int.reduceLT, Int.reduceAdd, Int.reduceSub, Int.reduceMul, not_true_eq_false, not_false_eq_true, implies_true, nat_s, wr_id, uR_at, uR_uR, u1_at, u1_ne, uf_at, uf_ne, iltT, iltF, ileT, ieqT, ieqF, fm, fp, k14, l46, or_self]
        refine tG_at hd kTok_message_60 ?_
        simp (disch := omega) only [bTok_message_60, rn, sm, lg, lt_, cmpP, tk, pr_, pu, swl, cs, Nat.reduceAdd, Nat.reduceLeDiff, Nat.zero_le, Nat.le_refl, true_and, and_true, Int.toNat_natCast, Int.reduceToNat, Int.reduceEq, false_implies, true_implies, Int.reduceNeg, Int.cast_ofNat_Int, g8, g1, g15, g10, v0, v1, v2, v3, v4, v5, u0, u1, z0, n0, n1, reduceIte, Nat.reduceEqDiff, true_or, or_true, Int.reduceLE, Int.reduceLT, Int.reduceAdd, Int.reduceSub, Int.reduceMul, not_true_eq_false, not_false_eq_true, implies_true, nat_s, wr_id, uR_at, uR_uR, u1_at, u1_ne, uf_at, uf_ne, iltT, iltF, ileT, ieqT, ieqF, g3, k3]
        exact hq
      · refine tG_at hd kTok_message_20 ?_
        simp (disch := omega) only [bTok_message_20, rn, sm, lg, lt_, cmpP, tk, pr_, pu, swl, cs, Nat.reduceAdd, Nat.reduceLeDiff, Nat.zero_le, Nat.le_refl, true_and, and_true, Int.toNat_natCast, Int.reduceToNat, Int.reduceEq, false_implies, true_implies, Int.reduceNeg, Int.cast_ofNat_Int, g8, g1, g15, g10, v0, v1, v2, v3, v4, v5, u0, u1, z0, n0, n1, reduceIte, Nat.reduceEqDiff, true_or, or_true, Int.reduceLE, Int.reduceLT, Int.reduceAdd, Int.reduceSub, Int.reduceMul, not_true_eq_false, not_false_eq_true, implies_true, nat_s, wr_id, uR_at, uR_uR, u1_at, u1_ne, uf_at, uf_ne, iltT, iltF, ileT, ieqT, ieqF, fm, fp, k14, l46, or_self]
        refine tG_at hd kTok_message_66 ?_
        simp (disch := omega) only [bTok_message_66, rn, sm, lg, lt_, cmpP, tk, pr_, pu, swl, cs, Nat.reduceAdd, Nat.reduceLeDiff, Nat.zero_le, Nat.le_refl, true_and, and_true, Int.toNat_natCast, Int.reduceToNat, Int.reduceEq, false_implies, true_implies, Int.reduceNeg, Int.cast_ofNat_Int, g8, g1, g15, g10, v0, v1, v2, v3, v4, v5, u0, u1, z0, n0, n1, reduceIte, Nat.reduceEqDiff, true_or, or_true, Int.reduceLE, Int.reduceLT, Int.reduceAdd, Int.reduceSub, Int.reduceMul, not_true_eq_false, not_false_eq_true, implies_true, nat_s, wr_id, uR_at, uR_uR, u1_at, u1_ne, uf_at, uf_ne, iltT, iltF, ileT, ieqT, ieqF, g4, k3]
        exact hq
      · refine tG_at hd kTok_message_20 ?_
        simp (disch := omega) only [bTok_message_20, rn, sm, lg, lt_, cmpP, tk, pr_, pu, swl, cs, Nat.reduceAdd, Nat.reduceLeDiff, Nat.zero_le, Nat.le_refl, true_and, and_true, Int.toNat_natCast, Int.reduceToNat, Int.reduceEq, false_implies, true_implies, Int.reduceNeg, Int.cast_ofNat_Int, g8, g1, g15, g10, v0, v1, v2, v3, v4, v5, u0, u1, z0, n0, n1, reduceIte, Nat.reduceEqDiff, true_or, or_true, Int.reduceLE, Int.reduceLT, Int.reduceAdd, Int.reduceSub, Int.reduceMul, not_true_eq_false, not_false_eq_true, implies_true, nat_s, wr_id, uR_at, uR_uR, u1_at, u1_ne, uf_at, uf_ne, iltT, iltF, ileT, ieqT, ieqF, fm, fp, k14, l46, or_self]
        refine tG_at hd kTok_message_72 ?_
        simp (disch := omega) only [bTok_message_72, rn, sm, lg, lt_, cmpP, tk, pr_, pu, swl, cs, Nat.reduceAdd, Nat.reduceLeDiff, Nat.zero_le, Nat.le_refl, true_and, and_true, Int.toNat_natCast, Int.reduceToNat, Int.reduceEq, false_implies, true_implies, Int.reduceNeg, Int.cast_ofNat_Int, g8, g1, g15, g10, v0, v1, v2, v3, v4, v5, u0, u1, z0, n0, n1, reduceIte, Nat.reduceEqDiff, true_or, or_true, Int.reduceLE, Int.reduceLT, Int.reduceAdd, Int.reduceSub, Int.reduceMul, not_true_eq_false, not_false_eq_true, implies_true, nat_s, wr_id, uR_at, uR_uR, u1_at, u1_ne, uf_at, uf_ne, iltT, iltF, ileT, ieqT, ieqF, g5, k3]
        exact hq
    · have e : mesF n k X a b l y = -1 := by
        unfold mesF
        rw [if_neg (fun h => hy ⟨h.2.2.1, h.2.2.2⟩)]
      rw [e] at hq
      refine tG_at hd kTok_message_20 ?_
      simp (disch := omega) only [bTok_message_20, rn, sm, lg, lt_, cmpP, tk, pr_, pu, swl, cs, Nat.reduceAdd, Nat.reduceLeDiff, Nat.zero_le, Nat.le_refl, true_and, and_true, Int.toNat_natCast, Int.reduceToNat, Int.reduceEq, false_implies, true_implies, Int.reduceNeg, Int.cast_ofNat_Int, g8, g1, g15, g10, v0, v1, v2, v3, v4, v5, u0, u1, z0, n0, n1, reduceIte, Nat.reduceEqDiff, true_or, or_true, Int.reduceLE, Int.reduceLT, Int.reduceAdd, Int.reduceSub, Int.reduceMul, not_true_eq_false, not_false_eq_true, implies_true, nat_s, wr_id, uR_at, uR_uR, u1_at, u1_ne, uf_at, uf_ne, iltT, iltF, ileT, ieqT, ieqF, fm, fp, k14, l46]
      intro _
      refine tG_at hd kTok_message_78 ?_
      simp (disch := omega) only [bTok_message_78, rn, sm, lg, lt_, cmpP, tk, pr_, pu, swl, cs, Nat.reduceAdd, Nat.reduceLeDiff, Nat.zero_le, Nat.le_refl, true_and, and_true, Int.toNat_natCast, Int.reduceToNat, Int.reduceEq, false_implies, true_implies, Int.reduceNeg, Int.cast_ofNat_Int, g8, g1, g15, g10, v0, v1, v2, v3, v4, v5, u0, u1, z0, n0, n1, reduceIte, Nat.reduceEqDiff, true_or, or_true, Int.reduceLE, Int.reduceLT, Int.reduceAdd, Int.reduceSub, Int.reduceMul, not_true_eq_false, not_false_eq_true, implies_true, nat_s, wr_id, uR_at, uR_uR, u1_at, u1_ne, uf_at, uf_ne, iltT, iltF, ileT, ieqT, ieqF]
      exact hq
end CM
