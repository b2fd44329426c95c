/-! THE CLASS: acts, undo -/
theorem GJ.mono {n k W W' : Nat} {X : NT} (g : GJ n k W X) (h : W ≤ W') (h2 : W' ≤ 1000000000) : GJ n k W' X := ⟨g.1.mono h h2, g.2.mono h⟩
section GX
variable {w : WP} {Γ Γ' : GM} {V : VH} {x L nn : Nat} {T : Nat → Int}
theorem strA.gx (h : strA w Γ V x) (hx : GX Γ Γ' nn) (hxx : x ≤ Γ.2.2) : strA w Γ' V x := by
  obtain ⟨a, s0, s1, s2, s3, s4, s5, s6, s7⟩ := h
  have f : ∀ k l, k < 8 → strI Γ V (sad w k) l → strI Γ' V (sad w k) l := fun k l hk h => by
    have := hx.2 (sad w k) (by have := a k hk; omega)
    exact ⟨this.1.trans h.1, this.2.trans h.2.1, h.2.2⟩
  exact ⟨a, f 0 _ (by omega) s0, f 1 _ (by omega) s1, f 2 _ (by omega) s2, f 3 _ (by omega) s3, f 4 _ (by omega) s4, f 5 _ (by omega) s5, f 6 _ (by omega) s6, f 7 _ (by omega) s7⟩
theorem CT.gx (h : CT Γ V x L T) (hx : GX Γ Γ' nn) (hxx : x + 10 ≤ Γ.2.2) : CT Γ' V x L T := by
  obtain ⟨⟨a, b, c⟩, r⟩ := h
  exact ⟨⟨(hx.2 _ (by omega)).1.trans a, (hx.2 _ (by omega)).1.trans b, by rw [(hx.2 _ (by omega)).2]; exact c⟩, r⟩
theorem CC.gx (h : CC Γ V x) (hx : GX Γ Γ' nn) (hxx : x + 10 ≤ Γ.2.2) : CC Γ' V x := by
  obtain ⟨⟨⟨a0, a1, a2, a3, a4, a5⟩, b1, b2, b3, b4, b5⟩, r⟩ := h
  exact ⟨⟨⟨(hx.2 _ (by omega)).1.trans a0, (hx.2 _ (by omega)).1.trans a1, (hx.2 _ (by omega)).1.trans a2, (hx.2 _ (by omega)).1.trans a3, (hx.2 _ (by omega)).1.trans a4, (hx.2 _ (by omega)).1.trans a5⟩, by rw [(hx.2 _ (by omega)).2]; exact b1, by rw [(hx.2 _ (by omega)).2]; exact b2, by rw [(hx.2 _ (by omega)).2]; exact b3, by rw [(hx.2 _ (by omega)).2]; exact b4, by rw [(hx.2 _ (by omega)).2]; exact b5⟩, r⟩
end GX
section CM
variable {w : WP} {d : Nat} {Γ : GM} {V : VH} {Q : QT} {x Z L n k W c hh : Nat} {T : Nat → Int} {fk : Int} {X : NT} {Y : Nat → NT} {ad : Nat → Nat} {tb : Nat → TBL}
set_option maxHeartbeats 1000000 in
theorem T_kept (hd8 : 8 ≤ d) {k' : Nat} {X' : NT} {r : Int} (hz : x + 595 ≤ Z + 1 ∧ Z ≤ Γ.2.2 ∧ 9 ≤ W) (hS : strA w Γ V x) (hT : CT Γ V x L T) (hCc : CC Γ V x) (ch : c ≤ hh) (ch10 : hh ≤ 10) (cx : CX Γ V x ad fk c hh) (ly : LY Γ V x Z ad tb hh)
    (m0 : GJ n k' W X' ∧ RW n X'.2.1 ∧ RN n W (tb 0).1 (tb 0).2.1 (tb 0).2.2.1 (tb 0).2.2.2 X') (m1 : GJ n k W X ∧ RW n X.2.1 ∧ RN n W (tb 1).1 (tb 1).2.1 (tb 1).2.2.1 (tb 1).2.2.2 X) (mY : ∀ i, i < c → ∃ n' k', GJ n' k' W (Y i) ∧ RW n' (Y i).2.1 ∧ RN n' W (tb (2 + i)).1 (tb (2 + i)).2.1 (tb (2 + i)).2.2.1 (tb (2 + i)).2.2.2 (Y i))
    (hq : ∀ Γ' V' c' Y', (0 ≤ r → c' = snQ c ∧ Y' = snY c X Y) → (r < 0 → c' = c ∧ Y' = Y) → CI w Γ' V' x Z L T fk n k' W X' c' Y' → (∃ nn, nn ≤ 292 ∧ GX Γ Γ' nn) → FR x Z V V' → Q (some (.inl r)) Γ' V') :
    tC w d nTok_kept [.inr (.inl x), .inl r] Γ V Q := by
  have hd : 4 ≤ d := by omega
  obtain ⟨z0, z1, z2⟩ := hT.1
  obtain ⟨⟨g8, g1, g15, g10⟩, ⟨v0, v1, v2, v3, v4, v5⟩, u0, u1, u2⟩ := id cx
  have n0 := (ly.1 0 (by omega)).1.1.1
  have n1 := (ly.1 1 (by omega)).1.1.1
  obtain ⟨hz1, hz2, hz3⟩ := id hz
  refine tC_enter (nL := 2) (by decide +kernel) (by decide +kernel) rfl (Nat.le_of_ble_eq_true rfl) (fun hok => ?_)
  simp only [ent]
  by_cases hr : r < 0
  · refine tG_at hd kTok_kept_0 ?_
    simp (disch := omega) only [bTok_kept_0, rn, sm, lg, lt_, cmpP, tk, pr_, pu, swl, cs, Nat.reduceAdd, Nat.reduceLeDiff, Nat.zero_le, Nat.le_refl, true_and, and_true, Int.toNat_natCast, Int.reduceToNat, Int.reduceEq, false_implies, true_implies, Int.reduceNeg, Int.cast_ofNat_Int, g8, g1, g15, g10, v0, v1, v2, v3, v4, v5, u0, u1, z0, n0, n1, reduceIte, Nat.reduceEqDiff, true_or, or_true, Int.reduceLE, Int.reduceLT, Int.reduceAdd, Int.reduceSub, Int.reduceMul, not_true_eq_false, not_false_eq_true, implies_true, nat_s, wr_id, uR_at, uR_uR, u1_at, u1_ne, uf_at, uf_ne, iltT, iltF, ileT, ieqT, ieqF]
    refine tG_at hd kTok_kept_19 ?_
    simp (disch := omega) only [bTok_kept_19, rn, sm, lg, lt_, cmpP, tk, pr_, pu, swl, cs, Nat.reduceAdd, Nat.reduceLeDiff, Nat.zero_le, Nat.le_refl, true_and, and_true, Int.toNat_natCast, Int.reduceToNat, Int.reduceEq, false_implies, true_implies, Int.reduceNeg, Int.cast_ofNat_Int, g8, g1, g15, g10, v0, v1, v2, v3, v4, v5, u0, u1, z0, n0, n1, reduceIte, Nat.reduceEqDiff, true_or, or_true, Int.reduceLE, Int.reduceLT, Int.reduceAdd, Int.reduceSub, Int.reduceMul, not_true_eq_false, not_false_eq_true, implies_true, nat_s, wr_id, uR_at, uR_uR, u1_at, u1_ne, uf_at, uf_ne, iltT, iltF, ileT, ieqT, ieqF]
    exact hq Γ V c Y (fun h => by omega) (fun _ => ⟨rfl, rfl⟩) ⟨hz, hS, hT, hCc, ad, tb, hh, ch, ch10, cx, ly, m0, mY⟩ ⟨0, by omega, rfl, fun t _ => ⟨rfl, rfl⟩⟩ FR.rf
  · refine tG_at hd kTok_kept_0 ?_
    simp (disch := omega) only [bTok_kept_0, rn, sm, lg, lt_, cmpP, tk, pr_, pu, swl, cs, Nat.reduceAdd, Nat.reduceLeDiff, Nat.zero_le, Nat.le_refl, true_and, and_true, Int.toNat_natCast, Int.reduceToNat, Int.reduceEq, false_implies, true_implies, Int.reduceNeg, Int.cast_ofNat_Int, g8, g1, g15, g10, v0, v1, v2, v3, v4, v5, u0, u1, z0, n0, n1, reduceIte, Nat.reduceEqDiff, true_or, or_true, Int.reduceLE, Int.reduceLT, Int.reduceAdd, Int.reduceSub, Int.reduceMul, not_true_eq_false, not_false_eq_true, implies_true, nat_s, wr_id, uR_at, uR_uR, u1_at, u1_ne, uf_at, uf_ne, iltT, iltF, ileT, ieqT, ieqF]
    refine tG_at hd kTok_kept_4 ?_
    simp (disch := omega) only [bTok_kept_4, rn, sm, lg, lt_, cmpP, tk, pr_, pu, swl, cs, Nat.reduceAdd, Nat.reduceLeDiff, Nat.zero_le, Nat.le_refl, true_and, and_true, Int.toNat_natCast, Int.reduceToNat, Int.reduceEq, false_implies, true_implies, Int.reduceNeg, Int.cast_ofNat_Int, g8, g1, g15, g10, v0, v1, v2, v3, v4, v5, u0, u1, z0, n0, n1, reduceIte, Nat.reduceEqDiff, true_or, or_true, Int.reduceLE, Int.reduceLT, Int.reduceAdd, Int.reduceSub, Int.reduceMul, not_true_eq_false, not_false_eq_true, implies_true, nat_s, wr_id, uR_at, uR_uR, u1_at, u1_ne, uf_at, uf_ne, iltT, iltF, ileT, ieqT, ieqF]
    refine L_keep (by omega) g1 g15 g10 ⟨u0, u1, u2⟩ ly ch ch10 hz1 hz2 (fun Γ' V' ad' tb' hh' kp => ?_)
    obtain ⟨⟨nn, hnn, gx⟩, k1, k2, k3, k4, k5, k6, k7, k8, k9⟩ := kp
    have g8' : Γ'.1 x = 8 := (gx.2 _ (by omega)).1.trans g8
    have sq : 1 ≤ snQ c ∧ snQ c ≤ 10 := by
      unfold snQ
      split <;> omega
    refine tG_at hd kTok_kept_16 ?_
    simp (disch := omega) only [bTok_kept_16, rn, sm, lg, lt_, cmpP, tk, pr_, pu, swl, cs, Nat.reduceAdd, Nat.reduceLeDiff, Nat.zero_le, Nat.le_refl, true_and, and_true, Int.toNat_natCast, Int.reduceToNat, Int.reduceEq, false_implies, true_implies, Int.reduceNeg, Int.cast_ofNat_Int, g8']
    refine tG_at hd kTok_kept_19 ?_
    simp (disch := omega) only [bTok_kept_19, rn, sm, lg, lt_, cmpP, tk, pr_, pu, swl, cs, Nat.reduceAdd, Nat.reduceLeDiff, Nat.zero_le, Nat.le_refl, true_and, and_true, Int.toNat_natCast, Int.reduceToNat, Int.reduceEq, false_implies, true_implies, Int.reduceNeg, Int.cast_ofNat_Int, g8', Int.reduceEq]
    have e : ∀ b j, b ≠ x → b ≠ x + 9 → b ≠ x + 10 → b ≤ Γ.2.2 → up V' x 4 ((ad' 1 : Nat) : Int) b j = V b j := fun b j h1 h2 h3 h4 => by
      rw [up_ne h1]
      exact k5 b j h2 h3 h4
    have ex : ∀ j, j ≠ 4 → up V' x 4 ((ad' 1 : Nat) : Int) x j = V x j := fun j h1 => by
      rw [up_nj h1]
      exact k5 x j (by omega) (by omega) (by omega)
    refine hq Γ' _ (snQ c) (snY c X Y) (fun _ => ⟨rfl, rfl⟩) (fun h => by omega) ⟨⟨hz1, by rw [gx.1]; omega, hz3⟩, (hS.fr (fun b j hb => e b j (by omega) (by omega) (by omega) (by omega))).gx gx (by omega), (hT.fr (fun b j h1 h2 => e b j (by omega) (by omega) (by omega) (by omega))).gx gx (by omega), (hCc.fr (fun b j h1 h2 => e b j (by omega) (by omega) (by omega) (by omega))).gx gx (by omega), ad', tb', hh', k1, k2, ⟨⟨g8', (gx.2 _ (by omega)).1.trans g1, (gx.2 _ (by omega)).1.trans g15, by rw [(gx.2 _ (by omega)).2]; exact g10⟩, ⟨(ex 0 (by omega)).trans v0, (ex 1 (by omega)).trans v1, (ex 2 (by omega)).trans v2, by rw [ex 3 (by omega), k6]; exact v3, up_at, (ex 5 (by omega)).trans v5⟩, by rw [up_ne (by omega)]; exact k4.1, by rw [up_ne (by omega)]; exact k4.2.1, fun j hj => by rw [up_ne (by omega)]; exact k4.2.2 j hj⟩, k3.fr (fun b j hb => up_ne (by omega)), ⟨by rw [k7]; exact m0, fun i hi => ?_⟩⟩ ⟨nn, hnn, gx⟩ (fun b j hb => e b j (by omega) (by omega) (by omega) (by omega))
    by_cases hi1 : i = snQ c - 1
    · have ey : snY c X Y i = X := if_pos hi1
      rw [ey, hi1, k8]
      exact ⟨n, k, m1⟩
    · rw [k9 i (by omega)]
      have ey : snY c X Y i = if c = 10 then Y (i + 1) else Y i := if_neg hi1
      rw [ey]
      by_cases hc10 : c = 10
      · rw [if_pos hc10, if_pos hc10]
        have := mY (i + 1) (by omega)
        rw [show 2 + (i + 1) = 3 + i by omega] at this
        exact this
      · have : snQ c = c + 1 := if_neg hc10
        rw [if_neg hc10, if_neg hc10]
        exact mY i (by omega)
theorem T_mid (hd8 : 8 ≤ d) (hC : CI w Γ V x Z L T fk n k W X c Y) (ch : c ≤ hh) (ch10 : hh ≤ 10) (cx : CX Γ V x ad fk c hh) (ly : LY Γ V x Z ad tb hh) (cm : CM tb n k W X c Y) (hW : W + 1400 ≤ 1000000000) {A1 A2 : Nat → Int} {B1 S1 B2 S2 : Nat → Nat → Int} {q2 : Nat → Nat} {k' : Nat} {X' : NT} {r : Int} (r1 : RN n W A1 B1 S1 (tb 1).2.2.2 X) (g2 : GJ n k' (W + 1400) X') (w2 : RW n X'.2.1) (r2 : RN n (W + 1400) A2 B2 S2 q2 X')
    (hq : ∀ Γ' V' c' Y', (0 ≤ r → c' = snQ c ∧ Y' = snY c X Y) → (r < 0 → c' = c ∧ Y' = Y) → CI w Γ' V' x Z L T fk n k' (W + 1400) X' c' Y' → (∃ nn, nn ≤ 292 ∧ GX Γ Γ' nn) → FR x Z V V' → Q (some (.inl r)) Γ' V') :
    tC w d nTok_kept [.inr (.inl x), .inl r] Γ (nP (nP V (ad 1) A1 B1 S1 (tb 1).2.2.2) (ad 0) A2 B2 S2 q2) Q := by
  obtain ⟨⟨c1, c2, c3⟩, h2, h3, h4, -⟩ := hC
  have b0 := ly.b c1 (u := 0) (by omega)
  have b1 := ly.b c1 (u := 1) (by omega)
  have ly1 := ly.set (u := 1) (by omega) (A := A1) (B := B1) (S := S1) (q := (tb 1).2.2.2) r1.2.2.2.2.1
  have ly2 := ly1.set (u := 0) (by omega) (A := A2) (B := B2) (S := S2) (q := q2) r2.2.2.2.2.1
  have lo : ∀ b j, b < x + 11 → nP (nP V (ad 1) A1 B1 S1 (tb 1).2.2.2) (ad 0) A2 B2 S2 q2 b j = V b j := fun b j hb => by rw [nP_o (by omega), nP_o (by omega)]
  refine T_kept (W := W + 1400) (k := k) (X := X) (Y := Y) hd8 ⟨c1, c2, by omega⟩ (h2.fr (fun b j hb => lo b j (by omega))) (h3.fr (fun b j h1 h2 => lo b j (by omega))) (h4.fr (fun b j h1 h2 => lo b j (by omega))) ch ch10 (cx.fr (fun b j hb => lo b j (by omega))) ly2 (by rw [ut_at]; exact ⟨g2, w2, r2⟩) (by rw [ut_ne (by omega), ut_at]; exact ⟨cm.1.1.mono (by omega) hW, cm.1.2.1, r1.mono (by omega)⟩) (fun i hi => ?_) (fun Γ' V' c' Y' e1 e2 e3 e4 e5 => ?_)
  · rw [ut_ne (by omega), ut_ne (by omega)]
    obtain ⟨n', k', a, b, c⟩ := cm.2 i hi
    exact ⟨n', k', a.mono (by omega) hW, b, c.mono (by omega)⟩
  · exact hq Γ' V' c' Y' e1 e2 e3 e4 (((FR.net ly (by omega)).tr (FR.net ly1 (by omega))).tr e5)
/-- what an act's call ends in -/
def AC (w : WP) (Γ : GM) (V : VH) (x Z L : Nat) (T : Nat → Int) (fk : Int) (n k W : Nat) (X : NT) (c : Nat) (Y : Nat → NT) (t a b : Int) (Q : QT) : Prop :=
  ∀ Γ' V' k' c' Y', (0 ≤ (actF n k t a b X).1 → c' = snQ c ∧ Y' = snY c X Y) → ((actF n k t a b X).1 < 0 → c' = c ∧ Y' = Y) → CI w Γ' V' x Z L T fk n k' (W + 1400) (actF n k t a b X).2 c' Y' → (∃ nn, nn ≤ 292 ∧ GX Γ Γ' nn) → FR x Z V V' → Q (some (.inl (actF n k t a b X).1)) Γ' V'
theorem T_ask (hd9 : 9 ≤ d) (hC : CI w Γ V x Z L T fk n k W X c Y) (hW : W + 1400 ≤ 1000000000) {a : Int} (hq : AC w Γ V x Z L T fk n k W X c Y 0 a 0 Q) : tC w d nTok_ask [.inr (.inl x), .inl a] Γ V Q := by
  have hd : 4 ≤ d := by omega
  obtain ⟨⟨c1, c2, c3⟩, cs_, ⟨⟨z0, z1, z2⟩, cl, kd, st, sp, v, T', ct0, ct1, ct2⟩, cc, ad, tb, hh, ch, ch10, ⟨⟨g8, g1, g15, g10⟩, ⟨v0, v1, v2, v3, v4, v5⟩, u0, u1, u2⟩, ly, cm⟩ := id hC
  have n0 := (ly.1 0 (by omega)).1.1.1
  have n1 := (ly.1 1 (by omega)).1.1.1
  have cx : CX Γ V x ad fk c hh := ⟨⟨g8, g1, g15, g10⟩, ⟨v0, v1, v2, v3, v4, v5⟩, u0, u1, u2⟩
  have b0 := ly.b c1 (u := 0) (by omega)
  have b1 := ly.b c1 (u := 1) (by omega)
  obtain ⟨k', g2⟩ := cm.1.1.act (t := 0) (x := a) (y := 0) (by omega) c3 hW
  have w2 := RW.act cm.1.1 cm.1.2.1 (t := 0) (x := a) (y := 0) (by omega) hW
  refine tC_enter (nL := 2) (by decide +kernel) (by decide +kernel) rfl (Nat.le_of_ble_eq_true rfl) (fun hok => ?_)
  simp only [ent]
  refine tG_at hd kTok_ask_0 ?_
  simp (disch := omega) only [bTok_ask_0, rn, sm, lg, lt_, cmpP, tk, pr_, pu, swl, cs, Nat.reduceAdd, Nat.reduceLeDiff, Nat.zero_le, Nat.le_refl, true_and, and_true, Int.toNat_natCast, Int.reduceToNat, Int.reduceEq, false_implies, true_implies, Int.reduceNeg, Int.cast_ofNat_Int, g8, g1, g15, g10, v0, v1, v2, v3, v4, v5, u0, u1, z0, n0, n1, reduceIte, Nat.reduceEqDiff, true_or, or_true, Int.reduceLE, Int.reduceLT, Int.reduceAdd, Int.reduceSub, Int.reduceMul, not_true_eq_false, not_false_eq_true, implies_true, nat_s, wr_id, uR_at, uR_uR, u1_at, u1_ne, uf_at, uf_ne, iltT, iltF, ileT, ieqT, ieqF]
  refine L_copy (by omega) ly cm.1.1 cm.1.2.2 (fun A1 B1 S1 r1 r6 => ?_)
  have ly1 := ly.set (u := 1) (by omega) (A := A1) (B := B1) (S := S1) (q := (tb 1).2.2.2) r1.2.2.2.2.1
  have e0 := (ly1.1 0 (by omega)).2.2.1.eq
  rw [ut_ne (by omega)] at e0
  refine tG_at hd kTok_ask_11 ?_
  simp (disch := omega) only [bTok_ask_11, rn, sm, lg, lt_, cmpP, tk, pr_, pu, swl, cs, Nat.reduceAdd, Nat.reduceLeDiff, Nat.zero_le, Nat.le_refl, true_and, and_true, Int.toNat_natCast, Int.reduceToNat, Int.reduceEq, false_implies, true_implies, Int.reduceNeg, Int.cast_ofNat_Int, g8, g1, g15, g10, v0, v1, v2, v3, v4, v5, u0, u1, z0, n0, n1, reduceIte, Nat.reduceEqDiff, true_or, or_true, Int.reduceLE, Int.reduceLT, Int.reduceAdd, Int.reduceSub, Int.reduceMul, not_true_eq_false, not_false_eq_true, implies_true, nat_s, wr_id, uR_at, uR_uR, u1_at, u1_ne, uf_at, uf_ne, iltT, iltF, ileT, ieqT, ieqF, nP_o]
  rw [← e0]
  refine k_askBy (y := 0) (by omega) (ly.1 0 (by omega)).1 cm.1.1 cm.1.2.2 (fun A2 B2 S2 r2 => ?_)
  refine tG_at hd kTok_ask_20 ?_
  simp (disch := omega) only [bTok_ask_20, rn, sm, lg, lt_, cmpP, tk, pr_, pu, swl, cs, Nat.reduceAdd, Nat.reduceLeDiff, Nat.zero_le, Nat.le_refl, true_and, and_true, Int.toNat_natCast, Int.reduceToNat, Int.reduceEq, false_implies, true_implies, Int.reduceNeg, Int.cast_ofNat_Int, g8, g1, g15, g10, v0, v1, v2, v3, v4, v5, u0, u1, z0, n0, n1, reduceIte, Nat.reduceEqDiff, true_or, or_true, Int.reduceLE, Int.reduceLT, Int.reduceAdd, Int.reduceSub, Int.reduceMul, not_true_eq_false, not_false_eq_true, implies_true, nat_s, wr_id, uR_at, uR_uR, u1_at, u1_ne, uf_at, uf_ne, iltT, iltF, ileT, ieqT, ieqF]
  refine T_mid (by omega) hC ch ch10 cx ly cm hW r1 g2 w2 (r2.mono (by omega)) (fun Γ' V' c' Y' e1 e2 e3 e4 e5 => ?_)
  refine tG_at hd kTok_ask_23 ?_
  simp only [bTok_ask_23, rn, sm, lg, lt_, cmpP, tk, pr_, pu, swl, cs, Nat.reduceAdd, Nat.reduceLeDiff, Nat.zero_le, Nat.le_refl, true_and, and_true, Int.toNat_natCast, Int.reduceToNat, Int.reduceEq, false_implies, true_implies, Int.reduceNeg, Int.cast_ofNat_Int]
  exact hq Γ' V' k' c' Y' e1 e2 e3 e4 e5
theorem T_leave (hd9 : 9 ≤ d) (hC : CI w Γ V x Z L T fk n k W X c Y) (hW : W + 1400 ≤ 1000000000) {a : Int} (hq : AC w Γ V x Z L T fk n k W X c Y 1 a 0 Q) : tC w d nTok_leave [.inr (.inl x), .inl a] Γ V Q := by
  have hd : 4 ≤ d := by omega
  obtain ⟨⟨c1, c2, c3⟩, cs_, ⟨⟨z0, z1, z2⟩, cl, kd, st, sp, v, T', ct0, ct1, ct2⟩, cc, ad, tb, hh, ch, ch10, ⟨⟨g8, g1, g15, g10⟩, ⟨v0, v1, v2, v3, v4, v5⟩, u0, u1, u2⟩, ly, cm⟩ := id hC
  have n0 := (ly.1 0 (by omega)).1.1.1
  have n1 := (ly.1 1 (by omega)).1.1.1
  have cx : CX Γ V x ad fk c hh := ⟨⟨g8, g1, g15, g10⟩, ⟨v0, v1, v2, v3, v4, v5⟩, u0, u1, u2⟩
  have b0 := ly.b c1 (u := 0) (by omega)
  have b1 := ly.b c1 (u := 1) (by omega)
  obtain ⟨k', g2⟩ := cm.1.1.act (t := 1) (x := a) (y := 0) (by omega) c3 hW
  have w2 := RW.act cm.1.1 cm.1.2.1 (t := 1) (x := a) (y := 0) (by omega) hW
  refine tC_enter (nL := 2) (by decide +kernel) (by decide +kernel) rfl (Nat.le_of_ble_eq_true rfl) (fun hok => ?_)
  simp only [ent]
  refine tG_at hd kTok_leave_0 ?_
  simp (disch := omega) only [bTok_leave_0, rn, sm, lg, lt_, cmpP, tk, pr_, pu, swl, cs, Nat.reduceAdd, Nat.reduceLeDiff, Nat.zero_le, Nat.le_refl, true_and, and_true, Int.toNat_natCast, Int.reduceToNat, Int.reduceEq, false_implies, true_implies, Int.reduceNeg, Int.cast_ofNat_Int, g8, g1, g15, g10, v0, v1, v2, v3, v4, v5, u0, u1, z0, n0, n1, reduceIte, Nat.reduceEqDiff, true_or, or_true, Int.reduceLE, Int.reduceLT, Int.reduceAdd, Int.reduceSub, Int.reduceMul, not_true_eq_false, not_false_eq_true, implies_true, nat_s, wr_id, uR_at, uR_uR, u1_at, u1_ne, uf_at, uf_ne, iltT, iltF, ileT, ieqT, ieqF]
  refine L_copy (by omega) ly cm.1.1 cm.1.2.2 (fun A1 B1 S1 r1 r6 => ?_)
  have ly1 := ly.set (u := 1) (by omega) (A := A1) (B := B1) (S := S1) (q := (tb 1).2.2.2) r1.2.2.2.2.1
  have e0 := (ly1.1 0 (by omega)).2.2.1.eq
  rw [ut_ne (by omega)] at e0
  refine tG_at hd kTok_leave_11 ?_
  simp (disch := omega) only [bTok_leave_11, rn, sm, lg, lt_, cmpP, tk, pr_, pu, swl, cs, Nat.reduceAdd, Nat.reduceLeDiff, Nat.zero_le, Nat.le_refl, true_and, and_true, Int.toNat_natCast, Int.reduceToNat, Int.reduceEq, false_implies, true_implies, Int.reduceNeg, Int.cast_ofNat_Int, g8, g1, g15, g10, v0, v1, v2, v3, v4, v5, u0, u1, z0, n0, n1, reduceIte, Nat.reduceEqDiff, true_or, or_true, Int.reduceLE, Int.reduceLT, Int.reduceAdd, Int.reduceSub, Int.reduceMul, not_true_eq_false, not_false_eq_true, implies_true, nat_s, wr_id, uR_at, uR_uR, u1_at, u1_ne, uf_at, uf_ne, iltT, iltF, ileT, ieqT, ieqF, nP_o]
  rw [← e0]
  refine k_leaveBy (y := 0) (by omega) (ly.1 0 (by omega)).1 cm.1.1 cm.1.2.2 (by omega) (fun A2 B2 S2 r2 => ?_)
  refine tG_at hd kTok_leave_20 ?_
  simp (disch := omega) only [bTok_leave_20, rn, sm, lg, lt_, cmpP, tk, pr_, pu, swl, cs, Nat.reduceAdd, Nat.reduceLeDiff, Nat.zero_le, Nat.le_refl, true_and, and_true, Int.toNat_natCast, Int.reduceToNat, Int.reduceEq, false_implies, true_implies, Int.reduceNeg, Int.cast_ofNat_Int, g8, g1, g15, g10, v0, v1, v2, v3, v4, v5, u0, u1, z0, n0, n1, reduceIte, Nat.reduceEqDiff, true_or, or_true, Int.reduceLE, Int.reduceLT, Int.reduceAdd, Int.reduceSub, Int.reduceMul, not_true_eq_false, not_false_eq_true, implies_true, nat_s, wr_id, uR_at, uR_uR, u1_at, u1_ne, uf_at, uf_ne, iltT, iltF, ileT, ieqT, ieqF]
  refine T_mid (by omega) hC ch ch10 cx ly cm hW r1 g2 w2 (r2.mono (by omega)) (fun Γ' V' c' Y' e1 e2 e3 e4 e5 => ?_)
  refine tG_at hd kTok_leave_23 ?_
  simp only [bTok_leave_23, rn, sm, lg, lt_, cmpP, tk, pr_, pu, swl, cs, Nat.reduceAdd, Nat.reduceLeDiff, Nat.zero_le, Nat.le_refl, true_and, and_true, Int.toNat_natCast, Int.reduceToNat, Int.reduceEq, false_implies, true_implies, Int.reduceNeg, Int.cast_ofNat_Int]
  exact hq Γ' V' k' c' Y' e1 e2 e3 e4 e5
theorem T_suspect (hd9 : 9 ≤ d) (hC : CI w Γ V x Z L T fk n k W X c Y) (hW : W + 1400 ≤ 1000000000) {a : Int} (hq : AC w Γ V x Z L T fk n k W X c Y 2 a 0 Q) : tC w d nTok_suspect [.inr (.inl x), .inl a] Γ V Q := by
  have hd : 4 ≤ d := by omega
  obtain ⟨⟨c1, c2, c3⟩, cs_, ⟨⟨z0, z1, z2⟩, cl, kd, st, sp, v, T', ct0, ct1, ct2⟩, cc, ad, tb, hh, ch, ch10, ⟨⟨g8, g1, g15, g10⟩, ⟨v0, v1, v2, v3, v4, v5⟩, u0, u1, u2⟩, ly, cm⟩ := id hC
  have n0 := (ly.1 0 (by omega)).1.1.1
  have n1 := (ly.1 1 (by omega)).1.1.1
  have cx : CX Γ V x ad fk c hh := ⟨⟨g8, g1, g15, g10⟩, ⟨v0, v1, v2, v3, v4, v5⟩, u0, u1, u2⟩
  have b0 := ly.b c1 (u := 0) (by omega)
  have b1 := ly.b c1 (u := 1) (by omega)
  obtain ⟨k', g2⟩ := cm.1.1.act (t := 2) (x := a) (y := 0) (by omega) c3 hW
  have w2 := RW.act cm.1.1 cm.1.2.1 (t := 2) (x := a) (y := 0) (by omega) hW
  refine tC_enter (nL := 2) (by decide +kernel) (by decide +kernel) rfl (Nat.le_of_ble_eq_true rfl) (fun hok => ?_)
  simp only [ent]
  refine tG_at hd kTok_suspect_0 ?_
  simp (disch := omega) only [bTok_suspect_0, rn, sm, lg, lt_, cmpP, tk, pr_, pu, swl, cs, Nat.reduceAdd, Nat.reduceLeDiff, Nat.zero_le, Nat.le_refl, true_and, and_true, Int.toNat_natCast, Int.reduceToNat, Int.reduceEq, false_implies, true_implies, Int.reduceNeg, Int.cast_ofNat_Int, g8, g1, g15, g10, v0, v1, v2, v3, v4, v5, u0, u1, z0, n0, n1, reduceIte, Nat.reduceEqDiff, true_or, or_true, Int.reduceLE, Int.reduceLT, Int.reduceAdd, Int.reduceSub, Int.reduceMul, not_true_eq_false, not_false_eq_true, implies_true, nat_s, wr_id, uR_at, uR_uR, u1_at, u1_ne, uf_at, uf_ne, iltT, iltF, ileT, ieqT, ieqF]
  refine L_copy (by omega) ly cm.1.1 cm.1.2.2 (fun A1 B1 S1 r1 r6 => ?_)
  have ly1 := ly.set (u := 1) (by omega) (A := A1) (B := B1) (S := S1) (q := (tb 1).2.2.2) r1.2.2.2.2.1
  have e0 := (ly1.1 0 (by omega)).2.2.1.eq
  rw [ut_ne (by omega)] at e0
  refine tG_at hd kTok_suspect_11 ?_
  simp (disch := omega) only [bTok_suspect_11, rn, sm, lg, lt_, cmpP, tk, pr_, pu, swl, cs, Nat.reduceAdd, Nat.reduceLeDiff, Nat.zero_le, Nat.le_refl, true_and, and_true, Int.toNat_natCast, Int.reduceToNat, Int.reduceEq, false_implies, true_implies, Int.reduceNeg, Int.cast_ofNat_Int, g8, g1, g15, g10, v0, v1, v2, v3, v4, v5, u0, u1, z0, n0, n1, reduceIte, Nat.reduceEqDiff, true_or, or_true, Int.reduceLE, Int.reduceLT, Int.reduceAdd, Int.reduceSub, Int.reduceMul, not_true_eq_false, not_false_eq_true, implies_true, nat_s, wr_id, uR_at, uR_uR, u1_at, u1_ne, uf_at, uf_ne, iltT, iltF, ileT, ieqT, ieqF, nP_o]
  rw [← e0]
  refine k_suspectBy (y := 0) (by omega) (ly.1 0 (by omega)).1 cm.1.1 cm.1.2.2 (fun A2 B2 S2 r2 => ?_)
  refine tG_at hd kTok_suspect_20 ?_
  simp (disch := omega) only [bTok_suspect_20, rn, sm, lg, lt_, cmpP, tk, pr_, pu, swl, cs, Nat.reduceAdd, Nat.reduceLeDiff, Nat.zero_le, Nat.le_refl, true_and, and_true, Int.toNat_natCast, Int.reduceToNat, Int.reduceEq, false_implies, true_implies, Int.reduceNeg, Int.cast_ofNat_Int, g8, g1, g15, g10, v0, v1, v2, v3, v4, v5, u0, u1, z0, n0, n1, reduceIte, Nat.reduceEqDiff, true_or, or_true, Int.reduceLE, Int.reduceLT, Int.reduceAdd, Int.reduceSub, Int.reduceMul, not_true_eq_false, not_false_eq_true, implies_true, nat_s, wr_id, uR_at, uR_uR, u1_at, u1_ne, uf_at, uf_ne, iltT, iltF, ileT, ieqT, ieqF]
  refine T_mid (by omega) hC ch ch10 cx ly cm hW r1 g2 w2 (r2.mono (by omega)) (fun Γ' V' c' Y' e1 e2 e3 e4 e5 => ?_)
  refine tG_at hd kTok_suspect_23 ?_
  simp only [bTok_suspect_23, rn, sm, lg, lt_, cmpP, tk, pr_, pu, swl, cs, Nat.reduceAdd, Nat.reduceLeDiff, Nat.zero_le, Nat.le_refl, true_and, and_true, Int.toNat_natCast, Int.reduceToNat, Int.reduceEq, false_implies, true_implies, Int.reduceNeg, Int.cast_ofNat_Int]
  exact hq Γ' V' k' c' Y' e1 e2 e3 e4 e5
theorem T_send (hd10 : 10 ≤ d) (hC : CI w Γ V x Z L T fk n k W X c Y) (hW : W + 1400 ≤ 1000000000) {a b : Int} (hq : AC w Γ V x Z L T fk n k W X c Y 3 a b Q) : tC w d nTok_send [.inr (.inl x), .inl a, .inl b] Γ V Q := by
  have hd : 4 ≤ d := by omega
  obtain ⟨⟨c1, c2, c3⟩, cs_, ⟨⟨z0, z1, z2⟩, cl, kd, st, sp, v, T', ct0, ct1, ct2⟩, cc, ad, tb, hh, ch, ch10, ⟨⟨g8, g1, g15, g10⟩, ⟨v0, v1, v2, v3, v4, v5⟩, u0, u1, u2⟩, ly, cm⟩ := id hC
  have n0 := (ly.1 0 (by omega)).1.1.1
  have n1 := (ly.1 1 (by omega)).1.1.1
  have cx : CX Γ V x ad fk c hh := ⟨⟨g8, g1, g15, g10⟩, ⟨v0, v1, v2, v3, v4, v5⟩, u0, u1, u2⟩
  have b0 := ly.b c1 (u := 0) (by omega)
  have b1 := ly.b c1 (u := 1) (by omega)
  obtain ⟨k', g2⟩ := cm.1.1.act (t := 3) (x := a) (y := b) (by omega) c3 hW
  have w2 := RW.act cm.1.1 cm.1.2.1 (t := 3) (x := a) (y := b) (by omega) hW
  refine tC_enter (nL := 3) (by decide +kernel) (by decide +kernel) rfl (Nat.le_of_ble_eq_true rfl) (fun hok => ?_)
  simp only [ent]
  refine tG_at hd kTok_send_0 ?_
  simp (disch := omega) only [bTok_send_0, rn, sm, lg, lt_, cmpP, tk, pr_, pu, swl, cs, Nat.reduceAdd, Nat.reduceLeDiff, Nat.zero_le, Nat.le_refl, true_and, and_true, Int.toNat_natCast, Int.reduceToNat, Int.reduceEq, false_implies, true_implies, Int.reduceNeg, Int.cast_ofNat_Int, g8, g1, g15, g10, v0, v1, v2, v3, v4, v5, u0, u1, z0, n0, n1, reduceIte, Nat.reduceEqDiff, true_or, or_true, Int.reduceLE, Int.reduceLT, Int.reduceAdd, Int.reduceSub, Int.reduceMul, not_true_eq_false, not_false_eq_true, implies_true, nat_s, wr_id, uR_at, uR_uR, u1_at, u1_ne, uf_at, uf_ne, iltT, iltF, ileT, ieqT, ieqF]
  refine L_copy (by omega) ly cm.1.1 cm.1.2.2 (fun A1 B1 S1 r1 r6 => ?_)
  have ly1 := ly.set (u := 1) (by omega) (A := A1) (B := B1) (S := S1) (q := (tb 1).2.2.2) r1.2.2.2.2.1
  have e0 := (ly1.1 0 (by omega)).2.2.1.eq
  rw [ut_ne (by omega)] at e0
  refine tG_at hd kTok_send_11 ?_
  simp (disch := omega) only [bTok_send_11, rn, sm, lg, lt_, cmpP, tk, pr_, pu, swl, cs, Nat.reduceAdd, Nat.reduceLeDiff, Nat.zero_le, Nat.le_refl, true_and, and_true, Int.toNat_natCast, Int.reduceToNat, Int.reduceEq, false_implies, true_implies, Int.reduceNeg, Int.cast_ofNat_Int, g8, g1, g15, g10, v0, v1, v2, v3, v4, v5, u0, u1, z0, n0, n1, reduceIte, Nat.reduceEqDiff, true_or, or_true, Int.reduceLE, Int.reduceLT, Int.reduceAdd, Int.reduceSub, Int.reduceMul, not_true_eq_false, not_false_eq_true, implies_true, nat_s, wr_id, uR_at, uR_uR, u1_at, u1_ne, uf_at, uf_ne, iltT, iltF, ileT, ieqT, ieqF, nP_o]
  rw [← e0]
  refine k_deliverOn (by omega) (ly.1 0 (by omega)).1 cm.1.1 cm.1.2.2 (by omega) (fun A2 B2 S2 q2 r2 => ?_)
  refine tG_at hd kTok_send_21 ?_
  simp (disch := omega) only [bTok_send_21, rn, sm, lg, lt_, cmpP, tk, pr_, pu, swl, cs, Nat.reduceAdd, Nat.reduceLeDiff, Nat.zero_le, Nat.le_refl, true_and, and_true, Int.toNat_natCast, Int.reduceToNat, Int.reduceEq, false_implies, true_implies, Int.reduceNeg, Int.cast_ofNat_Int, g8, g1, g15, g10, v0, v1, v2, v3, v4, v5, u0, u1, z0, n0, n1, reduceIte, Nat.reduceEqDiff, true_or, or_true, Int.reduceLE, Int.reduceLT, Int.reduceAdd, Int.reduceSub, Int.reduceMul, not_true_eq_false, not_false_eq_true, implies_true, nat_s, wr_id, uR_at, uR_uR, u1_at, u1_ne, uf_at, uf_ne, iltT, iltF, ileT, ieqT, ieqF]
  refine T_mid (by omega) hC ch ch10 cx ly cm hW r1 g2 w2 (r2.mono (by omega)) (fun Γ' V' c' Y' e1 e2 e3 e4 e5 => ?_)
  refine tG_at hd kTok_send_24 ?_
  simp only [bTok_send_24, rn, sm, lg, lt_, cmpP, tk, pr_, pu, swl, cs, Nat.reduceAdd, Nat.reduceLeDiff, Nat.zero_le, Nat.le_refl, true_and, and_true, Int.toNat_natCast, Int.reduceToNat, Int.reduceEq, false_implies, true_implies, Int.reduceNeg, Int.cast_ofNat_Int]
  exact hq Γ' V' k' c' Y' e1 e2 e3 e4 e5
theorem T_lose (hd10 : 10 ≤ d) (hC : CI w Γ V x Z L T fk n k W X c Y) (hW : W + 1400 ≤ 1000000000) {a b : Int} (hq : AC w Γ V x Z L T fk n k W X c Y 4 a b Q) : tC w d nTok_lose [.inr (.inl x), .inl a, .inl b] Γ V Q := by
  have hd : 4 ≤ d := by omega
  obtain ⟨⟨c1, c2, c3⟩, cs_, ⟨⟨z0, z1, z2⟩, cl, kd, st, sp, v, T', ct0, ct1, ct2⟩, cc, ad, tb, hh, ch, ch10, ⟨⟨g8, g1, g15, g10⟩, ⟨v0, v1, v2, v3, v4, v5⟩, u0, u1, u2⟩, ly, cm⟩ := id hC
  have n0 := (ly.1 0 (by omega)).1.1.1
  have n1 := (ly.1 1 (by omega)).1.1.1
  have cx : CX Γ V x ad fk c hh := ⟨⟨g8, g1, g15, g10⟩, ⟨v0, v1, v2, v3, v4, v5⟩, u0, u1, u2⟩
  have b0 := ly.b c1 (u := 0) (by omega)
  have b1 := ly.b c1 (u := 1) (by omega)
  obtain ⟨k', g2⟩ := cm.1.1.act (t := 4) (x := a) (y := b) (by omega) c3 hW
  have w2 := RW.act cm.1.1 cm.1.2.1 (t := 4) (x := a) (y := b) (by omega) hW
  refine tC_enter (nL := 3) (by decide +kernel) (by decide +kernel) rfl (Nat.le_of_ble_eq_true rfl) (fun hok => ?_)
  simp only [ent]
  refine tG_at hd kTok_lose_0 ?_
  simp (disch := omega) only [bTok_lose_0, rn, sm, lg, lt_, cmpP, tk, pr_, pu, swl, cs, Nat.reduceAdd, Nat.reduceLeDiff, Nat.zero_le, Nat.le_refl, true_and, and_true, Int.toNat_natCast, Int.reduceToNat, Int.reduceEq, false_implies, true_implies, Int.reduceNeg, Int.cast_ofNat_Int, g8, g1, g15, g10, v0, v1, v2, v3, v4, v5, u0, u1, z0, n0, n1, reduceIte, Nat.reduceEqDiff, true_or, or_true, Int.reduceLE, Int.reduceLT, Int.reduceAdd, Int.reduceSub, Int.reduceMul, not_true_eq_false, not_false_eq_true, implies_true, nat_s, wr_id, uR_at, uR_uR, u1_at, u1_ne, uf_at, uf_ne, iltT, iltF, ileT, ieqT, ieqF]
  refine L_copy (by omega) ly cm.1.1 cm.1.2.2 (fun A1 B1 S1 r1 r6 => ?_)
  have ly1 := ly.set (u := 1) (by omega) (A := A1) (B := B1) (S := S1) (q := (tb 1).2.2.2) r1.2.2.2.2.1
  have e0 := (ly1.1 0 (by omega)).2.2.1.eq
  rw [ut_ne (by omega)] at e0
  refine tG_at hd kTok_lose_11 ?_
  simp (disch := omega) only [bTok_lose_11, rn, sm, lg, lt_, cmpP, tk, pr_, pu, swl, cs, Nat.reduceAdd, Nat.reduceLeDiff, Nat.zero_le, Nat.le_refl, true_and, and_true, Int.toNat_natCast, Int.reduceToNat, Int.reduceEq, false_implies, true_implies, Int.reduceNeg, Int.cast_ofNat_Int, g8, g1, g15, g10, v0, v1, v2, v3, v4, v5, u0, u1, z0, n0, n1, reduceIte, Nat.reduceEqDiff, true_or, or_true, Int.reduceLE, Int.reduceLT, Int.reduceAdd, Int.reduceSub, Int.reduceMul, not_true_eq_false, not_false_eq_true, implies_true, nat_s, wr_id, uR_at, uR_uR, u1_at, u1_ne, uf_at, uf_ne, iltT, iltF, ileT, ieqT, ieqF, nP_o]
  rw [← e0]
  refine k_loseOn (by omega) (ly.1 0 (by omega)).1 cm.1.1 cm.1.2.2 (fun A2 B2 S2 q2 r2 => ?_)
  refine tG_at hd kTok_lose_21 ?_
  simp (disch := omega) only [bTok_lose_21, rn, sm, lg, lt_, cmpP, tk, pr_, pu, swl, cs, Nat.reduceAdd, Nat.reduceLeDiff, Nat.zero_le, Nat.le_refl, true_and, and_true, Int.toNat_natCast, Int.reduceToNat, Int.reduceEq, false_implies, true_implies, Int.reduceNeg, Int.cast_ofNat_Int, g8, g1, g15, g10, v0, v1, v2, v3, v4, v5, u0, u1, z0, n0, n1, reduceIte, Nat.reduceEqDiff, true_or, or_true, Int.reduceLE, Int.reduceLT, Int.reduceAdd, Int.reduceSub, Int.reduceMul, not_true_eq_false, not_false_eq_true, implies_true, nat_s, wr_id, uR_at, uR_uR, u1_at, u1_ne, uf_at, uf_ne, iltT, iltF, ileT, ieqT, ieqF]
  refine T_mid (by omega) hC ch ch10 cx ly cm hW r1 g2 w2 (r2.mono (by omega)) (fun Γ' V' c' Y' e1 e2 e3 e4 e5 => ?_)
  refine tG_at hd kTok_lose_24 ?_
  simp only [bTok_lose_24, rn, sm, lg, lt_, cmpP, tk, pr_, pu, swl, cs, Nat.reduceAdd, Nat.reduceLeDiff, Nat.zero_le, Nat.le_refl, true_and, and_true, Int.toNat_natCast, Int.reduceToNat, Int.reduceEq, false_implies, true_implies, Int.reduceNeg, Int.cast_ofNat_Int]
  exact hq Γ' V' k' c' Y' e1 e2 e3 e4 e5
theorem T_settle (hd10 : 10 ≤ d) (hC : CI w Γ V x Z L T fk n k W X c Y) (hW : W + 1400 ≤ 1000000000) {a : Int} (hq0 : ¬ (1 ≤ a ∧ a ≤ 99) → Q (some (.inl (-1))) Γ V) (hq : (1 ≤ a ∧ a ≤ 99) → AC w Γ V x Z L T fk n k W X c Y 5 a 0 Q) : tC w d nTok_settle [.inr (.inl x), .inl a] Γ V Q := by
  have hd : 4 ≤ d := by omega
  obtain ⟨⟨c1, c2, c3⟩, cs_, ⟨⟨z0, z1, z2⟩, cl, kd, st, sp, v, T', ct0, ct1, ct2⟩, cc, ad, tb, hh, ch, ch10, ⟨⟨g8, g1, g15, g10⟩, ⟨v0, v1, v2, v3, v4, v5⟩, u0, u1, u2⟩, ly, cm⟩ := id hC
  have n0 := (ly.1 0 (by omega)).1.1.1
  have n1 := (ly.1 1 (by omega)).1.1.1
  have cx : CX Γ V x ad fk c hh := ⟨⟨g8, g1, g15, g10⟩, ⟨v0, v1, v2, v3, v4, v5⟩, u0, u1, u2⟩
  have b0 := ly.b c1 (u := 0) (by omega)
  have b1 := ly.b c1 (u := 1) (by omega)
  refine tC_enter (nL := 2) (by decide +kernel) (by decide +kernel) rfl (Nat.le_of_ble_eq_true rfl) (fun hok => ?_)
  simp only [ent]
  by_cases h1 : 1 ≤ a
  · by_cases h99 : a ≤ 99
    · have hq := hq ⟨h1, h99⟩
      obtain ⟨k', g2⟩ := cm.1.1.act (t := 5) (x := a) (y := 0) (by omega) c3 hW
      have w2 := RW.act cm.1.1 cm.1.2.1 (t := 5) (x := a) (y := 0) (by omega) hW
      obtain ⟨z, rfl⟩ : ∃ z : Nat, a = (z : Int) := ⟨a.toNat, by omega⟩
      have hF : actF n k 5 (z : Int) 0 X = setF n z X := by
        unfold actF
        rw [if_neg (by decide), if_neg (by decide), if_neg (by decide), if_neg (by decide), if_neg (by decide), Int.toNat_natCast]
      unfold AC at hq
      rw [hF] at hq g2 w2
      refine tG_at hd kTok_settle_0 ?_
      simp (disch := omega) only [bTok_settle_0, rn, sm, lg, lt_, cmpP, tk, pr_, pu, swl, cs, Nat.reduceAdd, Nat.reduceLeDiff, Nat.zero_le, Nat.le_refl, true_and, and_true, Int.toNat_natCast, Int.reduceToNat, Int.reduceEq, false_implies, true_implies, Int.reduceNeg, Int.cast_ofNat_Int, g8, g1, g15, g10, v0, v1, v2, v3, v4, v5, u0, u1, z0, n0, n1, reduceIte, Nat.reduceEqDiff, true_or, or_true, Int.reduceLE, Int.reduceLT, Int.reduceAdd, Int.reduceSub, Int.reduceMul, not_true_eq_false, not_false_eq_true, implies_true, nat_s, wr_id, uR_at, uR_uR, u1_at, u1_ne, uf_at, uf_ne, iltT, iltF, ileT, ieqT, ieqF]
      refine tG_at hd kTok_settle_5 ?_
      simp (disch := omega) only [bTok_settle_5, rn, sm, lg, lt_, cmpP, tk, pr_, pu, swl, cs, Nat.reduceAdd, Nat.reduceLeDiff, Nat.zero_le, Nat.le_refl, true_and, and_true, Int.toNat_natCast, Int.reduceToNat, Int.reduceEq, false_implies, true_implies, Int.reduceNeg, Int.cast_ofNat_Int, g8, g1, g15, g10, v0, v1, v2, v3, v4, v5, u0, u1, z0, n0, n1, reduceIte, Nat.reduceEqDiff, true_or, or_true, Int.reduceLE, Int.reduceLT, Int.reduceAdd, Int.reduceSub, Int.reduceMul, not_true_eq_false, not_false_eq_true, implies_true, nat_s, wr_id, uR_at, uR_uR, u1_at, u1_ne, uf_at, uf_ne, iltT, iltF, ileT, ieqT, ieqF]
      refine tG_at hd kTok_settle_13 ?_
      simp (disch := omega) only [bTok_settle_13, rn, sm, lg, lt_, cmpP, tk, pr_, pu, swl, cs, Nat.reduceAdd, Nat.reduceLeDiff, Nat.zero_le, Nat.le_refl, true_and, and_true, Int.toNat_natCast, Int.reduceToNat, Int.reduceEq, false_implies, true_implies, Int.reduceNeg, Int.cast_ofNat_Int, g8, g1, g15, g10, v0, v1, v2, v3, v4, v5, u0, u1, z0, n0, n1, reduceIte, Nat.reduceEqDiff, true_or, or_true, Int.reduceLE, Int.reduceLT, Int.reduceAdd, Int.reduceSub, Int.reduceMul, not_true_eq_false, not_false_eq_true, implies_true, nat_s, wr_id, uR_at, uR_uR, u1_at, u1_ne, uf_at, uf_ne, iltT, iltF, ileT, ieqT, ieqF]
      refine L_copy (by omega) ly cm.1.1 cm.1.2.2 (fun A1 B1 S1 r1 r6 => ?_)
      have ly1 := ly.set (u := 1) (by omega) (A := A1) (B := B1) (S := S1) (q := (tb 1).2.2.2) r1.2.2.2.2.1
      have e0 := (ly1.1 0 (by omega)).2.2.1.eq
      rw [ut_ne (by omega)] at e0
      refine tG_at hd kTok_settle_24 ?_
      simp (disch := omega) only [bTok_settle_24, rn, sm, lg, lt_, cmpP, tk, pr_, pu, swl, cs, Nat.reduceAdd, Nat.reduceLeDiff, Nat.zero_le, Nat.le_refl, true_and, and_true, Int.toNat_natCast, Int.reduceToNat, Int.reduceEq, false_implies, true_implies, Int.reduceNeg, Int.cast_ofNat_Int, g8, g1, g15, g10, v0, v1, v2, v3, v4, v5, u0, u1, z0, n0, n1, reduceIte, Nat.reduceEqDiff, true_or, or_true, Int.reduceLE, Int.reduceLT, Int.reduceAdd, Int.reduceSub, Int.reduceMul, not_true_eq_false, not_false_eq_true, implies_true, nat_s, wr_id, uR_at, uR_uR, u1_at, u1_ne, uf_at, uf_ne, iltT, iltF, ileT, ieqT, ieqF, nP_o]
      rw [← e0]
      refine k_settleBy (by omega) (ly.1 0 (by omega)).1 cm.1.1 cm.1.2.2 (by omega) (by omega) (fun A2 B2 S2 q2 r2 _ => ?_)
      refine tG_at hd kTok_settle_33 ?_
      simp (disch := omega) only [bTok_settle_33, rn, sm, lg, lt_, cmpP, tk, pr_, pu, swl, cs, Nat.reduceAdd, Nat.reduceLeDiff, Nat.zero_le, Nat.le_refl, true_and, and_true, Int.toNat_natCast, Int.reduceToNat, Int.reduceEq, false_implies, true_implies, Int.reduceNeg, Int.cast_ofNat_Int, g8, g1, g15, g10, v0, v1, v2, v3, v4, v5, u0, u1, z0, n0, n1, reduceIte, Nat.reduceEqDiff, true_or, or_true, Int.reduceLE, Int.reduceLT, Int.reduceAdd, Int.reduceSub, Int.reduceMul, not_true_eq_false, not_false_eq_true, implies_true, nat_s, wr_id, uR_at, uR_uR, u1_at, u1_ne, uf_at, uf_ne, iltT, iltF, ileT, ieqT, ieqF]
      refine T_mid (by omega) hC ch ch10 cx ly cm hW r1 g2 w2 (r2.mono (by omega)) (fun Γ' V' c' Y' e1 e2 e3 e4 e5 => ?_)
      refine tG_at hd kTok_settle_36 ?_
      simp only [bTok_settle_36, rn, sm, lg, lt_, cmpP, tk, pr_, pu, swl, cs, Nat.reduceAdd, Nat.reduceLeDiff, Nat.zero_le, Nat.le_refl, true_and, and_true, Int.toNat_natCast, Int.reduceToNat, Int.reduceEq, false_implies, true_implies, Int.reduceNeg, Int.cast_ofNat_Int]
      exact hq Γ' V' k' c' Y' e1 e2 e3 e4 e5
    · refine tG_at hd kTok_settle_0 ?_
      simp (disch := omega) only [bTok_settle_0, rn, sm, lg, lt_, cmpP, tk, pr_, pu, swl, cs, Nat.reduceAdd, Nat.reduceLeDiff, Nat.zero_le, Nat.le_refl, true_and, and_true, Int.toNat_natCast, Int.reduceToNat, Int.reduceEq, false_implies, true_implies, Int.reduceNeg, Int.cast_ofNat_Int, g8, g1, g15, g10, v0, v1, v2, v3, v4, v5, u0, u1, z0, n0, n1, reduceIte, Nat.reduceEqDiff, true_or, or_true, Int.reduceLE, Int.reduceLT, Int.reduceAdd, Int.reduceSub, Int.reduceMul, not_true_eq_false, not_false_eq_true, implies_true, nat_s, wr_id, uR_at, uR_uR, u1_at, u1_ne, uf_at, uf_ne, iltT, iltF, ileT, ieqT, ieqF]
      refine tG_at hd kTok_settle_5 ?_
      simp (disch := omega) only [bTok_settle_5, rn, sm, lg, lt_, cmpP, tk, pr_, pu, swl, cs, Nat.reduceAdd, Nat.reduceLeDiff, Nat.zero_le, Nat.le_refl, true_and, and_true, Int.toNat_natCast, Int.reduceToNat, Int.reduceEq, false_implies, true_implies, Int.reduceNeg, Int.cast_ofNat_Int, g8, g1, g15, g10, v0, v1, v2, v3, v4, v5, u0, u1, z0, n0, n1, reduceIte, Nat.reduceEqDiff, true_or, or_true, Int.reduceLE, Int.reduceLT, Int.reduceAdd, Int.reduceSub, Int.reduceMul, not_true_eq_false, not_false_eq_true, implies_true, nat_s, wr_id, uR_at, uR_uR, u1_at, u1_ne, uf_at, uf_ne, iltT, iltF, ileT, ieqT, ieqF]
      refine tG_at hd kTok_settle_11 ?_
      simp (disch := omega) only [bTok_settle_11, rn, sm, lg, lt_, cmpP, tk, pr_, pu, swl, cs, Nat.reduceAdd, Nat.reduceLeDiff, Nat.zero_le, Nat.le_refl, true_and, and_true, Int.toNat_natCast, Int.reduceToNat, Int.reduceEq, false_implies, true_implies, Int.reduceNeg, Int.cast_ofNat_Int, g8, g1, g15, g10, v0, v1, v2, v3, v4, v5, u0, u1, z0, n0, n1, reduceIte, Nat.reduceEqDiff, true_or, or_true, Int.reduceLE, Int.reduceLT, Int.reduceAdd, Int.reduceSub, Int.reduceMul, not_true_eq_false, not_false_eq_true, implies_true, nat_s, wr_id, uR_at, uR_uR, u1_at, u1_ne, uf_at, uf_ne, iltT, iltF, ileT, ieqT, ieqF]
      exact hq0 (fun h => h99 h.2)
  · refine tG_at hd kTok_settle_0 ?_
    simp (disch := omega) only [bTok_settle_0, rn, sm, lg, lt_, cmpP, tk, pr_, pu, swl, cs, Nat.reduceAdd, Nat.reduceLeDiff, Nat.zero_le, Nat.le_refl, true_and, and_true, Int.toNat_natCast, Int.reduceToNat, Int.reduceEq, false_implies, true_implies, Int.reduceNeg, Int.cast_ofNat_Int, g8, g1, g15, g10, v0, v1, v2, v3, v4, v5, u0, u1, z0, n0, n1, reduceIte, Nat.reduceEqDiff, true_or, or_true, Int.reduceLE, Int.reduceLT, Int.reduceAdd, Int.reduceSub, Int.reduceMul, not_true_eq_false, not_false_eq_true, implies_true, nat_s, wr_id, uR_at, uR_uR, u1_at, u1_ne, uf_at, uf_ne, iltT, iltF, ileT, ieqT, ieqF]
    refine tG_at hd kTok_settle_11 ?_
    simp (disch := omega) only [bTok_settle_11, rn, sm, lg, lt_, cmpP, tk, pr_, pu, swl, cs, Nat.reduceAdd, Nat.reduceLeDiff, Nat.zero_le, Nat.le_refl, true_and, and_true, Int.toNat_natCast, Int.reduceToNat, Int.reduceEq, false_implies, true_implies, Int.reduceNeg, Int.cast_ofNat_Int, g8, g1, g15, g10, v0, v1, v2, v3, v4, v5, u0, u1, z0, n0, n1, reduceIte, Nat.reduceEqDiff, true_or, or_true, Int.reduceLE, Int.reduceLT, Int.reduceAdd, Int.reduceSub, Int.reduceMul, not_true_eq_false, not_false_eq_true, implies_true, nat_s, wr_id, uR_at, uR_uR, u1_at, u1_ne, uf_at, uf_ne, iltT, iltF, ileT, ieqT, ieqF]
    exact hq0 (fun h => h1 h.1)
end CM
