/-! THE CLASS: feed, end, fault; looks -/
section CF
variable {w : WP} {Γ : GM} {V V' : VH} {x L : Nat} {T : Nat → Int}
theorem strA.fr (h : strA w Γ V x) (hV : ∀ c j, c < x → V' c j = V c j) : strA w Γ V' x := by
  obtain ⟨a, s0, s1, s2, s3, s4, s5, s6, s7⟩ := h
  have f : ∀ k l, k < 8 → strI Γ V (sad w k) l → strI Γ V' (sad w k) l := fun k l hk h => ⟨h.1, h.2.1, fun j hj => by rw [hV _ _ (a k hk)]; exact h.2.2 j hj⟩
  exact ⟨a, f 0 _ (by omega) s0, f 1 _ (by omega) s1, f 2 _ (by omega) s2, f 3 _ (by omega) s3, f 4 _ (by omega) s4, f 5 _ (by omega) s5, f 6 _ (by omega) s6, f 7 _ (by omega) s7⟩
theorem CT.fr (h : CT Γ V x L T) (hV : ∀ c j, x + 1 ≤ c → c < x + 3 → V' c j = V c j) : CT Γ V' x L T := by
  obtain ⟨a, b, kd, st, sp, v, T', c, e, f⟩ := h
  exact ⟨a, b, kd, st, sp, v, T', fun j => (hV _ _ (by omega) (by omega)).trans (c j), fun j => (hV _ _ (by omega) (by omega)).trans (e j), f⟩
theorem CC.fr (h : CC Γ V x) (hV : ∀ c j, x + 3 ≤ c → c < x + 9 → V' c j = V c j) : CC Γ V' x := by
  obtain ⟨a, m, b, fk, fp, R, K, F, G, P, c0, c1, c2, c3, c4, c5⟩ := h
  exact ⟨a, m, b, fk, fp, R, K, F, G, P, fun j => (hV _ _ (by omega) (by omega)).trans (c0 j), fun j => (hV _ _ (by omega) (by omega)).trans (c1 j), fun j => (hV _ _ (by omega) (by omega)).trans (c2 j), fun j => (hV _ _ (by omega) (by omega)).trans (c3 j), fun j => (hV _ _ (by omega) (by omega)).trans (c4 j), fun j => (hV _ _ (by omega) (by omega)).trans (c5 j)⟩
theorem CX.fr {ad : Nat → Nat} {fk : Int} {c hh : Nat} (h : CX Γ V x ad fk c hh) (hV : ∀ b j, b = x ∨ b = x + 9 ∨ b = x + 10 → V' b j = V b j) : CX Γ V' x ad fk c hh := by
  obtain ⟨a, ⟨b0, b1, b2, b3, b4, b5⟩, c0, c1, c2⟩ := h
  have e : ∀ j, V' x j = V x j := fun j => hV x j (Or.inl rfl)
  exact ⟨a, ⟨(e 0).trans b0, (e 1).trans b1, (e 2).trans b2, (e 3).trans b3, (e 4).trans b4, (e 5).trans b5⟩, (hV _ _ (by omega)).trans c0, (hV _ _ (by omega)).trans c1, fun j hj => (hV _ _ (by omega)).trans (c2 j hj)⟩
end CF
section CM
variable {w : WP} {d : Nat} {Γ : GM} {V : VH} {Q : QT} {x Z L n k W c : Nat} {T : Nat → Int} {fk : Int} {X : NT} {Y : Nat → NT}
theorem CI.fr {V' : VH} (hC : CI w Γ V x Z L T fk n k W X c Y) (hV : ∀ b j, b < x ∨ (x ≤ b ∧ b < x + 595) ∨ Z < b → V' b j = V b j) : CI w Γ V' x Z L T fk n k W X c Y := by
  obtain ⟨h1, h2, h3, h4, ad, tb, hh, h5, h6, h7, h8, h9⟩ := hC
  exact ⟨h1, h2.fr (fun c j hc => hV c j (by omega)), h3.fr (fun c j a b => hV c j (by omega)), h4.fr (fun c j a b => hV c j (by omega)), ad, tb, hh, h5, h6, h7.fr (fun b j hb => hV b j (by omega)), h8.fr (fun c j hc => hV c j (by omega)), h9⟩
theorem CI.tape {L2 : Nat} {T2' T2 : Nat → Int} {kd st sp v : Int} (hC : CI w Γ V x Z L T fk n k W X c Y) (h6 : L2 ≤ 640) (hT : TB L2 T2' T2) : CI w Γ (tS V (x + 1) (L2 : Int) kd st sp v T2') x Z L2 T2 fk n k W X c Y ∧ FR x Z V (tS V (x + 1) (L2 : Int) kd st sp v T2') := by
  obtain ⟨h1, h2, h3, h4, ad, tb, hh, h5, h6', h7, h8, h9⟩ := hC
  refine ⟨⟨h1, h2.fr (fun c j hc => t_o (by omega)), ⟨h3.1, h6, kd, st, sp, v, T2', fun j => if_pos rfl, fun j => t_a, hT⟩, h4.fr (fun c j a b => t_o (by omega)), ad, tb, hh, h5, h6', h7.fr (fun b j hb => t_o (by omega)), h8.fr (fun c j hc => t_o (by omega)), h9⟩, fun c j hc => t_o (by omega)⟩
theorem T_feed (hd5 : 5 ≤ d) (hC : CI w Γ V x Z L T fk n k W X c Y) {a1 a2 a3 a4 a5 : Int}
    (hq : if L + 20 ≤ 640 then ∀ V', CI w Γ V' x Z (L + 20) (fedT a1 a2 a3 a4 a5 L T) fk n k W X c Y → FR x Z V V' → Q (some (.inl ((L + 20 : Nat) : Int))) Γ V' else Q (some (.inl (-1))) Γ V) :
    tC w d nTok_feed [.inr (.inl x), .inl a1, .inl a2, .inl a3, .inl a4, .inl a5] Γ V Q := by
  have hd : 4 ≤ d := by omega
  obtain ⟨⟨c1, c2, c3⟩, cs_, ⟨⟨z0, z1, z2⟩, cl, kd, st, sp, v, T', ct0, ct1, ct2⟩, cc, ad, tb, hh, ch, ch10, ⟨⟨g8, g1, g15, g10⟩, ⟨v0, v1, v2, v3, v4, v5⟩, u0, u1, u2⟩, ly, cm⟩ := id hC
  have n0 := (ly.1 0 (by omega)).1.1.1
  have n1 := (ly.1 1 (by omega)).1.1.1
  have hK : TK Γ (x + 1) := ⟨z0, z1, z2⟩
  have eT : tS V (x + 1) (L : Int) kd st sp v T' = V := t_id ct0 ct1
  refine tC_enter (nL := 6) (by decide +kernel) (by decide +kernel) rfl (Nat.le_of_ble_eq_true rfl) (fun hok => ?_)
  simp only [ent]
  by_cases h20 : L + 20 ≤ 640
  · rw [if_pos h20] at hq
    have hB := ((((ct2.lay a1).lay a2).lay a3).lay a4).lay a5
    have fin := hC.tape (kd := kd) (st := st) (sp := sp) (v := v) h20 hB
    rw [← eT]
    refine tG_at hd kTok_feed_0 ?_
    simp (disch := omega) only [bTok_feed_0, rn, sm, lg, lt_, cmpP, tk, pr_, pu, swl, cs, Nat.reduceAdd, Nat.reduceLeDiff, Nat.zero_le, Nat.le_refl, true_and, and_true, Int.toNat_natCast, Int.reduceToNat, Int.reduceEq, false_implies, true_implies, Int.reduceNeg, Int.cast_ofNat_Int, g8, g1, g15, g10, v0, v1, v2, v3, v4, v5, u0, u1, z0, n0, n1, reduceIte, Nat.reduceEqDiff, true_or, or_true, Int.reduceLE, Int.reduceLT, Int.reduceAdd, Int.reduceSub, Int.reduceMul, not_true_eq_false, not_false_eq_true, implies_true, nat_s, wr_id, uR_at, uR_uR, u1_at, u1_ne, uf_at, uf_ne, iltT, iltF, ileT, ieqT, ieqF, t_o, t_r1]
    refine tG_at hd kTok_feed_18 ?_
    simp (disch := omega) only [bTok_feed_18, rn, sm, lg, lt_, cmpP, tk, pr_, pu, swl, cs, Nat.reduceAdd, Nat.reduceLeDiff, Nat.zero_le, Nat.le_refl, true_and, and_true, Int.toNat_natCast, Int.reduceToNat, Int.reduceEq, false_implies, true_implies, Int.reduceNeg, Int.cast_ofNat_Int, g8, g1, g15, g10, v0, v1, v2, v3, v4, v5, u0, u1, z0, n0, n1, reduceIte, Nat.reduceEqDiff, true_or, or_true, Int.reduceLE, Int.reduceLT, Int.reduceAdd, Int.reduceSub, Int.reduceMul, not_true_eq_false, not_false_eq_true, implies_true, nat_s, wr_id, uR_at, uR_uR, u1_at, u1_ne, uf_at, uf_ne, iltT, iltF, ileT, ieqT, ieqF, t_o]
    refine k_add (by omega) hK (by omega) ?_
    refine tG_at hd kTok_feed_26 ?_
    simp (disch := omega) only [bTok_feed_26, rn, sm, lg, lt_, cmpP, tk, pr_, pu, swl, cs, Nat.reduceAdd, Nat.reduceLeDiff, Nat.zero_le, Nat.le_refl, true_and, and_true, Int.toNat_natCast, Int.reduceToNat, Int.reduceEq, false_implies, true_implies, Int.reduceNeg, Int.cast_ofNat_Int, g8, g1, g15, g10, v0, v1, v2, v3, v4, v5, u0, u1, z0, n0, n1, reduceIte, Nat.reduceEqDiff, true_or, or_true, Int.reduceLE, Int.reduceLT, Int.reduceAdd, Int.reduceSub, Int.reduceMul, not_true_eq_false, not_false_eq_true, implies_true, nat_s, wr_id, uR_at, uR_uR, u1_at, u1_ne, uf_at, uf_ne, iltT, iltF, ileT, ieqT, ieqF, t_o]
    refine k_add (by omega) hK (by omega) ?_
    refine tG_at hd kTok_feed_34 ?_
    simp (disch := omega) only [bTok_feed_34, rn, sm, lg, lt_, cmpP, tk, pr_, pu, swl, cs, Nat.reduceAdd, Nat.reduceLeDiff, Nat.zero_le, Nat.le_refl, true_and, and_true, Int.toNat_natCast, Int.reduceToNat, Int.reduceEq, false_implies, true_implies, Int.reduceNeg, Int.cast_ofNat_Int, g8, g1, g15, g10, v0, v1, v2, v3, v4, v5, u0, u1, z0, n0, n1, reduceIte, Nat.reduceEqDiff, true_or, or_true, Int.reduceLE, Int.reduceLT, Int.reduceAdd, Int.reduceSub, Int.reduceMul, not_true_eq_false, not_false_eq_true, implies_true, nat_s, wr_id, uR_at, uR_uR, u1_at, u1_ne, uf_at, uf_ne, iltT, iltF, ileT, ieqT, ieqF, t_o]
    refine k_add (by omega) hK (by omega) ?_
    refine tG_at hd kTok_feed_42 ?_
    simp (disch := omega) only [bTok_feed_42, rn, sm, lg, lt_, cmpP, tk, pr_, pu, swl, cs, Nat.reduceAdd, Nat.reduceLeDiff, Nat.zero_le, Nat.le_refl, true_and, and_true, Int.toNat_natCast, Int.reduceToNat, Int.reduceEq, false_implies, true_implies, Int.reduceNeg, Int.cast_ofNat_Int, g8, g1, g15, g10, v0, v1, v2, v3, v4, v5, u0, u1, z0, n0, n1, reduceIte, Nat.reduceEqDiff, true_or, or_true, Int.reduceLE, Int.reduceLT, Int.reduceAdd, Int.reduceSub, Int.reduceMul, not_true_eq_false, not_false_eq_true, implies_true, nat_s, wr_id, uR_at, uR_uR, u1_at, u1_ne, uf_at, uf_ne, iltT, iltF, ileT, ieqT, ieqF, t_o]
    refine k_add (by omega) hK (by omega) ?_
    refine tG_at hd kTok_feed_51 ?_
    simp (disch := omega) only [bTok_feed_51, rn, sm, lg, lt_, cmpP, tk, pr_, pu, swl, cs, Nat.reduceAdd, Nat.reduceLeDiff, Nat.zero_le, Nat.le_refl, true_and, and_true, Int.toNat_natCast, Int.reduceToNat, Int.reduceEq, false_implies, true_implies, Int.reduceNeg, Int.cast_ofNat_Int, g8, g1, g15, g10, v0, v1, v2, v3, v4, v5, u0, u1, z0, n0, n1, reduceIte, Nat.reduceEqDiff, true_or, or_true, Int.reduceLE, Int.reduceLT, Int.reduceAdd, Int.reduceSub, Int.reduceMul, not_true_eq_false, not_false_eq_true, implies_true, nat_s, wr_id, uR_at, uR_uR, u1_at, u1_ne, uf_at, uf_ne, iltT, iltF, ileT, ieqT, ieqF, t_o]
    refine k_add (by omega) hK (by omega) ?_
    refine tG_at hd kTok_feed_60 ?_
    simp (disch := omega) only [bTok_feed_60, rn, sm, lg, lt_, cmpP, tk, pr_, pu, swl, cs, Nat.reduceAdd, Nat.reduceLeDiff, Nat.zero_le, Nat.le_refl, true_and, and_true, Int.toNat_natCast, Int.reduceToNat, Int.reduceEq, false_implies, true_implies, Int.reduceNeg, Int.cast_ofNat_Int, g8, g1, g15, g10, v0, v1, v2, v3, v4, v5, u0, u1, z0, n0, n1, reduceIte, Nat.reduceEqDiff, true_or, or_true, Int.reduceLE, Int.reduceLT, Int.reduceAdd, Int.reduceSub, Int.reduceMul, not_true_eq_false, not_false_eq_true, implies_true, nat_s, wr_id, uR_at, uR_uR, u1_at, u1_ne, uf_at, uf_ne, iltT, iltF, ileT, ieqT, ieqF, t_o, t_r1]
    exact hq _ fin.1 fin.2
  · rw [if_neg h20] at hq
    rw [← eT] at hq ⊢
    refine tG_at hd kTok_feed_0 ?_
    simp (disch := omega) only [bTok_feed_0, rn, sm, lg, lt_, cmpP, tk, pr_, pu, swl, cs, Nat.reduceAdd, Nat.reduceLeDiff, Nat.zero_le, Nat.le_refl, true_and, and_true, Int.toNat_natCast, Int.reduceToNat, Int.reduceEq, false_implies, true_implies, Int.reduceNeg, Int.cast_ofNat_Int, g8, g1, g15, g10, v0, v1, v2, v3, v4, v5, u0, u1, z0, n0, n1, reduceIte, Nat.reduceEqDiff, true_or, or_true, Int.reduceLE, Int.reduceLT, Int.reduceAdd, Int.reduceSub, Int.reduceMul, not_true_eq_false, not_false_eq_true, implies_true, nat_s, wr_id, uR_at, uR_uR, u1_at, u1_ne, uf_at, uf_ne, iltT, iltF, ileT, ieqT, ieqF, t_o, t_r1]
    refine tG_at hd kTok_feed_16 ?_
    simp (disch := omega) only [bTok_feed_16, rn, sm, lg, lt_, cmpP, tk, pr_, pu, swl, cs, Nat.reduceAdd, Nat.reduceLeDiff, Nat.zero_le, Nat.le_refl, true_and, and_true, Int.toNat_natCast, Int.reduceToNat, Int.reduceEq, false_implies, true_implies, Int.reduceNeg, Int.cast_ofNat_Int, g8, g1, g15, g10, v0, v1, v2, v3, v4, v5, u0, u1, z0, n0, n1, reduceIte, Nat.reduceEqDiff, true_or, or_true, Int.reduceLE, Int.reduceLT, Int.reduceAdd, Int.reduceSub, Int.reduceMul, not_true_eq_false, not_false_eq_true, implies_true, nat_s, wr_id, uR_at, uR_uR, u1_at, u1_ne, uf_at, uf_ne, iltT, iltF, ileT, ieqT, ieqF]
    exact hq
theorem T_end (hd : 4 ≤ d) (hC : CI w Γ V x Z L T fk n k W X c Y) {a : Int}
    (hq : if 0 ≤ a ∧ a ≤ (L : Int) then ∀ V', CI w Γ V' x Z a.toNat T fk n k W X c Y → FR x Z V V' → Q (some (.inl 1)) Γ V' else Q (some (.inl 0)) Γ V) :
    tC w d nTok_end [.inr (.inl x), .inl a] Γ V Q := by
  obtain ⟨⟨c1, c2, c3⟩, cs_, ⟨⟨z0, z1, z2⟩, cl, kd, st, sp, v, T', ct0, ct1, ct2⟩, cc, ad, tb, hh, ch, ch10, ⟨⟨g8, g1, g15, g10⟩, ⟨v0, v1, v2, v3, v4, v5⟩, u0, u1, u2⟩, ly, cm⟩ := id hC
  have n0 := (ly.1 0 (by omega)).1.1.1
  have n1 := (ly.1 1 (by omega)).1.1.1
  have eT : tS V (x + 1) (L : Int) kd st sp v T' = V := t_id ct0 ct1
  refine tC_enter (nL := 2) (by decide +kernel) (by decide +kernel) rfl (Nat.le_of_ble_eq_true rfl) (fun hok => ?_)
  simp only [ent]
  by_cases h0 : 0 ≤ a
  · by_cases hL : a ≤ (L : Int)
    · rw [if_pos ⟨h0, hL⟩] at hq
      obtain ⟨b, rfl⟩ : ∃ b : Nat, a = (b : Int) := ⟨a.toNat, by omega⟩
      rw [Int.toNat_natCast] at hq
      have fin := hC.tape (L2 := b) (T2' := T') (T2 := T) (kd := kd) (st := st) (sp := sp) (v := v) (by omega) (fun j hj => ct2 j (by omega))
      rw [← eT]
      refine tG_at hd kTok_end_0 ?_
      simp (disch := omega) only [bTok_end_0, rn, sm, lg, lt_, cmpP, tk, pr_, pu, swl, cs, Nat.reduceAdd, Nat.reduceLeDiff, Nat.zero_le, Nat.le_refl, true_and, and_true, Int.toNat_natCast, Int.reduceToNat, Int.reduceEq, false_implies, true_implies, Int.reduceNeg, Int.cast_ofNat_Int, g8, g1, g15, g10, v0, v1, v2, v3, v4, v5, u0, u1, z0, n0, n1, reduceIte, Nat.reduceEqDiff, true_or, or_true, Int.reduceLE, Int.reduceLT, Int.reduceAdd, Int.reduceSub, Int.reduceMul, not_true_eq_false, not_false_eq_true, implies_true, nat_s, wr_id, uR_at, uR_uR, u1_at, u1_ne, uf_at, uf_ne, iltT, iltF, ileT, ieqT, ieqF]
      refine tG_at hd kTok_end_4 ?_
      simp (disch := omega) only [bTok_end_4, rn, sm, lg, lt_, cmpP, tk, pr_, pu, swl, cs, Nat.reduceAdd, Nat.reduceLeDiff, Nat.zero_le, Nat.le_refl, true_and, and_true, Int.toNat_natCast, Int.reduceToNat, Int.reduceEq, false_implies, true_implies, Int.reduceNeg, Int.cast_ofNat_Int, g8, g1, g15, g10, v0, v1, v2, v3, v4, v5, u0, u1, z0, n0, n1, reduceIte, Nat.reduceEqDiff, true_or, or_true, Int.reduceLE, Int.reduceLT, Int.reduceAdd, Int.reduceSub, Int.reduceMul, not_true_eq_false, not_false_eq_true, implies_true, nat_s, wr_id, uR_at, uR_uR, u1_at, u1_ne, uf_at, uf_ne, iltT, iltF, ileT, ieqT, ieqF, t_o, t_r1]
      refine tG_at hd kTok_end_17 ?_
      simp (disch := omega) only [bTok_end_17, rn, sm, lg, lt_, cmpP, tk, pr_, pu, swl, cs, Nat.reduceAdd, Nat.reduceLeDiff, Nat.zero_le, Nat.le_refl, true_and, and_true, Int.toNat_natCast, Int.reduceToNat, Int.reduceEq, false_implies, true_implies, Int.reduceNeg, Int.cast_ofNat_Int, g8, g1, g15, g10, v0, v1, v2, v3, v4, v5, u0, u1, z0, n0, n1, reduceIte, Nat.reduceEqDiff, true_or, or_true, Int.reduceLE, Int.reduceLT, Int.reduceAdd, Int.reduceSub, Int.reduceMul, not_true_eq_false, not_false_eq_true, implies_true, nat_s, wr_id, uR_at, uR_uR, u1_at, u1_ne, uf_at, uf_ne, iltT, iltF, ileT, ieqT, ieqF, t_o, t_w1]
      exact hq _ fin.1 fin.2
    · rw [if_neg (fun h => hL h.2)] at hq
      rw [← eT] at hq ⊢
      refine tG_at hd kTok_end_0 ?_
      simp (disch := omega) only [bTok_end_0, rn, sm, lg, lt_, cmpP, tk, pr_, pu, swl, cs, Nat.reduceAdd, Nat.reduceLeDiff, Nat.zero_le, Nat.le_refl, true_and, and_true, Int.toNat_natCast, Int.reduceToNat, Int.reduceEq, false_implies, true_implies, Int.reduceNeg, Int.cast_ofNat_Int, g8, g1, g15, g10, v0, v1, v2, v3, v4, v5, u0, u1, z0, n0, n1, reduceIte, Nat.reduceEqDiff, true_or, or_true, Int.reduceLE, Int.reduceLT, Int.reduceAdd, Int.reduceSub, Int.reduceMul, not_true_eq_false, not_false_eq_true, implies_true, nat_s, wr_id, uR_at, uR_uR, u1_at, u1_ne, uf_at, uf_ne, iltT, iltF, ileT, ieqT, ieqF]
      refine tG_at hd kTok_end_4 ?_
      simp (disch := omega) only [bTok_end_4, rn, sm, lg, lt_, cmpP, tk, pr_, pu, swl, cs, Nat.reduceAdd, Nat.reduceLeDiff, Nat.zero_le, Nat.le_refl, true_and, and_true, Int.toNat_natCast, Int.reduceToNat, Int.reduceEq, false_implies, true_implies, Int.reduceNeg, Int.cast_ofNat_Int, g8, g1, g15, g10, v0, v1, v2, v3, v4, v5, u0, u1, z0, n0, n1, reduceIte, Nat.reduceEqDiff, true_or, or_true, Int.reduceLE, Int.reduceLT, Int.reduceAdd, Int.reduceSub, Int.reduceMul, not_true_eq_false, not_false_eq_true, implies_true, nat_s, wr_id, uR_at, uR_uR, u1_at, u1_ne, uf_at, uf_ne, iltT, iltF, ileT, ieqT, ieqF, t_o, t_r1]
      refine tG_at hd kTok_end_15 ?_
      simp (disch := omega) only [bTok_end_15, rn, sm, lg, lt_, cmpP, tk, pr_, pu, swl, cs, Nat.reduceAdd, Nat.reduceLeDiff, Nat.zero_le, Nat.le_refl, true_and, and_true, Int.toNat_natCast, Int.reduceToNat, Int.reduceEq, false_implies, true_implies, Int.reduceNeg, Int.cast_ofNat_Int, g8, g1, g15, g10, v0, v1, v2, v3, v4, v5, u0, u1, z0, n0, n1, reduceIte, Nat.reduceEqDiff, true_or, or_true, Int.reduceLE, Int.reduceLT, Int.reduceAdd, Int.reduceSub, Int.reduceMul, not_true_eq_false, not_false_eq_true, implies_true, nat_s, wr_id, uR_at, uR_uR, u1_at, u1_ne, uf_at, uf_ne, iltT, iltF, ileT, ieqT, ieqF]
      exact hq
  · rw [if_neg (fun h => h0 h.1)] at hq
    refine tG_at hd kTok_end_0 ?_
    simp (disch := omega) only [bTok_end_0, rn, sm, lg, lt_, cmpP, tk, pr_, pu, swl, cs, Nat.reduceAdd, Nat.reduceLeDiff, Nat.zero_le, Nat.le_refl, true_and, and_true, Int.toNat_natCast, Int.reduceToNat, Int.reduceEq, false_implies, true_implies, Int.reduceNeg, Int.cast_ofNat_Int, g8, g1, g15, g10, v0, v1, v2, v3, v4, v5, u0, u1, z0, n0, n1, reduceIte, Nat.reduceEqDiff, true_or, or_true, Int.reduceLE, Int.reduceLT, Int.reduceAdd, Int.reduceSub, Int.reduceMul, not_true_eq_false, not_false_eq_true, implies_true, nat_s, wr_id, uR_at, uR_uR, u1_at, u1_ne, uf_at, uf_ne, iltT, iltF, ileT, ieqT, ieqF]
    refine tG_at hd kTok_end_15 ?_
    simp (disch := omega) only [bTok_end_15, rn, sm, lg, lt_, cmpP, tk, pr_, pu, swl, cs, Nat.reduceAdd, Nat.reduceLeDiff, Nat.zero_le, Nat.le_refl, true_and, and_true, Int.toNat_natCast, Int.reduceToNat, Int.reduceEq, false_implies, true_implies, Int.reduceNeg, Int.cast_ofNat_Int, g8, g1, g15, g10, v0, v1, v2, v3, v4, v5, u0, u1, z0, n0, n1, reduceIte, Nat.reduceEqDiff, true_or, or_true, Int.reduceLE, Int.reduceLT, Int.reduceAdd, Int.reduceSub, Int.reduceMul, not_true_eq_false, not_false_eq_true, implies_true, nat_s, wr_id, uR_at, uR_uR, u1_at, u1_ne, uf_at, uf_ne, iltT, iltF, ileT, ieqT, ieqF]
    exact hq
theorem T_fault (hd : 4 ≤ d) (hC : CI w Γ V x Z L T fk n k W X c Y) (hq : Q (some (.inl fk)) Γ V) : tC w d nTok_fault [.inr (.inl x)] Γ V Q := by
  obtain ⟨⟨c1, c2, c3⟩, cs_, ⟨⟨z0, z1, z2⟩, cl, kd, st, sp, v, T', ct0, ct1, ct2⟩, cc, ad, tb, hh, ch, ch10, ⟨⟨g8, g1, g15, g10⟩, ⟨v0, v1, v2, v3, v4, v5⟩, u0, u1, u2⟩, ly, cm⟩ := id hC
  have n0 := (ly.1 0 (by omega)).1.1.1
  have n1 := (ly.1 1 (by omega)).1.1.1
  refine tC_enter (nL := 1) (by decide +kernel) (by decide +kernel) rfl (Nat.le_of_ble_eq_true rfl) (fun hok => ?_)
  simp only [ent]
  refine tG_at hd kTok_fault_0 ?_
  simp (disch := omega) only [bTok_fault_0, rn, sm, lg, lt_, cmpP, tk, pr_, pu, swl, cs, Nat.reduceAdd, Nat.reduceLeDiff, Nat.zero_le, Nat.le_refl, true_and, and_true, Int.toNat_natCast, Int.reduceToNat, Int.reduceEq, false_implies, true_implies, Int.reduceNeg, Int.cast_ofNat_Int, g8, g1, g15, g10, v0, v1, v2, v3, v4, v5, u0, u1, z0, n0, n1, reduceIte, Nat.reduceEqDiff, true_or, or_true, Int.reduceLE, Int.reduceLT, Int.reduceAdd, Int.reduceSub, Int.reduceMul, not_true_eq_false, not_false_eq_true, implies_true, nat_s, wr_id, uR_at, uR_uR, u1_at, u1_ne, uf_at, uf_ne, iltT, iltF, ileT, ieqT, ieqF]
  exact hq
theorem T_pass (hd6 : 6 ≤ d) (hC : CI w Γ V x Z L T fk n k W X c Y) {a b : Int} (hq : Q (some (.inl (pssF n X a b))) Γ V) : tC w d nTok_pass [.inr (.inl x), .inl a, .inl b] Γ V Q := by
  have hd : 4 ≤ d := by omega
  obtain ⟨⟨c1, c2, c3⟩, cs_, ⟨⟨z0, z1, z2⟩, cl, kd, st, sp, v, T', ct0, ct1, ct2⟩, cc, ad, tb, hh, ch, ch10, ⟨⟨g8, g1, g15, g10⟩, ⟨v0, v1, v2, v3, v4, v5⟩, u0, u1, u2⟩, ly, cm⟩ := id hC
  have n0 := (ly.1 0 (by omega)).1.1.1
  have n1 := (ly.1 1 (by omega)).1.1.1
  have eN := (ly.1 0 (by omega)).2.2.1.eq
  refine tC_enter (nL := 3) (by decide +kernel) (by decide +kernel) rfl (Nat.le_of_ble_eq_true rfl) (fun hok => ?_)
  simp only [ent]
  refine tG_at hd kTok_pass_0 ?_
  simp (disch := omega) only [bTok_pass_0, rn, sm, lg, lt_, cmpP, tk, pr_, pu, swl, cs, Nat.reduceAdd, Nat.reduceLeDiff, Nat.zero_le, Nat.le_refl, true_and, and_true, Int.toNat_natCast, Int.reduceToNat, Int.reduceEq, false_implies, true_implies, Int.reduceNeg, Int.cast_ofNat_Int, g8, g1, g15, g10, v0, v1, v2, v3, v4, v5, u0, u1, z0, n0, n1, reduceIte, Nat.reduceEqDiff, true_or, or_true, Int.reduceLE, Int.reduceLT, Int.reduceAdd, Int.reduceSub, Int.reduceMul, not_true_eq_false, not_false_eq_true, implies_true, nat_s, wr_id, uR_at, uR_uR, u1_at, u1_ne, uf_at, uf_ne, iltT, iltF, ileT, ieqT, ieqF]
  rw [← eN]
  refine k_ofPass (by omega) (ly.1 0 (by omega)).1 cm.1.1 cm.1.2.2 ?_
  rw [eN]
  refine tG_at hd kTok_pass_9 ?_
  simp (disch := omega) only [bTok_pass_9, rn, sm, lg, lt_, cmpP, tk, pr_, pu, swl, cs, Nat.reduceAdd, Nat.reduceLeDiff, Nat.zero_le, Nat.le_refl, true_and, and_true, Int.toNat_natCast, Int.reduceToNat, Int.reduceEq, false_implies, true_implies, Int.reduceNeg, Int.cast_ofNat_Int, g8, g1, g15, g10, v0, v1, v2, v3, v4, v5, u0, u1, z0, n0, n1, reduceIte, Nat.reduceEqDiff, true_or, or_true, Int.reduceLE, Int.reduceLT, Int.reduceAdd, Int.reduceSub, Int.reduceMul, not_true_eq_false, not_false_eq_true, implies_true, nat_s, wr_id, uR_at, uR_uR, u1_at, u1_ne, uf_at, uf_ne, iltT, iltF, ileT, ieqT, ieqF]
  exact hq
theorem T_way (hd6 : 6 ≤ d) (hC : CI w Γ V x Z L T fk n k W X c Y) {a b : Int} (hq : Q (some (.inl (wayF n k X a b))) Γ V) : tC w d nTok_way [.inr (.inl x), .inl a, .inl b] Γ V Q := by
  have hd : 4 ≤ d := by omega
  obtain ⟨⟨c1, c2, c3⟩, cs_, ⟨⟨z0, z1, z2⟩, cl, kd, st, sp, v, T', ct0, ct1, ct2⟩, cc, ad, tb, hh, ch, ch10, ⟨⟨g8, g1, g15, g10⟩, ⟨v0, v1, v2, v3, v4, v5⟩, u0, u1, u2⟩, ly, cm⟩ := id hC
  have n0 := (ly.1 0 (by omega)).1.1.1
  have n1 := (ly.1 1 (by omega)).1.1.1
  have eN := (ly.1 0 (by omega)).2.2.1.eq
  refine tC_enter (nL := 3) (by decide +kernel) (by decide +kernel) rfl (Nat.le_of_ble_eq_true rfl) (fun hok => ?_)
  simp only [ent]
  refine tG_at hd kTok_way_0 ?_
  simp (disch := omega) only [bTok_way_0, rn, sm, lg, lt_, cmpP, tk, pr_, pu, swl, cs, Nat.reduceAdd, Nat.reduceLeDiff, Nat.zero_le, Nat.le_refl, true_and, and_true, Int.toNat_natCast, Int.reduceToNat, Int.reduceEq, false_implies, true_implies, Int.reduceNeg, Int.cast_ofNat_Int, g8, g1, g15, g10, v0, v1, v2, v3, v4, v5, u0, u1, z0, n0, n1, reduceIte, Nat.reduceEqDiff, true_or, or_true, Int.reduceLE, Int.reduceLT, Int.reduceAdd, Int.reduceSub, Int.reduceMul, not_true_eq_false, not_false_eq_true, implies_true, nat_s, wr_id, uR_at, uR_uR, u1_at, u1_ne, uf_at, uf_ne, iltT, iltF, ileT, ieqT, ieqF]
  rw [← eN]
  refine k_countOnWay (by omega) (ly.1 0 (by omega)).1 cm.1.1 cm.1.2.2 ?_
  rw [eN]
  refine tG_at hd kTok_way_9 ?_
  simp (disch := omega) only [bTok_way_9, rn, sm, lg, lt_, cmpP, tk, pr_, pu, swl, cs, Nat.reduceAdd, Nat.reduceLeDiff, Nat.zero_le, Nat.le_refl, true_and, and_true, Int.toNat_natCast, Int.reduceToNat, Int.reduceEq, false_implies, true_implies, Int.reduceNeg, Int.cast_ofNat_Int, g8, g1, g15, g10, v0, v1, v2, v3, v4, v5, u0, u1, z0, n0, n1, reduceIte, Nat.reduceEqDiff, true_or, or_true, Int.reduceLE, Int.reduceLT, Int.reduceAdd, Int.reduceSub, Int.reduceMul, not_true_eq_false, not_false_eq_true, implies_true, nat_s, wr_id, uR_at, uR_uR, u1_at, u1_ne, uf_at, uf_ne, iltT, iltF, ileT, ieqT, ieqF]
  exact hq
end CM
