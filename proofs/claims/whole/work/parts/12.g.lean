/-! THE CLASS: a text is read -/
section RD
variable {T : Nat → Int} {L p : Nat}
theorem rdN_f {lo hi : Int} {f pl : Nat} (h : rdN T L p lo hi = .inl (f, pl)) : f ≠ 0 := by
  unfold rdN at h
  split at h
  · split at h
    · cases h
    · cases h; decide
  · cases h; decide
theorem rdS_f {f pl : Nat} (h : rdS T L p = .inl (f, pl)) : f ≠ 0 := by
  unfold rdS at h
  split at h
  · cases h
  · cases h; decide
theorem rdM_f {f pl : Nat} (h : rdM T L p = .inl (f, pl)) : f ≠ 0 := by
  unfold rdM at h
  split at h
  · cases h1 : rdN T L (tkE T L p) 2 6 with
    | inl e =>
      obtain ⟨f', pl'⟩ := e
      rw [h1] at h
      cases h
      exact rdN_f h1
    | inr u =>
      obtain ⟨n, p1⟩ := u
      rw [h1] at h
      dsimp only at h
      cases h2 : rdS T L p1 with
      | inl e =>
        obtain ⟨f', pl'⟩ := e
        rw [h2] at h
        cases h
        exact rdS_f h2
      | inr u => rw [h2] at h; cases h
  · cases h; decide
theorem rdK_f {n c f pl : Nat} (h : rdK T L n c p = .inl (f, pl)) : f ≠ 0 := by
  unfold rdK at h
  split at h
  · cases h; decide
  · cases h1 : rdN T L (tkE T L p) 0 ((n : Int) - 1) with
    | inl e =>
      obtain ⟨f', pl'⟩ := e
      rw [h1] at h
      cases h
      exact rdN_f h1
    | inr u =>
      obtain ⟨x, p1⟩ := u
      rw [h1] at h
      dsimp only at h
      cases h2 : rdN T L p1 0 9 with
      | inl e =>
        obtain ⟨f', pl'⟩ := e
        rw [h2] at h
        cases h
        exact rdN_f h2
      | inr u =>
        obtain ⟨y, p2⟩ := u
        rw [h2] at h
        dsimp only at h
        cases h3 : rdS T L p2 with
        | inl e =>
          obtain ⟨f', pl'⟩ := e
          rw [h3] at h
          cases h
          exact rdS_f h3
        | inr u => rw [h3] at h; cases h
theorem rkL_f {n : Nat} : ∀ f {c p : Nat} {r : Nat → Int} {fk pl : Nat}, f + c = 22 → c ≤ 20 → rkL T L n f c r p = .inl (fk, pl) → fk ≠ 0
  | 0, c, p, r, fk, pl, h1, h2, _ => by omega
  | f + 1, c, p, r, fk, pl, h1, h2, h => by
    unfold rkL at h
    split at h
    · cases h3 : rdK T L n c p with
      | inl e =>
        obtain ⟨f', pl'⟩ := e
        rw [h3] at h
        cases h
        exact rdK_f h3
      | inr u =>
        obtain ⟨x, y, p1⟩ := u
        rw [h3] at h
        have hc : c ≠ 20 := fun hc => by
          unfold rdK at h3
          rw [if_pos hc] at h3
          cases h3
        exact rkL_f f (by omega) (by omega) h
    · cases h
theorem rdA_f {f pl : Nat} (h : rdA T L p = .inl (f, pl)) : f ≠ 0 := by
  unfold rdA at h
  split at h
  · cases h; decide
  · cases h1 : rdN T L (tkE T L p) (if actK T L p = 5 then 1 else 0) 99 with
    | inl e =>
      obtain ⟨f', pl'⟩ := e
      rw [h1] at h
      cases h
      exact rdN_f h1
    | inr u =>
      obtain ⟨x, p1⟩ := u
      rw [h1] at h
      dsimp only at h
      split at h
      · cases h2 : rdN T L p1 0 99 with
        | inl e =>
          obtain ⟨f', pl'⟩ := e
          rw [h2] at h
          cases h
          exact rdN_f h2
        | inr u =>
          obtain ⟨y, p2⟩ := u
          rw [h2] at h
          dsimp only at h
          cases h3 : rdS T L p2 with
          | inl e =>
            obtain ⟨f', pl'⟩ := e
            rw [h3] at h
            cases h
            exact rdS_f h3
          | inr u => rw [h3] at h; cases h
      · cases h3 : rdS T L p1 with
        | inl e =>
          obtain ⟨f', pl'⟩ := e
          rw [h3] at h
          cases h
          exact rdS_f h3
        | inr u => rw [h3] at h; cases h
theorem rdAll_ok : ∀ f {p : Nat}, p ≤ L → ∀ x ∈ (rdAll T L f p).1, x.1 ≤ 5 ∧ x.2.1 ≤ 99 ∧ x.2.2.1 ≤ 99
  | 0, p, hp, x, hx => by simp [rdAll] at hx
  | f + 1, p, hp, x, hx => by
    unfold rdAll at hx
    split at hx
    · simp at hx
    · cases h1 : rdA T L p with
      | inl e => rw [h1] at hx; simp at hx
      | inr u =>
        obtain ⟨t, a, b, pl, p1⟩ := u
        rw [h1] at hx
        dsimp only at hx
        have ok := rdA_ok hp h1
        rcases List.mem_cons.mp hx with h | h
        · rw [h]
          exact ⟨ok.1, ok.2.1, ok.2.2.1⟩
        · exact rdAll_ok f ok.2.2.2.2.1 x h
end RD
/-- the acts that were read lie in the four rows from place c on -/
def acL (K F G P : Nat → Int) (c : Nat) (l : List (Nat × Nat × Nat × Nat)) : Prop := ∀ i, i < l.length → K (c + i) = ((l.getD i (0, 0, 0, 0)).1 : Int) ∧ F (c + i) = ((l.getD i (0, 0, 0, 0)).2.1 : Int) ∧ G (c + i) = ((l.getD i (0, 0, 0, 0)).2.2.1 : Int) ∧ P (c + i) = ((l.getD i (0, 0, 0, 0)).2.2.2 : Int)
section SC
variable {w : WP} {d : Nat} {Γ : GM} {V : VH} {Q : QT} {o s L p : Nat} {m a fk fp kd st sp v : Int} {R K F G P T T' : Nat → Int}
set_option maxHeartbeats 1000000 in
theorem k_readActs (hd8 : 8 ≤ d) (hK : TK Γ o) (hS : SK Γ s) (hos : o + 2 ≤ s) (hL : L ≤ 640) (hp : p ≤ L) (hp10 : 10 ≤ p) (hT : TB L T' T) (hk : TKc T L p kd st sp v) (hA : strA w Γ V o)
    (hq : ∀ l e, rdAll T L 101 p = (l, e) → l.length ≤ 99 → (∀ f pl, e = some (f, pl) → f ≠ 0) → ∀ kd st sp v fk fp K' F' G' P', acL K' F' G' P' 0 l → (∀ f pl, e = some (f, pl) → fk = (f : Int) ∧ fp = (pl : Int)) → (e = none → fk = 0) → Q none Γ (sS (tS V o (L : Int) kd st sp v T') s m (l.length : Int) fk fp R K' F' G' P')) :
    tC w d nScr_readActs [.inr (.inl s), .inr (.inl o)] Γ (sS (tS V o (L : Int) kd st sp v T') s m 0 0 0 R K F G P) Q := by
  have hd : 4 ≤ d := by omega
  obtain ⟨z0, z1, z2⟩ := id hK
  obtain ⟨⟨y0, y1, y2, y3, y4, y5⟩, m1, m2, m3, m4, m5⟩ := id hS
  have key : ∀ (f c p : Nat) (K F G P : Nat → Int) (kd st sp v : Int), f + c = 101 → 10 + 6 * c ≤ p → (c = 0 ∨ p ≤ 600) → p ≤ L → TKc T L p kd st sp v →
      (∀ l e, rdAll T L f p = (l, e) → c + l.length ≤ 99 → (∀ f pl, e = some (f, pl) → f ≠ 0) → ∀ kd st sp v fk fp K' F' G' P', (∀ i, i < c → K' i = K i ∧ F' i = F i ∧ G' i = G i ∧ P' i = P i) → acL K' F' G' P' c l → (∀ f pl, e = some (f, pl) → fk = (f : Int) ∧ fp = (pl : Int)) → (e = none → fk = 0) → Q none Γ (sS (tS V o (L : Int) kd st sp v T') s m ((c + l.length : Nat) : Int) fk fp R K' F' G' P')) →
      tG w d nScr_readActs 0 [some (.inr (.inl s)), some (.inr (.inl o))] [] Γ (sS (tS V o (L : Int) kd st sp v T') s m (c : Int) 0 0 R K F G P) 0 0 Q := by
    intro f
    induction f with
    | zero => intro c p K F G P kd st sp v h1 h2 h3; omega
    | succ f ih =>
      intro c p K F G P kd st sp v hf hc6 hcp hp hk hq
      have hc98 : c ≤ 98 := by omega
      unfold rdAll at hq
      refine tG_at hd kScr_readActs_0 ?_
      simp (disch := omega) only [bScr_readActs_0, rn, sm, lg, lt_, cmpP, tk, pr_, pu, swl, cs, Nat.reduceAdd, Nat.reduceLeDiff, Nat.zero_le, Nat.le_refl, true_and, and_true, Int.toNat_natCast, Int.reduceToNat, Int.reduceEq, false_implies, true_implies, Int.reduceNeg, Int.cast_ofNat_Int, y_r0, y_r1, y_r2, y_r3, y_r4, y_r5, y_r6, y_r7, y_r8, y_w5, y_w6, y_w7, y_w8, y_a1, y_a2, y_a3, y_a4, y_a5, y_b1, y_b2, y_b3, y_b4, y_b5, y_o, y_up, t_r0, t_r1, t_r2, t_r3, t_r4, t_r5, t_a, t_w1, t_w2, t_w3, t_w4, t_w5, t_wa, z0, z1, z2, y0, y1, y2, y3, y4, y5, m1, m2, m3, m4, m5, reduceIte, Nat.reduceEqDiff, true_or, or_true, Int.reduceLE, Int.reduceLT, Int.reduceAdd, Int.reduceSub, Int.reduceMul, not_true_eq_false, not_false_eq_true, implies_true, nat_s, wr_id, uR_at, uR_uR, u1_at, u1_ne, uf_at, uf_ne, iltT, iltF, ileT, ieqT, ieqF]
      by_cases h0 : tkK T L p = 0
      · rw [if_pos h0] at hq
        have hkd : kd = 3 := by rw [hk.1, ckd_3]; exact h0
        refine tG_at hd kScr_readActs_9 ?_
        simp (disch := omega) only [bScr_readActs_9, rn, sm, lg, lt_, cmpP, tk, pr_, pu, swl, cs, Nat.reduceAdd, Nat.reduceLeDiff, Nat.zero_le, Nat.le_refl, true_and, and_true, Int.toNat_natCast, Int.reduceToNat, Int.reduceEq, false_implies, true_implies, Int.reduceNeg, Int.cast_ofNat_Int, y_r0, y_r1, y_r2, y_r3, y_r4, y_r5, y_r6, y_r7, y_r8, y_w5, y_w6, y_w7, y_w8, y_a1, y_a2, y_a3, y_a4, y_a5, y_b1, y_b2, y_b3, y_b4, y_b5, y_o, y_up, t_r0, t_r1, t_r2, t_r3, t_r4, t_r5, t_a, t_w1, t_w2, t_w3, t_w4, t_w5, t_wa, z0, z1, z2, y0, y1, y2, y3, y4, y5, m1, m2, m3, m4, m5, reduceIte, Nat.reduceEqDiff, true_or, or_true, Int.reduceLE, Int.reduceLT, Int.reduceAdd, Int.reduceSub, Int.reduceMul, not_true_eq_false, not_false_eq_true, implies_true, nat_s, wr_id, uR_at, uR_uR, u1_at, u1_ne, uf_at, uf_ne, iltT, iltF, ileT, ieqT, ieqF]
        refine tG_at hd kScr_readActs_43 ?_
        simp (disch := omega) only [bScr_readActs_43, rn, sm, lg, lt_, cmpP, tk, pr_, pu, swl, cs, Nat.reduceAdd, Nat.reduceLeDiff, Nat.zero_le, Nat.le_refl, true_and, and_true, Int.toNat_natCast, Int.reduceToNat, Int.reduceEq, false_implies, true_implies, Int.reduceNeg, Int.cast_ofNat_Int, y_r0, y_r1, y_r2, y_r3, y_r4, y_r5, y_r6, y_r7, y_r8, y_w5, y_w6, y_w7, y_w8, y_a1, y_a2, y_a3, y_a4, y_a5, y_b1, y_b2, y_b3, y_b4, y_b5, y_o, y_up, t_r0, t_r1, t_r2, t_r3, t_r4, t_r5, t_a, t_w1, t_w2, t_w3, t_w4, t_w5, t_wa, z0, z1, z2, y0, y1, y2, y3, y4, y5, m1, m2, m3, m4, m5, reduceIte, Nat.reduceEqDiff, true_or, or_true, Int.reduceLE, Int.reduceLT, Int.reduceAdd, Int.reduceSub, Int.reduceMul, not_true_eq_false, not_false_eq_true, implies_true, nat_s, wr_id, uR_at, uR_uR, u1_at, u1_ne, uf_at, uf_ne, iltT, iltF, ileT, ieqT, ieqF]
        exact hq [] none rfl (by show c + 0 ≤ 99; omega) (fun f pl h => by cases h) kd st sp v 0 0 K F G P (fun i _ => ⟨rfl, rfl, rfl, rfl⟩) (fun i hi => absurd hi (by show ¬ i < 0; omega)) (fun f pl h => by cases h) (fun _ => rfl)
      · rw [if_neg h0] at hq
        have hkd : ¬ kd = 3 := by rw [hk.1, ckd_3]; exact h0
        refine tG_at hd kScr_readActs_9 ?_
        simp (disch := omega) only [bScr_readActs_9, rn, sm, lg, lt_, cmpP, tk, pr_, pu, swl, cs, Nat.reduceAdd, Nat.reduceLeDiff, Nat.zero_le, Nat.le_refl, true_and, and_true, Int.toNat_natCast, Int.reduceToNat, Int.reduceEq, false_implies, true_implies, Int.reduceNeg, Int.cast_ofNat_Int, y_r0, y_r1, y_r2, y_r3, y_r4, y_r5, y_r6, y_r7, y_r8, y_w5, y_w6, y_w7, y_w8, y_a1, y_a2, y_a3, y_a4, y_a5, y_b1, y_b2, y_b3, y_b4, y_b5, y_o, y_up, t_r0, t_r1, t_r2, t_r3, t_r4, t_r5, t_a, t_w1, t_w2, t_w3, t_w4, t_w5, t_wa, z0, z1, z2, y0, y1, y2, y3, y4, y5, m1, m2, m3, m4, m5, reduceIte, Nat.reduceEqDiff, true_or, or_true, Int.reduceLE, Int.reduceLT, Int.reduceAdd, Int.reduceSub, Int.reduceMul, not_true_eq_false, not_false_eq_true, implies_true, nat_s, wr_id, uR_at, uR_uR, u1_at, u1_ne, uf_at, uf_ne, iltT, iltF, ileT, ieqT, ieqF]
        refine tG_at hd kScr_readActs_17 ?_
        simp (disch := omega) only [bScr_readActs_17, rn, sm, lg, lt_, cmpP, tk, pr_, pu, swl, cs, Nat.reduceAdd, Nat.reduceLeDiff, Nat.zero_le, Nat.le_refl, true_and, and_true, Int.toNat_natCast, Int.reduceToNat, Int.reduceEq, false_implies, true_implies, Int.reduceNeg, Int.cast_ofNat_Int, y_r0, y_r1, y_r2, y_r3, y_r4, y_r5, y_r6, y_r7, y_r8, y_w5, y_w6, y_w7, y_w8, y_a1, y_a2, y_a3, y_a4, y_a5, y_b1, y_b2, y_b3, y_b4, y_b5, y_o, y_up, t_r0, t_r1, t_r2, t_r3, t_r4, t_r5, t_a, t_w1, t_w2, t_w3, t_w4, t_w5, t_wa, z0, z1, z2, y0, y1, y2, y3, y4, y5, m1, m2, m3, m4, m5, reduceIte, Nat.reduceEqDiff, true_or, or_true, Int.reduceLE, Int.reduceLT, Int.reduceAdd, Int.reduceSub, Int.reduceMul, not_true_eq_false, not_false_eq_true, implies_true, nat_s, wr_id, uR_at, uR_uR, u1_at, u1_ne, uf_at, uf_ne, iltT, iltF, ileT, ieqT, ieqF]
        refine k_readAct (by omega) hK hS hos hL hp hT hk hA (by omega) (fun f' pl e kd st sp v => ?_) (fun t x y pl p1 e kd st v => ?_)
        · rw [e] at hq
          refine tG_at hd kScr_readActs_22 ?_
          simp (disch := omega) only [bScr_readActs_22, rn, sm, lg, lt_, cmpP, tk, pr_, pu, swl, cs, Nat.reduceAdd, Nat.reduceLeDiff, Nat.zero_le, Nat.le_refl, true_and, and_true, Int.toNat_natCast, Int.reduceToNat, Int.reduceEq, false_implies, true_implies, Int.reduceNeg, Int.cast_ofNat_Int, y_r0, y_r1, y_r2, y_r3, y_r4, y_r5, y_r6, y_r7, y_r8, y_w5, y_w6, y_w7, y_w8, y_a1, y_a2, y_a3, y_a4, y_a5, y_b1, y_b2, y_b3, y_b4, y_b5, y_o, y_up, t_r0, t_r1, t_r2, t_r3, t_r4, t_r5, t_a, t_w1, t_w2, t_w3, t_w4, t_w5, t_wa, z0, z1, z2, y0, y1, y2, y3, y4, y5, m1, m2, m3, m4, m5, reduceIte, Nat.reduceEqDiff, true_or, or_true, Int.reduceLE, Int.reduceLT, Int.reduceAdd, Int.reduceSub, Int.reduceMul, not_true_eq_false, not_false_eq_true, implies_true, nat_s, wr_id, uR_at, uR_uR, u1_at, u1_ne, uf_at, uf_ne, iltT, iltF, ileT, ieqT, ieqF]
          refine tG_at hd kScr_readActs_25 ?_
          simp (disch := omega) only [bScr_readActs_25, rn, sm, lg, lt_, cmpP, tk, pr_, pu, swl, cs, Nat.reduceAdd, Nat.reduceLeDiff, Nat.zero_le, Nat.le_refl, true_and, and_true, Int.toNat_natCast, Int.reduceToNat, Int.reduceEq, false_implies, true_implies, Int.reduceNeg, Int.cast_ofNat_Int, y_r0, y_r1, y_r2, y_r3, y_r4, y_r5, y_r6, y_r7, y_r8, y_w5, y_w6, y_w7, y_w8, y_a1, y_a2, y_a3, y_a4, y_a5, y_b1, y_b2, y_b3, y_b4, y_b5, y_o, y_up, t_r0, t_r1, t_r2, t_r3, t_r4, t_r5, t_a, t_w1, t_w2, t_w3, t_w4, t_w5, t_wa, z0, z1, z2, y0, y1, y2, y3, y4, y5, m1, m2, m3, m4, m5, reduceIte, Nat.reduceEqDiff, true_or, or_true, Int.reduceLE, Int.reduceLT, Int.reduceAdd, Int.reduceSub, Int.reduceMul, not_true_eq_false, not_false_eq_true, implies_true, nat_s, wr_id, uR_at, uR_uR, u1_at, u1_ne, uf_at, uf_ne, iltT, iltF, ileT, ieqT, ieqF]
          exact hq [] (some (f', pl)) rfl (by show c + 0 ≤ 99; omega) (fun f pl h => by cases h; exact rdA_f e) kd st sp v f' pl K F G P (fun i _ => ⟨rfl, rfl, rfl, rfl⟩) (fun i hi => absurd hi (by show ¬ i < 0; omega)) (fun f pl h => by cases h; exact ⟨rfl, rfl⟩) (fun h => by cases h)
        · rw [e] at hq
          dsimp only at hq
          have ok := rdA_ok hp e
          refine tG_at hd kScr_readActs_22 ?_
          simp (disch := omega) only [bScr_readActs_22, rn, sm, lg, lt_, cmpP, tk, pr_, pu, swl, cs, Nat.reduceAdd, Nat.reduceLeDiff, Nat.zero_le, Nat.le_refl, true_and, and_true, Int.toNat_natCast, Int.reduceToNat, Int.reduceEq, false_implies, true_implies, Int.reduceNeg, Int.cast_ofNat_Int, y_r0, y_r1, y_r2, y_r3, y_r4, y_r5, y_r6, y_r7, y_r8, y_w5, y_w6, y_w7, y_w8, y_a1, y_a2, y_a3, y_a4, y_a5, y_b1, y_b2, y_b3, y_b4, y_b5, y_o, y_up, t_r0, t_r1, t_r2, t_r3, t_r4, t_r5, t_a, t_w1, t_w2, t_w3, t_w4, t_w5, t_wa, z0, z1, z2, y0, y1, y2, y3, y4, y5, m1, m2, m3, m4, m5, reduceIte, Nat.reduceEqDiff, true_or, or_true, Int.reduceLE, Int.reduceLT, Int.reduceAdd, Int.reduceSub, Int.reduceMul, not_true_eq_false, not_false_eq_true, implies_true, nat_s, wr_id, uR_at, uR_uR, u1_at, u1_ne, uf_at, uf_ne, iltT, iltF, ileT, ieqT, ieqF]
          refine tG_at hd kScr_readActs_26 ?_
          simp (disch := omega) only [bScr_readActs_26, rn, sm, lg, lt_, cmpP, tk, pr_, pu, swl, cs, Nat.reduceAdd, Nat.reduceLeDiff, Nat.zero_le, Nat.le_refl, true_and, and_true, Int.toNat_natCast, Int.reduceToNat, Int.reduceEq, false_implies, true_implies, Int.reduceNeg, Int.cast_ofNat_Int, y_r0, y_r1, y_r2, y_r3, y_r4, y_r5, y_r6, y_r7, y_r8, y_w5, y_w6, y_w7, y_w8, y_a1, y_a2, y_a3, y_a4, y_a5, y_b1, y_b2, y_b3, y_b4, y_b5, y_o, y_up, t_r0, t_r1, t_r2, t_r3, t_r4, t_r5, t_a, t_w1, t_w2, t_w3, t_w4, t_w5, t_wa, z0, z1, z2, y0, y1, y2, y3, y4, y5, m1, m2, m3, m4, m5, reduceIte, Nat.reduceEqDiff, true_or, or_true, Int.reduceLE, Int.reduceLT, Int.reduceAdd, Int.reduceSub, Int.reduceMul, not_true_eq_false, not_false_eq_true, implies_true, nat_s, wr_id, uR_at, uR_uR, u1_at, u1_ne, uf_at, uf_ne, iltT, iltF, ileT, ieqT, ieqF]
          refine k_nextS (by omega) hK hos hL ok.2.2.2.2.1 hT (fun kd st sp v hk => ?_)
          refine tG_at hd kScr_readActs_40 ?_
          simp (disch := omega) only [bScr_readActs_40, rn, sm, lg, lt_, cmpP, tk, pr_, pu, swl, cs, Nat.reduceAdd, Nat.reduceLeDiff, Nat.zero_le, Nat.le_refl, true_and, and_true, Int.toNat_natCast, Int.reduceToNat, Int.reduceEq, false_implies, true_implies, Int.reduceNeg, Int.cast_ofNat_Int, y_r0, y_r1, y_r2, y_r3, y_r4, y_r5, y_r6, y_r7, y_r8, y_w5, y_w6, y_w7, y_w8, y_a1, y_a2, y_a3, y_a4, y_a5, y_b1, y_b2, y_b3, y_b4, y_b5, y_o, y_up, t_r0, t_r1, t_r2, t_r3, t_r4, t_r5, t_a, t_w1, t_w2, t_w3, t_w4, t_w5, t_wa, z0, z1, z2, y0, y1, y2, y3, y4, y5, m1, m2, m3, m4, m5, reduceIte, Nat.reduceEqDiff, true_or, or_true, Int.reduceLE, Int.reduceLT, Int.reduceAdd, Int.reduceSub, Int.reduceMul, not_true_eq_false, not_false_eq_true, implies_true, nat_s, wr_id, uR_at, uR_uR, u1_at, u1_ne, uf_at, uf_ne, iltT, iltF, ileT, ieqT, ieqF]
          refine ih (c + 1) p1 _ _ _ _ kd st sp v (by omega) (by omega) (by omega) ok.2.2.2.2.1 hk (fun l e hl hlen hf0 kd st sp v fk fp K' F' G' P' hold hacL hs hn => ?_)
          rw [hl] at hq
          have h9 := hq ((t, x, y, pl) :: l) e rfl (by rw [List.length_cons]; omega) hf0 kd st sp v fk fp K' F' G' P' (fun i hi => ?_) (fun i hi => ?_) hs hn
          · rw [List.length_cons, show c + (l.length + 1) = c + 1 + l.length by omega] at h9
            exact h9
          · have := hold i (by omega)
            rw [u1_ne (by omega), u1_ne (by omega), u1_ne (by omega), u1_ne (by omega)] at this
            exact this
          · rw [List.length_cons] at hi
            cases i with
            | zero =>
              have := hold c (by omega)
              rw [u1_at, u1_at, u1_at, u1_at] at this
              rw [Nat.add_zero]
              exact this
            | succ i =>
              have := hacL i (by omega)
              rw [show c + 1 + i = c + (i + 1) by omega] at this
              rw [List.getD_cons_succ]
              exact this
  refine tC_enter (nL := 2) (by decide +kernel) (by decide +kernel) rfl (Nat.le_of_ble_eq_true rfl) (fun hok => ?_)
  simp only [ent]
  refine key 101 0 p K F G P kd st sp v (by omega) (by omega) (Or.inl rfl) hp hk (fun l e hl hlen hf0 kd st sp v fk fp K' F' G' P' hold hacL hs hn => ?_)
  rw [Nat.zero_add]
  exact hq l e hl (by omega) hf0 kd st sp v fk fp K' F' G' P' hacL hs hn
theorem k_read (hd9 : 9 ≤ d) (hK : TK Γ o) (hS : SK Γ s) (hos : o + 2 ≤ s) (hL : L ≤ 640) (hT : TB L T' T) (hA : strA w Γ V o)
    (hq0 : ∀ f pl : Nat, rdM T L 0 = .inl (f, pl) → ∀ (m' : Nat), m' ≤ 6 → ∀ kd st sp v R', Q none Γ (sS (tS V o (L : Int) kd st sp v T') s (m' : Int) 0 (f : Int) (pl : Int) R' K F G P))
    (hq1 : ∀ n p f pl : Nat, rdM T L 0 = .inr (n, p) → rkL T L n 22 0 (fun _ => 0) p = .inl (f, pl) → ∀ kd st sp v R', Q none Γ (sS (tS V o (L : Int) kd st sp v T') s (n : Int) 0 (f : Int) (pl : Int) R' K F G P))
    (hq2 : ∀ (n p : Nat) (r : Nat → Int) (p1 : Nat) l e, rdM T L 0 = .inr (n, p) → rkL T L n 22 0 (fun _ => 0) p = .inr (r, p1) → rdAll T L 101 p1 = (l, e) → p1 ≤ L → l.length ≤ 99 → (∀ f pl, e = some (f, pl) → f ≠ 0) → ∀ kd st sp v fk fp R' K' F' G' P', (∀ j, j < 6 → R' j = r j) → acL K' F' G' P' 0 l → (∀ f pl, e = some (f, pl) → fk = (f : Int) ∧ fp = (pl : Int)) → (e = none → fk = 0) → Q none Γ (sS (tS V o (L : Int) kd st sp v T') s (n : Int) (l.length : Int) fk fp R' K' F' G' P')) :
    tC w d nScr_read [.inr (.inl s), .inr (.inl o)] Γ (sS (tS V o (L : Int) kd st sp v T') s m a fk fp R K F G P) Q := by
  have hd : 4 ≤ d := by omega
  obtain ⟨z0, z1, z2⟩ := id hK
  obtain ⟨⟨y0, y1, y2, y3, y4, y5⟩, m1, m2, m3, m4, m5⟩ := id hS
  refine tC_enter (nL := 3) (by decide +kernel) (by decide +kernel) rfl (Nat.le_of_ble_eq_true rfl) (fun hok => ?_)
  simp only [ent]
  refine tG_at hd kScr_read_0 ?_
  simp (disch := omega) only [bScr_read_0, rn, sm, lg, lt_, cmpP, tk, pr_, pu, swl, cs, Nat.reduceAdd, Nat.reduceLeDiff, Nat.zero_le, Nat.le_refl, true_and, and_true, Int.toNat_natCast, Int.reduceToNat, Int.reduceEq, false_implies, true_implies, Int.reduceNeg, Int.cast_ofNat_Int, y_r0, y_r1, y_r2, y_r3, y_r4, y_r5, y_r6, y_r7, y_r8, y_w5, y_w6, y_w7, y_w8, y_a1, y_a2, y_a3, y_a4, y_a5, y_b1, y_b2, y_b3, y_b4, y_b5, y_o, y_up, t_r0, t_r1, t_r2, t_r3, t_r4, t_r5, t_a, t_w1, t_w2, t_w3, t_w4, t_w5, t_wa, z0, z1, z2, y0, y1, y2, y3, y4, y5, m1, m2, m3, m4, m5, reduceIte, Nat.reduceEqDiff, true_or, or_true, Int.reduceLE, Int.reduceLT, Int.reduceAdd, Int.reduceSub, Int.reduceMul, not_true_eq_false, not_false_eq_true, implies_true, nat_s, wr_id, uR_at, uR_uR, u1_at, u1_ne, uf_at, uf_ne, iltT, iltF, ileT, ieqT, ieqF]
  refine tG_loop (fun i => [some (.inr (.inl s)), some (.inr (.inl o)), some (.inl (i : Int))]) (fun i V' => ∃ R', V' = sS (tS V o (L : Int) kd st sp v T') s m a fk fp R' K F G P ∧ ∀ j, j < i → R' j = 0) 6 ?_ ?_ 0 _ (Nat.zero_le _) ⟨R, rfl, fun j hj => absurd hj (by omega)⟩
  · intro i V' hi hV k1
    obtain ⟨R', hV, hR'⟩ := hV
    subst hV
    refine tG_at hd kScr_read_2 ?_
    simp (disch := omega) only [bScr_read_2, rn, sm, lg, lt_, cmpP, tk, pr_, pu, swl, cs, Nat.reduceAdd, Nat.reduceLeDiff, Nat.zero_le, Nat.le_refl, true_and, and_true, Int.toNat_natCast, Int.reduceToNat, Int.reduceEq, false_implies, true_implies, Int.reduceNeg, Int.cast_ofNat_Int, y_r0, y_r1, y_r2, y_r3, y_r4, y_r5, y_r6, y_r7, y_r8, y_w5, y_w6, y_w7, y_w8, y_a1, y_a2, y_a3, y_a4, y_a5, y_b1, y_b2, y_b3, y_b4, y_b5, y_o, y_up, t_r0, t_r1, t_r2, t_r3, t_r4, t_r5, t_a, t_w1, t_w2, t_w3, t_w4, t_w5, t_wa, z0, z1, z2, y0, y1, y2, y3, y4, y5, m1, m2, m3, m4, m5, reduceIte, Nat.reduceEqDiff, true_or, or_true, Int.reduceLE, Int.reduceLT, Int.reduceAdd, Int.reduceSub, Int.reduceMul, not_true_eq_false, not_false_eq_true, implies_true, nat_s, wr_id, uR_at, uR_uR, u1_at, u1_ne, uf_at, uf_ne, iltT, iltF, ileT, ieqT, ieqF]
    refine tG_at hd kScr_read_8 ?_
    simp (disch := omega) only [bScr_read_8, rn, sm, lg, lt_, cmpP, tk, pr_, pu, swl, cs, Nat.reduceAdd, Nat.reduceLeDiff, Nat.zero_le, Nat.le_refl, true_and, and_true, Int.toNat_natCast, Int.reduceToNat, Int.reduceEq, false_implies, true_implies, Int.reduceNeg, Int.cast_ofNat_Int, y_r0, y_r1, y_r2, y_r3, y_r4, y_r5, y_r6, y_r7, y_r8, y_w5, y_w6, y_w7, y_w8, y_a1, y_a2, y_a3, y_a4, y_a5, y_b1, y_b2, y_b3, y_b4, y_b5, y_o, y_up, t_r0, t_r1, t_r2, t_r3, t_r4, t_r5, t_a, t_w1, t_w2, t_w3, t_w4, t_w5, t_wa, z0, z1, z2, y0, y1, y2, y3, y4, y5, m1, m2, m3, m4, m5, reduceIte, Nat.reduceEqDiff, true_or, or_true, Int.reduceLE, Int.reduceLT, Int.reduceAdd, Int.reduceSub, Int.reduceMul, not_true_eq_false, not_false_eq_true, implies_true, nat_s, wr_id, uR_at, uR_uR, u1_at, u1_ne, uf_at, uf_ne, iltT, iltF, ileT, ieqT, ieqF]
    refine k1 _ ⟨_, rfl, fun j hj => ?_⟩
    by_cases hji : j = i
    · rw [hji, u1_at]
    · rw [u1_ne hji]
      exact hR' j (by omega)
  · intro V' hV
    obtain ⟨R', hV, hR'⟩ := hV
    subst hV
    refine tG_at hd kScr_read_2 ?_
    simp (disch := omega) only [bScr_read_2, rn, sm, lg, lt_, cmpP, tk, pr_, pu, swl, cs, Nat.reduceAdd, Nat.reduceLeDiff, Nat.zero_le, Nat.le_refl, true_and, and_true, Int.toNat_natCast, Int.reduceToNat, Int.reduceEq, false_implies, true_implies, Int.reduceNeg, Int.cast_ofNat_Int, y_r0, y_r1, y_r2, y_r3, y_r4, y_r5, y_r6, y_r7, y_r8, y_w5, y_w6, y_w7, y_w8, y_a1, y_a2, y_a3, y_a4, y_a5, y_b1, y_b2, y_b3, y_b4, y_b5, y_o, y_up, t_r0, t_r1, t_r2, t_r3, t_r4, t_r5, t_a, t_w1, t_w2, t_w3, t_w4, t_w5, t_wa, z0, z1, z2, y0, y1, y2, y3, y4, y5, m1, m2, m3, m4, m5, reduceIte, Nat.reduceEqDiff, true_or, or_true, Int.reduceLE, Int.reduceLT, Int.reduceAdd, Int.reduceSub, Int.reduceMul, not_true_eq_false, not_false_eq_true, implies_true, nat_s, wr_id, uR_at, uR_uR, u1_at, u1_ne, uf_at, uf_ne, iltT, iltF, ileT, ieqT, ieqF]
    refine tG_at hd kScr_read_21 ?_
    simp (disch := omega) only [bScr_read_21, rn, sm, lg, lt_, cmpP, tk, pr_, pu, swl, cs, Nat.reduceAdd, Nat.reduceLeDiff, Nat.zero_le, Nat.le_refl, true_and, and_true, Int.toNat_natCast, Int.reduceToNat, Int.reduceEq, false_implies, true_implies, Int.reduceNeg, Int.cast_ofNat_Int, y_r0, y_r1, y_r2, y_r3, y_r4, y_r5, y_r6, y_r7, y_r8, y_w5, y_w6, y_w7, y_w8, y_a1, y_a2, y_a3, y_a4, y_a5, y_b1, y_b2, y_b3, y_b4, y_b5, y_o, y_up, t_r0, t_r1, t_r2, t_r3, t_r4, t_r5, t_a, t_w1, t_w2, t_w3, t_w4, t_w5, t_wa, z0, z1, z2, y0, y1, y2, y3, y4, y5, m1, m2, m3, m4, m5, reduceIte, Nat.reduceEqDiff, true_or, or_true, Int.reduceLE, Int.reduceLT, Int.reduceAdd, Int.reduceSub, Int.reduceMul, not_true_eq_false, not_false_eq_true, implies_true, nat_s, wr_id, uR_at, uR_uR, u1_at, u1_ne, uf_at, uf_ne, iltT, iltF, ileT, ieqT, ieqF]
    refine k_readMembers (by omega) hK hS hos hL hT hA.2.1 (hA.1 0 (by omega)) (fun f pl e m' hm' kd st sp v => ?_) (fun n p e kd st v => ?_)
    · refine tG_at hd kScr_read_51 ?_
      simp (disch := omega) only [bScr_read_51, rn, sm, lg, lt_, cmpP, tk, pr_, pu, swl, cs, Nat.reduceAdd, Nat.reduceLeDiff, Nat.zero_le, Nat.le_refl, true_and, and_true, Int.toNat_natCast, Int.reduceToNat, Int.reduceEq, false_implies, true_implies, Int.reduceNeg, Int.cast_ofNat_Int, y_r0, y_r1, y_r2, y_r3, y_r4, y_r5, y_r6, y_r7, y_r8, y_w5, y_w6, y_w7, y_w8, y_a1, y_a2, y_a3, y_a4, y_a5, y_b1, y_b2, y_b3, y_b4, y_b5, y_o, y_up, t_r0, t_r1, t_r2, t_r3, t_r4, t_r5, t_a, t_w1, t_w2, t_w3, t_w4, t_w5, t_wa, z0, z1, z2, y0, y1, y2, y3, y4, y5, m1, m2, m3, m4, m5, reduceIte, Nat.reduceEqDiff, true_or, or_true, Int.reduceLE, Int.reduceLT, Int.reduceAdd, Int.reduceSub, Int.reduceMul, not_true_eq_false, not_false_eq_true, implies_true, nat_s, wr_id, uR_at, uR_uR, u1_at, u1_ne, uf_at, uf_ne, iltT, iltF, ileT, ieqT, ieqF]
      refine tG_at hd kScr_read_67 ?_
      simp (disch := omega) only [bScr_read_67, rn, sm, lg, lt_, cmpP, tk, pr_, pu, swl, cs, Nat.reduceAdd, Nat.reduceLeDiff, Nat.zero_le, Nat.le_refl, true_and, and_true, Int.toNat_natCast, Int.reduceToNat, Int.reduceEq, false_implies, true_implies, Int.reduceNeg, Int.cast_ofNat_Int, y_r0, y_r1, y_r2, y_r3, y_r4, y_r5, y_r6, y_r7, y_r8, y_w5, y_w6, y_w7, y_w8, y_a1, y_a2, y_a3, y_a4, y_a5, y_b1, y_b2, y_b3, y_b4, y_b5, y_o, y_up, t_r0, t_r1, t_r2, t_r3, t_r4, t_r5, t_a, t_w1, t_w2, t_w3, t_w4, t_w5, t_wa, z0, z1, z2, y0, y1, y2, y3, y4, y5, m1, m2, m3, m4, m5, reduceIte, Nat.reduceEqDiff, true_or, or_true, Int.reduceLE, Int.reduceLT, Int.reduceAdd, Int.reduceSub, Int.reduceMul, not_true_eq_false, not_false_eq_true, implies_true, nat_s, wr_id, uR_at, uR_uR, u1_at, u1_ne, uf_at, uf_ne, iltT, iltF, ileT, ieqT, ieqF]
      exact hq0 f pl e m' hm' _ _ _ _ _
    · have ok := rdM_ok (Nat.zero_le _) e
      refine tG_at hd kScr_read_51 ?_
      simp (disch := omega) only [bScr_read_51, rn, sm, lg, lt_, cmpP, tk, pr_, pu, swl, cs, Nat.reduceAdd, Nat.reduceLeDiff, Nat.zero_le, Nat.le_refl, true_and, and_true, Int.toNat_natCast, Int.reduceToNat, Int.reduceEq, false_implies, true_implies, Int.reduceNeg, Int.cast_ofNat_Int, y_r0, y_r1, y_r2, y_r3, y_r4, y_r5, y_r6, y_r7, y_r8, y_w5, y_w6, y_w7, y_w8, y_a1, y_a2, y_a3, y_a4, y_a5, y_b1, y_b2, y_b3, y_b4, y_b5, y_o, y_up, t_r0, t_r1, t_r2, t_r3, t_r4, t_r5, t_a, t_w1, t_w2, t_w3, t_w4, t_w5, t_wa, z0, z1, z2, y0, y1, y2, y3, y4, y5, m1, m2, m3, m4, m5, reduceIte, Nat.reduceEqDiff, true_or, or_true, Int.reduceLE, Int.reduceLT, Int.reduceAdd, Int.reduceSub, Int.reduceMul, not_true_eq_false, not_false_eq_true, implies_true, nat_s, wr_id, uR_at, uR_uR, u1_at, u1_ne, uf_at, uf_ne, iltT, iltF, ileT, ieqT, ieqF]
      refine tG_at hd kScr_read_54 ?_
      simp (disch := omega) only [bScr_read_54, rn, sm, lg, lt_, cmpP, tk, pr_, pu, swl, cs, Nat.reduceAdd, Nat.reduceLeDiff, Nat.zero_le, Nat.le_refl, true_and, and_true, Int.toNat_natCast, Int.reduceToNat, Int.reduceEq, false_implies, true_implies, Int.reduceNeg, Int.cast_ofNat_Int, y_r0, y_r1, y_r2, y_r3, y_r4, y_r5, y_r6, y_r7, y_r8, y_w5, y_w6, y_w7, y_w8, y_a1, y_a2, y_a3, y_a4, y_a5, y_b1, y_b2, y_b3, y_b4, y_b5, y_o, y_up, t_r0, t_r1, t_r2, t_r3, t_r4, t_r5, t_a, t_w1, t_w2, t_w3, t_w4, t_w5, t_wa, z0, z1, z2, y0, y1, y2, y3, y4, y5, m1, m2, m3, m4, m5, reduceIte, Nat.reduceEqDiff, true_or, or_true, Int.reduceLE, Int.reduceLT, Int.reduceAdd, Int.reduceSub, Int.reduceMul, not_true_eq_false, not_false_eq_true, implies_true, nat_s, wr_id, uR_at, uR_uR, u1_at, u1_ne, uf_at, uf_ne, iltT, iltF, ileT, ieqT, ieqF]
      refine k_readRanks (r := fun _ => 0) (by omega) hK hS hos hL ok.2.2.2.1 hT hA.2.2.1 (hA.1 1 (by omega)) ok.2.1 (fun j hj => hR' j hj) (fun f pl e2 kd st sp v R' => ?_) (fun r p1 e2 kd st sp v R' hk hR' => ?_)
      · refine tG_at hd kScr_read_59 ?_
        simp (disch := omega) only [bScr_read_59, rn, sm, lg, lt_, cmpP, tk, pr_, pu, swl, cs, Nat.reduceAdd, Nat.reduceLeDiff, Nat.zero_le, Nat.le_refl, true_and, and_true, Int.toNat_natCast, Int.reduceToNat, Int.reduceEq, false_implies, true_implies, Int.reduceNeg, Int.cast_ofNat_Int, y_r0, y_r1, y_r2, y_r3, y_r4, y_r5, y_r6, y_r7, y_r8, y_w5, y_w6, y_w7, y_w8, y_a1, y_a2, y_a3, y_a4, y_a5, y_b1, y_b2, y_b3, y_b4, y_b5, y_o, y_up, t_r0, t_r1, t_r2, t_r3, t_r4, t_r5, t_a, t_w1, t_w2, t_w3, t_w4, t_w5, t_wa, z0, z1, z2, y0, y1, y2, y3, y4, y5, m1, m2, m3, m4, m5, reduceIte, Nat.reduceEqDiff, true_or, or_true, Int.reduceLE, Int.reduceLT, Int.reduceAdd, Int.reduceSub, Int.reduceMul, not_true_eq_false, not_false_eq_true, implies_true, nat_s, wr_id, uR_at, uR_uR, u1_at, u1_ne, uf_at, uf_ne, iltT, iltF, ileT, ieqT, ieqF]
        refine tG_at hd kScr_read_67 ?_
        simp (disch := omega) only [bScr_read_67, rn, sm, lg, lt_, cmpP, tk, pr_, pu, swl, cs, Nat.reduceAdd, Nat.reduceLeDiff, Nat.zero_le, Nat.le_refl, true_and, and_true, Int.toNat_natCast, Int.reduceToNat, Int.reduceEq, false_implies, true_implies, Int.reduceNeg, Int.cast_ofNat_Int, y_r0, y_r1, y_r2, y_r3, y_r4, y_r5, y_r6, y_r7, y_r8, y_w5, y_w6, y_w7, y_w8, y_a1, y_a2, y_a3, y_a4, y_a5, y_b1, y_b2, y_b3, y_b4, y_b5, y_o, y_up, t_r0, t_r1, t_r2, t_r3, t_r4, t_r5, t_a, t_w1, t_w2, t_w3, t_w4, t_w5, t_wa, z0, z1, z2, y0, y1, y2, y3, y4, y5, m1, m2, m3, m4, m5, reduceIte, Nat.reduceEqDiff, true_or, or_true, Int.reduceLE, Int.reduceLT, Int.reduceAdd, Int.reduceSub, Int.reduceMul, not_true_eq_false, not_false_eq_true, implies_true, nat_s, wr_id, uR_at, uR_uR, u1_at, u1_ne, uf_at, uf_ne, iltT, iltF, ileT, ieqT, ieqF]
        exact hq1 n p f pl e e2 _ _ _ _ _
      · have ok2 := rkL_ok 22 ok.2.2.2.1 (fun j _ => by omega) e2
        refine tG_at hd kScr_read_59 ?_
        simp (disch := omega) only [bScr_read_59, rn, sm, lg, lt_, cmpP, tk, pr_, pu, swl, cs, Nat.reduceAdd, Nat.reduceLeDiff, Nat.zero_le, Nat.le_refl, true_and, and_true, Int.toNat_natCast, Int.reduceToNat, Int.reduceEq, false_implies, true_implies, Int.reduceNeg, Int.cast_ofNat_Int, y_r0, y_r1, y_r2, y_r3, y_r4, y_r5, y_r6, y_r7, y_r8, y_w5, y_w6, y_w7, y_w8, y_a1, y_a2, y_a3, y_a4, y_a5, y_b1, y_b2, y_b3, y_b4, y_b5, y_o, y_up, t_r0, t_r1, t_r2, t_r3, t_r4, t_r5, t_a, t_w1, t_w2, t_w3, t_w4, t_w5, t_wa, z0, z1, z2, y0, y1, y2, y3, y4, y5, m1, m2, m3, m4, m5, reduceIte, Nat.reduceEqDiff, true_or, or_true, Int.reduceLE, Int.reduceLT, Int.reduceAdd, Int.reduceSub, Int.reduceMul, not_true_eq_false, not_false_eq_true, implies_true, nat_s, wr_id, uR_at, uR_uR, u1_at, u1_ne, uf_at, uf_ne, iltT, iltF, ileT, ieqT, ieqF]
        refine tG_at hd kScr_read_62 ?_
        simp (disch := omega) only [bScr_read_62, rn, sm, lg, lt_, cmpP, tk, pr_, pu, swl, cs, Nat.reduceAdd, Nat.reduceLeDiff, Nat.zero_le, Nat.le_refl, true_and, and_true, Int.toNat_natCast, Int.reduceToNat, Int.reduceEq, false_implies, true_implies, Int.reduceNeg, Int.cast_ofNat_Int, y_r0, y_r1, y_r2, y_r3, y_r4, y_r5, y_r6, y_r7, y_r8, y_w5, y_w6, y_w7, y_w8, y_a1, y_a2, y_a3, y_a4, y_a5, y_b1, y_b2, y_b3, y_b4, y_b5, y_o, y_up, t_r0, t_r1, t_r2, t_r3, t_r4, t_r5, t_a, t_w1, t_w2, t_w3, t_w4, t_w5, t_wa, z0, z1, z2, y0, y1, y2, y3, y4, y5, m1, m2, m3, m4, m5, reduceIte, Nat.reduceEqDiff, true_or, or_true, Int.reduceLE, Int.reduceLT, Int.reduceAdd, Int.reduceSub, Int.reduceMul, not_true_eq_false, not_false_eq_true, implies_true, nat_s, wr_id, uR_at, uR_uR, u1_at, u1_ne, uf_at, uf_ne, iltT, iltF, ileT, ieqT, ieqF]
        refine k_readActs (by omega) hK hS hos hL ok2.2.2 (by omega) hT hk hA (fun l e3 hl hlen hf0 kd st sp v fk fp K' F' G' P' hacL hs hn => ?_)
        refine tG_at hd kScr_read_67 ?_
        simp (disch := omega) only [bScr_read_67, rn, sm, lg, lt_, cmpP, tk, pr_, pu, swl, cs, Nat.reduceAdd, Nat.reduceLeDiff, Nat.zero_le, Nat.le_refl, true_and, and_true, Int.toNat_natCast, Int.reduceToNat, Int.reduceEq, false_implies, true_implies, Int.reduceNeg, Int.cast_ofNat_Int, y_r0, y_r1, y_r2, y_r3, y_r4, y_r5, y_r6, y_r7, y_r8, y_w5, y_w6, y_w7, y_w8, y_a1, y_a2, y_a3, y_a4, y_a5, y_b1, y_b2, y_b3, y_b4, y_b5, y_o, y_up, t_r0, t_r1, t_r2, t_r3, t_r4, t_r5, t_a, t_w1, t_w2, t_w3, t_w4, t_w5, t_wa, z0, z1, z2, y0, y1, y2, y3, y4, y5, m1, m2, m3, m4, m5, reduceIte, Nat.reduceEqDiff, true_or, or_true, Int.reduceLE, Int.reduceLT, Int.reduceAdd, Int.reduceSub, Int.reduceMul, not_true_eq_false, not_false_eq_true, implies_true, nat_s, wr_id, uR_at, uR_uR, u1_at, u1_ne, uf_at, uf_ne, iltT, iltF, ileT, ieqT, ieqF]
        exact hq2 n p r p1 l e3 e e2 hl ok2.2.2 hlen hf0 kd st sp v fk fp R' K' F' G' P' hR' hacL hs hn
end SC
