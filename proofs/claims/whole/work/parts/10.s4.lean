/-! what is read: places; nets behind acts -/
section RD
variable {T : Nat → Int} {L p : Nat}
theorem rdN_ok {lo hi : Int} {v p1 : Nat} (h : rdN T L p lo hi = .inr (v, p1)) : tkK T L p = 3 ∧ lo ≤ (v : Int) ∧ (v : Int) ≤ hi ∧ p1 = tkE T L p ∧ tkN T L p = (v : Int) := by
  unfold rdN at h
  split at h
  · next hk =>
    split at h
    · next hr =>
      have hb := tkN_b hk
      cases h
      exact ⟨hk, by omega, by omega, rfl, by omega⟩
    · cases h
  · cases h
theorem rdS_ok {p1 : Nat} (h : rdS T L p = .inr p1) : tkK T L p = 4 ∧ p1 = tkE T L p := by
  unfold rdS at h
  split at h
  · next hk => cases h; exact ⟨hk, rfl⟩
  · cases h
theorem sgn_b (hp : p ≤ L) (h : tkK T L p = 4) : tkE T L p = tkB T L p + 1 ∧ tkE T L p ≤ 600 ∧ tkE T L p ≤ L ∧ p + 1 ≤ tkE T L p := by
  obtain ⟨q1, q2, q3, -⟩ := tkK_4 h
  have hb := tkB_b (T := T) hp
  have e : tkE T L p = tkB T L p + 1 := if_neg q3
  omega
theorem wrd_b (hp : p ≤ L) {l : List Int} (h : isW T L p l) : tkE T L p = tkB T L p + l.length ∧ tkE T L p ≤ L := by
  obtain ⟨q1, q2, q3, q4⟩ := tkK_2 h.1
  have e : tkE T L p = tkR T L (tkB T L p) := if_pos q3
  have := wdl_len (T := T) (s := tkB T L p) (tkR T L (tkB T L p) - tkB T L p)
  rw [h.2] at this
  have h1 := tkR_s q2 q3
  have h2 := tkE_b (T := T) hp (by rw [h.1]; omega)
  omega
theorem rdM_ok {n p2 : Nat} (hp : p ≤ L) (h : rdM T L p = .inr (n, p2)) : 2 ≤ n ∧ n ≤ 6 ∧ p + 10 ≤ p2 ∧ p2 ≤ L ∧ p2 ≤ 600 := by
  unfold rdM at h
  split at h
  · next hw =>
    have hb := tkB_b (T := T) hp
    have w1 := wrd_b hp hw
    cases h1 : rdN T L (tkE T L p) 2 6 with
    | inl e => rw [h1] at h; cases h
    | inr v =>
      obtain ⟨n1, p1⟩ := v
      rw [h1] at h
      dsimp only at h
      obtain ⟨a1, a2, a3, a4, a5⟩ := rdN_ok h1
      cases h2 : rdS T L p1 with
      | inl e => rw [h2] at h; cases h
      | inr p2 =>
        rw [h2] at h
        cases h
        obtain ⟨b1, b2⟩ := rdS_ok h2
        have g := tk_gap hp (Or.inl hw.1) a1
        have e1 := tkE_b (T := T) w1.2 (by rw [a1]; omega)
        rw [← a4] at e1
        have s := sgn_b (T := T) e1.2.1 b1
        rw [← b2] at s
        simp only [wMem, List.length_cons, List.length_nil] at w1
        omega
  · cases h
theorem rdK_ok {n c x v p3 : Nat} (hp : p ≤ L) (h0 : tkK T L p = 2) (h : rdK T L n c p = .inr (x, v, p3)) : c ≠ 20 ∧ x < n ∧ v ≤ 9 ∧ p + 1 ≤ p3 ∧ p3 ≤ L ∧ p3 ≤ 600 := by
  unfold rdK at h
  split at h
  · cases h
  · next hc =>
    have hb := tkB_b (T := T) hp
    have e0 := tkE_b (T := T) hp (by rw [h0]; omega)
    cases h1 : rdN T L (tkE T L p) 0 ((n : Int) - 1) with
    | inl e => rw [h1] at h; cases h
    | inr w =>
      obtain ⟨x1, p1⟩ := w
      rw [h1] at h
      dsimp only at h
      obtain ⟨a1, a2, a3, a4, a5⟩ := rdN_ok h1
      have e1 := tkE_b (T := T) e0.2.1 (by rw [a1]; omega)
      rw [← a4] at e1
      have hb1 := tkB_b (T := T) e0.2.1
      cases h2 : rdN T L p1 0 9 with
      | inl e => rw [h2] at h; cases h
      | inr w =>
        obtain ⟨v1, p2⟩ := w
        rw [h2] at h
        dsimp only at h
        obtain ⟨c1, c2, c3, c4, c5⟩ := rdN_ok h2
        have e2 := tkE_b (T := T) e1.2.1 (by rw [c1]; omega)
        rw [← c4] at e2
        have hb2 := tkB_b (T := T) e1.2.1
        cases h3 : rdS T L p2 with
        | inl e => rw [h3] at h; cases h
        | inr p4 =>
          rw [h3] at h
          cases h
          obtain ⟨b1, b2⟩ := rdS_ok h3
          have s := sgn_b (T := T) e2.2.1 b1
          rw [← b2] at s
          omega
theorem actK_w (h : actK T L p ≠ 6) : ∃ l : List Int, 3 ≤ l.length ∧ isW T L p l := by
  unfold actK at h
  split at h
  · next e => exact ⟨_, by decide, e⟩
  · split at h
    · next e => exact ⟨_, by decide, e⟩
    · split at h
      · next e => exact ⟨_, by decide, e⟩
      · split at h
        · next e => exact ⟨_, by decide, e⟩
        · split at h
          · next e => exact ⟨_, by decide, e⟩
          · split at h
            · next e => exact ⟨_, by decide, e⟩
            · exact absurd rfl h
theorem actK_le : actK T L p ≤ 6 := by
  unfold actK
  repeat' split
  all_goals omega
theorem rdA_ok {t a b pl p3 : Nat} (hp : p ≤ L) (h : rdA T L p = .inr (t, a, b, pl, p3)) : t ≤ 5 ∧ a ≤ 99 ∧ b ≤ 99 ∧ p + 6 ≤ p3 ∧ p3 ≤ L ∧ p3 ≤ 600 ∧ pl ≤ 600 := by
  unfold rdA at h
  split at h
  · cases h
  · next hk =>
    have hk6 := actK_le (T := T) (L := L) (p := p)
    obtain ⟨l, hl, hw⟩ := actK_w hk
    have hb := tkB_b (T := T) hp
    have w1 := wrd_b hp hw
    cases h1 : rdN T L (tkE T L p) (if actK T L p = 5 then 1 else 0) 99 with
    | inl e => rw [h1] at h; cases h
    | inr w =>
      obtain ⟨a1, p1⟩ := w
      rw [h1] at h
      dsimp only at h
      obtain ⟨q1, q2, q3, q4, q5⟩ := rdN_ok h1
      have g := tk_gap hp (Or.inl hw.1) q1
      have e1 := tkE_b (T := T) w1.2 (by rw [q1]; omega)
      rw [← q4] at e1
      split at h
      · cases h2 : rdN T L p1 0 99 with
        | inl e => rw [h2] at h; cases h
        | inr w =>
          obtain ⟨b1, p2⟩ := w
          rw [h2] at h
          dsimp only at h
          obtain ⟨c1, c2, c3, c4, c5⟩ := rdN_ok h2
          have e2 := tkE_b (T := T) e1.2.1 (by rw [c1]; omega)
          rw [← c4] at e2
          have hb2 := tkB_b (T := T) e1.2.1
          cases h3 : rdS T L p2 with
          | inl e => rw [h3] at h; cases h
          | inr p4 =>
            rw [h3] at h
            cases h
            obtain ⟨b1, b2⟩ := rdS_ok h3
            have s := sgn_b (T := T) e2.2.1 b1
            have e3 := tkE_b (T := T) e2.2.1 (by rw [b1]; omega)
            rw [← b2] at s
            omega
      · cases h3 : rdS T L p1 with
        | inl e => rw [h3] at h; cases h
        | inr p4 =>
          rw [h3] at h
          cases h
          obtain ⟨b1, b2⟩ := rdS_ok h3
          have s := sgn_b (T := T) e1.2.1 b1
          have e3 := tkE_b (T := T) e1.2.1 (by rw [b1]; omega)
          rw [← b2] at s
          omega
theorem exA_GJ {n : Nat} : ∀ f {c p k W : Nat} {X : NT} {c' : Nat} {X' : NT}, p ≤ L → GJ n k W X → 9 ≤ W → W + 1400 * f ≤ 1000000000 → exA T L n f c p X = .inr (c', X') → ∃ k', GJ n k' (W + 1400 * f) X'
  | 0, c, p, k, W, X, c', X', _, _, _, _, h => by simp [exA] at h
  | f + 1, c, p, k, W, X, c', X', hp, g, h9, hW, h => by
    unfold exA at h
    split at h
    · cases h
      exact ⟨k, g.1.mono (by omega) hW, g.2.mono (by omega)⟩
    · cases h1 : rdA T L p with
      | inl e => rw [h1] at h; cases h
      | inr v =>
        obtain ⟨t, a, b, pl, p1⟩ := v
        rw [h1] at h
        dsimp only at h
        have ok := rdA_ok hp h1
        have hk : (X.1 5).toNat = k := by rw [g.1.A.2.1, Int.toNat_natCast]
        rw [hk] at h
        split at h
        · cases h
        · have ha : (a : Int) ≤ 99 := Int.ofNat_le.mpr ok.2.1
          obtain ⟨k', g'⟩ := g.act (t := t) (x := a) (y := b) (Or.inr (Or.inr (Or.inr (Or.inr (Or.inr ha))))) h9 (Nat.le_trans (Nat.add_le_add_left (by rw [Nat.mul_add]; exact Nat.le_add_left _ _) _) hW)
          obtain ⟨k2, g2⟩ := exA_GJ f (by omega) g' (by omega) (by omega) h
          exact ⟨k2, g2.1.mono (by omega) hW, g2.2.mono (by omega)⟩
theorem rkL_ok {n : Nat} : ∀ f {c p : Nat} {r r' : Nat → Int} {p' : Nat}, p ≤ L → (∀ j, j < 6 → 0 ≤ r j ∧ r j ≤ 9) → rkL T L n f c r p = .inr (r', p') → (∀ j, j < 6 → 0 ≤ r' j ∧ r' j ≤ 9) ∧ p ≤ p' ∧ p' ≤ L
  | 0, c, p, r, r', p', _, _, h => by simp [rkL] at h
  | f + 1, c, p, r, r', p', hp, hr, h => by
    unfold rkL at h
    split at h
    · next hw =>
      cases h1 : rdK T L n c p with
      | inl e => rw [h1] at h; cases h
      | inr v =>
        obtain ⟨x, v, p1⟩ := v
        rw [h1] at h
        dsimp only at h
        have ok := rdK_ok hp hw.1 h1
        have ih := rkL_ok f (c := c + 1) (p := p1) (by omega) (fun j hj => ?_) h
        · exact ⟨ih.1, by omega, ih.2.2⟩
        · by_cases e : j = x
          · subst e; rw [u1_at]; omega
          · rw [u1_ne e]; exact hr j hj
    · cases h
      exact ⟨hr, Nat.le_refl _, hp⟩
theorem texF_GJ {c : Nat} {X : NT} (h : texF T L = .inr (c, X)) : ∃ n k, GJ n k 150000 X := by
  unfold texF at h
  cases h1 : rdM T L 0 with
  | inl e => rw [h1] at h; cases h
  | inr v =>
    obtain ⟨n, p⟩ := v
    rw [h1] at h
    dsimp only at h
    have ok := rdM_ok (Nat.zero_le _) h1
    cases h2 : rkL T L n 22 0 (fun _ => 0) p with
    | inl e => rw [h2] at h; cases h
    | inr v =>
      obtain ⟨r, p1⟩ := v
      rw [h2] at h
      dsimp only at h
      have ok2 := rkL_ok 22 ok.2.2.2.1 (fun j _ => by omega) h2
      obtain ⟨k', g⟩ := exA_GJ 101 ok2.2.2 (GJ.beg ok.1 ok.2.1 ok2.1) (by omega) (by omega) h
      exact ⟨n, k', g.1.mono (by omega) (by omega), g.2.mono (by omega)⟩
end RD
/-- the reference's fields at the token behind p -/
def TKs (F T : Nat → Int) (L p : Nat) : Prop := F 3 = (L : Int) ∧ F 5 = (tkS T L p : Int) ∧ F 6 = (tkK T L p : Int) ∧ (2 ≤ tkK T L p → F 4 = (tkE T L p : Int)) ∧ (tkK T L p = 3 → F 7 = tkN T L p) ∧ (tkK T L p = 2 → F 10 = wrd T (tkB T L p) (tkR T L (tkB T L p) - tkB T L p))
def eqO (F F' : Nat → Int) : Prop := ∀ i, i ≠ 3 → i ≠ 4 → i ≠ 5 → i ≠ 6 → i ≠ 7 → i ≠ 10 → F' i = F i
def eqI (F F' : Nat → Int) : Prop := ∀ i, i = 0 ∨ i = 1 ∨ i = 2 ∨ i = 3 ∨ i = 11 ∨ i = 12 ∨ i = 13 ∨ i = 14 ∨ i = 17 → F' i = F i
theorem eqI.ML {Γ : GM} {M : Nat} {F F' : Nat → Int} (h : eqI F F') (hM : ML Γ M F) : ML Γ M F' := by
  obtain ⟨h1, h2, h3, h4, h5, h6, h7⟩ := hM
  exact ⟨h1, h2, by rw [h 1 (by omega)]; exact h3, by rw [h 11 (by omega)]; exact h4, by rw [h 12 (by omega)]; exact h5, by rw [h 13 (by omega)]; exact h6, by rw [h 17 (by omega)]; exact h7⟩
theorem eqI.tr {F F' F'' : Nat → Int} (h : eqI F F') (h' : eqI F' F'') : eqI F F'' := fun i hi => (h' i hi).trans (h i hi)
theorem eqI.rf {F : Nat → Int} : eqI F F := fun _ _ => rfl
theorem eqI.u {F F' : Nat → Int} {i : Nat} {x : Int} (h : eqI F F') (hi : i = 8 ∨ i = 9 ∨ i = 15 ∨ i = 16 ∨ i = 18 ∨ i = 19) : eqI F (uF F' i x) := fun j hj => by rw [uF_ne (by omega)]; exact h j hj
theorem eqI.FF {F F' : Nat → Int} {a b : Int} (h : eqI F F') : eqI F (FF F' a b) := fun j hj => by rw [FF_ne (by omega) (by omega)]; exact h j hj
theorem FF_self {F : Nat → Int} : FF F (F 15) (F 16) = F := by
  funext j
  unfold FF uF
  by_cases h1 : j = 16
  · subst h1; rw [if_pos rfl]
  · rw [if_neg h1]
    by_cases h2 : j = 15
    · subst h2; rw [if_pos rfl]
    · rw [if_neg h2]
theorem FT_self {F : Nat → Int} : FT F (F 3) (F 4) (F 5) (F 6) (F 7) (F 10) = F := by
  funext j
  unfold FT uF
  repeat' split
  all_goals first | rfl | (next h => rw [h])
theorem TKs.u {F T : Nat → Int} {L p i : Nat} {x : Int} (h : TKs F T L p) (hi : i ≠ 3 ∧ i ≠ 4 ∧ i ≠ 5 ∧ i ≠ 6 ∧ i ≠ 7 ∧ i ≠ 10) : TKs (uF F i x) T L p := by
  unfold TKs at h ⊢
  rw [uF_ne (by omega), uF_ne (by omega), uF_ne (by omega), uF_ne (by omega), uF_ne (by omega), uF_ne (by omega)]
  exact h
section MD
variable {w : WP} {d : Nat} {Γ : GM} {V : VH} {Q : QT} {M : Nat} {F T N K S H : Nat → Int} {L p : Nat}
theorem c_go2 (hd5 : 5 ≤ d) (hM : ML Γ M F) (hL : L ≤ 640) (hp : p ≤ L) (h3 : F 3 = (L : Int)) (h4 : F 4 = (p : Int))
    (hq : ∀ F', eqO F F' → TKs F' T L p → Q none Γ (mS V M F' T N K S H)) : tC w d nMod_go [.inr (.inl M)] Γ (mS V M F T N K S H) Q := by
  have := c_go (w := w) (Q := Q) (V := V) (N := N) (K := K) (S := S) (H := H) (F := F) (T := T) hd5 hM (f := F 5) (s := F 6) (m := F 7) (v := F 10) hL hp (fun t' m' v' e1 e2 e3 => hq _ (fun i i3 i4 i5 i6 i7 i10 => FT_ne i3 i4 i5 i6 i7 i10) ⟨FT_3, FT_5, FT_6, fun h => by rw [FT_4]; exact e1 h, fun h => by rw [FT_7]; exact e2 h, fun h => by rw [FT_10]; exact e3 h⟩)
  rw [← h3, ← h4, FT_self] at this
  exact this
theorem eqO.I {F F' : Nat → Int} (h : eqO F F') (h3 : F' 3 = F 3) : eqI F F' := fun i hi => by
  by_cases e : i = 3
  · subst e; exact h3
  · exact h i e (by omega) (by omega) (by omega) (by omega) (by omega)
theorem c_isWord (hd : 4 ≤ d) (hM : ML Γ M F) {x : Int} (hq : Q (some (.inl (bi (F 6 = 2 ∧ F 10 = x)))) Γ (mS V M F T N K S H)) : tC w d nMod_isWord [.inr (.inl M), .inr (.inr x)] Γ (mS V M F T N K S H) Q := by
  obtain ⟨⟨g0, g1, g2, g3, g4, g5⟩, ⟨l1, l2, l3, -, l5⟩, p1, p2, p3, p4, p5⟩ := id hM
  refine tC_enter (nL := 3) (by decide +kernel) (by decide +kernel) rfl (Nat.le_of_ble_eq_true rfl) (fun hok => ?_)
  simp only [ent]
  have no : ¬ (F 6 = 2 ∧ F 10 = x) → tG w d nMod_isWord 21 [some (.inr (.inl M)), some (.inr (.inr x)), none] [] Γ (mS V M F T N K S H) 0 0 Q := by
    intro h
    refine tG_at hd kMod_isWord_21 ?_
    simp only [bMod_isWord_21, rn, sm, lg, lt_, cmpP, tk, pr_, pu, swl, cs, Nat.reduceAdd, Nat.reduceLeDiff, Nat.zero_le, Nat.le_refl, true_and, and_true, Int.toNat_natCast, Int.reduceToNat, Int.reduceEq, false_implies, true_implies, Int.reduceNeg, Int.cast_ofNat_Int]
    refine tG_at hd kMod_isWord_22 ?_
    simp only [bMod_isWord_22, rn, sm, lg, lt_, cmpP, tk, pr_, pu, swl, cs, Nat.reduceAdd, Nat.reduceLeDiff, Nat.zero_le, Nat.le_refl, true_and, and_true, Int.toNat_natCast, Int.reduceToNat, Int.reduceEq, false_implies, true_implies, Int.reduceNeg, Int.cast_ofNat_Int]
    rw [bi_0 h] at hq
    exact ⟨Or.inl trivial, hq⟩
  refine tG_at hd kMod_isWord_0 ?_
  simp (disch := omega) only [bMod_isWord_0, rn, sm, lg, lt_, cmpP, tk, pr_, pu, swl, cs, Nat.reduceAdd, Nat.reduceLeDiff, Nat.zero_le, Nat.le_refl, true_and, and_true, Int.toNat_natCast, Int.reduceToNat, Int.reduceEq, false_implies, true_implies, Int.reduceNeg, Int.cast_ofNat_Int, mS_0, mS_1, mS_2, mS_3, mS_4, mS_5, mS_u0, mS_u1, mS_u2, mS_u3, mS_u4, mS_u5, g0, g1, g2, g3, g4, g5, l1, l2, l3, l5, p1, p2, p3, p4, p5, sn_0, sn_9, at_0, at_9, fl_sn, fl_at, fl_usn, fl_uat, fl_a, fl_ua, uF, reduceIte, Nat.reduceEqDiff, true_or, or_true, Int.reduceLE, Int.reduceLT, wr_s, wn_1, wn_2, wn_5, wn_6, wn_8, wn_12, wn_14, wn_18, wn_24, wn_30, wn_32, wn_38, wn_44]
  refine ⟨fun hz => no (fun h => hz h.1), fun hz => ?_⟩
  refine tG_at hd kMod_isWord_8 ?_
  simp (disch := omega) only [bMod_isWord_8, rn, sm, lg, lt_, cmpP, tk, pr_, pu, swl, cs, Nat.reduceAdd, Nat.reduceLeDiff, Nat.zero_le, Nat.le_refl, true_and, and_true, Int.toNat_natCast, Int.reduceToNat, Int.reduceEq, false_implies, true_implies, Int.reduceNeg, Int.cast_ofNat_Int, mS_0, mS_1, mS_2, mS_3, mS_4, mS_5, mS_u0, mS_u1, mS_u2, mS_u3, mS_u4, mS_u5, g0, g1, g2, g3, g4, g5, l1, l2, l3, l5, p1, p2, p3, p4, p5, sn_0, sn_9, at_0, at_9, fl_sn, fl_at, fl_usn, fl_uat, fl_a, fl_ua, uF, reduceIte, Nat.reduceEqDiff, true_or, or_true, Int.reduceLE, Int.reduceLT, wr_s, wn_1, wn_2, wn_5, wn_6, wn_8, wn_12, wn_14, wn_18, wn_24, wn_30, wn_32, wn_38, wn_44]
  by_cases he : F 10 = x
  · rw [if_pos he]
    refine ⟨fun h => absurd rfl h, fun _ => ?_⟩
    refine tG_at hd kMod_isWord_17 ?_
    simp only [bMod_isWord_17, rn, sm, lg, lt_, cmpP, tk, pr_, pu, swl, cs, Nat.reduceAdd, Nat.reduceLeDiff, Nat.zero_le, Nat.le_refl, true_and, and_true, Int.toNat_natCast, Int.reduceToNat, Int.reduceEq, false_implies, true_implies, Int.reduceNeg, Int.cast_ofNat_Int]
    refine tG_at hd kMod_isWord_22 ?_
    simp only [bMod_isWord_22, rn, sm, lg, lt_, cmpP, tk, pr_, pu, swl, cs, Nat.reduceAdd, Nat.reduceLeDiff, Nat.zero_le, Nat.le_refl, true_and, and_true, Int.toNat_natCast, Int.reduceToNat, Int.reduceEq, false_implies, true_implies, Int.reduceNeg, Int.cast_ofNat_Int]
    rw [bi_1 ⟨Decidable.not_not.mp hz, he⟩] at hq
    exact ⟨Or.inr trivial, hq⟩
  · rw [if_neg he]
    refine ⟨fun _ => no (fun h => he h.2), fun h => absurd (by split <;> decide) h⟩
/-- isWord at a token -/
theorem c_isW (hd : 4 ≤ d) (hM : ML Γ M F) (hT : TKs F T L p) {x : Int} {l : List Int} (hx : x = codR l) (hl : ∀ c ∈ l, isLt c) (hn : l.length ≤ 7) (hq : Q (some (.inl (bi (isW T L p l)))) Γ (mS V M F T N K S H)) : tC w d nMod_isWord [.inr (.inl M), .inr (.inr x)] Γ (mS V M F T N K S H) Q := by
  refine c_isWord hd hM ?_
  obtain ⟨-, -, t6, -, -, t10⟩ := hT
  have e : (F 6 = 2 ∧ F 10 = x) ↔ isW T L p l := by
    rw [t6, hx]
    constructor
    · rintro ⟨h1, h2⟩
      have h1 : tkK T L p = 2 := by omega
      rw [t10 h1] at h2
      exact ⟨h1, (wrd_is (tkK_2 h1).2.2.2 hl hn).mp h2⟩
    · rintro ⟨h1, h2⟩
      rw [t10 h1]
      exact ⟨by omega, (wrd_is (tkK_2 h1).2.2.2 hl hn).mpr h2⟩
  by_cases hw : isW T L p l
  · rw [bi_1 hw] at hq
    rw [bi_1 (e.mpr hw)]
    exact hq
  · rw [bi_0 hw] at hq
    rw [bi_0 (fun h => hw (e.mp h))]
    exact hq
theorem c_bad (hd : 4 ≤ d) (hM : ML Γ M F) (hT : TKs F T L p) {x : Int} (hq : ∀ F', eqI F F' → F' 8 = (if tkK T L p = 1 then 1 else x) → F' 9 = (tkS T L p : Int) → Q (some (.inl 0)) Γ (mS V M F' T N K S H)) : tC w d nMod_bad [.inr (.inl M), .inl x] Γ (mS V M F T N K S H) Q := by
  obtain ⟨⟨g0, g1, g2, g3, g4, g5⟩, ⟨l1, l2, l3, -, l5⟩, p1, p2, p3, p4, p5⟩ := id hM
  obtain ⟨-, t5, t6, -⟩ := hT
  refine tC_enter (nL := 2) (by decide +kernel) (by decide +kernel) rfl (Nat.le_of_ble_eq_true rfl) (fun hok => ?_)
  simp only [ent]
  have fin : ∀ v : Int, v = (if tkK T L p = 1 then 1 else x) → tG w d nMod_bad 14 [some (.inr (.inl M)), some (.inl x)] [.inl v, .inr (.inl M)] Γ (mS V M F T N K S H) 0 0 Q := by
    intro v hv
    refine tG_at hd kMod_bad_14 ?_
    simp (disch := omega) only [bMod_bad_14, rn, sm, lg, lt_, cmpP, tk, pr_, pu, swl, cs, Nat.reduceAdd, Nat.reduceLeDiff, Nat.zero_le, Nat.le_refl, true_and, and_true, Int.toNat_natCast, Int.reduceToNat, Int.reduceEq, false_implies, true_implies, Int.reduceNeg, Int.cast_ofNat_Int, mS_0, mS_u0, g0, uF_ne]
    exact ⟨Or.inl trivial, hq _ ((eqI.rf.u (by omega)).u (by omega)) (by rw [uF_ne (by omega), uF_at]; exact hv) (by rw [uF_at]; exact t5)⟩
  refine tG_at hd kMod_bad_0 ?_
  simp (disch := omega) only [bMod_bad_0, rn, sm, lg, lt_, cmpP, tk, pr_, pu, swl, cs, Nat.reduceAdd, Nat.reduceLeDiff, Nat.zero_le, Nat.le_refl, true_and, and_true, Int.toNat_natCast, Int.reduceToNat, Int.reduceEq, false_implies, true_implies, Int.reduceNeg, Int.cast_ofNat_Int, mS_0, mS_1, mS_2, mS_3, mS_4, mS_5, mS_u0, mS_u1, mS_u2, mS_u3, mS_u4, mS_u5, g0, g1, g2, g3, g4, g5, l1, l2, l3, l5, p1, p2, p3, p4, p5, sn_0, sn_9, at_0, at_9, fl_sn, fl_at, fl_usn, fl_uat, fl_a, fl_ua, uF, reduceIte, Nat.reduceEqDiff, true_or, or_true, Int.reduceLE, Int.reduceLT, wr_s, wn_1, wn_2, wn_5, wn_6, wn_8, wn_12, wn_14, wn_18, wn_24, wn_30, wn_32, wn_38, wn_44]
  refine ⟨fun hz => ?_, fun hz => ?_⟩
  · refine tG_at hd kMod_bad_13 ?_
    simp only [bMod_bad_13, rn, sm, lg, lt_, cmpP, tk, pr_, pu, swl, cs, Nat.reduceAdd, Nat.reduceLeDiff, Nat.zero_le, Nat.le_refl, true_and, and_true, Int.toNat_natCast, Int.reduceToNat, Int.reduceEq, false_implies, true_implies, Int.reduceNeg, Int.cast_ofNat_Int]
    exact fin x (by rw [if_neg (by omega)])
  · refine tG_at hd kMod_bad_9 ?_
    simp only [bMod_bad_9, rn, sm, lg, lt_, cmpP, tk, pr_, pu, swl, cs, Nat.reduceAdd, Nat.reduceLeDiff, Nat.zero_le, Nat.le_refl, true_and, and_true, Int.toNat_natCast, Int.reduceToNat, Int.reduceEq, false_implies, true_implies, Int.reduceNeg, Int.cast_ofNat_Int]
    exact fin 1 (by rw [if_pos (by omega)])
theorem c_told (hd6 : 6 ≤ d) (hM : ML Γ M F) (hL : L ≤ 640) (hp : p ≤ L) (hT : TKs F T L p) {lo hi : Int}
    (hq0 : ∀ fk pl : Nat, rdN T L p lo hi = .inl (fk, pl) → ∀ F', eqI F F' → F' 8 = (fk : Int) → F' 9 = (pl : Int) → Q (some (.inl 0)) Γ (mS V M F' T N K S H))
    (hq1 : ∀ v p1 : Nat, rdN T L p lo hi = .inr (v, p1) → ∀ F', eqI F F' → F' 8 = F 8 → F' 19 = F 19 → F' 18 = (v : Int) → TKs F' T L p1 → Q (some (.inl 1)) Γ (mS V M F' T N K S H)) :
    tC w d nMod_told [.inr (.inl M), .inl lo, .inl hi] Γ (mS V M F T N K S H) Q := by
  have hd : 4 ≤ d := by omega
  obtain ⟨⟨g0, g1, g2, g3, g4, g5⟩, ⟨l1, l2, l3, -, l5⟩, p1, p2, p3, p4, p5⟩ := id hM
  obtain ⟨t3, t5, t6, t4, t7, t10⟩ := id hT
  refine tC_enter (nL := 3) (by decide +kernel) (by decide +kernel) rfl (Nat.le_of_ble_eq_true rfl) (fun hok => ?_)
  simp only [ent]
  refine tG_at hd kMod_told_0 ?_
  simp (disch := omega) only [bMod_told_0, rn, sm, lg, lt_, cmpP, tk, pr_, pu, swl, cs, Nat.reduceAdd, Nat.reduceLeDiff, Nat.zero_le, Nat.le_refl, true_and, and_true, Int.toNat_natCast, Int.reduceToNat, Int.reduceEq, false_implies, true_implies, Int.reduceNeg, Int.cast_ofNat_Int, mS_0, mS_1, mS_2, mS_3, mS_4, mS_5, mS_u0, mS_u1, mS_u2, mS_u3, mS_u4, mS_u5, g0, g1, g2, g3, g4, g5, l1, l2, l3, l5, p1, p2, p3, p4, p5, sn_0, sn_9, at_0, at_9, fl_sn, fl_at, fl_usn, fl_uat, fl_a, fl_ua, uF, reduceIte, Nat.reduceEqDiff, true_or, or_true, Int.reduceLE, Int.reduceLT, wr_s, wn_1, wn_2, wn_5, wn_6, wn_8, wn_12, wn_14, wn_18, wn_24, wn_30, wn_32, wn_38, wn_44, t6]
  refine ⟨fun hz => ?_, fun hz => ?_⟩
  · have hk : tkK T L p = 3 := by omega
    have hb := tkN_b hk
    have e7 := t7 hk
    refine tG_at hd kMod_told_14 ?_
    simp (disch := omega) only [bMod_told_14, rn, sm, lg, lt_, cmpP, tk, pr_, pu, swl, cs, Nat.reduceAdd, Nat.reduceLeDiff, Nat.zero_le, Nat.le_refl, true_and, and_true, Int.toNat_natCast, Int.reduceToNat, Int.reduceEq, false_implies, true_implies, Int.reduceNeg, Int.cast_ofNat_Int, mS_0, mS_1, mS_2, mS_3, mS_4, mS_5, mS_u0, mS_u1, mS_u2, mS_u3, mS_u4, mS_u5, g0, g1, g2, g3, g4, g5, l1, l2, l3, l5, p1, p2, p3, p4, p5, sn_0, sn_9, at_0, at_9, fl_sn, fl_at, fl_usn, fl_uat, fl_a, fl_ua, uF, reduceIte, Nat.reduceEqDiff, true_or, or_true, Int.reduceLE, Int.reduceLT, wr_s, wn_1, wn_2, wn_5, wn_6, wn_8, wn_12, wn_14, wn_18, wn_24, wn_30, wn_32, wn_38, wn_44, e7]
    by_cases hr : lo ≤ tkN T L p ∧ tkN T L p ≤ hi
    · have hR : rdN T L p lo hi = .inr ((tkN T L p).toNat, tkE T L p) := by unfold rdN; rw [if_pos hk, if_pos hr]
      have hE := tkE_b (T := T) hp (by omega)
      rw [bi_1 hr]
      refine ⟨fun _ => ?_, fun h => absurd (by decide) h⟩
      refine tG_at hd kMod_told_32 ?_
      simp (disch := omega) only [bMod_told_32, rn, sm, lg, lt_, cmpP, tk, pr_, pu, swl, cs, Nat.reduceAdd, Nat.reduceLeDiff, Nat.zero_le, Nat.le_refl, true_and, and_true, Int.toNat_natCast, Int.reduceToNat, Int.reduceEq, false_implies, true_implies, Int.reduceNeg, Int.cast_ofNat_Int, mS_0, mS_u0, g0, e7]
      have hM18 : ML Γ M (uF F 18 (tkN T L p)) := hM.uF (by omega)
      refine c_go2 (by omega) hM18 hL (p := tkE T L p) hE.2.1 (by rw [uF_ne (by omega)]; exact t3) (by rw [uF_ne (by omega)]; exact t4 (by omega)) (fun F' eo tk => ?_)
      refine tG_at hd kMod_told_44 ?_
      simp only [bMod_told_44, rn, sm, lg, lt_, cmpP, tk, pr_, pu, swl, cs, Nat.reduceAdd, Nat.reduceLeDiff, Nat.zero_le, Nat.le_refl, true_and, and_true, Int.toNat_natCast, Int.reduceToNat, Int.reduceEq, false_implies, true_implies, Int.reduceNeg, Int.cast_ofNat_Int]
      refine ⟨Or.inr trivial, hq1 _ _ hR F' ?_ ?_ ?_ ?_ tk⟩
      · exact (eqI.rf.u (by omega)).tr (eo.I (by rw [tk.1, uF_ne (by omega), t3]))
      · rw [eo 8 (by omega) (by omega) (by omega) (by omega) (by omega) (by omega), uF_ne (by omega)]
      · rw [eo 19 (by omega) (by omega) (by omega) (by omega) (by omega) (by omega), uF_ne (by omega)]
      · rw [eo 18 (by omega) (by omega) (by omega) (by omega) (by omega) (by omega), uF_at]; omega
    · have hR : rdN T L p lo hi = .inl (2, tkS T L p) := by unfold rdN; rw [if_pos hk, if_neg hr]
      rw [bi_0 hr]
      refine ⟨fun h => absurd rfl h, fun _ => ?_⟩
      refine tG_at hd kMod_told_26 ?_
      simp (disch := omega) only [bMod_told_26, rn, sm, lg, lt_, cmpP, tk, pr_, pu, swl, cs, Nat.reduceAdd, Nat.reduceLeDiff, Nat.zero_le, Nat.le_refl, true_and, and_true, Int.toNat_natCast, Int.reduceToNat, Int.reduceEq, false_implies, true_implies, Int.reduceNeg, Int.cast_ofNat_Int, mS_0, mS_1, mS_2, mS_3, mS_4, mS_5, mS_u0, mS_u1, mS_u2, mS_u3, mS_u4, mS_u5, g0, g1, g2, g3, g4, g5, l1, l2, l3, l5, p1, p2, p3, p4, p5, sn_0, sn_9, at_0, at_9, fl_sn, fl_at, fl_usn, fl_uat, fl_a, fl_ua, uF, reduceIte, Nat.reduceEqDiff, true_or, or_true, Int.reduceLE, Int.reduceLT, wr_s, wn_1, wn_2, wn_5, wn_6, wn_8, wn_12, wn_14, wn_18, wn_24, wn_30, wn_32, wn_38, wn_44]
      refine c_bad (by omega) hM hT (fun F' e1 e2 e3 => ?_)
      rw [if_neg (by omega)] at e2
      refine tG_at hd kMod_told_31 ?_
      simp only [bMod_told_31, rn, sm, lg, lt_, cmpP, tk, pr_, pu, swl, cs, Nat.reduceAdd, Nat.reduceLeDiff, Nat.zero_le, Nat.le_refl, true_and, and_true, Int.toNat_natCast, Int.reduceToNat, Int.reduceEq, false_implies, true_implies, Int.reduceNeg, Int.cast_ofNat_Int]
      exact ⟨Or.inl trivial, hq0 _ _ hR F' e1 e2 e3⟩
  · have hR : rdN T L p lo hi = .inl (1, tkS T L p) := by unfold rdN; rw [if_neg (by omega)]
    refine tG_at hd kMod_told_8 ?_
    simp (disch := omega) only [bMod_told_8, rn, sm, lg, lt_, cmpP, tk, pr_, pu, swl, cs, Nat.reduceAdd, Nat.reduceLeDiff, Nat.zero_le, Nat.le_refl, true_and, and_true, Int.toNat_natCast, Int.reduceToNat, Int.reduceEq, false_implies, true_implies, Int.reduceNeg, Int.cast_ofNat_Int, mS_0, mS_1, mS_2, mS_3, mS_4, mS_5, mS_u0, mS_u1, mS_u2, mS_u3, mS_u4, mS_u5, g0, g1, g2, g3, g4, g5, l1, l2, l3, l5, p1, p2, p3, p4, p5, sn_0, sn_9, at_0, at_9, fl_sn, fl_at, fl_usn, fl_uat, fl_a, fl_ua, uF, reduceIte, Nat.reduceEqDiff, true_or, or_true, Int.reduceLE, Int.reduceLT, wr_s, wn_1, wn_2, wn_5, wn_6, wn_8, wn_12, wn_14, wn_18, wn_24, wn_30, wn_32, wn_38, wn_44]
    refine c_bad (by omega) hM hT (fun F' e1 e2 e3 => ?_)
    rw [show (if tkK T L p = 1 then 1 else (1 : Int)) = 1 by split <;> rfl] at e2
    refine tG_at hd kMod_told_13 ?_
    simp only [bMod_told_13, rn, sm, lg, lt_, cmpP, tk, pr_, pu, swl, cs, Nat.reduceAdd, Nat.reduceLeDiff, Nat.zero_le, Nat.le_refl, true_and, and_true, Int.toNat_natCast, Int.reduceToNat, Int.reduceEq, false_implies, true_implies, Int.reduceNeg, Int.cast_ofNat_Int]
    exact ⟨Or.inl trivial, hq0 _ _ hR F' e1 e2 e3⟩
theorem c_readEnd (hd6 : 6 ≤ d) (hM : ML Γ M F) (hL : L ≤ 640) (hp : p ≤ L) (hT : TKs F T L p)
    (hq0 : ∀ fk pl : Nat, rdS T L p = .inl (fk, pl) → ∀ F', eqI F F' → F' 8 = (fk : Int) → F' 9 = (pl : Int) → Q (some (.inl 0)) Γ (mS V M F' T N K S H))
    (hq1 : ∀ p1 : Nat, rdS T L p = .inr p1 → ∀ F', eqI F F' → F' 8 = F 8 → F' 19 = F 19 → TKs F' T L p1 → Q (some (.inl 1)) Γ (mS V M F' T N K S H)) :
    tC w d nMod_readEnd [.inr (.inl M)] Γ (mS V M F T N K S H) Q := by
  have hd : 4 ≤ d := by omega
  obtain ⟨⟨g0, g1, g2, g3, g4, g5⟩, ⟨l1, l2, l3, -, l5⟩, p1, p2, p3, p4, p5⟩ := id hM
  obtain ⟨t3, t5, t6, t4, t7, t10⟩ := id hT
  refine tC_enter (nL := 1) (by decide +kernel) (by decide +kernel) rfl (Nat.le_of_ble_eq_true rfl) (fun hok => ?_)
  simp only [ent]
  refine tG_at hd kMod_readEnd_0 ?_
  simp (disch := omega) only [bMod_readEnd_0, rn, sm, lg, lt_, cmpP, tk, pr_, pu, swl, cs, Nat.reduceAdd, Nat.reduceLeDiff, Nat.zero_le, Nat.le_refl, true_and, and_true, Int.toNat_natCast, Int.reduceToNat, Int.reduceEq, false_implies, true_implies, Int.reduceNeg, Int.cast_ofNat_Int, mS_0, mS_1, mS_2, mS_3, mS_4, mS_5, mS_u0, mS_u1, mS_u2, mS_u3, mS_u4, mS_u5, g0, g1, g2, g3, g4, g5, l1, l2, l3, l5, p1, p2, p3, p4, p5, sn_0, sn_9, at_0, at_9, fl_sn, fl_at, fl_usn, fl_uat, fl_a, fl_ua, uF, reduceIte, Nat.reduceEqDiff, true_or, or_true, Int.reduceLE, Int.reduceLT, wr_s, wn_1, wn_2, wn_5, wn_6, wn_8, wn_12, wn_14, wn_18, wn_24, wn_30, wn_32, wn_38, wn_44, t6]
  refine ⟨fun hz => ?_, fun hz => ?_⟩
  · have hk : tkK T L p = 4 := by omega
    have hR : rdS T L p = .inr (tkE T L p) := if_pos hk
    have hE := tkE_b (T := T) hp (by omega)
    refine tG_at hd kMod_readEnd_14 ?_
    simp (disch := omega) only [bMod_readEnd_14, rn, sm, lg, lt_, cmpP, tk, pr_, pu, swl, cs, Nat.reduceAdd, Nat.reduceLeDiff, Nat.zero_le, Nat.le_refl, true_and, and_true, Int.toNat_natCast, Int.reduceToNat, Int.reduceEq, false_implies, true_implies, Int.reduceNeg, Int.cast_ofNat_Int, mS_0, mS_1, mS_2, mS_3, mS_4, mS_5, mS_u0, mS_u1, mS_u2, mS_u3, mS_u4, mS_u5, g0, g1, g2, g3, g4, g5, l1, l2, l3, l5, p1, p2, p3, p4, p5, sn_0, sn_9, at_0, at_9, fl_sn, fl_at, fl_usn, fl_uat, fl_a, fl_ua, uF, reduceIte, Nat.reduceEqDiff, true_or, or_true, Int.reduceLE, Int.reduceLT, wr_s, wn_1, wn_2, wn_5, wn_6, wn_8, wn_12, wn_14, wn_18, wn_24, wn_30, wn_32, wn_38, wn_44]
    refine c_go2 (by omega) hM hL (p := tkE T L p) hE.2.1 t3 (t4 (by omega)) (fun F' eo tk => ?_)
    refine tG_at hd kMod_readEnd_18 ?_
    simp only [bMod_readEnd_18, rn, sm, lg, lt_, cmpP, tk, pr_, pu, swl, cs, Nat.reduceAdd, Nat.reduceLeDiff, Nat.zero_le, Nat.le_refl, true_and, and_true, Int.toNat_natCast, Int.reduceToNat, Int.reduceEq, false_implies, true_implies, Int.reduceNeg, Int.cast_ofNat_Int]
    refine ⟨Or.inr trivial, hq1 _ hR F' (eo.I (by rw [tk.1, t3])) ?_ ?_ tk⟩
    · exact eo 8 (by omega) (by omega) (by omega) (by omega) (by omega) (by omega)
    · exact eo 19 (by omega) (by omega) (by omega) (by omega) (by omega) (by omega)
  · have hR : rdS T L p = .inl (1, tkS T L p) := if_neg (by omega)
    refine tG_at hd kMod_readEnd_8 ?_
    simp (disch := omega) only [bMod_readEnd_8, rn, sm, lg, lt_, cmpP, tk, pr_, pu, swl, cs, Nat.reduceAdd, Nat.reduceLeDiff, Nat.zero_le, Nat.le_refl, true_and, and_true, Int.toNat_natCast, Int.reduceToNat, Int.reduceEq, false_implies, true_implies, Int.reduceNeg, Int.cast_ofNat_Int, mS_0, mS_1, mS_2, mS_3, mS_4, mS_5, mS_u0, mS_u1, mS_u2, mS_u3, mS_u4, mS_u5, g0, g1, g2, g3, g4, g5, l1, l2, l3, l5, p1, p2, p3, p4, p5, sn_0, sn_9, at_0, at_9, fl_sn, fl_at, fl_usn, fl_uat, fl_a, fl_ua, uF, reduceIte, Nat.reduceEqDiff, true_or, or_true, Int.reduceLE, Int.reduceLT, wr_s, wn_1, wn_2, wn_5, wn_6, wn_8, wn_12, wn_14, wn_18, wn_24, wn_30, wn_32, wn_38, wn_44]
    refine c_bad (by omega) hM hT (fun F' e1 e2 e3 => ?_)
    rw [show (if tkK T L p = 1 then 1 else (1 : Int)) = 1 by split <;> rfl] at e2
    refine tG_at hd kMod_readEnd_13 ?_
    simp only [bMod_readEnd_13, rn, sm, lg, lt_, cmpP, tk, pr_, pu, swl, cs, Nat.reduceAdd, Nat.reduceLeDiff, Nat.zero_le, Nat.le_refl, true_and, and_true, Int.toNat_natCast, Int.reduceToNat, Int.reduceEq, false_implies, true_implies, Int.reduceNeg, Int.cast_ofNat_Int]
    exact ⟨Or.inl trivial, hq0 _ _ hR F' e1 e2 e3⟩
end MD
