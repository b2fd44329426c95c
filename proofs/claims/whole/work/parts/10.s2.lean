/-! the reference reads a token -/
def gdF (T : Nat → Int) (s : Nat) : Nat → Bool
  | 0 => true
  | i + 1 => gdF T s i && (decide (isLt (T (s + i))) == decide (isLt (T s)))
def bI (b : Bool) : Int := if b then 1 else 0
theorem gdF_iff {T : Nat → Int} {s : Nat} : ∀ i, gdF T s i = true ↔ ∀ j, j < i → (isLt (T (s + j)) ↔ isLt (T s))
  | 0 => ⟨fun _ j hj => absurd hj (by omega), fun _ => rfl⟩
  | i + 1 => by
    have ih := gdF_iff (T := T) (s := s) i
    unfold gdF
    rw [Bool.and_eq_true, beq_iff_eq, decide_eq_decide]
    constructor
    · intro h j hj
      by_cases e : j = i
      · subst e; exact h.2
      · exact ih.mp h.1 j (by omega)
    · intro h
      exact ⟨ih.mpr (fun j hj => h j (by omega)), h i (by omega)⟩
section MD
variable {w : WP} {d : Nat} {Γ : GM} {V : VH} {Q : QT} {M : Nat} {F T N K S H : Nat → Int}
theorem c_tapeAt (hd : 4 ≤ d) (hM : ML Γ M F) {L p : Nat} (hL : L ≤ 640) (hF : F 3 = (L : Int)) (hq : Q (some (.inl (if p < L then T p else 0))) Γ (mS V M F T N K S H)) : tC w d nMod_tapeAt [.inr (.inl M), .inl (p : Int)] Γ (mS V M F T N K S H) Q := by
  obtain ⟨⟨g0, g1, g2, g3, g4, g5⟩, ⟨l1, l2, l3, -, l5⟩, p1, p2, p3, p4, p5⟩ := id hM
  refine tC_enter (nL := 2) (by decide +kernel) (by decide +kernel) rfl (Nat.le_of_ble_eq_true rfl) (fun hok => ?_)
  simp only [ent]
  refine tG_at hd kMod_tapeAt_0 ?_
  simp (disch := omega) only [bMod_tapeAt_0, rn, sm, lg, lt_, cmpP, tk, pr_, pu, swl, cs, Nat.reduceAdd, Nat.reduceLeDiff, Nat.zero_le, Nat.le_refl, true_and, and_true, Int.toNat_natCast, Int.reduceToNat, Int.reduceEq, false_implies, true_implies, Int.reduceNeg, Int.cast_ofNat_Int, mS_0, mS_1, mS_2, mS_3, mS_4, mS_5, mS_u0, mS_u1, mS_u2, mS_u3, mS_u4, mS_u5, g0, g1, g2, g3, g4, g5, l1, l2, l3, l5, p1, p2, p3, p4, p5, sn_0, sn_9, at_0, at_9, fl_sn, fl_at, fl_usn, fl_uat, fl_a, fl_ua, uF, reduceIte, Nat.reduceEqDiff, true_or, or_true, Int.reduceLE, Int.reduceLT, wr_s, wn_1, wn_2, wn_5, wn_6, wn_8, wn_12, wn_14, wn_18, wn_24, wn_30, wn_32, wn_38, wn_44, hF]
  refine ⟨fun hz => ?_, fun hz => ?_⟩
  · rw [if_neg (by omega)] at hq
    refine tG_at hd kMod_tapeAt_17 ?_
    simp only [bMod_tapeAt_17, rn, sm, lg, lt_, cmpP, tk, pr_, pu, swl, cs, Nat.reduceAdd, Nat.reduceLeDiff, Nat.zero_le, Nat.le_refl, true_and, and_true, Int.toNat_natCast, Int.reduceToNat, Int.reduceEq, false_implies, true_implies, Int.reduceNeg, Int.cast_ofNat_Int]
    refine tG_at hd kMod_tapeAt_18 ?_
    simp only [bMod_tapeAt_18, rn, sm, lg, lt_, cmpP, tk, pr_, pu, swl, cs, Nat.reduceAdd, Nat.reduceLeDiff, Nat.zero_le, Nat.le_refl, true_and, and_true, Int.toNat_natCast, Int.reduceToNat, Int.reduceEq, false_implies, true_implies, Int.reduceNeg, Int.cast_ofNat_Int]
    exact hq
  · rw [if_pos (by omega)] at hq
    have e1 : (0 : Int) ≤ (p : Int) := by omega
    have e2 : (p : Int) < 640 := by omega
    refine tG_at hd kMod_tapeAt_8 ?_
    simp (disch := omega) only [bMod_tapeAt_8, rn, sm, lg, lt_, cmpP, tk, pr_, pu, swl, cs, Nat.reduceAdd, Nat.reduceLeDiff, Nat.zero_le, Nat.le_refl, true_and, and_true, Int.toNat_natCast, Int.reduceToNat, Int.reduceEq, false_implies, true_implies, Int.reduceNeg, Int.cast_ofNat_Int, mS_0, mS_1, mS_2, mS_3, mS_4, mS_5, mS_u0, mS_u1, mS_u2, mS_u3, mS_u4, mS_u5, g0, g1, g2, g3, g4, g5, l1, l2, l3, l5, p1, p2, p3, p4, p5, sn_0, sn_9, at_0, at_9, fl_sn, fl_at, fl_usn, fl_uat, fl_a, fl_ua, uF, reduceIte, Nat.reduceEqDiff, true_or, or_true, Int.reduceLE, Int.reduceLT, wr_s, wn_1, wn_2, wn_5, wn_6, wn_8, wn_12, wn_14, wn_18, wn_24, wn_30, wn_32, wn_38, wn_44, e1, e2]
    refine tG_at hd kMod_tapeAt_18 ?_
    simp only [bMod_tapeAt_18, rn, sm, lg, lt_, cmpP, tk, pr_, pu, swl, cs, Nat.reduceAdd, Nat.reduceLeDiff, Nat.zero_le, Nat.le_refl, true_and, and_true, Int.toNat_natCast, Int.reduceToNat, Int.reduceEq, false_implies, true_implies, Int.reduceNeg, Int.cast_ofNat_Int]
    exact hq
theorem c_go (hd5 : 5 ≤ d) (hM : ML Γ M F) {L p : Nat} {f s m v : Int} (hL : L ≤ 640) (hp : p ≤ L)
    (hq : ∀ t' m' v' : Int, (2 ≤ tkK T L p → t' = tkE T L p) → (tkK T L p = 3 → m' = tkN T L p) → (tkK T L p = 2 → v' = wrd T (tkB T L p) (tkR T L (tkB T L p) - tkB T L p)) → Q none Γ (mS V M (FT F L t' (tkS T L p) (tkK T L p) m' v') T N K S H)) :
    tC w d nMod_go [.inr (.inl M)] Γ (mS V M (FT F L p f s m v) T N K S H) Q := by
  have hd : 4 ≤ d := by omega
  have hMT : ∀ {L t f s m v : Int}, ML Γ M (FT F L t f s m v) := hM.FT
  obtain ⟨⟨g0, g1, g2, g3, g4, g5⟩, ⟨l1, l2, l3, -, l5⟩, p1, p2, p3, p4, p5⟩ := id hM
  refine tC_enter (nL := 5) (by decide +kernel) (by decide +kernel) rfl (Nat.le_of_ble_eq_true rfl) (fun hok => ?_)
  simp only [ent]
  -- behind the blanks
  have at52 : tG w d nMod_go 52 [some (.inr (.inl M)), none, none, none, none] [] Γ (mS V M (FT F L (tkB T L p) f s m v) T N K S H) 0 0 Q := by
    have hb := tkB_b (T := T) hp
    have key : ∀ s0, tkB T L p = s0 → tG w d nMod_go 52 [some (.inr (.inl M)), none, none, none, none] [] Γ (mS V M (FT F L s0 f s m v) T N K S H) 0 0 Q := by
      intro s0 hs0
      rw [hs0] at hb
      have hb2 := tkR_b (T := T) hb.2
      have at93 : ¬ (600 < L ∧ 600 ≤ s0) → tG w d nMod_go 93 [some (.inr (.inl M)), none, none, none, none] [] Γ (mS V M (FT F L s0 s0 s m v) T N K S H) 0 0 Q := by
        intro h600
        have hS : tkS T L p = s0 := by unfold tkS; rw [hs0, if_neg h600]
        refine tG_at hd kMod_go_93 ?_
        simp (disch := omega) only [bMod_go_93, rn, sm, lg, lt_, cmpP, tk, pr_, pu, swl, cs, Nat.reduceAdd, Nat.reduceLeDiff, Nat.zero_le, Nat.le_refl, true_and, and_true, Int.toNat_natCast, Int.reduceToNat, Int.reduceEq, false_implies, true_implies, Int.reduceNeg, Int.cast_ofNat_Int, mS_0, mS_1, mS_2, mS_3, mS_4, mS_5, mS_u0, mS_u1, mS_u2, mS_u3, mS_u4, mS_u5, g0, g1, g2, g3, g4, g5, l1, l2, l3, l5, p1, p2, p3, p4, p5, sn_0, sn_9, at_0, at_9, fl_sn, fl_at, fl_usn, fl_uat, fl_a, fl_ua, reduceIte, Nat.reduceEqDiff, true_or, or_true, Int.reduceLE, Int.reduceLT, wr_s, wn_1, wn_2, wn_5, wn_6, wn_8, wn_12, wn_14, wn_18, wn_24, wn_30, wn_32, wn_38, wn_44, FT_3, FT_4, FT_5, FT_6, FT_7, FT_10, FT_ne, FT_u4, FT_u5, FT_u6, FT_u7, FT_u10, FT_u, uF_at, uF_ne, not_true_eq_false, not_false_eq_true, implies_true]
        refine ⟨fun hlt => ?_, fun hge => ?_⟩
        · have e1 : (0 : Int) ≤ (s0 : Int) := by omega
          have e2 : (s0 : Int) < 640 := by omega
          have run : (isLt (T s0) ∨ isDg (T s0)) → tG w d nMod_go 160 [some (.inr (.inl M)), some (.inl (T s0)), none, none, none] [] Γ (mS V M (FT F L s0 s0 s m v) T N K S H) 0 0 Q := by
            intro hc
            have hE : tkE T L p = tkR T L s0 := by unfold tkE; rw [hs0, if_pos hc]
            have hKK : tkK T L p = if alL T s0 (tkR T L s0 - s0) then 2 else if alD T s0 (tkR T L s0 - s0) ∧ tkR T L s0 - s0 ≤ 2 then 3 else 1 := by
              unfold tkK
              rw [hs0, if_neg h600, if_neg (by omega), if_pos hc]
            have hlen : s0 + 1 ≤ tkR T L s0 := by
              unfold tkR
              obtain ⟨r, hr⟩ : ∃ r, L - s0 = r + 1 := ⟨L - s0 - 1, by omega⟩
              rw [hr]
              unfold ru0
              rw [if_pos hc]
              exact (ru0_b r (s0 + 1)).1
            have hin := fun j => ru0_in (T := T) (L - s0) s0 j
            have fin : ∀ (i4 : Option TV), tG w d nMod_go 312 [some (.inr (.inl M)), some (.inl (T s0)), some (.inl (bi (isLt (T s0)))), some (.inl (bI (gdF T s0 (tkR T L s0 - s0)))), i4] [] Γ (mS V M (FT F L (tkR T L s0) s0 s (nmb T s0 (tkR T L s0 - s0)) (wrd T s0 (tkR T L s0 - s0))) T N K S H) 0 0 Q := by
              intro i4
              have fin2 : ∀ x : Int, x = tkK T L p → tG w d nMod_go 347 [some (.inr (.inl M)), some (.inl (T s0)), some (.inl (bi (isLt (T s0)))), some (.inl (bI (gdF T s0 (tkR T L s0 - s0)))), i4] [.inl x, .inr (.inl M)] Γ (mS V M (FT F L (tkR T L s0) s0 s (nmb T s0 (tkR T L s0 - s0)) (wrd T s0 (tkR T L s0 - s0))) T N K S H) 0 0 Q := by
                intro x hx
                refine tG_at hd kMod_go_347 ?_
                simp (disch := omega) only [bMod_go_347, rn, sm, lg, lt_, cmpP, tk, pr_, pu, swl, cs, Nat.reduceAdd, Nat.reduceLeDiff, Nat.zero_le, Nat.le_refl, true_and, and_true, Int.toNat_natCast, Int.reduceToNat, Int.reduceEq, false_implies, true_implies, Int.reduceNeg, Int.cast_ofNat_Int, mS_0, mS_1, mS_2, mS_3, mS_4, mS_5, mS_u0, mS_u1, mS_u2, mS_u3, mS_u4, mS_u5, g0, g1, g2, g3, g4, g5, l1, l2, l3, l5, p1, p2, p3, p4, p5, sn_0, sn_9, at_0, at_9, fl_sn, fl_at, fl_usn, fl_uat, fl_a, fl_ua, reduceIte, Nat.reduceEqDiff, true_or, or_true, Int.reduceLE, Int.reduceLT, wr_s, wn_1, wn_2, wn_5, wn_6, wn_8, wn_12, wn_14, wn_18, wn_24, wn_30, wn_32, wn_38, wn_44, FT_3, FT_4, FT_5, FT_6, FT_7, FT_10, FT_ne, FT_u4, FT_u5, FT_u6, FT_u7, FT_u10, FT_u, uF_at, uF_ne, not_true_eq_false, not_false_eq_true, implies_true]
                have := hq (tkR T L s0) (nmb T s0 (tkR T L s0 - s0)) (wrd T s0 (tkR T L s0 - s0)) (fun _ => by rw [hE]) (fun _ => by unfold tkN; rw [hs0]) (fun _ => by rw [hs0])
                rw [hS, ← hx] at this
                exact this
              have at334 : tkK T L p = 1 → tG w d nMod_go 334 [some (.inr (.inl M)), some (.inl (T s0)), some (.inl (bi (isLt (T s0)))), some (.inl (bI (gdF T s0 (tkR T L s0 - s0)))), i4] [.inr (.inl M)] Γ (mS V M (FT F L (tkR T L s0) s0 s (nmb T s0 (tkR T L s0 - s0)) (wrd T s0 (tkR T L s0 - s0))) T N K S H) 0 0 Q := by
                intro h1
                refine tG_at hd kMod_go_334 ?_
                simp only [bMod_go_334, rn, sm, lg, lt_, cmpP, tk, pr_, pu, swl, cs, Nat.reduceAdd, Nat.reduceLeDiff, Nat.zero_le, Nat.le_refl, true_and, and_true, Int.toNat_natCast, Int.reduceToNat, Int.reduceEq, false_implies, true_implies, Int.reduceNeg, Int.cast_ofNat_Int]
                exact fin2 1 (by rw [h1]; rfl)
              refine tG_at hd kMod_go_312 ?_
              simp only [bMod_go_312, rn, sm, lg, lt_, cmpP, tk, pr_, pu, swl, cs, Nat.reduceAdd, Nat.reduceLeDiff, Nat.zero_le, Nat.le_refl, true_and, and_true, Int.toNat_natCast, Int.reduceToNat, Int.reduceEq, false_implies, true_implies, Int.reduceNeg, Int.cast_ofNat_Int]
              by_cases hg : gdF T s0 (tkR T L s0 - s0) = true
              · have hgi := (gdF_iff (T := T) (s := s0) (tkR T L s0 - s0)).mp hg
                refine ⟨fun h => absurd h (by rw [hg]; decide), fun _ => ?_⟩
                refine tG_at hd kMod_go_317 ?_
                simp only [bMod_go_317, rn, sm, lg, lt_, cmpP, tk, pr_, pu, swl, cs, Nat.reduceAdd, Nat.reduceLeDiff, Nat.zero_le, Nat.le_refl, true_and, and_true, Int.toNat_natCast, Int.reduceToNat, Int.reduceEq, false_implies, true_implies, Int.reduceNeg, Int.cast_ofNat_Int]
                by_cases hl : isLt (T s0)
                · have hal : alL T s0 (tkR T L s0 - s0) = true := (alL_iff _).mpr (fun j hj => (hgi j hj).mpr hl)
                  refine ⟨fun _ => ?_, fun h => absurd (by rw [bi_1 hl]; decide) h⟩
                  refine tG_at hd kMod_go_338 ?_
                  simp only [bMod_go_338, rn, sm, lg, lt_, cmpP, tk, pr_, pu, swl, cs, Nat.reduceAdd, Nat.reduceLeDiff, Nat.zero_le, Nat.le_refl, true_and, and_true, Int.toNat_natCast, Int.reduceToNat, Int.reduceEq, false_implies, true_implies, Int.reduceNeg, Int.cast_ofNat_Int]
                  refine ⟨fun h => absurd h (by rw [bi_1 hl]; decide), fun _ => ?_⟩
                  refine tG_at hd kMod_go_342 ?_
                  simp only [bMod_go_342, rn, sm, lg, lt_, cmpP, tk, pr_, pu, swl, cs, Nat.reduceAdd, Nat.reduceLeDiff, Nat.zero_le, Nat.le_refl, true_and, and_true, Int.toNat_natCast, Int.reduceToNat, Int.reduceEq, false_implies, true_implies, Int.reduceNeg, Int.cast_ofNat_Int]
                  exact fin2 2 (by rw [hKK, if_pos hal]; rfl)
                · have hdg : isDg (T s0) := hc.resolve_left hl
                  have hal : ¬ alL T s0 (tkR T L s0 - s0) = true := fun h => hl ((alL_iff _).mp h 0 (by omega))
                  have had : alD T s0 (tkR T L s0 - s0) = true := (alD_iff _).mpr (fun j hj => (hin (s0 + j) (by omega) (by show s0 + j < tkR T L s0; omega)).resolve_left (fun h => hl ((hgi j hj).mp h)))
                  refine ⟨fun h => absurd (bi_0 hl) h, fun _ => ?_⟩
                  refine tG_at hd kMod_go_321 ?_
                  simp (disch := omega) only [bMod_go_321, rn, sm, lg, lt_, cmpP, tk, pr_, pu, swl, cs, Nat.reduceAdd, Nat.reduceLeDiff, Nat.zero_le, Nat.le_refl, true_and, and_true, Int.toNat_natCast, Int.reduceToNat, Int.reduceEq, false_implies, true_implies, Int.reduceNeg, Int.cast_ofNat_Int, mS_0, mS_1, mS_2, mS_3, mS_4, mS_5, mS_u0, mS_u1, mS_u2, mS_u3, mS_u4, mS_u5, g0, g1, g2, g3, g4, g5, l1, l2, l3, l5, p1, p2, p3, p4, p5, sn_0, sn_9, at_0, at_9, fl_sn, fl_at, fl_usn, fl_uat, fl_a, fl_ua, reduceIte, Nat.reduceEqDiff, true_or, or_true, Int.reduceLE, Int.reduceLT, wr_s, wn_1, wn_2, wn_5, wn_6, wn_8, wn_12, wn_14, wn_18, wn_24, wn_30, wn_32, wn_38, wn_44, FT_3, FT_4, FT_5, FT_6, FT_7, FT_10, FT_ne, FT_u4, FT_u5, FT_u6, FT_u7, FT_u10, FT_u, uF_at, uF_ne, not_true_eq_false, not_false_eq_true, implies_true]
                  rw [wr_id (by omega) (by omega)]
                  refine ⟨fun hle => ?_, fun hgt => at334 (by rw [hKK, if_neg hal, if_neg (by omega)])⟩
                  refine tG_at hd kMod_go_338 ?_
                  simp only [bMod_go_338, rn, sm, lg, lt_, cmpP, tk, pr_, pu, swl, cs, Nat.reduceAdd, Nat.reduceLeDiff, Nat.zero_le, Nat.le_refl, true_and, and_true, Int.toNat_natCast, Int.reduceToNat, Int.reduceEq, false_implies, true_implies, Int.reduceNeg, Int.cast_ofNat_Int]
                  refine ⟨fun _ => ?_, fun h => absurd (bi_0 hl) h⟩
                  refine tG_at hd kMod_go_346 ?_
                  simp only [bMod_go_346, rn, sm, lg, lt_, cmpP, tk, pr_, pu, swl, cs, Nat.reduceAdd, Nat.reduceLeDiff, Nat.zero_le, Nat.le_refl, true_and, and_true, Int.toNat_natCast, Int.reduceToNat, Int.reduceEq, false_implies, true_implies, Int.reduceNeg, Int.cast_ofNat_Int]
                  exact fin2 3 (by rw [hKK, if_neg hal, if_pos ⟨had, by omega⟩]; rfl)
              · have hg0 : gdF T s0 (tkR T L s0 - s0) = false := by simpa using hg
                refine ⟨fun _ => ?_, fun h => absurd (by rw [hg0]; decide) h⟩
                refine at334 ?_
                rw [hKK]
                have nl : ¬ alL T s0 (tkR T L s0 - s0) = true := by
                  intro h
                  have h' := (alL_iff _).mp h
                  exact hg ((gdF_iff _).mpr (fun j hj => ⟨fun _ => h' 0 (by omega), fun _ => h' j hj⟩))
                have nd : ¬ alD T s0 (tkR T L s0 - s0) = true := by
                  intro h
                  have h' := (alD_iff _).mp h
                  have h0 := h' 0 (by omega)
                  simp only [isDg, Nat.add_zero] at h0
                  refine hg ((gdF_iff _).mpr (fun j hj => ?_))
                  have hj' := h' j hj
                  simp only [isDg, isLt] at hj' ⊢
                  omega
                rw [if_neg nl, if_neg (fun h => nd h.1)]
            -- the run
            have loop : ∀ (r j : Nat) (i4 : Option TV), s0 ≤ j → j + r = L → tkR T L s0 = ru0 T r j → tG w d nMod_go 177 [some (.inr (.inl M)), some (.inl (T s0)), some (.inl (bi (isLt (T s0)))), some (.inl (bI (gdF T s0 (j - s0)))), i4] [] Γ (mS V M (FT F L j s0 s (nmb T s0 (j - s0)) (wrd T s0 (j - s0))) T N K S H) 0 0 Q := by
              intro r
              induction r with
              | zero =>
                intro j i4 hj1 hj2 hj3
                have e : tkR T L s0 = j := hj3
                have fin := fin i4
                rw [e] at fin
                refine tG_at hd kMod_go_177 ?_
                simp (disch := omega) only [bMod_go_177, rn, sm, lg, lt_, cmpP, tk, pr_, pu, swl, cs, Nat.reduceAdd, Nat.reduceLeDiff, Nat.zero_le, Nat.le_refl, true_and, and_true, Int.toNat_natCast, Int.reduceToNat, Int.reduceEq, false_implies, true_implies, Int.reduceNeg, Int.cast_ofNat_Int, mS_0, mS_1, mS_2, mS_3, mS_4, mS_5, mS_u0, mS_u1, mS_u2, mS_u3, mS_u4, mS_u5, g0, g1, g2, g3, g4, g5, l1, l2, l3, l5, p1, p2, p3, p4, p5, sn_0, sn_9, at_0, at_9, fl_sn, fl_at, fl_usn, fl_uat, fl_a, fl_ua, reduceIte, Nat.reduceEqDiff, true_or, or_true, Int.reduceLE, Int.reduceLT, wr_s, wn_1, wn_2, wn_5, wn_6, wn_8, wn_12, wn_14, wn_18, wn_24, wn_30, wn_32, wn_38, wn_44, FT_3, FT_4, FT_5, FT_6, FT_7, FT_10, FT_ne, FT_u4, FT_u5, FT_u6, FT_u7, FT_u10, FT_u, uF_at, uF_ne, not_true_eq_false, not_false_eq_true, implies_true]
                refine c_tapeAt (by omega) hMT (L := L) hL FT_3 ?_
                rw [if_neg (by omega)]
                refine tG_at hd kMod_go_185 ?_
                simp only [bMod_go_185, rn, sm, lg, lt_, cmpP, tk, pr_, pu, swl, cs, Nat.reduceAdd, Nat.reduceLeDiff, Nat.zero_le, Nat.le_refl, true_and, and_true, Int.toNat_natCast, Int.reduceToNat, Int.reduceEq, false_implies, true_implies, Int.reduceNeg, Int.cast_ofNat_Int]
                rw [bi_0 (show ¬ (97 ≤ (0 : Int) ∧ (0 : Int) ≤ 122) by omega)]
                refine ⟨fun h => absurd rfl h, fun _ => ?_⟩
                refine tG_at hd kMod_go_191 ?_
                simp (disch := omega) only [bMod_go_191, rn, sm, lg, lt_, cmpP, tk, pr_, pu, swl, cs, Nat.reduceAdd, Nat.reduceLeDiff, Nat.zero_le, Nat.le_refl, true_and, and_true, Int.toNat_natCast, Int.reduceToNat, Int.reduceEq, false_implies, true_implies, Int.reduceNeg, Int.cast_ofNat_Int, mS_0, mS_1, mS_2, mS_3, mS_4, mS_5, mS_u0, mS_u1, mS_u2, mS_u3, mS_u4, mS_u5, g0, g1, g2, g3, g4, g5, l1, l2, l3, l5, p1, p2, p3, p4, p5, sn_0, sn_9, at_0, at_9, fl_sn, fl_at, fl_usn, fl_uat, fl_a, fl_ua, reduceIte, Nat.reduceEqDiff, true_or, or_true, Int.reduceLE, Int.reduceLT, wr_s, wn_1, wn_2, wn_5, wn_6, wn_8, wn_12, wn_14, wn_18, wn_24, wn_30, wn_32, wn_38, wn_44, FT_3, FT_4, FT_5, FT_6, FT_7, FT_10, FT_ne, FT_u4, FT_u5, FT_u6, FT_u7, FT_u10, FT_u, uF_at, uF_ne, not_true_eq_false, not_false_eq_true, implies_true]
                refine c_tapeAt (by omega) hMT (L := L) hL FT_3 ?_
                rw [if_neg (by omega)]
                refine tG_at hd kMod_go_199 ?_
                simp only [bMod_go_199, rn, sm, lg, lt_, cmpP, tk, pr_, pu, swl, cs, Nat.reduceAdd, Nat.reduceLeDiff, Nat.zero_le, Nat.le_refl, true_and, and_true, Int.toNat_natCast, Int.reduceToNat, Int.reduceEq, false_implies, true_implies, Int.reduceNeg, Int.cast_ofNat_Int]
                rw [bi_0 (show ¬ (48 ≤ (0 : Int) ∧ (0 : Int) ≤ 57) by omega)]
                exact ⟨fun _ => fin, fun h => absurd rfl h⟩
              | succ r ih =>
                intro j i4 hj1 hj2 hj3
                unfold ru0 at hj3
                by_cases hcj : isLt (T j) ∨ isDg (T j)
                · rw [if_pos hcj] at hj3
                  have f1 : (0 : Int) ≤ (j : Int) := by omega
                  have f2 : (j : Int) < 640 := by omega
                  have ej : s0 + (j - s0) = j := by omega
                  have at299 : ∀ nn ww : Int, nn = nmb T s0 (j - s0 + 1) → ww = wrd T s0 (j - s0 + 1) → tG w d nMod_go 299 [some (.inr (.inl M)), some (.inl (T s0)), some (.inl (bi (isLt (T s0)))), some (.inl (bI (gdF T s0 (j - s0 + 1)))), some (.inl (T j))] [] Γ (mS V M (FT F L j s0 s nn ww) T N K S H) 0 0 Q := by
                    intro nn ww h1 h2
                    subst h1 h2
                    refine tG_at hd kMod_go_299 ?_
                    simp (disch := omega) only [bMod_go_299, rn, sm, lg, lt_, cmpP, tk, pr_, pu, swl, cs, Nat.reduceAdd, Nat.reduceLeDiff, Nat.zero_le, Nat.le_refl, true_and, and_true, Int.toNat_natCast, Int.reduceToNat, Int.reduceEq, false_implies, true_implies, Int.reduceNeg, Int.cast_ofNat_Int, mS_0, mS_1, mS_2, mS_3, mS_4, mS_5, mS_u0, mS_u1, mS_u2, mS_u3, mS_u4, mS_u5, g0, g1, g2, g3, g4, g5, l1, l2, l3, l5, p1, p2, p3, p4, p5, sn_0, sn_9, at_0, at_9, fl_sn, fl_at, fl_usn, fl_uat, fl_a, fl_ua, reduceIte, Nat.reduceEqDiff, true_or, or_true, Int.reduceLE, Int.reduceLT, wr_s, wn_1, wn_2, wn_5, wn_6, wn_8, wn_12, wn_14, wn_18, wn_24, wn_30, wn_32, wn_38, wn_44, FT_3, FT_4, FT_5, FT_6, FT_7, FT_10, FT_ne, FT_u4, FT_u5, FT_u6, FT_u7, FT_u10, FT_u, uF_at, uF_ne, not_true_eq_false, not_false_eq_true, implies_true]
                    have := ih (j + 1) (some (.inl (T j))) (by omega) (by omega) hj3
                    rw [show j + 1 - s0 = j - s0 + 1 by omega] at this
                    exact this
                  have at269 : ∀ ww : Int, ww = wrd T s0 (j - s0 + 1) → tG w d nMod_go 269 [some (.inr (.inl M)), some (.inl (T s0)), some (.inl (bi (isLt (T s0)))), some (.inl (bI (gdF T s0 (j - s0 + 1)))), some (.inl (T j))] [] Γ (mS V M (FT F L j s0 s (nmb T s0 (j - s0)) ww) T N K S H) 0 0 Q := by
                    intro ww h2
                    refine tG_at hd kMod_go_269 ?_
                    simp (disch := omega) only [bMod_go_269, rn, sm, lg, lt_, cmpP, tk, pr_, pu, swl, cs, Nat.reduceAdd, Nat.reduceLeDiff, Nat.zero_le, Nat.le_refl, true_and, and_true, Int.toNat_natCast, Int.reduceToNat, Int.reduceEq, false_implies, true_implies, Int.reduceNeg, Int.cast_ofNat_Int, mS_0, mS_1, mS_2, mS_3, mS_4, mS_5, mS_u0, mS_u1, mS_u2, mS_u3, mS_u4, mS_u5, g0, g1, g2, g3, g4, g5, l1, l2, l3, l5, p1, p2, p3, p4, p5, sn_0, sn_9, at_0, at_9, fl_sn, fl_at, fl_usn, fl_uat, fl_a, fl_ua, reduceIte, Nat.reduceEqDiff, true_or, or_true, Int.reduceLE, Int.reduceLT, wr_s, wn_1, wn_2, wn_5, wn_6, wn_8, wn_12, wn_14, wn_18, wn_24, wn_30, wn_32, wn_38, wn_44, FT_3, FT_4, FT_5, FT_6, FT_7, FT_10, FT_ne, FT_u4, FT_u5, FT_u6, FT_u7, FT_u10, FT_u, uF_at, uF_ne, not_true_eq_false, not_false_eq_true, implies_true]
                    rw [wr_id (by omega) (by omega)]
                    refine ⟨fun hz => at299 _ _ (by unfold nmb; rw [if_neg (by omega)]; cases j - s0 <;> rfl) h2, fun hz => ?_⟩
                    refine tG_at hd kMod_go_282 ?_
                    simp (disch := omega) only [bMod_go_282, rn, sm, lg, lt_, cmpP, tk, pr_, pu, swl, cs, Nat.reduceAdd, Nat.reduceLeDiff, Nat.zero_le, Nat.le_refl, true_and, and_true, Int.toNat_natCast, Int.reduceToNat, Int.reduceEq, false_implies, true_implies, Int.reduceNeg, Int.cast_ofNat_Int, mS_0, mS_1, mS_2, mS_3, mS_4, mS_5, mS_u0, mS_u1, mS_u2, mS_u3, mS_u4, mS_u5, g0, g1, g2, g3, g4, g5, l1, l2, l3, l5, p1, p2, p3, p4, p5, sn_0, sn_9, at_0, at_9, fl_sn, fl_at, fl_usn, fl_uat, fl_a, fl_ua, reduceIte, Nat.reduceEqDiff, true_or, or_true, Int.reduceLE, Int.reduceLT, wr_s, wn_1, wn_2, wn_5, wn_6, wn_8, wn_12, wn_14, wn_18, wn_24, wn_30, wn_32, wn_38, wn_44, FT_3, FT_4, FT_5, FT_6, FT_7, FT_10, FT_ne, FT_u4, FT_u5, FT_u6, FT_u7, FT_u10, FT_u, uF_at, uF_ne, not_true_eq_false, not_false_eq_true, implies_true]
                    exact at299 _ _ (by conv => rhs; unfold nmb
                                        rw [if_pos (by omega), ej]) h2
                  have at234 : ∀ gg : Int, gg = bI (gdF T s0 (j - s0 + 1)) → tG w d nMod_go 234 [some (.inr (.inl M)), some (.inl (T s0)), some (.inl (bi (isLt (T s0)))), some (.inl (bI (gdF T s0 (j - s0)))), some (.inl (T j))] [.inl gg] Γ (mS V M (FT F L j s0 s (nmb T s0 (j - s0)) (wrd T s0 (j - s0))) T N K S H) 0 0 Q := by
                    intro gg h1
                    refine tG_at hd kMod_go_234 ?_
                    simp (disch := omega) only [bMod_go_234, rn, sm, lg, lt_, cmpP, tk, pr_, pu, swl, cs, Nat.reduceAdd, Nat.reduceLeDiff, Nat.zero_le, Nat.le_refl, true_and, and_true, Int.toNat_natCast, Int.reduceToNat, Int.reduceEq, false_implies, true_implies, Int.reduceNeg, Int.cast_ofNat_Int, mS_0, mS_1, mS_2, mS_3, mS_4, mS_5, mS_u0, mS_u1, mS_u2, mS_u3, mS_u4, mS_u5, g0, g1, g2, g3, g4, g5, l1, l2, l3, l5, p1, p2, p3, p4, p5, sn_0, sn_9, at_0, at_9, fl_sn, fl_at, fl_usn, fl_uat, fl_a, fl_ua, reduceIte, Nat.reduceEqDiff, true_or, or_true, Int.reduceLE, Int.reduceLT, wr_s, wn_1, wn_2, wn_5, wn_6, wn_8, wn_12, wn_14, wn_18, wn_24, wn_30, wn_32, wn_38, wn_44, FT_3, FT_4, FT_5, FT_6, FT_7, FT_10, FT_ne, FT_u4, FT_u5, FT_u6, FT_u7, FT_u10, FT_u, uF_at, uF_ne, not_true_eq_false, not_false_eq_true, implies_true]
                    rw [wr_id (by omega) (by omega), h1]
                    refine ⟨fun hz => at269 _ (by unfold wrd; rw [if_neg (by omega)]; cases j - s0 <;> rfl), fun hz => ?_⟩
                    refine tG_at hd kMod_go_249 ?_
                    simp (disch := omega) only [bMod_go_249, rn, sm, lg, lt_, cmpP, tk, pr_, pu, swl, cs, Nat.reduceAdd, Nat.reduceLeDiff, Nat.zero_le, Nat.le_refl, true_and, and_true, Int.toNat_natCast, Int.reduceToNat, Int.reduceEq, false_implies, true_implies, Int.reduceNeg, Int.cast_ofNat_Int, mS_0, mS_1, mS_2, mS_3, mS_4, mS_5, mS_u0, mS_u1, mS_u2, mS_u3, mS_u4, mS_u5, g0, g1, g2, g3, g4, g5, l1, l2, l3, l5, p1, p2, p3, p4, p5, sn_0, sn_9, at_0, at_9, fl_sn, fl_at, fl_usn, fl_uat, fl_a, fl_ua, reduceIte, Nat.reduceEqDiff, true_or, or_true, Int.reduceLE, Int.reduceLT, wr_s, wn_1, wn_2, wn_5, wn_6, wn_8, wn_12, wn_14, wn_18, wn_24, wn_30, wn_32, wn_38, wn_44, FT_3, FT_4, FT_5, FT_6, FT_7, FT_10, FT_ne, FT_u4, FT_u5, FT_u6, FT_u7, FT_u10, FT_u, uF_at, uF_ne, not_true_eq_false, not_false_eq_true, implies_true]
                    exact at269 _ (by conv => rhs; unfold wrd
                                      rw [if_pos (by omega), ej])
                  have at205 : tG w d nMod_go 205 [some (.inr (.inl M)), some (.inl (T s0)), some (.inl (bi (isLt (T s0)))), some (.inl (bI (gdF T s0 (j - s0)))), i4] [] Γ (mS V M (FT F L j s0 s (nmb T s0 (j - s0)) (wrd T s0 (j - s0))) T N K S H) 0 0 Q := by
                    have at233 : gdF T s0 (j - s0 + 1) = false → tG w d nMod_go 233 [some (.inr (.inl M)), some (.inl (T s0)), some (.inl (bi (isLt (T s0)))), some (.inl (bI (gdF T s0 (j - s0)))), some (.inl (T j))] [] Γ (mS V M (FT F L j s0 s (nmb T s0 (j - s0)) (wrd T s0 (j - s0))) T N K S H) 0 0 Q := by
                      intro h1
                      refine tG_at hd kMod_go_233 ?_
                      simp only [bMod_go_233, rn, sm, lg, lt_, cmpP, tk, pr_, pu, swl, cs, Nat.reduceAdd, Nat.reduceLeDiff, Nat.zero_le, Nat.le_refl, true_and, and_true, Int.toNat_natCast, Int.reduceToNat, Int.reduceEq, false_implies, true_implies, Int.reduceNeg, Int.cast_ofNat_Int]
                      exact at234 0 (by rw [h1]; rfl)
                    have hgs : gdF T s0 (j - s0 + 1) = (gdF T s0 (j - s0) && (decide (isLt (T j)) == decide (isLt (T s0)))) := by
                      conv => lhs; unfold gdF
                      rw [ej]
                    refine tG_at hd kMod_go_205 ?_
                    simp (disch := omega) only [bMod_go_205, rn, sm, lg, lt_, cmpP, tk, pr_, pu, swl, cs, Nat.reduceAdd, Nat.reduceLeDiff, Nat.zero_le, Nat.le_refl, true_and, and_true, Int.toNat_natCast, Int.reduceToNat, Int.reduceEq, false_implies, true_implies, Int.reduceNeg, Int.cast_ofNat_Int, mS_0, mS_1, mS_2, mS_3, mS_4, mS_5, mS_u0, mS_u1, mS_u2, mS_u3, mS_u4, mS_u5, g0, g1, g2, g3, g4, g5, l1, l2, l3, l5, p1, p2, p3, p4, p5, sn_0, sn_9, at_0, at_9, fl_sn, fl_at, fl_usn, fl_uat, fl_a, fl_ua, reduceIte, Nat.reduceEqDiff, true_or, or_true, Int.reduceLE, Int.reduceLT, wr_s, wn_1, wn_2, wn_5, wn_6, wn_8, wn_12, wn_14, wn_18, wn_24, wn_30, wn_32, wn_38, wn_44, FT_3, FT_4, FT_5, FT_6, FT_7, FT_10, FT_ne, FT_u4, FT_u5, FT_u6, FT_u7, FT_u10, FT_u, uF_at, uF_ne, not_true_eq_false, not_false_eq_true, implies_true, f1, f2]
                    by_cases hg : gdF T s0 (j - s0) = true
                    · refine ⟨fun h => absurd h (by rw [hg]; decide), fun _ => ?_⟩
                      refine tG_at hd kMod_go_220 ?_
                      simp only [bMod_go_220, rn, sm, lg, lt_, cmpP, tk, pr_, pu, swl, cs, Nat.reduceAdd, Nat.reduceLeDiff, Nat.zero_le, Nat.le_refl, true_and, and_true, Int.toNat_natCast, Int.reduceToNat, Int.reduceEq, false_implies, true_implies, Int.reduceNeg, Int.cast_ofNat_Int]
                      by_cases hlj : isLt (T j) <;> by_cases hls : isLt (T s0)
                      · rw [bi_1 hlj, bi_1 hls]
                        refine ⟨fun h => absurd rfl h, fun _ => ?_⟩
                        refine tG_at hd kMod_go_229 ?_
                        simp only [bMod_go_229, rn, sm, lg, lt_, cmpP, tk, pr_, pu, swl, cs, Nat.reduceAdd, Nat.reduceLeDiff, Nat.zero_le, Nat.le_refl, true_and, and_true, Int.toNat_natCast, Int.reduceToNat, Int.reduceEq, false_implies, true_implies, Int.reduceNeg, Int.cast_ofNat_Int]
                        have := at234 1 (by rw [hgs, hg, decide_eq_true hlj, decide_eq_true hls]; rfl)
                        rw [bi_1 hls] at this
                        exact this
                      · rw [bi_1 hlj, bi_0 hls]
                        have := at233 (by rw [hgs, hg, decide_eq_true hlj, decide_eq_false hls]; rfl)
                        rw [bi_0 hls] at this
                        exact ⟨fun _ => this, fun h => absurd (by decide) h⟩
                      · rw [bi_0 hlj, bi_1 hls]
                        have := at233 (by rw [hgs, hg, decide_eq_false hlj, decide_eq_true hls]; rfl)
                        rw [bi_1 hls] at this
                        exact ⟨fun _ => this, fun h => absurd (by decide) h⟩
                      · rw [bi_0 hlj, bi_0 hls]
                        refine ⟨fun h => absurd rfl h, fun _ => ?_⟩
                        refine tG_at hd kMod_go_229 ?_
                        simp only [bMod_go_229, rn, sm, lg, lt_, cmpP, tk, pr_, pu, swl, cs, Nat.reduceAdd, Nat.reduceLeDiff, Nat.zero_le, Nat.le_refl, true_and, and_true, Int.toNat_natCast, Int.reduceToNat, Int.reduceEq, false_implies, true_implies, Int.reduceNeg, Int.cast_ofNat_Int]
                        have := at234 1 (by rw [hgs, hg, decide_eq_false hlj, decide_eq_false hls]; rfl)
                        rw [bi_0 hls] at this
                        exact this
                    · have hg0 : gdF T s0 (j - s0) = false := by simpa using hg
                      exact ⟨fun _ => at233 (by rw [hgs, hg0]; rfl), fun h => absurd (by rw [hg0]; decide) h⟩
                  refine tG_at hd kMod_go_177 ?_
                  simp (disch := omega) only [bMod_go_177, rn, sm, lg, lt_, cmpP, tk, pr_, pu, swl, cs, Nat.reduceAdd, Nat.reduceLeDiff, Nat.zero_le, Nat.le_refl, true_and, and_true, Int.toNat_natCast, Int.reduceToNat, Int.reduceEq, false_implies, true_implies, Int.reduceNeg, Int.cast_ofNat_Int, mS_0, mS_1, mS_2, mS_3, mS_4, mS_5, mS_u0, mS_u1, mS_u2, mS_u3, mS_u4, mS_u5, g0, g1, g2, g3, g4, g5, l1, l2, l3, l5, p1, p2, p3, p4, p5, sn_0, sn_9, at_0, at_9, fl_sn, fl_at, fl_usn, fl_uat, fl_a, fl_ua, reduceIte, Nat.reduceEqDiff, true_or, or_true, Int.reduceLE, Int.reduceLT, wr_s, wn_1, wn_2, wn_5, wn_6, wn_8, wn_12, wn_14, wn_18, wn_24, wn_30, wn_32, wn_38, wn_44, FT_3, FT_4, FT_5, FT_6, FT_7, FT_10, FT_ne, FT_u4, FT_u5, FT_u6, FT_u7, FT_u10, FT_u, uF_at, uF_ne, not_true_eq_false, not_false_eq_true, implies_true]
                  refine c_tapeAt (by omega) hMT (L := L) hL FT_3 ?_
                  rw [if_pos (by omega)]
                  refine tG_at hd kMod_go_185 ?_
                  simp (disch := omega) only [bMod_go_185, rn, sm, lg, lt_, cmpP, tk, pr_, pu, swl, cs, Nat.reduceAdd, Nat.reduceLeDiff, Nat.zero_le, Nat.le_refl, true_and, and_true, Int.toNat_natCast, Int.reduceToNat, Int.reduceEq, false_implies, true_implies, Int.reduceNeg, Int.cast_ofNat_Int, reduceIte, Int.reduceLT, Int.reduceLE, true_or, or_true, not_true_eq_false, not_false_eq_true, implies_true]
                  by_cases hlj : isLt (T j)
                  · rw [bi_1 hlj]
                    exact ⟨fun _ => at205, fun h => absurd (by decide) h⟩
                  · rw [bi_0 hlj]
                    refine ⟨fun h => absurd rfl h, fun _ => ?_⟩
                    refine tG_at hd kMod_go_191 ?_
                    simp (disch := omega) only [bMod_go_191, rn, sm, lg, lt_, cmpP, tk, pr_, pu, swl, cs, Nat.reduceAdd, Nat.reduceLeDiff, Nat.zero_le, Nat.le_refl, true_and, and_true, Int.toNat_natCast, Int.reduceToNat, Int.reduceEq, false_implies, true_implies, Int.reduceNeg, Int.cast_ofNat_Int, mS_0, mS_1, mS_2, mS_3, mS_4, mS_5, mS_u0, mS_u1, mS_u2, mS_u3, mS_u4, mS_u5, g0, g1, g2, g3, g4, g5, l1, l2, l3, l5, p1, p2, p3, p4, p5, sn_0, sn_9, at_0, at_9, fl_sn, fl_at, fl_usn, fl_uat, fl_a, fl_ua, reduceIte, Nat.reduceEqDiff, true_or, or_true, Int.reduceLE, Int.reduceLT, wr_s, wn_1, wn_2, wn_5, wn_6, wn_8, wn_12, wn_14, wn_18, wn_24, wn_30, wn_32, wn_38, wn_44, FT_3, FT_4, FT_5, FT_6, FT_7, FT_10, FT_ne, FT_u4, FT_u5, FT_u6, FT_u7, FT_u10, FT_u, uF_at, uF_ne, not_true_eq_false, not_false_eq_true, implies_true]
                    refine c_tapeAt (by omega) hMT (L := L) hL FT_3 ?_
                    rw [if_pos (by omega)]
                    refine tG_at hd kMod_go_199 ?_
                    simp (disch := omega) only [bMod_go_199, rn, sm, lg, lt_, cmpP, tk, pr_, pu, swl, cs, Nat.reduceAdd, Nat.reduceLeDiff, Nat.zero_le, Nat.le_refl, true_and, and_true, Int.toNat_natCast, Int.reduceToNat, Int.reduceEq, false_implies, true_implies, Int.reduceNeg, Int.cast_ofNat_Int, reduceIte, Int.reduceLT, Int.reduceLE, true_or, or_true, not_true_eq_false, not_false_eq_true, implies_true]
                    rw [bi_1 (hcj.resolve_left hlj)]
                    exact ⟨fun h => absurd h (by decide), fun _ => at205⟩
                · rw [if_neg hcj] at hj3
                  have fin := fin i4
                  rw [hj3] at fin
                  refine tG_at hd kMod_go_177 ?_
                  simp (disch := omega) only [bMod_go_177, rn, sm, lg, lt_, cmpP, tk, pr_, pu, swl, cs, Nat.reduceAdd, Nat.reduceLeDiff, Nat.zero_le, Nat.le_refl, true_and, and_true, Int.toNat_natCast, Int.reduceToNat, Int.reduceEq, false_implies, true_implies, Int.reduceNeg, Int.cast_ofNat_Int, mS_0, mS_1, mS_2, mS_3, mS_4, mS_5, mS_u0, mS_u1, mS_u2, mS_u3, mS_u4, mS_u5, g0, g1, g2, g3, g4, g5, l1, l2, l3, l5, p1, p2, p3, p4, p5, sn_0, sn_9, at_0, at_9, fl_sn, fl_at, fl_usn, fl_uat, fl_a, fl_ua, reduceIte, Nat.reduceEqDiff, true_or, or_true, Int.reduceLE, Int.reduceLT, wr_s, wn_1, wn_2, wn_5, wn_6, wn_8, wn_12, wn_14, wn_18, wn_24, wn_30, wn_32, wn_38, wn_44, FT_3, FT_4, FT_5, FT_6, FT_7, FT_10, FT_ne, FT_u4, FT_u5, FT_u6, FT_u7, FT_u10, FT_u, uF_at, uF_ne, not_true_eq_false, not_false_eq_true, implies_true]
                  refine c_tapeAt (by omega) hMT (L := L) hL FT_3 ?_
                  rw [if_pos (by omega)]
                  refine tG_at hd kMod_go_185 ?_
                  simp (disch := omega) only [bMod_go_185, rn, sm, lg, lt_, cmpP, tk, pr_, pu, swl, cs, Nat.reduceAdd, Nat.reduceLeDiff, Nat.zero_le, Nat.le_refl, true_and, and_true, Int.toNat_natCast, Int.reduceToNat, Int.reduceEq, false_implies, true_implies, Int.reduceNeg, Int.cast_ofNat_Int, reduceIte, Int.reduceLT, Int.reduceLE, true_or, or_true, not_true_eq_false, not_false_eq_true, implies_true]
                  rw [bi_0 (fun h => hcj (Or.inl h))]
                  refine ⟨fun h => absurd rfl h, fun _ => ?_⟩
                  refine tG_at hd kMod_go_191 ?_
                  simp (disch := omega) only [bMod_go_191, rn, sm, lg, lt_, cmpP, tk, pr_, pu, swl, cs, Nat.reduceAdd, Nat.reduceLeDiff, Nat.zero_le, Nat.le_refl, true_and, and_true, Int.toNat_natCast, Int.reduceToNat, Int.reduceEq, false_implies, true_implies, Int.reduceNeg, Int.cast_ofNat_Int, mS_0, mS_1, mS_2, mS_3, mS_4, mS_5, mS_u0, mS_u1, mS_u2, mS_u3, mS_u4, mS_u5, g0, g1, g2, g3, g4, g5, l1, l2, l3, l5, p1, p2, p3, p4, p5, sn_0, sn_9, at_0, at_9, fl_sn, fl_at, fl_usn, fl_uat, fl_a, fl_ua, reduceIte, Nat.reduceEqDiff, true_or, or_true, Int.reduceLE, Int.reduceLT, wr_s, wn_1, wn_2, wn_5, wn_6, wn_8, wn_12, wn_14, wn_18, wn_24, wn_30, wn_32, wn_38, wn_44, FT_3, FT_4, FT_5, FT_6, FT_7, FT_10, FT_ne, FT_u4, FT_u5, FT_u6, FT_u7, FT_u10, FT_u, uF_at, uF_ne, not_true_eq_false, not_false_eq_true, implies_true]
                  refine c_tapeAt (by omega) hMT (L := L) hL FT_3 ?_
                  rw [if_pos (by omega)]
                  refine tG_at hd kMod_go_199 ?_
                  simp (disch := omega) only [bMod_go_199, rn, sm, lg, lt_, cmpP, tk, pr_, pu, swl, cs, Nat.reduceAdd, Nat.reduceLeDiff, Nat.zero_le, Nat.le_refl, true_and, and_true, Int.toNat_natCast, Int.reduceToNat, Int.reduceEq, false_implies, true_implies, Int.reduceNeg, Int.cast_ofNat_Int, reduceIte, Int.reduceLT, Int.reduceLE, true_or, or_true, not_true_eq_false, not_false_eq_true, implies_true]
                  rw [bi_0 (fun h => hcj (Or.inr h))]
                  exact ⟨fun _ => fin, fun h => absurd rfl h⟩
            refine tG_at hd kMod_go_160 ?_
            simp (disch := omega) only [bMod_go_160, rn, sm, lg, lt_, cmpP, tk, pr_, pu, swl, cs, Nat.reduceAdd, Nat.reduceLeDiff, Nat.zero_le, Nat.le_refl, true_and, and_true, Int.toNat_natCast, Int.reduceToNat, Int.reduceEq, false_implies, true_implies, Int.reduceNeg, Int.cast_ofNat_Int, mS_0, mS_1, mS_2, mS_3, mS_4, mS_5, mS_u0, mS_u1, mS_u2, mS_u3, mS_u4, mS_u5, g0, g1, g2, g3, g4, g5, l1, l2, l3, l5, p1, p2, p3, p4, p5, sn_0, sn_9, at_0, at_9, fl_sn, fl_at, fl_usn, fl_uat, fl_a, fl_ua, reduceIte, Nat.reduceEqDiff, true_or, or_true, Int.reduceLE, Int.reduceLT, wr_s, wn_1, wn_2, wn_5, wn_6, wn_8, wn_12, wn_14, wn_18, wn_24, wn_30, wn_32, wn_38, wn_44, FT_3, FT_4, FT_5, FT_6, FT_7, FT_10, FT_ne, FT_u4, FT_u5, FT_u6, FT_u7, FT_u10, FT_u, uF_at, uF_ne, not_true_eq_false, not_false_eq_true, implies_true]
            have := loop (L - s0) s0 none (Nat.le_refl _) (by omega) rfl
            rw [Nat.sub_self] at this
            exact this
          refine tG_at hd kMod_go_110 ?_
          simp (disch := omega) only [bMod_go_110, rn, sm, lg, lt_, cmpP, tk, pr_, pu, swl, cs, Nat.reduceAdd, Nat.reduceLeDiff, Nat.zero_le, Nat.le_refl, true_and, and_true, Int.toNat_natCast, Int.reduceToNat, Int.reduceEq, false_implies, true_implies, Int.reduceNeg, Int.cast_ofNat_Int, mS_0, mS_1, mS_2, mS_3, mS_4, mS_5, mS_u0, mS_u1, mS_u2, mS_u3, mS_u4, mS_u5, g0, g1, g2, g3, g4, g5, l1, l2, l3, l5, p1, p2, p3, p4, p5, sn_0, sn_9, at_0, at_9, fl_sn, fl_at, fl_usn, fl_uat, fl_a, fl_ua, reduceIte, Nat.reduceEqDiff, true_or, or_true, Int.reduceLE, Int.reduceLT, wr_s, wn_1, wn_2, wn_5, wn_6, wn_8, wn_12, wn_14, wn_18, wn_24, wn_30, wn_32, wn_38, wn_44, FT_3, FT_4, FT_5, FT_6, FT_7, FT_10, FT_ne, FT_u4, FT_u5, FT_u6, FT_u7, FT_u10, FT_u, uF_at, uF_ne, not_true_eq_false, not_false_eq_true, implies_true, e1, e2]
          by_cases hl : isLt (T s0)
          · rw [bi_1 hl]
            exact ⟨fun _ => run (Or.inl hl), fun h => absurd (by decide) h⟩
          · rw [bi_0 hl]
            refine ⟨fun h => absurd rfl h, fun _ => ?_⟩
            refine tG_at hd kMod_go_127 ?_
            simp only [bMod_go_127, rn, sm, lg, lt_, cmpP, tk, pr_, pu, swl, cs, Nat.reduceAdd, Nat.reduceLeDiff, Nat.zero_le, Nat.le_refl, true_and, and_true, Int.toNat_natCast, Int.reduceToNat, Int.reduceEq, false_implies, true_implies, Int.reduceNeg, Int.cast_ofNat_Int]
            by_cases hdg : isDg (T s0)
            · rw [bi_1 hdg]
              exact ⟨fun _ => run (Or.inr hdg), fun h => absurd (by decide) h⟩
            · rw [bi_0 hdg]
              refine ⟨fun h => absurd rfl h, fun _ => ?_⟩
              have hE : tkE T L p = s0 + 1 := by unfold tkE; rw [hs0, if_neg (by rintro (h | h); exact hl h; exact hdg h)]
              have hKK : tkK T L p = if T s0 = 59 then 4 else 1 := by
                unfold tkK
                rw [hs0, if_neg h600, if_neg (by omega), if_neg (by rintro (h | h); exact hl h; exact hdg h)]
              have fin : ∀ x : Int, x = tkK T L p → tG w d nMod_go 146 [some (.inr (.inl M)), some (.inl (T s0)), none, none, none] [.inl x, .inr (.inl M)] Γ (mS V M (FT F L s0 s0 s m v) T N K S H) 0 0 Q := by
                intro x hx
                refine tG_at hd kMod_go_146 ?_
                simp (disch := omega) only [bMod_go_146, rn, sm, lg, lt_, cmpP, tk, pr_, pu, swl, cs, Nat.reduceAdd, Nat.reduceLeDiff, Nat.zero_le, Nat.le_refl, true_and, and_true, Int.toNat_natCast, Int.reduceToNat, Int.reduceEq, false_implies, true_implies, Int.reduceNeg, Int.cast_ofNat_Int, mS_0, mS_1, mS_2, mS_3, mS_4, mS_5, mS_u0, mS_u1, mS_u2, mS_u3, mS_u4, mS_u5, g0, g1, g2, g3, g4, g5, l1, l2, l3, l5, p1, p2, p3, p4, p5, sn_0, sn_9, at_0, at_9, fl_sn, fl_at, fl_usn, fl_uat, fl_a, fl_ua, reduceIte, Nat.reduceEqDiff, true_or, or_true, Int.reduceLE, Int.reduceLT, wr_s, wn_1, wn_2, wn_5, wn_6, wn_8, wn_12, wn_14, wn_18, wn_24, wn_30, wn_32, wn_38, wn_44, FT_3, FT_4, FT_5, FT_6, FT_7, FT_10, FT_ne, FT_u4, FT_u5, FT_u6, FT_u7, FT_u10, FT_u, uF_at, uF_ne, not_true_eq_false, not_false_eq_true, implies_true]
                have := hq ((s0 + 1 : Nat) : Int) m v (fun _ => by rw [hE]) (fun h => by rw [hKK] at h; split at h <;> omega) (fun h => by rw [hKK] at h; split at h <;> omega)
                rw [hS, ← hx] at this
                exact this
              refine tG_at hd kMod_go_134 ?_
              simp only [bMod_go_134, rn, sm, lg, lt_, cmpP, tk, pr_, pu, swl, cs, Nat.reduceAdd, Nat.reduceLeDiff, Nat.zero_le, Nat.le_refl, true_and, and_true, Int.toNat_natCast, Int.reduceToNat, Int.reduceEq, false_implies, true_implies, Int.reduceNeg, Int.cast_ofNat_Int]
              refine ⟨fun hz => ?_, fun hz => ?_⟩
              · refine tG_at hd kMod_go_145 ?_
                simp only [bMod_go_145, rn, sm, lg, lt_, cmpP, tk, pr_, pu, swl, cs, Nat.reduceAdd, Nat.reduceLeDiff, Nat.zero_le, Nat.le_refl, true_and, and_true, Int.toNat_natCast, Int.reduceToNat, Int.reduceEq, false_implies, true_implies, Int.reduceNeg, Int.cast_ofNat_Int]
                exact fin 1 (by rw [hKK, if_neg hz]; rfl)
              · refine tG_at hd kMod_go_141 ?_
                simp only [bMod_go_141, rn, sm, lg, lt_, cmpP, tk, pr_, pu, swl, cs, Nat.reduceAdd, Nat.reduceLeDiff, Nat.zero_le, Nat.le_refl, true_and, and_true, Int.toNat_natCast, Int.reduceToNat, Int.reduceEq, false_implies, true_implies, Int.reduceNeg, Int.cast_ofNat_Int]
                exact fin 4 (by rw [hKK, if_pos (by omega)]; rfl)
        · refine tG_at hd kMod_go_104 ?_
          simp (disch := omega) only [bMod_go_104, rn, sm, lg, lt_, cmpP, tk, pr_, pu, swl, cs, Nat.reduceAdd, Nat.reduceLeDiff, Nat.zero_le, Nat.le_refl, true_and, and_true, Int.toNat_natCast, Int.reduceToNat, Int.reduceEq, false_implies, true_implies, Int.reduceNeg, Int.cast_ofNat_Int, mS_0, mS_1, mS_2, mS_3, mS_4, mS_5, mS_u0, mS_u1, mS_u2, mS_u3, mS_u4, mS_u5, g0, g1, g2, g3, g4, g5, l1, l2, l3, l5, p1, p2, p3, p4, p5, sn_0, sn_9, at_0, at_9, fl_sn, fl_at, fl_usn, fl_uat, fl_a, fl_ua, reduceIte, Nat.reduceEqDiff, true_or, or_true, Int.reduceLE, Int.reduceLT, wr_s, wn_1, wn_2, wn_5, wn_6, wn_8, wn_12, wn_14, wn_18, wn_24, wn_30, wn_32, wn_38, wn_44, FT_3, FT_4, FT_5, FT_6, FT_7, FT_10, FT_ne, FT_u4, FT_u5, FT_u6, FT_u7, FT_u10, FT_u, uF_at, uF_ne, not_true_eq_false, not_false_eq_true, implies_true]
          have hKK : tkK T L p = 0 := by unfold tkK; rw [hs0, if_neg h600, if_pos (by omega)]
          have := hq s0 m v (fun h => by omega) (fun h => by omega) (fun h => by omega)
          rw [hS, hKK] at this
          exact this
      refine tG_at hd kMod_go_52 ?_
      simp (disch := omega) only [bMod_go_52, rn, sm, lg, lt_, cmpP, tk, pr_, pu, swl, cs, Nat.reduceAdd, Nat.reduceLeDiff, Nat.zero_le, Nat.le_refl, true_and, and_true, Int.toNat_natCast, Int.reduceToNat, Int.reduceEq, false_implies, true_implies, Int.reduceNeg, Int.cast_ofNat_Int, mS_0, mS_1, mS_2, mS_3, mS_4, mS_5, mS_u0, mS_u1, mS_u2, mS_u3, mS_u4, mS_u5, g0, g1, g2, g3, g4, g5, l1, l2, l3, l5, p1, p2, p3, p4, p5, sn_0, sn_9, at_0, at_9, fl_sn, fl_at, fl_usn, fl_uat, fl_a, fl_ua, reduceIte, Nat.reduceEqDiff, true_or, or_true, Int.reduceLE, Int.reduceLT, wr_s, wn_1, wn_2, wn_5, wn_6, wn_8, wn_12, wn_14, wn_18, wn_24, wn_30, wn_32, wn_38, wn_44, FT_3, FT_4, FT_5, FT_6, FT_7, FT_10, FT_ne, FT_u4, FT_u5, FT_u6, FT_u7, FT_u10, FT_u, uF_at, uF_ne, not_true_eq_false, not_false_eq_true, implies_true]
      refine ⟨fun hz => at93 (by omega), fun hz => ?_⟩
      refine tG_at hd kMod_go_70 ?_
      simp (disch := omega) only [bMod_go_70, rn, sm, lg, lt_, cmpP, tk, pr_, pu, swl, cs, Nat.reduceAdd, Nat.reduceLeDiff, Nat.zero_le, Nat.le_refl, true_and, and_true, Int.toNat_natCast, Int.reduceToNat, Int.reduceEq, false_implies, true_implies, Int.reduceNeg, Int.cast_ofNat_Int, mS_0, mS_1, mS_2, mS_3, mS_4, mS_5, mS_u0, mS_u1, mS_u2, mS_u3, mS_u4, mS_u5, g0, g1, g2, g3, g4, g5, l1, l2, l3, l5, p1, p2, p3, p4, p5, sn_0, sn_9, at_0, at_9, fl_sn, fl_at, fl_usn, fl_uat, fl_a, fl_ua, reduceIte, Nat.reduceEqDiff, true_or, or_true, Int.reduceLE, Int.reduceLT, wr_s, wn_1, wn_2, wn_5, wn_6, wn_8, wn_12, wn_14, wn_18, wn_24, wn_30, wn_32, wn_38, wn_44, FT_3, FT_4, FT_5, FT_6, FT_7, FT_10, FT_ne, FT_u4, FT_u5, FT_u6, FT_u7, FT_u10, FT_u, uF_at, uF_ne, not_true_eq_false, not_false_eq_true, implies_true]
      refine ⟨fun hz2 => at93 (by omega), fun hz2 => ?_⟩
      refine tG_at hd kMod_go_80 ?_
      simp (disch := omega) only [bMod_go_80, rn, sm, lg, lt_, cmpP, tk, pr_, pu, swl, cs, Nat.reduceAdd, Nat.reduceLeDiff, Nat.zero_le, Nat.le_refl, true_and, and_true, Int.toNat_natCast, Int.reduceToNat, Int.reduceEq, false_implies, true_implies, Int.reduceNeg, Int.cast_ofNat_Int, mS_0, mS_1, mS_2, mS_3, mS_4, mS_5, mS_u0, mS_u1, mS_u2, mS_u3, mS_u4, mS_u5, g0, g1, g2, g3, g4, g5, l1, l2, l3, l5, p1, p2, p3, p4, p5, sn_0, sn_9, at_0, at_9, fl_sn, fl_at, fl_usn, fl_uat, fl_a, fl_ua, reduceIte, Nat.reduceEqDiff, true_or, or_true, Int.reduceLE, Int.reduceLT, wr_s, wn_1, wn_2, wn_5, wn_6, wn_8, wn_12, wn_14, wn_18, wn_24, wn_30, wn_32, wn_38, wn_44, FT_3, FT_4, FT_5, FT_6, FT_7, FT_10, FT_ne, FT_u4, FT_u5, FT_u6, FT_u7, FT_u10, FT_u, uF_at, uF_ne, not_true_eq_false, not_false_eq_true, implies_true]
      have hKK : tkK T L p = 1 := by unfold tkK; rw [hs0, if_pos (by omega)]
      have hS : tkS T L p = 600 := by unfold tkS; rw [hs0, if_pos (by omega)]
      have := hq s0 m v (fun h => by omega) (fun h => by omega) (fun h => by omega)
      rw [hS, hKK] at this
      exact this
    exact key _ rfl
  -- the blanks
  have loop : ∀ (r j : Nat), j + r = L → tkB T L p = sk0 T r j → tG w d nMod_go 0 [some (.inr (.inl M)), none, none, none, none] [] Γ (mS V M (FT F L j f s m v) T N K S H) 0 0 Q := by
    intro r
    induction r with
    | zero =>
      intro j hj1 hj2
      have e : tkB T L p = j := hj2
      rw [e] at at52
      refine tG_at hd kMod_go_0 ?_
      simp (disch := omega) only [bMod_go_0, rn, sm, lg, lt_, cmpP, tk, pr_, pu, swl, cs, Nat.reduceAdd, Nat.reduceLeDiff, Nat.zero_le, Nat.le_refl, true_and, and_true, Int.toNat_natCast, Int.reduceToNat, Int.reduceEq, false_implies, true_implies, Int.reduceNeg, Int.cast_ofNat_Int, mS_0, mS_1, mS_2, mS_3, mS_4, mS_5, mS_u0, mS_u1, mS_u2, mS_u3, mS_u4, mS_u5, g0, g1, g2, g3, g4, g5, l1, l2, l3, l5, p1, p2, p3, p4, p5, sn_0, sn_9, at_0, at_9, fl_sn, fl_at, fl_usn, fl_uat, fl_a, fl_ua, reduceIte, Nat.reduceEqDiff, true_or, or_true, Int.reduceLE, Int.reduceLT, wr_s, wn_1, wn_2, wn_5, wn_6, wn_8, wn_12, wn_14, wn_18, wn_24, wn_30, wn_32, wn_38, wn_44, FT_3, FT_4, FT_5, FT_6, FT_7, FT_10, FT_ne, FT_u4, FT_u5, FT_u6, FT_u7, FT_u10, FT_u, uF_at, uF_ne, not_true_eq_false, not_false_eq_true, implies_true]
      exact ⟨fun _ => at52, fun h => absurd (by omega) h⟩
    | succ r ih =>
      intro j hj1 hj2
      have f1 : (0 : Int) ≤ (j : Int) := by omega
      have f2 : (j : Int) < 640 := by omega
      unfold sk0 at hj2
      refine tG_at hd kMod_go_0 ?_
      simp (disch := omega) only [bMod_go_0, rn, sm, lg, lt_, cmpP, tk, pr_, pu, swl, cs, Nat.reduceAdd, Nat.reduceLeDiff, Nat.zero_le, Nat.le_refl, true_and, and_true, Int.toNat_natCast, Int.reduceToNat, Int.reduceEq, false_implies, true_implies, Int.reduceNeg, Int.cast_ofNat_Int, mS_0, mS_1, mS_2, mS_3, mS_4, mS_5, mS_u0, mS_u1, mS_u2, mS_u3, mS_u4, mS_u5, g0, g1, g2, g3, g4, g5, l1, l2, l3, l5, p1, p2, p3, p4, p5, sn_0, sn_9, at_0, at_9, fl_sn, fl_at, fl_usn, fl_uat, fl_a, fl_ua, reduceIte, Nat.reduceEqDiff, true_or, or_true, Int.reduceLE, Int.reduceLT, wr_s, wn_1, wn_2, wn_5, wn_6, wn_8, wn_12, wn_14, wn_18, wn_24, wn_30, wn_32, wn_38, wn_44, FT_3, FT_4, FT_5, FT_6, FT_7, FT_10, FT_ne, FT_u4, FT_u5, FT_u6, FT_u7, FT_u10, FT_u, uF_at, uF_ne, not_true_eq_false, not_false_eq_true, implies_true]
      refine ⟨fun h => absurd h (by omega), fun _ => ?_⟩
      by_cases hb : isB (T j)
      · rw [if_pos hb] at hj2
        have at39 : tG w d nMod_go 39 [some (.inr (.inl M)), none, none, none, none] [] Γ (mS V M (FT F L j f s m v) T N K S H) 0 0 Q := by
          refine tG_at hd kMod_go_39 ?_
          simp (disch := omega) only [bMod_go_39, rn, sm, lg, lt_, cmpP, tk, pr_, pu, swl, cs, Nat.reduceAdd, Nat.reduceLeDiff, Nat.zero_le, Nat.le_refl, true_and, and_true, Int.toNat_natCast, Int.reduceToNat, Int.reduceEq, false_implies, true_implies, Int.reduceNeg, Int.cast_ofNat_Int, mS_0, mS_1, mS_2, mS_3, mS_4, mS_5, mS_u0, mS_u1, mS_u2, mS_u3, mS_u4, mS_u5, g0, g1, g2, g3, g4, g5, l1, l2, l3, l5, p1, p2, p3, p4, p5, sn_0, sn_9, at_0, at_9, fl_sn, fl_at, fl_usn, fl_uat, fl_a, fl_ua, reduceIte, Nat.reduceEqDiff, true_or, or_true, Int.reduceLE, Int.reduceLT, wr_s, wn_1, wn_2, wn_5, wn_6, wn_8, wn_12, wn_14, wn_18, wn_24, wn_30, wn_32, wn_38, wn_44, FT_3, FT_4, FT_5, FT_6, FT_7, FT_10, FT_ne, FT_u4, FT_u5, FT_u6, FT_u7, FT_u10, FT_u, uF_at, uF_ne, not_true_eq_false, not_false_eq_true, implies_true]
          exact ih (j + 1) (by omega) hj2
        refine tG_at hd kMod_go_11 ?_
        simp (disch := omega) only [bMod_go_11, rn, sm, lg, lt_, cmpP, tk, pr_, pu, swl, cs, Nat.reduceAdd, Nat.reduceLeDiff, Nat.zero_le, Nat.le_refl, true_and, and_true, Int.toNat_natCast, Int.reduceToNat, Int.reduceEq, false_implies, true_implies, Int.reduceNeg, Int.cast_ofNat_Int, mS_0, mS_1, mS_2, mS_3, mS_4, mS_5, mS_u0, mS_u1, mS_u2, mS_u3, mS_u4, mS_u5, g0, g1, g2, g3, g4, g5, l1, l2, l3, l5, p1, p2, p3, p4, p5, sn_0, sn_9, at_0, at_9, fl_sn, fl_at, fl_usn, fl_uat, fl_a, fl_ua, reduceIte, Nat.reduceEqDiff, true_or, or_true, Int.reduceLE, Int.reduceLT, wr_s, wn_1, wn_2, wn_5, wn_6, wn_8, wn_12, wn_14, wn_18, wn_24, wn_30, wn_32, wn_38, wn_44, FT_3, FT_4, FT_5, FT_6, FT_7, FT_10, FT_ne, FT_u4, FT_u5, FT_u6, FT_u7, FT_u10, FT_u, uF_at, uF_ne, not_true_eq_false, not_false_eq_true, implies_true, f1, f2]
        refine ⟨fun _ => at39, fun h32 => ?_⟩
        refine tG_at hd kMod_go_25 ?_
        simp (disch := omega) only [bMod_go_25, rn, sm, lg, lt_, cmpP, tk, pr_, pu, swl, cs, Nat.reduceAdd, Nat.reduceLeDiff, Nat.zero_le, Nat.le_refl, true_and, and_true, Int.toNat_natCast, Int.reduceToNat, Int.reduceEq, false_implies, true_implies, Int.reduceNeg, Int.cast_ofNat_Int, mS_0, mS_1, mS_2, mS_3, mS_4, mS_5, mS_u0, mS_u1, mS_u2, mS_u3, mS_u4, mS_u5, g0, g1, g2, g3, g4, g5, l1, l2, l3, l5, p1, p2, p3, p4, p5, sn_0, sn_9, at_0, at_9, fl_sn, fl_at, fl_usn, fl_uat, fl_a, fl_ua, reduceIte, Nat.reduceEqDiff, true_or, or_true, Int.reduceLE, Int.reduceLT, wr_s, wn_1, wn_2, wn_5, wn_6, wn_8, wn_12, wn_14, wn_18, wn_24, wn_30, wn_32, wn_38, wn_44, FT_3, FT_4, FT_5, FT_6, FT_7, FT_10, FT_ne, FT_u4, FT_u5, FT_u6, FT_u7, FT_u10, FT_u, uF_at, uF_ne, not_true_eq_false, not_false_eq_true, implies_true, f1, f2]
        exact ⟨fun h => absurd (hb.resolve_left h32) h, fun _ => at39⟩
      · rw [if_neg hb] at hj2
        rw [hj2] at at52
        refine tG_at hd kMod_go_11 ?_
        simp (disch := omega) only [bMod_go_11, rn, sm, lg, lt_, cmpP, tk, pr_, pu, swl, cs, Nat.reduceAdd, Nat.reduceLeDiff, Nat.zero_le, Nat.le_refl, true_and, and_true, Int.toNat_natCast, Int.reduceToNat, Int.reduceEq, false_implies, true_implies, Int.reduceNeg, Int.cast_ofNat_Int, mS_0, mS_1, mS_2, mS_3, mS_4, mS_5, mS_u0, mS_u1, mS_u2, mS_u3, mS_u4, mS_u5, g0, g1, g2, g3, g4, g5, l1, l2, l3, l5, p1, p2, p3, p4, p5, sn_0, sn_9, at_0, at_9, fl_sn, fl_at, fl_usn, fl_uat, fl_a, fl_ua, reduceIte, Nat.reduceEqDiff, true_or, or_true, Int.reduceLE, Int.reduceLT, wr_s, wn_1, wn_2, wn_5, wn_6, wn_8, wn_12, wn_14, wn_18, wn_24, wn_30, wn_32, wn_38, wn_44, FT_3, FT_4, FT_5, FT_6, FT_7, FT_10, FT_ne, FT_u4, FT_u5, FT_u6, FT_u7, FT_u10, FT_u, uF_at, uF_ne, not_true_eq_false, not_false_eq_true, implies_true, f1, f2]
        refine ⟨fun h => absurd (Or.inl h) hb, fun h32 => ?_⟩
        refine tG_at hd kMod_go_25 ?_
        simp (disch := omega) only [bMod_go_25, rn, sm, lg, lt_, cmpP, tk, pr_, pu, swl, cs, Nat.reduceAdd, Nat.reduceLeDiff, Nat.zero_le, Nat.le_refl, true_and, and_true, Int.toNat_natCast, Int.reduceToNat, Int.reduceEq, false_implies, true_implies, Int.reduceNeg, Int.cast_ofNat_Int, mS_0, mS_1, mS_2, mS_3, mS_4, mS_5, mS_u0, mS_u1, mS_u2, mS_u3, mS_u4, mS_u5, g0, g1, g2, g3, g4, g5, l1, l2, l3, l5, p1, p2, p3, p4, p5, sn_0, sn_9, at_0, at_9, fl_sn, fl_at, fl_usn, fl_uat, fl_a, fl_ua, reduceIte, Nat.reduceEqDiff, true_or, or_true, Int.reduceLE, Int.reduceLT, wr_s, wn_1, wn_2, wn_5, wn_6, wn_8, wn_12, wn_14, wn_18, wn_24, wn_30, wn_32, wn_38, wn_44, FT_3, FT_4, FT_5, FT_6, FT_7, FT_10, FT_ne, FT_u4, FT_u5, FT_u6, FT_u7, FT_u10, FT_u, uF_at, uF_ne, not_true_eq_false, not_false_eq_true, implies_true, f1, f2]
        exact ⟨fun _ => at52, fun h => absurd (Or.inr (Decidable.not_not.mp h)) hb⟩
  exact loop (L - p) p (by omega) rfl
end MD
