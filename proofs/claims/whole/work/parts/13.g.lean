/-! THE CLASS: what is kept for undo -/
/-- the history's part of the object -/
def HX (V : VH) (x : Nat) (ad : Nat → Nat) (c hh : Nat) : Prop := V (x + 9) 0 = ((x + 10 : Nat) : Int) ∧ V (x + 9) 1 = (c : Int) ∧ ∀ j, j < 10 → V (x + 10) j = if j < hh then ((ad (2 + j) : Nat) : Int) else 0
def KP (Γ Γ' : GM) (V V' : VH) (x Z : Nat) (ad : Nat → Nat) (tb : Nat → TBL) (c : Nat) (ad' : Nat → Nat) (tb' : Nat → TBL) (hh' : Nat) : Prop :=
  (∃ nn, nn ≤ 292 ∧ GX Γ Γ' nn) ∧ snQ c ≤ hh' ∧ hh' ≤ 10 ∧ LY Γ' V' x Z ad' tb' hh' ∧ HX V' x ad' (snQ c) hh' ∧ (∀ b j, b ≠ x + 9 → b ≠ x + 10 → b ≤ Γ.2.2 → V' b j = V b j) ∧ ad' 0 = ad 0 ∧ tb' 0 = tb 0 ∧ tb' (2 + (snQ c - 1)) = tb 1 ∧ ∀ i, i < snQ c - 1 → tb' (2 + i) = if c = 10 then tb (3 + i) else tb (2 + i)
def sw1 (a b u : Nat) : Nat := if u = a then b else if u = b then a else u
theorem sw1_b {a b n u : Nat} (ha : a < n) (hb : b < n) (hu : u < n) : sw1 a b u < n := by
  unfold sw1
  grind
theorem sw1_inj {a b u v : Nat} (h : sw1 a b u = sw1 a b v) : u = v := by
  unfold sw1 at h
  grind
def rot (u : Nat) : Nat := if u = 0 then 0 else if u = 11 then 1 else u + 1
theorem rot_b {u : Nat} (hu : u < 12) : rot u < 12 := by
  unfold rot
  grind
theorem rot_inj {u v : Nat} (hu : u < 12) (hv : v < 12) (h : rot u = rot v) : u = v := by
  unfold rot at h
  grind
section CM
variable {w : WP} {d : Nat} {Γ : GM} {V : VH} {Q : QT} {x Z c hh : Nat} {ad : Nat → Nat} {tb : Nat → TBL}
set_option maxHeartbeats 1000000 in
theorem L_keep (hd7 : 7 ≤ d) (g1 : Γ.1 (x + 9) = 1) (g15 : Γ.1 (x + 10) = 15) (g10 : (Γ.2.1 (x + 10) : Int) = 10) (hx : HX V x ad c hh) (ly : LY Γ V x Z ad tb hh) (hch : c ≤ hh) (h10 : hh ≤ 10) (hZ : x + 595 ≤ Z + 1) (hZ2 : Z ≤ Γ.2.2)
    (hq : ∀ Γ' V' ad' tb' hh', KP Γ Γ' V V' x Z ad tb c ad' tb' hh' → Q (some (.inr (.inl (ad' 1)))) Γ' V') : tC w d nHist_keep [.inr (.inl (x + 9)), .inr (.inl (ad 1))] Γ V Q := by
  have hd : 4 ≤ d := by omega
  obtain ⟨u0, u1, u2⟩ := id hx
  have n1 := (ly.1 1 (by omega)).1.1.1
  have kn : ∀ u, u < 2 + hh → Γ.1 (ad u) = 4 := fun u hu => (ly.1 u hu).1.1.1
  have bn : ∀ u, u < 2 + hh → x + 11 ≤ ad u := fun u hu => ly.b hZ hu
  by_cases hc10 : c = 10
  · -- the eldest goes
    have hh10 : hh = 10 := by omega
    subst hc10
    subst hh10
    have sq : snQ 10 = 10 := if_pos rfl
    have a2 : V (x + 10) 0 = ((ad 2 : Nat) : Int) := (u2 0 (by omega)).trans (if_pos (by omega))
    refine tC_enter (nL := 4) (by decide +kernel) (by decide +kernel) rfl (Nat.le_of_ble_eq_true rfl) (fun hok => ?_)
    simp only [ent]
    refine tG_at hd kHist_keep_0 ?_
    simp (disch := omega) only [bHist_keep_0, rn, sm, lg, lt_, cmpP, tk, pr_, pu, swl, cs, Nat.reduceAdd, Nat.reduceLeDiff, Nat.zero_le, Nat.le_refl, true_and, and_true, Int.toNat_natCast, Int.reduceToNat, Int.reduceEq, false_implies, true_implies, Int.reduceNeg, Int.cast_ofNat_Int, g1, u1, Int.reduceLT, not_false_eq_true, not_true_eq_false]
    refine tG_at hd kHist_keep_63 ?_
    simp (disch := omega) only [bHist_keep_63, rn, sm, lg, lt_, cmpP, tk, pr_, pu, swl, cs, Nat.reduceAdd, Nat.reduceLeDiff, Nat.zero_le, Nat.le_refl, true_and, and_true, Int.toNat_natCast, Int.reduceToNat, Int.reduceEq, false_implies, true_implies, Int.reduceNeg, Int.cast_ofNat_Int, g1, g15, g10, u0, a2, Int.reduceLE, Int.reduceLT]
    have key := tG_loop (w := w) (d := d) (n := nHist_keep) (pc := 72) (Γ := Γ) (uc := 0) (us := 0) (Q := Q) (fun i => [some (.inr (.inl (x + 9))), some (.inr (.inl (ad 1))), some (.inr (.inl (ad 2))), some (.inl ((i + 1 : Nat) : Int))]) (fun i V' => (∀ b j, b ≠ x + 10 → V' b j = V b j) ∧ ∀ j, j < 10 → V' (x + 10) j = if j < i then ((ad (3 + j) : Nat) : Int) else ((ad (2 + j) : Nat) : Int)) 9 ?_ ?_ 0 V (Nat.zero_le _) ⟨fun _ _ _ => rfl, fun j hj => by rw [u2 j hj, if_pos hj, if_neg (by omega)]⟩
    · exact key
    · intro i V' hi hV k1
      obtain ⟨hV1, hV2⟩ := hV
      have e0 : V' (x + 9) 0 = ((x + 10 : Nat) : Int) := (hV1 _ _ (by omega)).trans u0
      have e1 : V' (x + 10) (i + 1) = ((ad (3 + i) : Nat) : Int) := by
        rw [hV2 (i + 1) (by omega), if_neg (by omega), show 2 + (i + 1) = 3 + i by omega]
      have k4 := kn (3 + i) (by omega)
      have ei : ((i + 1 : Nat) : Int) - 1 = (i : Int) := by omega
      refine tG_at hd kHist_keep_72 ?_
      simp (disch := omega) only [bHist_keep_72, rn, sm, lg, lt_, cmpP, tk, pr_, pu, swl, cs, Nat.reduceAdd, Nat.reduceLeDiff, Nat.zero_le, Nat.le_refl, true_and, and_true, Int.toNat_natCast, Int.reduceToNat, Int.reduceEq, false_implies, true_implies, Int.reduceNeg, Int.cast_ofNat_Int, iltF, iltT, not_false_eq_true, not_true_eq_false]
      refine tG_at hd kHist_keep_78 ?_
      simp (disch := omega) only [bHist_keep_78, rn, sm, lg, lt_, cmpP, tk, pr_, pu, swl, cs, Nat.reduceAdd, Nat.reduceLeDiff, Nat.zero_le, Nat.le_refl, true_and, and_true, Int.toNat_natCast, Int.reduceToNat, Int.reduceEq, false_implies, true_implies, Int.reduceNeg, Int.cast_ofNat_Int, g1, g15, g10, e0, e1, k4, ei, wr_id, ileT, iltT, Nat.reduceEqDiff]
      refine k1 _ ⟨fun b j hb => ?_, fun j hj => ?_⟩
      · rw [up_ne hb]
        exact hV1 b j hb
      · by_cases hji : j = i
        · subst hji
          rw [up_at, if_pos (by omega)]
        · rw [up_nj hji, hV2 j hj]
          by_cases h : j < i
          · rw [if_pos h, if_pos (by omega)]
          · rw [if_neg h, if_neg (by omega)]
    · intro V' hV
      obtain ⟨hV1, hV2⟩ := hV
      have e0 : V' (x + 9) 0 = ((x + 10 : Nat) : Int) := (hV1 _ _ (by omega)).trans u0
      refine tG_at hd kHist_keep_72 ?_
      simp (disch := omega) only [bHist_keep_72, rn, sm, lg, lt_, cmpP, tk, pr_, pu, swl, cs, Nat.reduceAdd, Nat.reduceLeDiff, Nat.zero_le, Nat.le_refl, true_and, and_true, Int.toNat_natCast, Int.reduceToNat, Int.reduceEq, false_implies, true_implies, Int.reduceNeg, Int.cast_ofNat_Int, iltF, iltT, not_false_eq_true, not_true_eq_false]
      refine tG_at hd kHist_keep_98 ?_
      simp (disch := omega) only [bHist_keep_98, rn, sm, lg, lt_, cmpP, tk, pr_, pu, swl, cs, Nat.reduceAdd, Nat.reduceLeDiff, Nat.zero_le, Nat.le_refl, true_and, and_true, Int.toNat_natCast, Int.reduceToNat, Int.reduceEq, false_implies, true_implies, Int.reduceNeg, Int.cast_ofNat_Int, g1, g15, g10, e0, n1, ileT, iltT, Nat.reduceEqDiff, Int.reduceLE, Int.reduceLT]
      refine hq Γ _ (fun u => ad (rot u)) (fun u => tb (rot u)) 10 ⟨⟨0, by omega, rfl, fun t _ => ⟨rfl, rfl⟩⟩, by rw [sq]; omega, by omega, ?_, ⟨?_, ?_, fun j hj => ?_⟩, fun b j h1 h2 h3 => ?_, rfl, rfl, ?_, fun i hi => ?_⟩
      · refine (ly.perm rot (fun u hu => rot_b hu) (fun u v hu hv h => rot_inj hu hv h)).fr (fun b j hb => ?_)
        rw [up_ne (by omega)]
        exact hV1 b j (by omega)
      · rw [up_ne (by omega)]
        exact e0
      · rw [up_ne (by omega), hV1 _ _ (by omega), sq]
        exact u1
      · rw [if_pos hj]
        by_cases h9 : j = 9
        · subst h9
          rw [up_at]
          rfl
        · rw [up_nj h9, hV2 j hj, if_pos (by omega)]
          have : rot (2 + j) = 3 + j := by
            unfold rot
            rw [if_neg (by omega), if_neg (by omega)]
            omega
          dsimp only
          rw [this]
      · rw [up_ne h2]
        exact hV1 b j h2
      · rw [sq]
        rfl
      · rw [sq] at hi
        rw [if_pos rfl]
        have : rot (2 + i) = 3 + i := by
          unfold rot
          rw [if_neg (by omega), if_neg (by omega)]
          omega
        show tb (rot (2 + i)) = _
        rw [this]
  · have sq : snQ c = c + 1 := if_neg hc10
    have k40 : ∀ (Γ' : GM) (V1 : VH) (ad1 : Nat → Nat) (tb1 : Nat → TBL) (h1 uc us : Nat) (nn : Nat), nn ≤ 292 → GX Γ Γ' nn → LY Γ' V1 x Z ad1 tb1 h1 → c < h1 → h1 ≤ 10 → (∀ u, u < 2 + c → ad1 u = ad u ∧ tb1 u = tb u) → (∀ b j, b ≤ Γ.2.2 → V1 b j = V b j) → (∀ j, j < 10 → j ≠ c → V (x + 10) j = if j < h1 then ((ad1 (2 + j) : Nat) : Int) else 0) → tG w d nHist_keep 40 [some (.inr (.inl (x + 9))), some (.inr (.inl (ad 1))), none, none] [.inr (.inl (ad1 (2 + c)))] Γ' V1 uc us Q := by
      intro Γ' V1 ad1 tb1 h1 uc us nn hnn gx ly1 hch1 h110 hold hV1 hrow
      have g1' : Γ'.1 (x + 9) = 1 := (gx.2 _ (by omega)).1.trans g1
      have g15' : Γ'.1 (x + 10) = 15 := (gx.2 _ (by omega)).1.trans g15
      have g10' : (Γ'.2.1 (x + 10) : Int) = 10 := by rw [(gx.2 _ (by omega)).2]; exact g10
      have b1 := (ly.1 1 (by omega)).2.2.2.2
      have n1' : Γ'.1 (ad 1) = 4 := (gx.2 _ (by omega)).1.trans n1
      have e0 : V1 (x + 9) 0 = ((x + 10 : Nat) : Int) := (hV1 _ _ (by omega)).trans u0
      have e1 : V1 (x + 9) 1 = (c : Int) := (hV1 _ _ (by omega)).trans u1
      refine tG_at hd kHist_keep_40 ?_
      simp (disch := omega) only [bHist_keep_40, rn, sm, lg, lt_, cmpP, tk, pr_, pu, swl, cs, Nat.reduceAdd, Nat.reduceLeDiff, Nat.zero_le, Nat.le_refl, true_and, and_true, Int.toNat_natCast, Int.reduceToNat, Int.reduceEq, false_implies, true_implies, Int.reduceNeg, Int.cast_ofNat_Int, g1', g15', g10', e0, e1, n1', up_ne, wr_s, ileT, iltT, Nat.reduceEqDiff]
      refine (congrArg (fun z => Q (some (.inr (.inl z))) Γ' _) (show ad1 (sw1 1 (2 + c) 1) = ad1 (2 + c) by unfold sw1; rw [if_pos rfl])).mp ?_
      refine hq Γ' _ (fun u => ad1 (sw1 1 (2 + c) u)) (fun u => tb1 (sw1 1 (2 + c) u)) h1 ⟨⟨nn, hnn, gx⟩, by rw [sq]; omega, h110, ?_, ⟨?_, ?_, fun j hj => ?_⟩, fun b j h1 h2 h3 => ?_, ?_, ?_, ?_, fun i hi => ?_⟩
      · refine (ly1.perm (sw1 1 (2 + c)) (fun u hu => sw1_b (by omega) (by omega) hu) (fun u v hu hv h => sw1_inj h)).fr (fun b j hb => ?_)
        rw [up_ne (by omega), up_ne (by omega)]
      · rw [up_nj (by omega), up_ne (by omega)]
        exact e0
      · rw [up_at, sq]
      · rw [up_ne (by omega)]
        by_cases hjc : j = c
        · subst hjc
          rw [up_at, if_pos hch1]
          have : sw1 1 (2 + j) (2 + j) = 1 := by
            unfold sw1
            rw [if_neg (by omega), if_pos rfl]
          dsimp only
          rw [this, (hold 1 (by omega)).1]
        · rw [up_nj hjc, hV1 _ _ (by omega), hrow j hj hjc]
          have : sw1 1 (2 + c) (2 + j) = 2 + j := by
            unfold sw1
            rw [if_neg (by omega), if_neg (by omega)]
          dsimp only
          rw [this]
      · rw [up_ne h1, up_ne h2]
        exact hV1 b j h3
      · show ad1 (sw1 1 (2 + c) 0) = ad 0
        have : sw1 1 (2 + c) 0 = 0 := by
          unfold sw1
          rw [if_neg (by omega), if_neg (by omega)]
        rw [this]
        exact (hold 0 (by omega)).1
      · show tb1 (sw1 1 (2 + c) 0) = tb 0
        have : sw1 1 (2 + c) 0 = 0 := by
          unfold sw1
          rw [if_neg (by omega), if_neg (by omega)]
        rw [this]
        exact (hold 0 (by omega)).2
      · show tb1 (sw1 1 (2 + c) (2 + (snQ c - 1))) = tb 1
        rw [sq]
        have : sw1 1 (2 + c) (2 + (c + 1 - 1)) = 1 := by
          unfold sw1
          rw [if_neg (by omega), if_pos (by omega)]
        rw [this]
        exact (hold 1 (by omega)).2
      · rw [sq] at hi
        rw [if_neg hc10]
        show tb1 (sw1 1 (2 + c) (2 + i)) = tb (2 + i)
        have : sw1 1 (2 + c) (2 + i) = 2 + i := by
          unfold sw1
          rw [if_neg (by omega), if_neg (by omega)]
        rw [this]
        exact (hold _ (by omega)).2
    refine tC_enter (nL := 4) (by decide +kernel) (by decide +kernel) rfl (Nat.le_of_ble_eq_true rfl) (fun hok => ?_)
    simp only [ent]
    refine tG_at hd kHist_keep_0 ?_
    simp (disch := omega) only [bHist_keep_0, rn, sm, lg, lt_, cmpP, tk, pr_, pu, swl, cs, Nat.reduceAdd, Nat.reduceLeDiff, Nat.zero_le, Nat.le_refl, true_and, and_true, Int.toNat_natCast, Int.reduceToNat, Int.reduceEq, false_implies, true_implies, Int.reduceNeg, Int.cast_ofNat_Int, g1, u1, iltT, not_false_eq_true, not_true_eq_false]
    by_cases hnull : c < hh
    · have ec : V (x + 10) c = ((ad (2 + c) : Nat) : Int) := (u2 c (by omega)).trans (if_pos hnull)
      have bc := bn (2 + c) (by omega)
      have hne : (ad (2 + c) = 0) = False := eq_false (by omega)
      refine tG_at hd kHist_keep_9 ?_
      simp (disch := omega) only [bHist_keep_9, rn, sm, lg, lt_, cmpP, tk, pr_, pu, swl, cs, Nat.reduceAdd, Nat.reduceLeDiff, Nat.zero_le, Nat.le_refl, true_and, and_true, Int.toNat_natCast, Int.reduceToNat, Int.reduceEq, false_implies, true_implies, Int.reduceNeg, Int.cast_ofNat_Int, g1, g15, g10, u0, u1, ec, ileT, iltT, Nat.reduceLeDiff, ne_eq, hne, not_false_eq_true]
      refine tG_at hd kHist_keep_31 ?_
      simp (disch := omega) only [bHist_keep_31, rn, sm, lg, lt_, cmpP, tk, pr_, pu, swl, cs, Nat.reduceAdd, Nat.reduceLeDiff, Nat.zero_le, Nat.le_refl, true_and, and_true, Int.toNat_natCast, Int.reduceToNat, Int.reduceEq, false_implies, true_implies, Int.reduceNeg, Int.cast_ofNat_Int, g1, g15, g10, u0, u1, ec, ileT, iltT, Nat.reduceLeDiff]
      exact k40 Γ V ad tb hh 0 0 0 (by omega) ⟨rfl, fun t _ => ⟨rfl, rfl⟩⟩ ly hnull h10 (fun u hu => ⟨rfl, rfl⟩) (fun _ _ _ => rfl) (fun j hj _ => u2 j hj)
    · have hce : c = hh := by omega
      have ec : V (x + 10) c = 0 := (u2 c (by omega)).trans (if_neg hnull)
      refine tG_at hd kHist_keep_9 ?_
      simp (disch := omega) only [bHist_keep_9, rn, sm, lg, lt_, cmpP, tk, pr_, pu, swl, cs, Nat.reduceAdd, Nat.reduceLeDiff, Nat.zero_le, Nat.le_refl, true_and, and_true, Int.toNat_natCast, Int.reduceToNat, Int.reduceEq, false_implies, true_implies, Int.reduceNeg, Int.cast_ofNat_Int, g1, g15, g10, u0, u1, ec, ileT, iltT, Nat.reduceLeDiff, ne_eq, not_true_eq_false]
      refine tG_at hd kHist_keep_21 ?_
      simp (disch := omega) only [bHist_keep_21, rn, sm, lg, lt_, cmpP, tk, pr_, pu, swl, cs, Nat.reduceAdd, Nat.reduceLeDiff, Nat.zero_le, Nat.le_refl, true_and, and_true, Int.toNat_natCast, Int.reduceToNat, Int.reduceEq, false_implies, true_implies, Int.reduceNeg, Int.cast_ofNat_Int, uf_at, Int.cast_ofNat_Int]
      refine k_netInit (by omega) uf_at rfl (by omega) (fun j => rz_at) (fun Γ2 A B S q gx2 hN2 hR2 => ?_)
      have gx3 : GX Γ Γ2 292 := ⟨by rw [gx2.1], fun t ht => by
        have := gx2.2 t (by show t ≤ Γ.2.2 + 1; omega)
        exact ⟨this.1.trans (uf_ne (by omega)), this.2⟩⟩
      have lyr : LY Γ (rz V (Γ.2.2 + 1)) x Z ad tb hh := ⟨fun u hu => by
        obtain ⟨a, b, c, e, f⟩ := ly.1 u hu
        exact ⟨a, b, c.fr (fun c j h1 h2 => rz_ne (by omega)), e, f⟩, ly.2⟩
      have ly3 := lyr.ext gx3 hN2 (by omega) hZ2 (by rw [gx3.1]; omega) (A := A) (B := B) (S := S) (q := q) hR2.2.2.2.2.1
      refine tG_at hd kHist_keep_28 ?_
      simp (disch := omega) only [bHist_keep_28, rn, sm, lg, lt_, cmpP, tk, pr_, pu, swl, cs, Nat.reduceAdd, Nat.reduceLeDiff, Nat.zero_le, Nat.le_refl, true_and, and_true, Int.toNat_natCast, Int.reduceToNat, Int.reduceEq, false_implies, true_implies, Int.reduceNeg, Int.cast_ofNat_Int]
      have := k40 Γ2 _ _ _ (hh + 1) 292 1786 292 (by omega) gx3 ly3 (by omega) (by omega) (fun u hu => ⟨uf_ne (by omega), ut_ne (by omega)⟩) (fun b j hb => by rw [nP_o (by omega), rz_ne (by omega)]) (fun j hj hjc => by
        rw [u2 j hj]
        by_cases h : j < hh
        · rw [if_pos h, if_pos (by omega), uf_ne (by omega)]
        · rw [if_neg h, if_neg (by omega)])
      rw [hce] at this
      rw [uf_at] at this
      exact this
end CM
