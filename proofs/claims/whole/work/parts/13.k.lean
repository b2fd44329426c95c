/-! THE CLASS: its constructor -/
section IN
variable {w : WP} {d : Nat} {Γ : GM} {V : VH} {Q : QT} {o s h x : Nat}
theorem k_tapeInit (hd : 4 ≤ d) (h7 : Γ.1 o = 7) (h2 : Γ.2.2 = o) (ho0 : o ≠ 0) (hz : ∀ j, V o j = 0)
    (hq : ∀ Γ', GX Γ Γ' 1 → TK Γ' o → Q none Γ' (tS V o 0 3 0 0 0 (fun _ => 0))) : tC w d nTape_init [.inr (.inl o)] Γ V Q := by
  refine tC_enter (nL := 1) (by decide +kernel) (by decide +kernel) rfl (Nat.le_of_ble_eq_true rfl) (fun hok => ?_)
  simp only [ent]
  refine tG_at hd kTape_init_0 ?_
  simp (disch := omega) only [bTape_init_0, rn, sm, lg, lt_, cmpP, tk, pr_, pu, swl, cs, Nat.reduceAdd, Nat.reduceLeDiff, Nat.zero_le, Nat.le_refl, true_and, and_true, Int.toNat_natCast, Int.reduceToNat, Int.reduceEq, false_implies, true_implies, Int.reduceNeg, Int.cast_ofNat_Int, reduceIte, Int.reduceLT, Int.reduceLE, true_or, or_true, not_true_eq_false, not_false_eq_true, implies_true, uf_ne, uf_at, h7, h2]
  refine ⟨ho0, ?_⟩
  refine (congrArg (fun V => Q none _ V) ?_).mp (hq (uf Γ.1 (o + 1) 11, uf Γ.2.1 (o + 1) 640, o + 1) ⟨by show o + 1 = Γ.2.2 + 1; omega, fun t ht => ?_⟩ ⟨?_, ?_, ?_⟩)
  · symm
    funext c j
    unfold up rz tS tpF
    clear hq hok h7 h2
    by_cases hc : c = o
    · subst hc
      grind (splits := 40)
    · grind (splits := 40)
  · exact ⟨uf_ne (by omega), uf_ne (by omega)⟩
  · show uf _ _ _ o = 7
    rw [uf_ne (by omega)]
    exact h7
  · exact uf_at
  · show ((uf _ _ _ (o + 1) : Nat) : Int) = 640
    rw [uf_at]
    rfl
theorem k_scrInit (hd : 4 ≤ d) (h6 : Γ.1 s = 6) (h2 : Γ.2.2 = s) (hs0 : s ≠ 0) (hz : ∀ j, V s j = 0)
    (hq : ∀ Γ', GX Γ Γ' 5 → SK Γ' s → Q none Γ' (sS V s 0 0 0 0 (fun _ => 0) (fun _ => 0) (fun _ => 0) (fun _ => 0) (fun _ => 0))) : tC w d nScr_init [.inr (.inl s)] Γ V Q := by
  refine tC_enter (nL := 1) (by decide +kernel) (by decide +kernel) rfl (Nat.le_of_ble_eq_true rfl) (fun hok => ?_)
  simp only [ent]
  refine tG_at hd kScr_init_0 ?_
  simp (disch := omega) only [bScr_init_0, rn, sm, lg, lt_, cmpP, tk, pr_, pu, swl, cs, Nat.reduceAdd, Nat.reduceLeDiff, Nat.zero_le, Nat.le_refl, true_and, and_true, Int.toNat_natCast, Int.reduceToNat, Int.reduceEq, false_implies, true_implies, Int.reduceNeg, Int.cast_ofNat_Int, reduceIte, Int.reduceLT, Int.reduceLE, true_or, or_true, not_true_eq_false, not_false_eq_true, implies_true, uf_ne, uf_at, h6, h2]
  refine ⟨hs0, ?_⟩
  refine (congrArg (fun V => Q none _ V) ?_).mp (hq (uf (uf (uf (uf (uf Γ.1 (s + 1) 10) (s + 1 + 1) 10) (s + 1 + 1 + 1) 10) (s + 1 + 1 + 1 + 1) 10) (s + 1 + 1 + 1 + 1 + 1) 10, uf (uf (uf (uf (uf Γ.2.1 (s + 1) 6) (s + 1 + 1) 100) (s + 1 + 1 + 1) 100) (s + 1 + 1 + 1 + 1) 100) (s + 1 + 1 + 1 + 1 + 1) 100, s + 1 + 1 + 1 + 1 + 1) ⟨by show s + 1 + 1 + 1 + 1 + 1 = Γ.2.2 + 5; omega, fun t ht => ?_⟩ ⟨⟨?_, ?_, ?_, ?_, ?_, ?_⟩, ?_, ?_, ?_, ?_, ?_⟩)
  · symm
    funext c j
    unfold up rz sS scF
    clear hq hok h6 h2
    by_cases hc : c = s
    · subst hc
      have hj : j = 0 ∨ j = 1 ∨ j = 2 ∨ j = 3 ∨ j = 4 ∨ 5 ≤ j := by omega
      rcases hj with rfl | rfl | rfl | rfl | rfl | hj
      all_goals grind (splits := 60)
    · grind (splits := 60)
  · show uf _ _ _ t = _ ∧ uf _ _ _ t = _
    rw [uf_ne (by omega), uf_ne (by omega), uf_ne (by omega), uf_ne (by omega), uf_ne (by omega), uf_ne (by omega), uf_ne (by omega), uf_ne (by omega), uf_ne (by omega), uf_ne (by omega)]
    exact ⟨rfl, rfl⟩
  · show uf _ _ _ s = 6
    rw [uf_ne (by omega), uf_ne (by omega), uf_ne (by omega), uf_ne (by omega), uf_ne (by omega)]
    exact h6
  all_goals simp [uf]
theorem k_histInit (hd : 4 ≤ d) (h1 : Γ.1 h = 1) (h2 : Γ.2.2 = h) (hh0 : h ≠ 0)
    (hq : ∀ Γ', GX Γ Γ' 1 → Γ'.1 h = 1 → Γ'.1 (h + 1) = 15 → (Γ'.2.1 (h + 1) : Int) = 10 → Q none Γ' (up (up (rz V (h + 1)) h 0 ((h + 1 : Nat) : Int)) h 1 0)) : tC w d nHist_init [.inr (.inl h)] Γ V Q := by
  refine tC_enter (nL := 1) (by decide +kernel) (by decide +kernel) rfl (Nat.le_of_ble_eq_true rfl) (fun hok => ?_)
  simp only [ent]
  refine tG_at hd kHist_init_0 ?_
  simp (disch := omega) only [bHist_init_0, rn, sm, lg, lt_, cmpP, tk, pr_, pu, swl, cs, Nat.reduceAdd, Nat.reduceLeDiff, Nat.zero_le, Nat.le_refl, true_and, and_true, Int.toNat_natCast, Int.reduceToNat, Int.reduceEq, false_implies, true_implies, Int.reduceNeg, Int.cast_ofNat_Int, reduceIte, Int.reduceLT, Int.reduceLE, true_or, or_true, not_true_eq_false, not_false_eq_true, implies_true, uf_ne, uf_at, h1, h2]
  refine ⟨hh0, ?_⟩
  refine hq (uf Γ.1 (h + 1) 15, uf Γ.2.1 (h + 1) 10, h + 1) ⟨by show h + 1 = Γ.2.2 + 1; omega, fun t ht => ⟨uf_ne (by omega), uf_ne (by omega)⟩⟩ ?_ uf_at ?_
  · show uf _ _ _ h = 1
    rw [uf_ne (by omega)]
    exact h1
  · show ((uf _ _ _ (h + 1) : Nat) : Int) = 10
    rw [uf_at]
    rfl
/-- the kinds that stand, with n cells more -/
theorem TK.gx {Γ' : GM} {nn : Nat} (hk : TK Γ o) (hx : GX Γ Γ' nn) (ho : o + 1 ≤ Γ.2.2) : TK Γ' o := ⟨(hx.2 _ (by omega)).1.trans hk.1, (hx.2 _ (by omega)).1.trans hk.2.1, by rw [(hx.2 _ (by omega)).2]; exact hk.2.2⟩
theorem SK.gx {Γ' : GM} {nn : Nat} (hk : SK Γ s) (hx : GX Γ Γ' nn) (ho : s + 5 ≤ Γ.2.2) : SK Γ' s := by
  obtain ⟨⟨a0, a1, a2, a3, a4, a5⟩, b1, b2, b3, b4, b5⟩ := hk
  exact ⟨⟨(hx.2 _ (by omega)).1.trans a0, (hx.2 _ (by omega)).1.trans a1, (hx.2 _ (by omega)).1.trans a2, (hx.2 _ (by omega)).1.trans a3, (hx.2 _ (by omega)).1.trans a4, (hx.2 _ (by omega)).1.trans a5⟩, by rw [(hx.2 _ (by omega)).2]; exact b1, by rw [(hx.2 _ (by omega)).2]; exact b2, by rw [(hx.2 _ (by omega)).2]; exact b3, by rw [(hx.2 _ (by omega)).2]; exact b4, by rw [(hx.2 _ (by omega)).2]; exact b5⟩
theorem GX.one {k : Nat} : GX Γ (uf Γ.1 (Γ.2.2 + 1) k, Γ.2.1, Γ.2.2 + 1) 1 := ⟨rfl, fun t ht => ⟨uf_ne (by omega), rfl⟩⟩
set_option maxHeartbeats 2000000 in
theorem T_init (hd7 : 7 ≤ d) (h8 : Γ.1 x = 8) (h2 : Γ.2.2 = x) (hx0 : x ≠ 0) (hz : ∀ j, V x j = 0) (hS : strA w Γ V x)
    (hq : ∀ Γ' V', GX Γ Γ' 594 → (∀ (Z nn : Nat) (Γ2 : GM) (V2 : VH) (T : Nat → Int) (Y : Nat → NT), GX Γ' Γ2 nn → x + 595 ≤ Z + 1 → Z ≤ Γ2.2.2 → (∀ b j, b < x + 595 → V2 b j = V' b j) → CI w Γ2 V2 x Z 0 T 0 2 0 9 (begN 2 (fun _ => 0)) 0 Y) → (∀ b j, b < x ∨ x + 595 ≤ b → V' b j = V b j) → Q none Γ' V') : tC w d nTok_init [.inr (.inl x)] Γ V Q := by
  have hd : 4 ≤ d := by omega
  refine tC_enter (nL := 1) (by decide +kernel) (by decide +kernel) rfl (Nat.le_of_ble_eq_true rfl) (fun hok => ?_)
  simp only [ent]
  refine tG_at hd kTok_init_0 ?_
  simp (disch := omega) only [bTok_init_0, rn, sm, lg, lt_, cmpP, tk, pr_, pu, swl, cs, Nat.reduceAdd, Nat.reduceLeDiff, Nat.zero_le, Nat.le_refl, true_and, and_true, Int.toNat_natCast, Int.reduceToNat, Int.reduceEq, false_implies, true_implies, Int.reduceNeg, Int.cast_ofNat_Int, reduceIte, Int.reduceLT, Int.reduceLE, true_or, or_true, not_true_eq_false, not_false_eq_true, implies_true, uf_ne, uf_at, h8, h2]
  refine ⟨hx0, ?_⟩
  refine k_tapeInit (by omega) uf_at rfl (by omega) (fun j => rz_at) (fun Γ1 gx1 tk1 => ?_)
  have q1 : GX Γ Γ1 2 := by
    subst h2
    exact GX.one.tr gx1 rfl
  have z1 : Γ1.2.2 = x + 2 := by rw [q1.1, h2]
  have k1 : Γ1.1 x = 8 := (q1.2 _ (by omega)).1.trans h8
  have zz1 : Γ1.2.2 + 1 = x + 3 := by omega
  refine tG_at hd kTok_init_12 ?_
  simp (disch := omega) only [bTok_init_12, rn, sm, lg, lt_, cmpP, tk, pr_, pu, swl, cs, Nat.reduceAdd, Nat.reduceLeDiff, Nat.zero_le, Nat.le_refl, true_and, and_true, Int.toNat_natCast, Int.reduceToNat, Int.reduceEq, false_implies, true_implies, Int.reduceNeg, Int.cast_ofNat_Int, reduceIte, Int.reduceLT, Int.reduceLE, true_or, or_true, not_true_eq_false, not_false_eq_true, implies_true, k1, zz1, uf_at]
  refine k_scrInit (by omega) uf_at rfl (by omega) (fun j => rz_at) (fun Γ2 gx2 sk2 => ?_)
  have q2 : GX Γ Γ2 8 := (q1.tr (GX.one (k := 6)) rfl).tr (by rw [zz1]; exact gx2) rfl
  have z2 : Γ2.2.2 = x + 8 := by rw [q2.1, h2]
  have k2 : Γ2.1 x = 8 := (q2.2 _ (by omega)).1.trans h8
  have zz2 : Γ2.2.2 + 1 = x + 9 := by omega
  have tk2 : TK Γ2 (x + 1) := tk1.gx (((GX.one (k := 6)).tr (by rw [zz1]; exact gx2) rfl : GX Γ1 Γ2 6)) (by omega)
  refine tG_at hd kTok_init_23 ?_
  simp (disch := omega) only [bTok_init_23, rn, sm, lg, lt_, cmpP, tk, pr_, pu, swl, cs, Nat.reduceAdd, Nat.reduceLeDiff, Nat.zero_le, Nat.le_refl, true_and, and_true, Int.toNat_natCast, Int.reduceToNat, Int.reduceEq, false_implies, true_implies, Int.reduceNeg, Int.cast_ofNat_Int, reduceIte, Int.reduceLT, Int.reduceLE, true_or, or_true, not_true_eq_false, not_false_eq_true, implies_true, k2, zz2, uf_at]
  refine k_histInit (by omega) uf_at rfl (by omega) (fun Γ3 gx3 e1 e15 e10 => ?_)
  have r3 : GX Γ2 Γ3 2 := (GX.one (k := 1)).tr (by rw [zz2]; exact gx3) rfl
  have q3 : GX Γ Γ3 10 := q2.tr r3 rfl
  have z3 : Γ3.2.2 = x + 10 := by rw [q3.1, h2]
  have k3 : Γ3.1 x = 8 := (q3.2 _ (by omega)).1.trans h8
  have zz3 : Γ3.2.2 + 1 = x + 11 := by omega
  refine tG_at hd kTok_init_34 ?_
  simp (disch := omega) only [bTok_init_34, rn, sm, lg, lt_, cmpP, tk, pr_, pu, swl, cs, Nat.reduceAdd, Nat.reduceLeDiff, Nat.zero_le, Nat.le_refl, true_and, and_true, Int.toNat_natCast, Int.reduceToNat, Int.reduceEq, false_implies, true_implies, Int.reduceNeg, Int.cast_ofNat_Int, reduceIte, Int.reduceLT, Int.reduceLE, true_or, or_true, not_true_eq_false, not_false_eq_true, implies_true, k3, zz3, uf_at]
  refine k_netInit (by omega) uf_at rfl (by omega) (fun j => rz_at) (fun Γ4 A4 B4 S4 q4 gx4 nk4 rn4 => ?_)
  have r4 : GX Γ3 Γ4 292 := (GX.one (k := 4)).tr (by rw [zz3]; exact gx4) rfl
  have q4' : GX Γ Γ4 302 := q3.tr r4 rfl
  have z4 : Γ4.2.2 = x + 302 := by rw [q4'.1, h2]
  have k4 : Γ4.1 x = 8 := (q4'.2 _ (by omega)).1.trans h8
  have zz4 : Γ4.2.2 + 1 = x + 303 := by omega
  refine tG_at hd kTok_init_45 ?_
  simp (disch := omega) only [bTok_init_45, rn, sm, lg, lt_, cmpP, tk, pr_, pu, swl, cs, Nat.reduceAdd, Nat.reduceLeDiff, Nat.zero_le, Nat.le_refl, true_and, and_true, Int.toNat_natCast, Int.reduceToNat, Int.reduceEq, false_implies, true_implies, Int.reduceNeg, Int.cast_ofNat_Int, reduceIte, Int.reduceLT, Int.reduceLE, true_or, or_true, not_true_eq_false, not_false_eq_true, implies_true, k4, zz4, uf_at]
  refine k_netInit (by omega) uf_at rfl (by omega) (fun j => rz_at) (fun Γ5 A5 B5 S5 q5 gx5 nk5 rn5 => ?_)
  have r5 : GX Γ4 Γ5 292 := (GX.one (k := 4)).tr (by rw [zz4]; exact gx5) rfl
  have q5' : GX Γ Γ5 594 := q4'.tr r5 rfl
  have z5 : Γ5.2.2 = x + 594 := by rw [q5'.1, h2]
  have k5 : Γ5.1 x = 8 := (q5'.2 _ (by omega)).1.trans h8
  refine tG_at hd kTok_init_56 ?_
  simp (disch := omega) only [bTok_init_56, rn, sm, lg, lt_, cmpP, tk, pr_, pu, swl, cs, Nat.reduceAdd, Nat.reduceLeDiff, Nat.zero_le, Nat.le_refl, true_and, and_true, Int.toNat_natCast, Int.reduceToNat, Int.reduceEq, false_implies, true_implies, Int.reduceNeg, Int.cast_ofNat_Int, reduceIte, Int.reduceLT, Int.reduceLE, true_or, or_true, not_true_eq_false, not_false_eq_true, implies_true, k5]
  obtain ⟨V1, hV1⟩ : ∃ V1, V1 = tS (rz V (x + 1)) (x + 1) 0 3 0 0 0 (fun _ => 0) := ⟨_, rfl⟩
  rw [← hV1]
  obtain ⟨V2, hV2⟩ : ∃ V2, V2 = sS (rz (up V1 x 0 ((x + 1 : Nat) : Int)) (x + 3)) (x + 3) 0 0 0 0 (fun _ => 0) (fun _ => 0) (fun _ => 0) (fun _ => 0) (fun _ => 0) := ⟨_, rfl⟩
  rw [← hV2]
  obtain ⟨V3, hV3⟩ : ∃ V3, V3 = up (up (rz (rz (up V2 x 1 ((x + 3 : Nat) : Int)) (x + 9)) (x + 9 + 1)) (x + 9) 0 ((x + 9 + 1 : Nat) : Int)) (x + 9) 1 0 := ⟨_, rfl⟩
  rw [← hV3]
  obtain ⟨V4, hV4⟩ : ∃ V4, V4 = nP (rz (up V3 x 2 ((x + 9 : Nat) : Int)) (x + 11)) (x + 11) A4 B4 S4 q4 := ⟨_, rfl⟩
  rw [← hV4]
  obtain ⟨V5, hV5⟩ : ∃ V5, V5 = nP (rz (up V4 x 3 ((x + 11 : Nat) : Int)) (x + 303)) (x + 303) A5 B5 S5 q5 := ⟨_, rfl⟩
  rw [← hV5]
  have f1 : ∀ b j, b < x + 1 ∨ x + 3 ≤ b → V1 b j = V b j := fun b j h => by rw [hV1, t_o (by omega), rz_ne (by omega)]
  have f2 : ∀ b j, b < x + 3 ∨ x + 9 ≤ b → b ≠ x → V2 b j = V1 b j := fun b j h h' => by rw [hV2, y_o (by omega), rz_ne (by omega), up_ne h']
  have f3 : ∀ b j, b ≠ x + 9 → b ≠ x + 10 → b ≠ x → V3 b j = V2 b j := fun b j h h' h2 => by rw [hV3, up_ne h, up_ne h, rz_ne (by omega), rz_ne h, up_ne h2]
  have f4 : ∀ b j, b < x + 11 ∨ x + 303 ≤ b → b ≠ x → V4 b j = V3 b j := fun b j h h' => by rw [hV4, nP_o (by omega), rz_ne (by omega), up_ne h']
  have f5 : ∀ b j, b < x + 303 ∨ x + 595 ≤ b → b ≠ x → V5 b j = V4 b j := fun b j h h' => by rw [hV5, nP_o (by omega), rz_ne (by omega), up_ne h']
  have f6 : ∀ b j, b ≠ x → up (up V5 x 4 ((x + 303 : Nat) : Int)) x 5 0 b j = V5 b j := fun b j h => by rw [up_ne h, up_ne h]
  have p5 : pN V5 (x + 303) (A5, B5, S5, q5) := by rw [hV5]; exact pN.new
  have p4 : pN V4 (x + 11) (A4, B4, S4, q4) := by rw [hV4]; exact pN.new
  refine hq Γ5 _ q5' (fun Z nn Γ6 V7 T Y gx6 hZ1 hZ2 hV7 => ?_) (fun b j hb => ?_)
  · have q6 : GX Γ Γ6 (594 + nn) := q5'.tr gx6 rfl
    have r6 : GX Γ4 Γ6 (292 + nn) := r5.tr gx6 rfl
    have r63 : GX Γ3 Γ6 (292 + (292 + nn)) := r4.tr r6 rfl
    have r62 : GX Γ2 Γ6 (2 + (292 + (292 + nn))) := r3.tr r63 rfl
    have v : ∀ b j, b < x + 595 → b ≠ x → V7 b j = V5 b j := fun b j h h' => (hV7 b j h).trans (f6 b j h')
    have vx : ∀ j, V7 x j = up (up V5 x 4 ((x + 303 : Nat) : Int)) x 5 0 x j := fun j => hV7 x j (by omega)
    have lo : ∀ b j, b < x → V7 b j = V b j := fun b j hb => by rw [v b j (by omega) (by omega), f5 b j (by omega) (by omega), f4 b j (by omega) (by omega), f3 b j (by omega) (by omega) (by omega), f2 b j (by omega) (by omega), f1 b j (by omega)]
    have mid : ∀ b j, x + 1 ≤ b → b < x + 9 → V7 b j = V2 b j := fun b j h h' => by rw [v b j (by omega) (by omega), f5 b j (by omega) (by omega), f4 b j (by omega) (by omega), f3 b j (by omega) (by omega) (by omega)]
    have h9 : ∀ b j, x + 9 ≤ b → b < x + 11 → V7 b j = V3 b j := fun b j h h' => by rw [v b j (by omega) (by omega), f5 b j (by omega) (by omega), f4 b j (by omega) (by omega)]
    refine ⟨⟨hZ1, hZ2, by omega⟩, (hS.fr lo).gx q6 (by omega), ⟨tk2.gx r62 (by omega), by omega, 3, 0, 0, 0, fun _ => 0, fun j => ?_, fun j => ?_, fun j hj => absurd hj (by omega)⟩, ⟨sk2.gx r62 (by omega), 0, 0, 0, 0, fun _ => 0, fun _ => 0, fun _ => 0, fun _ => 0, fun _ => 0, fun j => ?_, fun j => ?_, fun j => ?_, fun j => ?_, fun j => ?_, fun j => ?_⟩, fun u => if u = 0 then x + 11 else x + 303, fun u => if u = 0 then (A4, B4, S4, q4) else (A5, B5, S5, q5), 0, by omega, by omega, ⟨⟨(q6.2 _ (by omega)).1.trans h8, (r63.2 _ (by omega)).1.trans e1, (r63.2 _ (by omega)).1.trans e15, by rw [(r63.2 _ (by omega)).2]; exact e10⟩, ⟨?_, ?_, ?_, ?_, ?_, ?_⟩, ?_, ?_, fun j hj => ?_⟩, ⟨fun u hu => ?_, fun a b ha hb hab => ?_⟩, ⟨⟨GJ.beg (by omega) (by omega) (fun j _ => by omega), RW.beg, rn4⟩, fun i hi => absurd hi (by omega)⟩⟩
    · rw [mid _ _ (by omega) (by omega), f2 _ _ (by omega) (by omega), hV1]
      exact if_pos rfl
    · rw [mid _ _ (by omega) (by omega), f2 _ _ (by omega) (by omega), hV1]
      exact t_a
    · rw [mid _ _ (by omega) (by omega), hV2]
      exact if_pos rfl
    · rw [mid _ _ (by omega) (by omega), hV2]
      exact y_a1
    · rw [mid _ _ (by omega) (by omega), hV2]
      exact y_a2
    · rw [mid _ _ (by omega) (by omega), hV2]
      exact y_a3
    · rw [mid _ _ (by omega) (by omega), hV2]
      exact y_a4
    · rw [mid _ _ (by omega) (by omega), hV2]
      exact y_a5
    · rw [vx, up_nj (by omega), up_nj (by omega), hV5, nP_o (by omega), rz_ne (by omega), up_nj (by omega), hV4, nP_o (by omega), rz_ne (by omega), up_nj (by omega), hV3, up_ne (by omega), up_ne (by omega), rz_ne (by omega), rz_ne (by omega), up_nj (by omega), hV2, y_o (by omega), rz_ne (by omega), up_at]
    · rw [vx, up_nj (by omega), up_nj (by omega), hV5, nP_o (by omega), rz_ne (by omega), up_nj (by omega), hV4, nP_o (by omega), rz_ne (by omega), up_nj (by omega), hV3, up_ne (by omega), up_ne (by omega), rz_ne (by omega), rz_ne (by omega), up_at]
    · rw [vx, up_nj (by omega), up_nj (by omega), hV5, nP_o (by omega), rz_ne (by omega), up_nj (by omega), hV4, nP_o (by omega), rz_ne (by omega), up_at]
    · rw [vx, up_nj (by omega), up_nj (by omega), hV5, nP_o (by omega), rz_ne (by omega), up_at]
      rfl
    · rw [vx, up_nj (by omega), up_at]
      rfl
    · rw [vx, up_at]
    · rw [h9 _ _ (by omega) (by omega), hV3, up_nj (by omega), up_at]
    · rw [h9 _ _ (by omega) (by omega), hV3, up_at]
      rfl
    · rw [h9 _ _ (by omega) (by omega), hV3, up_ne (by omega), up_ne (by omega), rz_at, if_neg (by omega)]
    · have hu2 : u = 0 ∨ u = 1 := by omega
      rcases hu2 with rfl | rfl
      · refine ⟨nk4.ext r6 (by omega), rn4.2.2.2.2.1, p4.fr (fun b j h h' => ?_), Or.inl ⟨by show x + 11 ≤ x + 11; omega, by show x + 11 + 292 ≤ x + 595; omega⟩, by show x + 11 + 292 ≤ _; rw [q6.1]; omega⟩
        have h : x + 11 ≤ b := h
        have h' : b < x + 11 + 292 := h'
        rw [v b j (by omega) (by omega), f5 b j (by omega) (by omega)]
      · refine ⟨nk5.ext gx6 (by omega), rn5.2.2.2.2.1, p5.fr (fun b j h h' => ?_), Or.inl ⟨by show x + 11 ≤ x + 303; omega, by show x + 303 + 292 ≤ x + 595; omega⟩, by show x + 303 + 292 ≤ _; rw [q6.1]; omega⟩
        have h : x + 303 ≤ b := h
        have h' : b < x + 303 + 292 := h'
        exact v b j (by omega) (by omega)
    · have h1 : a = 0 ∧ b = 1 ∨ a = 1 ∧ b = 0 := by omega
      rcases h1 with ⟨rfl, rfl⟩ | ⟨rfl, rfl⟩
      · left
        show x + 11 + 292 ≤ x + 303
        omega
      · right
        show x + 11 + 292 ≤ x + 303
        omega
  · rw [f6 b j (by omega), f5 b j (by omega) (by omega), f4 b j (by omega) (by omega), f3 b j (by omega) (by omega) (by omega), f2 b j (by omega) (by omega), f1 b j (by omega)]
end IN
