/-! THE CLASS: constructors of passes, messages, members -/
theorem tG_loopA {w : WP} {d n pc : Nat} {Q : QT} (L : Nat → LT) (U US : Nat → Nat) (R : Nat → GM → VH → Prop) (hi : Nat)
    (step : ∀ k Γ V, k < hi → R k Γ V → (∀ Γ' V', R (k + 1) Γ' V' → tG w d n pc (L (k + 1)) [] Γ' V' (U (k + 1)) (US (k + 1)) Q) → tG w d n pc (L k) [] Γ V (U k) (US k) Q) (fin : ∀ Γ V, R hi Γ V → tG w d n pc (L hi) [] Γ V (U hi) (US hi) Q) :
    ∀ k Γ V, k ≤ hi → R k Γ V → tG w d n pc (L k) [] Γ V (U k) (US k) Q := by
  intro k Γ V hk hR
  obtain ⟨m, hm⟩ : ∃ m, k + m = hi := ⟨hi - k, by omega⟩
  induction m generalizing k Γ V with
  | zero =>
    have : k = hi := by omega
    subst this
    exact fin Γ V hR
  | succ m ih => exact step k Γ V (by omega) hR (fun Γ' V' h' => ih (k + 1) Γ' V' (by omega) h' (by omega))
/-- n cells more -/
def GX (Γ Γ' : GM) (n : Nat) : Prop := Γ'.2.2 = Γ.2.2 + n ∧ ∀ t, t ≤ Γ.2.2 → Γ'.1 t = Γ.1 t ∧ Γ'.2.1 t = Γ.2.1 t
theorem GX.tr {Γ Γ' Γ'' : GM} {n m k : Nat} (h : GX Γ Γ' n) (h' : GX Γ' Γ'' m) (hk : k = n + m) : GX Γ Γ'' k := by
  refine ⟨by rw [h'.1, h.1, hk, Nat.add_assoc], fun t ht => ?_⟩
  have h1 := h.2 t ht
  have h2 := h'.2 t (by rw [h.1]; omega)
  exact ⟨h2.1.trans h1.1, h2.2.trans h1.2⟩
theorem bS_eq {V W : VH} {a n : Nat} {D : Nat → Nat → Int} (h1 : ∀ i j, i < n → W (a + i) j = D i j) (h2 : ∀ c j, c < a ∨ a + n ≤ c → W c j = V c j) : W = bS V a n D := by
  funext c j
  by_cases hc : a ≤ c ∧ c < a + n
  · obtain ⟨i, rfl⟩ : ∃ i, c = a + i := ⟨c - a, by omega⟩
    rw [bS_i (by omega)]
    exact h1 i j (by omega)
  · rw [bS_o (by omega)]
    exact h2 c j (by omega)
theorem pic_p0 {p r j : Nat} : pic pI (pZ p) (fun _ => 0) r j = pZ p r j := by
  cases hI : pI r j with
  | none => exact pic_n hI
  | some i =>
    rw [pic_s hI]
    unfold pI at hI
    unfold pZ
    grind
section IN
variable {w : WP} {d : Nat} {Γ : GM} {V : VH} {Q : QT} {p G M : Nat}
theorem k_passInit (hd : 4 ≤ d) (h5 : Γ.1 p = 5) (h2 : Γ.2.2 = p) (hp0 : p ≠ 0) (hz : ∀ j, V p j = 0)
    (hq : ∀ Γ', GX Γ Γ' 3 → PK Γ' p → Q none Γ' (pS V p (fun _ => 0))) : tC w d nPass_init [.inr (.inl p)] Γ V Q := by
  refine tC_enter (nL := 1) (by decide +kernel) (by decide +kernel) rfl (Nat.le_of_ble_eq_true rfl) (fun hok => ?_)
  simp only [ent]
  refine tG_at hd kPass_init_0 ?_
  simp (disch := omega) only [bPass_init_0, rn, sm, lg, lt_, cmpP, tk, pr_, pu, swl, cs, Nat.reduceAdd, Nat.reduceLeDiff, Nat.zero_le, Nat.le_refl, true_and, and_true, Int.toNat_natCast, Int.reduceToNat, Int.reduceEq, false_implies, true_implies, Int.reduceNeg, Int.cast_ofNat_Int, reduceIte, Int.reduceLT, Int.reduceLE, true_or, or_true, not_true_eq_false, not_false_eq_true, implies_true, uf_ne, uf_at, h5, h2]
  refine ⟨hp0, ?_⟩
  refine (congrArg (fun V => Q none _ V) ?_).mp (hq (uf (uf (uf Γ.1 (p + 1) 10) (p + 1 + 1) 10) (p + 1 + 1 + 1) 10, uf (uf (uf Γ.2.1 (p + 1) 6) (p + 1 + 1) 6) (p + 1 + 1 + 1) 6, p + 1 + 1 + 1) ⟨by show p + 1 + 1 + 1 = Γ.2.2 + 3; omega, fun t ht => ?_⟩ ?_)
  · symm
    refine bS_eq (fun i j hi => ?_) (fun c j hc => ?_)
    · rw [pic_p0]
      have : i = 0 ∨ 1 ≤ i := by omega
      clear hq hok h5 h2
      rcases this with rfl | h1
      all_goals unfold up rz pZ
      all_goals grind (splits := 40)
    · unfold up rz
      clear hq hok h5 h2
      grind (splits := 40)
  · show uf _ _ _ t = _ ∧ uf _ _ _ t = _
    unfold uf
    grind
  · refine ⟨⟨?_, ?_, ?_, ?_⟩, ?_, ?_, ?_⟩
    · show uf _ _ _ p = 5
      rw [uf_ne (by omega), uf_ne (by omega), uf_ne (by omega)]
      exact h5
    all_goals simp [uf]
theorem pS_0 {c j : Nat} : pS V p (fun _ => 0) c j = if p ≤ c ∧ c < p + 4 then pZ p (c - p) j else V c j := by
  unfold pS bS
  rw [pic_p0]
theorem pic_g0 {r j : Nat} : pic gI (gZ G) (fun _ => 0) r j = gZ G r j := by
  cases hI : gI r j with
  | none => exact pic_n hI
  | some i =>
    rw [pic_s hI]
    unfold gI pI at hI
    unfold gZ pZ
    grind
theorem k_messInit (hd5 : 5 ≤ d) (h3 : Γ.1 G = 3) (h2 : Γ.2.2 = G) (hG0 : G ≠ 0) (hz : ∀ j, V G j = 0)
    (hq : ∀ Γ', GX Γ Γ' 4 → Γ'.1 G = 3 → PK Γ' (G + 1) → Q none Γ' (bS V G 5 (pic gI (gZ G) (fun _ => 0)))) : tC w d nMess_init [.inr (.inl G)] Γ V Q := by
  have hd : 4 ≤ d := by omega
  refine tC_enter (nL := 1) (by decide +kernel) (by decide +kernel) rfl (Nat.le_of_ble_eq_true rfl) (fun hok => ?_)
  simp only [ent]
  refine tG_at hd kMess_init_0 ?_
  simp (disch := omega) only [bMess_init_0, rn, sm, lg, lt_, cmpP, tk, pr_, pu, swl, cs, Nat.reduceAdd, Nat.reduceLeDiff, Nat.zero_le, Nat.le_refl, true_and, and_true, Int.toNat_natCast, Int.reduceToNat, Int.reduceEq, false_implies, true_implies, Int.reduceNeg, Int.cast_ofNat_Int, reduceIte, Int.reduceLT, Int.reduceLE, true_or, or_true, not_true_eq_false, not_false_eq_true, implies_true, uf_ne, uf_at, h3, h2]
  refine ⟨hG0, ?_⟩
  refine k_passInit (by omega) uf_at rfl (by omega) (fun j => rz_at) (fun Γ' gx pk => ?_)
  have e3 : Γ'.1 G = 3 := ((gx.2 G (by show G ≤ G + 1; omega)).1).trans ((uf_ne (by omega)).trans h3)
  refine tG_at hd kMess_init_12 ?_
  simp (disch := omega) only [bMess_init_12, rn, sm, lg, lt_, cmpP, tk, pr_, pu, swl, cs, Nat.reduceAdd, Nat.reduceLeDiff, Nat.zero_le, Nat.le_refl, true_and, and_true, Int.toNat_natCast, Int.reduceToNat, Int.reduceEq, false_implies, true_implies, Int.reduceNeg, Int.cast_ofNat_Int, reduceIte, Int.reduceLT, Int.reduceLE, true_or, or_true, not_true_eq_false, not_false_eq_true, implies_true, e3]
  refine (congrArg (fun V => Q none Γ' V) ?_).mp (hq Γ' ⟨by rw [gx.1]; show G + 1 + 3 = Γ.2.2 + 4; omega, fun t ht => ?_⟩ e3 pk)
  · symm
    refine bS_eq (fun i j hi => ?_) (fun c j hc => ?_)
    · rw [pic_g0]
      have : i = 0 ∨ 1 ≤ i := by omega
      clear hq hok h3 h2 gx pk e3
      rcases this with rfl | h1
      all_goals unfold up
      all_goals rw [pS_0]
      all_goals unfold rz gZ pZ
      all_goals grind (splits := 40)
    · unfold up
      rw [pS_0]
      unfold rz
      clear hq hok h3 h2 gx pk e3
      grind (splits := 40)
  · have := gx.2 t (by show t ≤ G + 1; omega)
    exact ⟨this.1.trans (uf_ne (by omega)), this.2⟩
theorem pic_e1 {r j : Nat} : pic eI (eZ M) (fun j => if j = 1 then 1 else 0) r j = if r = 0 ∧ j = 7 then 1 else eZ M r j := by
  cases hI : eI r j with
  | none =>
    rw [pic_n hI]
    unfold eI pI at hI
    grind
  | some i =>
    rw [pic_s hI]
    unfold eI pI at hI
    unfold eZ pZ
    grind (splits := 40)
def MKm (Γ : GM) (M : Nat) : Prop := (Γ.1 M = 2 ∧ Γ.1 (M + 1) = 10 ∧ Γ.1 (M + 2) = 10 ∧ Γ.1 (M + 3) = 10 ∧ Γ.1 (M + 4) = 10) ∧ ((Γ.2.1 (M + 1) : Int) = 6 ∧ (Γ.2.1 (M + 2) : Int) = 6 ∧ (Γ.2.1 (M + 3) : Int) = 6 ∧ (Γ.2.1 (M + 4) : Int) = 6) ∧ PK Γ (M + 5)
theorem k_membInit (hd5 : 5 ≤ d) (h3 : Γ.1 M = 2) (h2 : Γ.2.2 = M) (hM0 : M ≠ 0) (hz : ∀ j, V M j = 0)
    (hq : ∀ Γ', GX Γ Γ' 8 → MKm Γ' M → Q none Γ' (bS V M 9 (pic eI (eZ M) (fun j => if j = 1 then 1 else 0)))) : tC w d nMemb_init [.inr (.inl M)] Γ V Q := by
  have hd : 4 ≤ d := by omega
  refine tC_enter (nL := 1) (by decide +kernel) (by decide +kernel) rfl (Nat.le_of_ble_eq_true rfl) (fun hok => ?_)
  simp only [ent]
  refine tG_at hd kMemb_init_0 ?_
  simp (disch := omega) only [bMemb_init_0, rn, sm, lg, lt_, cmpP, tk, pr_, pu, swl, cs, Nat.reduceAdd, Nat.reduceLeDiff, Nat.zero_le, Nat.le_refl, true_and, and_true, Int.toNat_natCast, Int.reduceToNat, Int.reduceEq, false_implies, true_implies, Int.reduceNeg, Int.cast_ofNat_Int, reduceIte, Int.reduceLT, Int.reduceLE, true_or, or_true, not_true_eq_false, not_false_eq_true, implies_true, uf_ne, uf_at, h3, h2]
  refine ⟨hM0, ?_⟩
  refine k_passInit (by omega) uf_at rfl (by omega) (fun j => rz_at) (fun Γ' gx pk => ?_)
  have g1 : Γ'.2.2 = M + 8 := gx.1
  have g2 : ∀ t, t ≤ M + 5 → Γ'.1 t = uf (uf (uf (uf (uf Γ.1 (M + 1) 10) (M + 2) 10) (M + 3) 10) (M + 4) 10) (M + 5) 5 t ∧ Γ'.2.1 t = uf (uf (uf (uf Γ.2.1 (M + 1) 6) (M + 2) 6) (M + 3) 6) (M + 4) 6 t := gx.2
  have e3 : Γ'.1 M = 2 := by
    rw [(g2 M (by omega)).1, uf_ne (by omega), uf_ne (by omega), uf_ne (by omega), uf_ne (by omega), uf_ne (by omega)]
    exact h3
  refine tG_at hd kMemb_init_44 ?_
  simp (disch := omega) only [bMemb_init_44, rn, sm, lg, lt_, cmpP, tk, pr_, pu, swl, cs, Nat.reduceAdd, Nat.reduceLeDiff, Nat.zero_le, Nat.le_refl, true_and, and_true, Int.toNat_natCast, Int.reduceToNat, Int.reduceEq, false_implies, true_implies, Int.reduceNeg, Int.cast_ofNat_Int, reduceIte, Int.reduceLT, Int.reduceLE, true_or, or_true, not_true_eq_false, not_false_eq_true, implies_true, e3]
  refine (congrArg (fun V => Q none Γ' V) ?_).mp (hq Γ' ⟨by omega, fun t ht => ?_⟩ ⟨⟨e3, ?_, ?_, ?_, ?_⟩, ⟨?_, ?_, ?_, ?_⟩, pk⟩)
  · symm
    refine bS_eq (fun i j hi => ?_) (fun c j hc => ?_)
    · rw [pic_e1]
      have : i = 0 ∨ i = 1 ∨ i = 2 ∨ i = 3 ∨ i = 4 ∨ 5 ≤ i := by omega
      clear hq hok h3 h2 gx pk e3 g1 g2
      rcases this with rfl | rfl | rfl | rfl | rfl | h5
      all_goals unfold up
      all_goals rw [pS_0]
      all_goals unfold rz eZ pZ
      all_goals grind (splits := 60)
    · unfold up
      rw [pS_0]
      unfold rz
      clear hq hok h3 h2 gx pk e3 g1 g2
      grind (splits := 60)
  · rw [(g2 t (by omega)).1, (g2 t (by omega)).2]
    unfold uf
    clear hq hok gx pk e3 g1 g2
    grind
  · rw [(g2 _ (by omega)).1]; simp [uf]
  · rw [(g2 _ (by omega)).1]; simp [uf]
  · rw [(g2 _ (by omega)).1]; simp [uf]
  · rw [(g2 _ (by omega)).1]; simp [uf]
  · rw [(g2 _ (by omega)).2]; simp [uf]
  · rw [(g2 _ (by omega)).2]; simp [uf]
  · rw [(g2 _ (by omega)).2]; simp [uf]
  · rw [(g2 _ (by omega)).2]; simp [uf]
end IN
