/-! THE CLASS: a net's constructor -/
def nA0 : Nat → Int := fun j => if j = 0 then 2 else if j = 7 then -1 else 0
def nB1 : Nat → Nat → Int := fun _ j => if j = 1 then 1 else 0
def nS0 : Nat → Nat → Int := fun _ _ => 0
def nq0 : Nat → Nat := fun j => j
theorem up_nj {V : VH} {a k : Nat} {x : Int} {b j : Nat} (h : j ≠ k) : up V a k x b j = V b j := if_neg (fun e => h e.2)
/-- a net that is being made: a members, b messages stand in its rows -/
def pcN (o a b : Nat) (r j : Nat) : Int := if r = 1 then (if j < a then ((o + (8 + 9 * j) : Nat) : Int) else 0) else if r = 2 then (if j < b then ((o + (62 + 5 * j) : Nat) : Int) else 0) else nC o nA0 nB1 nS0 nq0 r j
def MKg (Γ : GM) (G : Nat) : Prop := Γ.1 G = 3 ∧ PK Γ (G + 1)
def BK (Γ : GM) (o : Nat) : Prop := (Γ.1 o = 4 ∧ Γ.1 (o + 1) = 13 ∧ Γ.1 (o + 2) = 14) ∧ ((Γ.2.1 (o + 1) : Int) = 6 ∧ (Γ.2.1 (o + 2) : Int) = 46) ∧ MKg Γ (o + 3)
section IN
variable {w : WP} {d : Nat} {Γ Γ' : GM} {V : VH} {Q : QT} {o p G M n : Nat}
theorem PK.ext (h : PK Γ p) (hx : GX Γ Γ' n) (hp : p + 3 ≤ Γ.2.2) : PK Γ' p := by
  obtain ⟨⟨a, b, c, e⟩, f, g, i⟩ := h
  refine ⟨⟨?_, ?_, ?_, ?_⟩, ?_, ?_, ?_⟩
  · rw [(hx.2 _ (by omega)).1]; exact a
  · rw [(hx.2 _ (by omega)).1]; exact b
  · rw [(hx.2 _ (by omega)).1]; exact c
  · rw [(hx.2 _ (by omega)).1]; exact e
  · rw [(hx.2 _ (by omega)).2]; exact f
  · rw [(hx.2 _ (by omega)).2]; exact g
  · rw [(hx.2 _ (by omega)).2]; exact i
theorem MKg.ext (h : MKg Γ G) (hx : GX Γ Γ' n) (hp : G + 4 ≤ Γ.2.2) : MKg Γ' G := ⟨by rw [(hx.2 _ (by omega)).1]; exact h.1, h.2.ext hx (by omega)⟩
theorem MKm.ext (h : MKm Γ M) (hx : GX Γ Γ' n) (hp : M + 8 ≤ Γ.2.2) : MKm Γ' M := by
  obtain ⟨⟨a, b, c, e, f⟩, ⟨g, i, k, l⟩, m⟩ := h
  refine ⟨⟨?_, ?_, ?_, ?_, ?_⟩, ⟨?_, ?_, ?_, ?_⟩, m.ext hx (by omega)⟩
  · rw [(hx.2 _ (by omega)).1]; exact a
  · rw [(hx.2 _ (by omega)).1]; exact b
  · rw [(hx.2 _ (by omega)).1]; exact c
  · rw [(hx.2 _ (by omega)).1]; exact e
  · rw [(hx.2 _ (by omega)).1]; exact f
  · rw [(hx.2 _ (by omega)).2]; exact g
  · rw [(hx.2 _ (by omega)).2]; exact i
  · rw [(hx.2 _ (by omega)).2]; exact k
  · rw [(hx.2 _ (by omega)).2]; exact l
theorem BK.ext (h : BK Γ o) (hx : GX Γ Γ' n) (hp : o + 7 ≤ Γ.2.2) : BK Γ' o := by
  obtain ⟨⟨a, b, c⟩, ⟨e, f⟩, g⟩ := h
  refine ⟨⟨?_, ?_, ?_⟩, ⟨?_, ?_⟩, g.ext hx (by omega)⟩
  · rw [(hx.2 _ (by omega)).1]; exact a
  · rw [(hx.2 _ (by omega)).1]; exact b
  · rw [(hx.2 _ (by omega)).1]; exact c
  · rw [(hx.2 _ (by omega)).2]; exact e
  · rw [(hx.2 _ (by omega)).2]; exact f
theorem pcN_0 {a b j : Nat} : pcN o a b 0 j = nC o nA0 nB1 nS0 nq0 0 j := by
  unfold pcN
  rw [if_neg (by omega), if_neg (by omega)]
theorem pcN_m {a b m r j : Nat} (hm : m < 6) (hr : r < 9) : pcN o a b (8 + 9 * m + r) j = pic eI (eZ (o + (8 + 9 * m))) (fun j => if j = 1 then 1 else 0) r j := by
  unfold pcN
  rw [if_neg (by omega), if_neg (by omega), nC_e hm hr]
  rfl
theorem pcN_g {a b e r j : Nat} (he : e < 46) (hr : r < 5) : pcN o a b (62 + 5 * e + r) j = pic gI (gZ (o + (62 + 5 * e))) (fun _ => 0) r j := by
  unfold pcN
  have h := nC_g (o := o) (A := nA0) (B := nB1) (S := nS0) (q := nq0) (j := j) (show e < 47 by omega) hr
  have hs : sa e = 62 + 5 * e := by
    unfold sa
    rw [if_neg (by omega)]
  rw [hs] at h
  rw [if_neg (by omega), if_neg (by omega), h]
  rfl
theorem pcN_t {a b r j : Nat} (hr : r < 5) : pcN o a b (3 + r) j = pic gI (gZ (o + 3)) (fun _ => 0) r j := by
  unfold pcN
  have h := nC_g (o := o) (A := nA0) (B := nB1) (S := nS0) (q := nq0) (j := j) (show 46 < 47 by omega) hr
  have hs : sa 46 = 3 := by
    unfold sa
    rw [if_pos rfl]
  rw [hs] at h
  rw [if_neg (by omega), if_neg (by omega), h]
  rfl
theorem pcN_c {a b a' b' r j : Nat} (h1 : r ≠ 1) (h2 : r ≠ 2) : pcN o a b r j = pcN o a' b' r j := by
  unfold pcN
  rw [if_neg h1, if_neg h2, if_neg h1, if_neg h2]
theorem pcN_1 {a b j : Nat} : pcN o a b 1 j = if j < a then ((o + (8 + 9 * j) : Nat) : Int) else 0 := if_pos rfl
theorem pcN_2 {a b j : Nat} : pcN o a b 2 j = if j < b then ((o + (62 + 5 * j) : Nat) : Int) else 0 := by
  unfold pcN
  rw [if_neg (by omega), if_pos rfl]
set_option maxHeartbeats 2000000 in
theorem k_netInit (hd6 : 6 ≤ d) (h4 : Γ.1 o = 4) (h2 : Γ.2.2 = o) (ho0 : o ≠ 0) (hz : ∀ j, V o j = 0)
    (hq : ∀ Γ' A B S q, GX Γ Γ' 291 → NK Γ' o → RN 2 9 A B S q (begN 2 (fun _ => 0)) → Q none Γ' (nP V o A B S q)) : tC w d nNet_init [.inr (.inl o)] Γ V Q := by
  have hd : 4 ≤ d := by omega
  -- the end
  have k127 : ∀ (Γ' : GM), GX Γ Γ' 291 → BK Γ' o → (∀ m, m < 6 → MKm Γ' (o + (8 + 9 * m))) → (∀ e, e < 46 → MKg Γ' (o + (62 + 5 * e))) → tG w d nNet_init 127 [some (.inr (.inl o)), some (.inl 46)] [] Γ' (bS V o 292 (pcN o 6 46)) 291 1775 Q := by
    intro Γ' gx bk hm hg
    have sa46 : sa 46 = 3 := if_pos rfl
    have sae : ∀ e, e < 47 → (e = 46 ∧ sa e = 3) ∨ (e < 46 ∧ sa e = 62 + 5 * e) := fun e he => by
      unfold sa
      split <;> omega
    have gk : ∀ e, e < 47 → MKg Γ' (o + sa e) := fun e he => by
      rcases sae e he with ⟨h, h'⟩ | ⟨h, h'⟩
      · rw [h']
        exact bk.2.2
      · rw [h']
        exact hg e h
    have hN : NK Γ' o := ⟨bk.1, bk.2.1, ⟨fun m h => (hm m h).1.1, fun m h => (hm m h).1.2.1, fun m h => (hm m h).1.2.2.1, fun m h => (hm m h).1.2.2.2.1, fun m h => (hm m h).1.2.2.2.2, fun m h => (hm m h).2.2.1.1, fun m h => (hm m h).2.2.1.2.1, fun m h => (hm m h).2.2.1.2.2.1, fun m h => (hm m h).2.2.1.2.2.2⟩, ⟨fun m h => (hm m h).2.1.1, fun m h => (hm m h).2.1.2.1, fun m h => (hm m h).2.1.2.2.1, fun m h => (hm m h).2.1.2.2.2, fun m h => (hm m h).2.2.2.1, fun m h => (hm m h).2.2.2.2.1, fun m h => (hm m h).2.2.2.2.2⟩, ⟨fun e h => (gk e h).1, fun e h => (gk e h).2.1.1, fun e h => (gk e h).2.1.2.1, fun e h => (gk e h).2.1.2.2.1, fun e h => (gk e h).2.1.2.2.2⟩, fun e h => (gk e h).2.2.1, fun e h => (gk e h).2.2.2.1, fun e h => (gk e h).2.2.2.2⟩
    have eV : bS V o 292 (pcN o 6 46) = nP V o nA0 nB1 nS0 nq0 := by
      unfold nP
      refine bS_e (fun i j hi => ?_)
      unfold pcN
      by_cases h1 : i = 1
      · subst h1
        rw [if_pos rfl]
        rfl
      · rw [if_neg h1]
        by_cases h2 : i = 2
        · subst h2
          rw [if_pos rfl]
          show _ = if j < 46 then ((o + sa (nq0 j) : Nat) : Int) else 0
          by_cases hj : j < 46
          · rw [if_pos hj, if_pos hj]
            have : sa (nq0 j) = 62 + 5 * j := if_neg (show ¬ j = 46 by omega)
            rw [this]
          · rw [if_neg hj, if_neg hj]
        · rw [if_neg h2]
    rw [eV]
    obtain ⟨z, hz⟩ : ∃ z : Nat, z = 0 := ⟨_, rfl⟩
    have hz0 : (0 : Int).toNat = z := hz.symm
    have hz6 : z < 6 := by omega
    obtain ⟨⟨kg0, kg1, kg2⟩, ⟨kl1, kl2⟩, ⟨km0, km1, km2, km3, km4, km5, km6, km7, km8⟩, ⟨kk1, kk2, kk3, kk4, kk6, kk7, kk8⟩, ⟨kx0, kx1, kx2, kx3, kx4⟩, ⟨ky2, ky3, ky4⟩⟩ := id hN
    refine tG_at hd kNet_init_127 ?_
    simp (disch := omega) only [bNet_init_127, rn, sm, lg, lt_, cmpP, tk, pr_, pu, swl, cs, Nat.reduceAdd, Nat.reduceLeDiff, Nat.zero_le, Nat.le_refl, true_and, and_true, Int.toNat_natCast, hz0, Int.reduceEq, false_implies, true_implies, Int.reduceNeg, Int.cast_ofNat_Int, n_r0, n_all, n_m4, n_u12, n_q3, kg0, kg1, kl1, km0, km5, reduceIte, true_or, or_true, Int.reduceLT, Int.reduceLE, ileT, iltT, uR_at, uR_uR]
    refine hq Γ' _ _ _ _ gx hN ⟨fun j hj => ?_, ?_, fun i hi => ?_, fun j hj => absurd hj (by show ¬ (j : Int) < 0; omega), ⟨fun j hj => by show j < 47; omega, fun i j _ _ h => h⟩, fun i hi => ?_⟩
    · show nA0 j = if j = 0 then ((2 : Nat) : Int) else 0
      unfold nA0
      by_cases h : j = 0
      · rw [if_pos h, if_pos h]; rfl
      · rw [if_neg h, if_neg h, if_neg (by omega)]
    · show 0 ≤ nA0 6 ∧ nA0 6 ≤ ((9 : Nat) : Int)
      decide
    · have er := fun j => begN_row (r := fun _ => 0) hi j
      by_cases hiz : i = z
      · subst hiz
        rw [uR_at]
        rw [hz] at er ⊢
        refine ⟨fun j hj => ?_, ?_, ?_, fun _ => ⟨fun j h1 h2 => ?_, fun x hx => ?_⟩, fun a ha hv => ?_⟩
        · rw [er]; unfold u1 nB1; grind
        · rw [er]; unfold u1 nB1; grind
        · rw [er]; unfold u1 nB1; grind
        · rw [er]; unfold u1 nB1; grind
        · rw [er, if_neg (by omega), if_neg (by omega), if_neg (by omega)] at hx
          omega
        · rw [er, if_neg (by omega), if_neg (by omega), if_neg (by omega)] at hv
          exact absurd hv (vb_0 a)
      · rw [uR_ne hiz]
        refine ⟨fun j hj => ?_, ?_, ?_, fun h => ?_, fun a ha hv => ?_⟩
        · rw [er]; unfold nB1; grind
        · rw [er]; unfold nB1; grind
        · rw [er]; unfold nB1; grind
        · rw [er, if_neg (by omega), if_neg (by omega), if_neg (by omega)] at h
          omega
        · rw [er, if_neg (by omega), if_neg (by omega), if_neg (by omega)] at hv
          exact absurd hv (vb_0 a)
    · by_cases hiz : i = z
      · subst hiz
        rw [uR_at]
        exact ⟨Or.inl rfl, Or.inl rfl, Or.inr rfl⟩
      · rw [uR_ne hiz]
        exact ⟨Or.inl rfl, Or.inl rfl, Or.inl rfl⟩
  -- the messages
  have k102 : ∀ (Γ' : GM), GX Γ Γ' 61 → BK Γ' o → (∀ m, m < 6 → MKm Γ' (o + (8 + 9 * m))) → tG w d nNet_init 102 [some (.inr (.inl o)), some (.inl 0)] [] Γ' (bS V o 62 (pcN o 6 0)) 61 441 Q := by
    intro Γ' gx bk hm
    have := tG_loopA (w := w) (d := d) (n := nNet_init) (pc := 102) (Q := Q) (fun i => [some (.inr (.inl o)), some (.inl (i : Int))]) (fun i => 61 + 5 * i) (fun i => 441 + 29 * i) (fun i Γ' V' => GX Γ Γ' (61 + 5 * i) ∧ BK Γ' o ∧ (∀ m, m < 6 → MKm Γ' (o + (8 + 9 * m))) ∧ (∀ e, e < i → MKg Γ' (o + (62 + 5 * e))) ∧ V' = bS V o (62 + 5 * i) (pcN o 6 i)) 46 ?_ ?_ 0 Γ' _ (Nat.zero_le _) ⟨gx, bk, hm, fun e he => absurd he (by omega), rfl⟩
    · exact this
    · intro i Γ' V' hi hR k1
      obtain ⟨gx, bk, hm, hg, hV⟩ := hR
      have v1 : V' o 1 = ((o + 2 : Nat) : Int) := by
        rw [hV]
        exact (bS_i (i := 0) (by omega)).trans (pcN_0.trans rfl)
      have hz2 : Γ'.2.2 = o + (61 + 5 * i) := by rw [gx.1, h2]
      have hz3 : Γ'.2.2 + 1 = o + (62 + 5 * i) := by omega
      obtain ⟨⟨b0, b1, b2⟩, ⟨b3, b4⟩, b5⟩ := id bk
      refine tG_at hd kNet_init_102 ?_
      simp (disch := omega) only [bNet_init_102, rn, sm, lg, lt_, cmpP, tk, pr_, pu, swl, cs, Nat.reduceAdd, Nat.reduceLeDiff, Nat.zero_le, Nat.le_refl, true_and, and_true, Int.toNat_natCast, Int.reduceToNat, Int.reduceEq, false_implies, true_implies, Int.reduceNeg, Int.cast_ofNat_Int, reduceIte, Int.reduceLT, Int.reduceLE, true_or, or_true, not_true_eq_false, not_false_eq_true, implies_true, iltT, iltF]
      refine tG_at hd kNet_init_108 ?_
      simp (disch := omega) only [bNet_init_108, rn, sm, lg, lt_, cmpP, tk, pr_, pu, swl, cs, Nat.reduceAdd, Nat.reduceLeDiff, Nat.zero_le, Nat.le_refl, true_and, and_true, Int.toNat_natCast, Int.reduceToNat, Int.reduceEq, false_implies, true_implies, Int.reduceNeg, Int.cast_ofNat_Int, reduceIte, Int.reduceLT, Int.reduceLE, true_or, or_true, not_true_eq_false, not_false_eq_true, implies_true, v1, b0, hz3]
      refine ⟨by omega, by omega, by rw [uf_at]; rfl, by omega, by omega, ?_⟩
      refine k_messInit (by omega) uf_at rfl (by omega) (fun j => rz_at) (fun Γ2 gx2 e3 pk => ?_)
      have gx3 : GX Γ' Γ2 5 := ⟨by rw [gx2.1]; show o + (62 + 5 * i) + 4 = Γ'.2.2 + 5; omega, fun t ht => by
        have := gx2.2 t (by show t ≤ o + (62 + 5 * i); omega)
        exact ⟨this.1.trans (uf_ne (by omega)), this.2⟩⟩
      obtain ⟨⟨c0, c1, c2⟩, ⟨c3, c4⟩, c5⟩ := bk.ext gx3 (by omega)
      refine tG_at hd kNet_init_120 ?_
      simp (disch := omega) only [bNet_init_120, rn, sm, lg, lt_, cmpP, tk, pr_, pu, swl, cs, Nat.reduceAdd, Nat.reduceLeDiff, Nat.zero_le, Nat.le_refl, true_and, and_true, Int.toNat_natCast, Int.reduceToNat, Int.reduceEq, false_implies, true_implies, Int.reduceNeg, Int.cast_ofNat_Int, reduceIte, Int.reduceLT, Int.reduceLE, true_or, or_true, not_true_eq_false, not_false_eq_true, implies_true, e3, c2, c4, ileT, iltT, wr_s]
      refine k1 Γ2 _ ⟨gx.tr gx3 (by omega), bk.ext gx3 (by omega), fun m h => (hm m h).ext gx3 (by omega), fun e he => ?_, ?_⟩
      · by_cases hei : e = i
        · subst hei
          exact ⟨e3, pk⟩
        · exact (hg e (by omega)).ext gx3 (by omega)
      · refine bS_eq (fun r j hr => ?_) (fun c j hc => ?_)
        · by_cases hr2 : r = 2
          · subst hr2
            by_cases hj : j = i
            · subst hj
              rw [up_at, pcN_2, if_pos (by omega)]
            · rw [up_nj hj, bS_o (by omega), rz_ne (by omega), hV, bS_i (by omega), pcN_2, pcN_2]
              by_cases hji : j < i
              · rw [if_pos hji, if_pos (by omega)]
              · rw [if_neg hji, if_neg (by omega)]
          · rw [up_ne (by omega)]
            by_cases hr3 : r < 62 + 5 * i
            · rw [bS_o (by omega), rz_ne (by omega), hV, bS_i hr3]
              by_cases hr1 : r = 1
              · subst hr1
                rw [pcN_1, pcN_1]
              · exact pcN_c hr1 hr2
            · obtain ⟨r', rfl⟩ : ∃ r', r = 62 + 5 * i + r' := ⟨r - (62 + 5 * i), by omega⟩
              rw [pcN_g (by omega) (by omega), show o + (62 + 5 * i + r') = o + (62 + 5 * i) + r' by omega, bS_i (by omega)]
        · rw [up_ne (by omega), bS_o (by omega), rz_ne (by omega), hV, bS_o (by omega)]
    · intro Γ' V' hR
      obtain ⟨gx, bk, hm, hg, hV⟩ := hR
      subst hV
      refine tG_at hd kNet_init_102 ?_
      simp (disch := omega) only [bNet_init_102, rn, sm, lg, lt_, cmpP, tk, pr_, pu, swl, cs, Nat.reduceAdd, Nat.reduceLeDiff, Nat.zero_le, Nat.le_refl, true_and, and_true, Int.toNat_natCast, Int.reduceToNat, Int.reduceEq, false_implies, true_implies, Int.reduceNeg, Int.cast_ofNat_Int, reduceIte, Int.reduceLT, Int.reduceLE, true_or, or_true, not_true_eq_false, not_false_eq_true, implies_true, iltT, iltF]
      exact k127 Γ' gx bk hm hg
  -- the members
  have k75 : ∀ (Γ' : GM), GX Γ Γ' 7 → BK Γ' o → tG w d nNet_init 75 [some (.inr (.inl o)), some (.inl 0)] [] Γ' (bS V o 8 (pcN o 0 0)) 7 81 Q := by
    intro Γ' gx bk
    have := tG_loopA (w := w) (d := d) (n := nNet_init) (pc := 75) (Q := Q) (fun i => [some (.inr (.inl o)), some (.inl (i : Int))]) (fun i => 7 + 9 * i) (fun i => 81 + 60 * i) (fun i Γ' V' => GX Γ Γ' (7 + 9 * i) ∧ BK Γ' o ∧ (∀ m, m < i → MKm Γ' (o + (8 + 9 * m))) ∧ V' = bS V o (8 + 9 * i) (pcN o i 0)) 6 ?_ ?_ 0 Γ' _ (Nat.zero_le _) ⟨gx, bk, fun e he => absurd he (by omega), rfl⟩
    · exact this
    · intro i Γ' V' hi hR k1
      obtain ⟨gx, bk, hm, hV⟩ := hR
      have v1 : V' o 0 = ((o + 1 : Nat) : Int) := by
        rw [hV]
        exact (bS_i (i := 0) (by omega)).trans (pcN_0.trans rfl)
      have hz2 : Γ'.2.2 = o + (7 + 9 * i) := by rw [gx.1, h2]
      have hz3 : Γ'.2.2 + 1 = o + (8 + 9 * i) := by omega
      obtain ⟨⟨b0, b1, b2⟩, ⟨b3, b4⟩, b5⟩ := id bk
      refine tG_at hd kNet_init_75 ?_
      simp (disch := omega) only [bNet_init_75, rn, sm, lg, lt_, cmpP, tk, pr_, pu, swl, cs, Nat.reduceAdd, Nat.reduceLeDiff, Nat.zero_le, Nat.le_refl, true_and, and_true, Int.toNat_natCast, Int.reduceToNat, Int.reduceEq, false_implies, true_implies, Int.reduceNeg, Int.cast_ofNat_Int, reduceIte, Int.reduceLT, Int.reduceLE, true_or, or_true, not_true_eq_false, not_false_eq_true, implies_true, iltT, iltF]
      refine tG_at hd kNet_init_81 ?_
      simp (disch := omega) only [bNet_init_81, rn, sm, lg, lt_, cmpP, tk, pr_, pu, swl, cs, Nat.reduceAdd, Nat.reduceLeDiff, Nat.zero_le, Nat.le_refl, true_and, and_true, Int.toNat_natCast, Int.reduceToNat, Int.reduceEq, false_implies, true_implies, Int.reduceNeg, Int.cast_ofNat_Int, reduceIte, Int.reduceLT, Int.reduceLE, true_or, or_true, not_true_eq_false, not_false_eq_true, implies_true, v1, b0, hz3]
      refine ⟨by omega, by omega, by rw [uf_at]; rfl, by omega, by omega, ?_⟩
      refine k_membInit (by omega) uf_at rfl (by omega) (fun j => rz_at) (fun Γ2 gx2 mk => ?_)
      have gx3 : GX Γ' Γ2 9 := ⟨by rw [gx2.1]; show o + (8 + 9 * i) + 8 = Γ'.2.2 + 9; omega, fun t ht => by
        have := gx2.2 t (by show t ≤ o + (8 + 9 * i); omega)
        exact ⟨this.1.trans (uf_ne (by omega)), this.2⟩⟩
      obtain ⟨⟨c0, c1, c2⟩, ⟨c3, c4⟩, c5⟩ := bk.ext gx3 (by omega)
      have e3 := mk.1.1
      refine tG_at hd kNet_init_93 ?_
      simp (disch := omega) only [bNet_init_93, rn, sm, lg, lt_, cmpP, tk, pr_, pu, swl, cs, Nat.reduceAdd, Nat.reduceLeDiff, Nat.zero_le, Nat.le_refl, true_and, and_true, Int.toNat_natCast, Int.reduceToNat, Int.reduceEq, false_implies, true_implies, Int.reduceNeg, Int.cast_ofNat_Int, reduceIte, Int.reduceLT, Int.reduceLE, true_or, or_true, not_true_eq_false, not_false_eq_true, implies_true, e3, c1, c3, ileT, iltT, wr_s]
      refine k1 Γ2 _ ⟨gx.tr gx3 (by omega), bk.ext gx3 (by omega), fun e he => ?_, ?_⟩
      · by_cases hei : e = i
        · subst hei
          exact mk
        · exact (hm e (by omega)).ext gx3 (by omega)
      · refine bS_eq (fun r j hr => ?_) (fun c j hc => ?_)
        · by_cases hr2 : r = 1
          · subst hr2
            by_cases hj : j = i
            · subst hj
              rw [up_at, pcN_1, if_pos (by omega)]
            · rw [up_nj hj, bS_o (by omega), rz_ne (by omega), hV, bS_i (by omega), pcN_1, pcN_1]
              by_cases hji : j < i
              · rw [if_pos hji, if_pos (by omega)]
              · rw [if_neg hji, if_neg (by omega)]
          · rw [up_ne (by omega)]
            by_cases hr3 : r < 8 + 9 * i
            · rw [bS_o (by omega), rz_ne (by omega), hV, bS_i hr3]
              by_cases hr1 : r = 2
              · subst hr1
                rw [pcN_2, pcN_2]
              · exact pcN_c hr2 hr1
            · obtain ⟨r', rfl⟩ : ∃ r', r = 8 + 9 * i + r' := ⟨r - (8 + 9 * i), by omega⟩
              rw [pcN_m (by omega) (by omega), show o + (8 + 9 * i + r') = o + (8 + 9 * i) + r' by omega, bS_i (by omega)]
        · rw [up_ne (by omega), bS_o (by omega), rz_ne (by omega), hV, bS_o (by omega)]
    · intro Γ' V' hR
      obtain ⟨gx, bk, hm, hV⟩ := hR
      subst hV
      refine tG_at hd kNet_init_75 ?_
      simp (disch := omega) only [bNet_init_75, rn, sm, lg, lt_, cmpP, tk, pr_, pu, swl, cs, Nat.reduceAdd, Nat.reduceLeDiff, Nat.zero_le, Nat.le_refl, true_and, and_true, Int.toNat_natCast, Int.reduceToNat, Int.reduceEq, false_implies, true_implies, Int.reduceNeg, Int.cast_ofNat_Int, reduceIte, Int.reduceLT, Int.reduceLE, true_or, or_true, not_true_eq_false, not_false_eq_true, implies_true, iltT, iltF]
      refine tG_at hd kNet_init_100 ?_
      simp (disch := omega) only [bNet_init_100, rn, sm, lg, lt_, cmpP, tk, pr_, pu, swl, cs, Nat.reduceAdd, Nat.reduceLeDiff, Nat.zero_le, Nat.le_refl, true_and, and_true, Int.toNat_natCast, Int.reduceToNat, Int.reduceEq, false_implies, true_implies, Int.reduceNeg, Int.cast_ofNat_Int, reduceIte, Int.reduceLT, Int.reduceLE, true_or, or_true, not_true_eq_false, not_false_eq_true, implies_true]
      exact k102 Γ' gx bk hm
  refine tC_enter (nL := 2) (by decide +kernel) (by decide +kernel) rfl (Nat.le_of_ble_eq_true rfl) (fun hok => ?_)
  simp only [ent]
  refine tG_at hd kNet_init_0 ?_
  simp (disch := omega) only [bNet_init_0, rn, sm, lg, lt_, cmpP, tk, pr_, pu, swl, cs, Nat.reduceAdd, Nat.reduceLeDiff, Nat.zero_le, Nat.le_refl, true_and, and_true, Int.toNat_natCast, Int.reduceToNat, Int.reduceEq, false_implies, true_implies, Int.reduceNeg, Int.cast_ofNat_Int, reduceIte, Int.reduceLT, Int.reduceLE, true_or, or_true, not_true_eq_false, not_false_eq_true, implies_true, uf_ne, uf_at, h4, h2]
  refine ⟨ho0, ?_⟩
  refine k_messInit (by omega) uf_at rfl (by omega) (fun j => rz_at) (fun Γ2 gx2 e3 pk => ?_)
  have g1 : Γ2.2.2 = o + 7 := gx2.1
  have g2 : ∀ t, t ≤ o + 3 → Γ2.1 t = uf (uf (uf Γ.1 (o + 1) 13) (o + 2) 14) (o + 3) 3 t ∧ Γ2.2.1 t = uf (uf Γ.2.1 (o + 1) 6) (o + 2) 46 t := gx2.2
  have e4 : Γ2.1 o = 4 := by
    rw [(g2 o (by omega)).1, uf_ne (by omega), uf_ne (by omega), uf_ne (by omega)]
    exact h4
  have bk : BK Γ2 o := by
    refine ⟨⟨e4, ?_, ?_⟩, ⟨?_, ?_⟩, ⟨e3, pk⟩⟩
    · rw [(g2 _ (by omega)).1]; simp [uf]
    · rw [(g2 _ (by omega)).1]; simp [uf]
    · rw [(g2 _ (by omega)).2]; simp [uf]
    · rw [(g2 _ (by omega)).2]; simp [uf]
  refine tG_at hd kNet_init_30 ?_
  simp (disch := omega) only [bNet_init_30, rn, sm, lg, lt_, cmpP, tk, pr_, pu, swl, cs, Nat.reduceAdd, Nat.reduceLeDiff, Nat.zero_le, Nat.le_refl, true_and, and_true, Int.toNat_natCast, Int.reduceToNat, Int.reduceEq, false_implies, true_implies, Int.reduceNeg, Int.cast_ofNat_Int, reduceIte, Int.reduceLT, Int.reduceLE, true_or, or_true, not_true_eq_false, not_false_eq_true, implies_true, e4]
  refine (congrArg (fun V => tG w d nNet_init 75 [some (.inr (.inl o)), some (.inl 0)] [] Γ2 V 7 81 Q) ?_).mp (k75 Γ2 ⟨by omega, fun t ht => ?_⟩ bk)
  · symm
    refine bS_eq (fun r j hr => ?_) (fun c j hc => ?_)
    · by_cases hr0 : r = 0
      · subst hr0
        rw [pcN_0]
        show _ = if j = 0 then ((o + 1 : Nat) : Int) else if j = 1 then ((o + 2 : Nat) : Int) else if j = 2 then ((o + sa (nq0 46) : Nat) : Int) else (nfI j).elim 0 nA0
        have hs : sa (nq0 46) = 3 := if_pos rfl
        rw [hs]
        have eo : o + 0 = o := rfl
        rw [eo]
        clear hq k75 k102 k127 gx2 g2 bk pk e3 e4 hok
        have hj : j = 0 ∨ j = 1 ∨ j = 2 ∨ j = 3 ∨ j = 4 ∨ j = 5 ∨ j = 6 ∨ j = 7 ∨ j = 8 ∨ j = 9 ∨ j = 10 ∨ 11 ≤ j := by omega
        rcases hj with rfl | rfl | rfl | rfl | rfl | rfl | rfl | rfl | rfl | rfl | rfl | hj
        · rw [up_nj (by omega), up_nj (by omega), up_nj (by omega), up_nj (by omega), up_nj (by omega), up_nj (by omega), up_nj (by omega), up_nj (by omega), up_nj (by omega), bS_o (by omega), rz_ne (by omega), up_nj (by omega), rz_ne (by omega), up_at]
          rfl
        · rw [up_nj (by omega), up_nj (by omega), up_nj (by omega), up_nj (by omega), up_nj (by omega), up_nj (by omega), up_nj (by omega), up_nj (by omega), up_nj (by omega), bS_o (by omega), rz_ne (by omega), up_at]
          rfl
        · rw [up_nj (by omega), up_nj (by omega), up_nj (by omega), up_nj (by omega), up_nj (by omega), up_nj (by omega), up_nj (by omega), up_nj (by omega), up_at]
          rfl
        · rw [up_nj (by omega), up_nj (by omega), up_nj (by omega), up_nj (by omega), up_nj (by omega), up_nj (by omega), up_nj (by omega), up_at]
          rfl
        · rw [up_nj (by omega), up_nj (by omega), up_nj (by omega), up_nj (by omega), up_nj (by omega), up_nj (by omega), up_at]
          rfl
        · rw [up_nj (by omega), up_nj (by omega), up_nj (by omega), up_nj (by omega), up_nj (by omega), up_at]
          rfl
        · rw [up_nj (by omega), up_nj (by omega), up_nj (by omega), up_nj (by omega), up_at]
          rfl
        · rw [up_nj (by omega), up_nj (by omega), up_nj (by omega), up_at]
          rfl
        · rw [up_nj (by omega), up_nj (by omega), up_at]
          rfl
        · rw [up_nj (by omega), up_at]
          rfl
        · rw [up_at]
          rfl
        · rw [up_nj (by omega), up_nj (by omega), up_nj (by omega), up_nj (by omega), up_nj (by omega), up_nj (by omega), up_nj (by omega), up_nj (by omega), up_nj (by omega), bS_o (by omega), rz_ne (by omega), up_nj (by omega), rz_ne (by omega), up_nj (by omega), rz_ne (by omega), hz]
          unfold nfI
          rw [if_neg (by omega), if_neg (by omega), if_neg (by omega), if_neg (by omega), if_neg (by omega), if_neg (by omega), if_neg (by omega), if_neg (by omega), if_neg (by omega), if_neg (by omega), if_neg (by omega)]
          rfl
      · rw [up_ne (by omega), up_ne (by omega), up_ne (by omega), up_ne (by omega), up_ne (by omega), up_ne (by omega), up_ne (by omega), up_ne (by omega), up_ne (by omega)]
        by_cases hr1 : r = 1
        · subst hr1
          rw [bS_o (by omega), pcN_1, if_neg (by omega)]
          simp [up, rz]
        · by_cases hr2 : r = 2
          · subst hr2
            rw [bS_o (by omega), pcN_2, if_neg (by omega)]
            simp [up, rz]
          · obtain ⟨r', rfl⟩ : ∃ r', r = 3 + r' := ⟨r - 3, by omega⟩
            rw [pcN_t (by omega), show o + (3 + r') = o + 3 + r' by omega, bS_i (by omega)]
    · rw [up_ne (by omega), up_ne (by omega), up_ne (by omega), up_ne (by omega), up_ne (by omega), up_ne (by omega), up_ne (by omega), up_ne (by omega), up_ne (by omega), bS_o (by omega), rz_ne (by omega), up_ne (by omega), rz_ne (by omega), up_ne (by omega), rz_ne (by omega)]
  · rw [(g2 t (by omega)).1, (g2 t (by omega)).2]
    unfold uf
    clear hq k75 k102 k127 gx2 g2 bk pk e3 e4 hok
    grind
end IN
