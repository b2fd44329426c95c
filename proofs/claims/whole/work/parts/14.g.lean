/-! THE LAW: its start -/
theorem strA.gx1 {w : WP} {Γ Γ' : GM} {V : VH} {x nn : Nat} (h : strA w Γ V x) (hx : GX Γ Γ' nn) (hxx : x ≤ Γ.2.2 + 1) : strA w Γ' V x := by
  obtain ⟨a, s0, s1, s2, s3, s4, s5, s6, s7⟩ := h
  have f : ∀ k l, k < 8 → strI Γ V (sad w k) l → strI Γ' V (sad w k) l := fun k l hk h => by
    have := hx.2 (sad w k) (by have := a k hk; omega)
    exact ⟨this.1.trans h.1, this.2.trans h.2.1, h.2.2⟩
  exact ⟨a, f 0 _ (by omega) s0, f 1 _ (by omega) s1, f 2 _ (by omega) s2, f 3 _ (by omega) s3, f 4 _ (by omega) s4, f 5 _ (by omega) s5, f 6 _ (by omega) s6, f 7 _ (by omega) s7⟩
section LW
variable {w : WP} {Γ : GM} {V : VH} {Q : QT} {bb Ls : Nat}
theorem law_tG (b16 : Γ.1 bb = 16) (bL0 : Γ.2.1 bb = Ls) (hLs : Ls ≤ 3072) (hbz : bb ≤ Γ.2.2) (hS : strA w Γ V (Γ.2.2 + 1)) (hq : ∀ Γ V, Q (some (.inl 1)) Γ V) : tG w 13 nLaw_law 0 [some (.inr (.inl bb)), none, none, none, none, none, none] [] Γ V 0 0 Q := by
  have hd : 4 ≤ 13 := by omega
  obtain ⟨x, hx⟩ : ∃ x, x = Γ.2.2 + 1 := ⟨_, rfl⟩
  refine tG_at hd kLaw_law_0 ?_
  simp (disch := omega) only [bLaw_law_0, rn, sm, lg, lt_, cmpP, tk, pr_, pu, swl, cs, Nat.reduceAdd, Nat.reduceLeDiff, Nat.zero_le, Nat.le_refl, true_and, and_true, Int.toNat_natCast, Int.reduceToNat, Int.reduceEq, false_implies, true_implies, Int.reduceNeg, Int.cast_ofNat_Int, reduceIte, Int.reduceLT, Int.reduceLE, true_or, or_true, not_true_eq_false, not_false_eq_true, implies_true, ← hx, uf_at]
  have gx0 : GX Γ (uf Γ.1 x 8, Γ.2.1, x) 1 := by
    rw [hx]
    exact GX.one
  refine T_init (x := x) (by omega) uf_at rfl (by omega) (fun j => rz_at) ?_ (fun Γ1 V1 gx1 hCI hV1 => ?_)
  · rw [← hx] at hS
    exact (hS.gx1 gx0 (by omega)).fr (fun b j hb => rz_ne (by omega))
  have z1 : Γ1.2.2 = x + 594 := gx1.1
  obtain ⟨M, hM0⟩ : ∃ M, M = x + 595 := ⟨_, rfl⟩
  have zz1 : Γ1.2.2 + 1 = M := by omega
  refine tG_at hd kLaw_law_7 ?_
  simp (disch := omega) only [bLaw_law_7, rn, sm, lg, lt_, cmpP, tk, pr_, pu, swl, cs, Nat.reduceAdd, Nat.reduceLeDiff, Nat.zero_le, Nat.le_refl, true_and, and_true, Int.toNat_natCast, Int.reduceToNat, Int.reduceEq, false_implies, true_implies, Int.reduceNeg, Int.cast_ofNat_Int, reduceIte, Int.reduceLT, Int.reduceLE, true_or, or_true, not_true_eq_false, not_false_eq_true, implies_true, zz1, uf_at]
  refine c_minit (M := M) (by omega) uf_at rfl (by omega) (fun j => rz_at) (fun F hM hF => ?_)
  obtain ⟨Γ2, hΓ2⟩ : ∃ Γ2, Γ2 = GA (GA (GA (GA (GA (uf Γ1.1 M 9, Γ1.2.1, M) 10 640) 10 2226) 10 2226) 10 22260) 10 30 := ⟨_, rfl⟩
  rw [← hΓ2] at hM ⊢
  have gx2 : GX Γ1 Γ2 6 := by
    rw [hΓ2]
    refine ⟨show M + 1 + 1 + 1 + 1 + 1 = Γ1.2.2 + 6 by omega, fun t ht => ⟨?_, ?_⟩⟩
    · simp (disch := omega) only [GA, uf_ne]
    · simp (disch := omega) only [GA, uf_ne]
  have z2 : Γ2.2.2 + 1 = M + 6 := by rw [gx2.1]; omega
  refine tG_at hd kLaw_law_15 ?_
  simp (disch := omega) only [bLaw_law_15, rn, sm, lg, lt_, cmpP, tk, pr_, pu, swl, cs, Nat.reduceAdd, Nat.reduceLeDiff, Nat.zero_le, Nat.le_refl, true_and, and_true, Int.toNat_natCast, Int.reduceToNat, Int.reduceEq, false_implies, true_implies, Int.reduceNeg, Int.cast_ofNat_Int, reduceIte, Int.reduceLT, Int.reduceLE, true_or, or_true, not_true_eq_false, not_false_eq_true, implies_true, z2]
  obtain ⟨Γ3, hΓ3⟩ : ∃ Γ3 : GM, Γ3 = (uf Γ2.1 (M + 6) 12, uf Γ2.2.1 (M + 6) 1, M + 6) := ⟨_, rfl⟩
  have gx3 : GX Γ2 Γ3 1 := by
    rw [hΓ3]
    exact ⟨show M + 6 = Γ2.2.2 + 1 by omega, fun t ht => ⟨uf_ne (by omega), uf_ne (by omega)⟩⟩
  have g12 : Γ3.1 (M + 6) = 12 ∧ Γ3.2.1 (M + 6) = 1 := by
    rw [hΓ3]
    exact ⟨uf_at, uf_at⟩
  rw [← hΓ3]
  have gx13 : GX Γ1 Γ3 7 := gx2.tr gx3 rfl
  have gxA : GX Γ Γ3 602 := (gx0.tr gx1 rfl).tr gx13 rfl
  have hb := gxA.2 bb hbz
  have hMI : MI Γ2 (mS (rz V1 M) M F (fun _ => 0) (fl (begN 2 (fun _ => 0)).1 (begN 2 (fun _ => 0)).2.1 (begN 2 (fun _ => 0)).2.2) (fun _ => 0) (fun _ => 0) (fun _ => 0)) M 0 (fun _ => 0) 0 (begN 2 (fun _ => 0)) 0 (fun _ => begN 2 (fun _ => 0)) := MI.new hM (hF 2 (by omega) (by omega) (by omega) (by omega) (by omega)) (hF 8 (by omega) (by omega) (by omega) (by omega) (by omega)) (hF 14 (by omega) (by omega) (by omega) (by omega) (by omega)) (fun i hi => absurd hi (by omega))
  refine lw_loop hLs hq 512 0 _ _ 602 32054 rfl ⟨0, fun _ => 0, 0, 2, 0, begN 2 (fun _ => 0), 0, fun _ => begN 2 (fun _ => 0), (hCI (M + 6) 7 Γ3 _ _ _ gx13 (by omega) (by rw [gx13.1]; omega) (fun b j hb => ?_)).mono (by omega) (by omega), (hMI.gx gx3 (by omega)).fr (fun b j h1 h2 => rz_ne (by omega)), ⟨hb.1.trans b16, hb.2.trans bL0⟩, g12, by omega, by omega⟩ (by omega) (by omega)
  rw [rz_ne (by omega), mS_o (by omega), rz_ne (by omega)]
end LW
