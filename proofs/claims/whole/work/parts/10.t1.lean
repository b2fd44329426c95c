/-! the reference's constructor -/
def GA (Γ : GM) (k l : Nat) : GM := (uf Γ.1 (Γ.2.2 + 1) k, uf Γ.2.1 (Γ.2.2 + 1) l, Γ.2.2 + 1)
section MD
variable {w : WP} {d : Nat} {Γ : GM} {V : VH} {Q : QT} {M : Nat}
theorem c_minit (hd5 : 5 ≤ d) (h9 : Γ.1 M = 9) (h2 : Γ.2.2 = M) (hM0 : M ≠ 0) (hz : ∀ j, V M j = 0)
    (hq : ∀ F, ML (GA (GA (GA (GA (GA Γ 10 640) 10 2226) 10 2226) 10 22260) 10 30) M F → (∀ j, j ≠ 1 → j ≠ 11 → j ≠ 12 → j ≠ 13 → j ≠ 17 → F j = 0) → Q none (GA (GA (GA (GA (GA Γ 10 640) 10 2226) 10 2226) 10 22260) 10 30) (mS V M F (fun _ => 0) (fl (begN 2 (fun _ => 0)).1 (begN 2 (fun _ => 0)).2.1 (begN 2 (fun _ => 0)).2.2) (fun _ => 0) (fun _ => 0) (fun _ => 0))) : tC w d nMod_init [.inr (.inl M)] Γ V Q := by
  have hd : 4 ≤ d := by omega
  refine tC_enter (nL := 1) (by decide +kernel) (by decide +kernel) rfl (Nat.le_of_ble_eq_true rfl) (fun hok => ?_)
  simp only [ent]
  refine tG_at hd kMod_init_0 ?_
  simp (disch := omega) only [bMod_init_0, rn, sm, lg, lt_, cmpP, tk, pr_, pu, swl, cs, Nat.reduceAdd, Nat.reduceLeDiff, Nat.zero_le, Nat.le_refl, true_and, and_true, Int.toNat_natCast, Int.reduceToNat, Int.reduceEq, false_implies, true_implies, Int.reduceNeg, Int.cast_ofNat_Int, reduceIte, Int.reduceLT, Int.reduceLE, true_or, or_true, not_true_eq_false, not_false_eq_true, implies_true, uf_ne, uf_at, h9, h2]
  subst h2
  refine ⟨hM0, ?_⟩
  obtain ⟨M, hM⟩ : ∃ M, Γ.2.2 = M := ⟨_, rfl⟩
  have hG : GA (GA (GA (GA (GA Γ 10 640) 10 2226) 10 2226) 10 22260) 10 30 = (uf (uf (uf (uf (uf Γ.1 (M + 1) 10) (M + 1 + 1) 10) (M + 1 + 1 + 1) 10) (M + 1 + 1 + 1 + 1) 10) (M + 1 + 1 + 1 + 1 + 1) 10, uf (uf (uf (uf (uf Γ.2.1 (M + 1) 640) (M + 1 + 1) 2226) (M + 1 + 1 + 1) 2226) (M + 1 + 1 + 1 + 1) 22260) (M + 1 + 1 + 1 + 1 + 1) 30, M + 1 + 1 + 1 + 1 + 1) := by
    subst hM; rfl
  rw [hM] at hz h9 hq hM0 ⊢
  rw [← hG]
  obtain ⟨F, hF⟩ : ∃ F : Nat → Int, F = fun j => if j = 17 then ((M + 1 + 1 + 1 + 1 + 1 : Nat) : Int) else if j = 13 then ((M + 1 + 1 + 1 + 1 : Nat) : Int) else if j = 12 then ((M + 1 + 1 + 1 : Nat) : Int) else if j = 11 then ((M + 1 + 1 : Nat) : Int) else if j = 1 then ((M + 1 : Nat) : Int) else 0 := ⟨_, rfl⟩
  have eV : (up (rz (up (rz (up (rz (up (rz (up (rz V (M + 1)) M 1 ((M + 1 : Nat) : Int)) (M + 1 + 1)) M 11 ((M + 1 + 1 : Nat) : Int)) (M + 1 + 1 + 1)) M 12 ((M + 1 + 1 + 1 : Nat) : Int)) (M + 1 + 1 + 1 + 1)) M 13 ((M + 1 + 1 + 1 + 1 : Nat) : Int)) (M + 1 + 1 + 1 + 1 + 1)) M 17 ((M + 1 + 1 + 1 + 1 + 1 : Nat) : Int)) = mS V M F (fun _ => 0) (fun _ => 0) (fun _ => 0) (fun _ => 0) (fun _ => 0) := by
    funext b j
    unfold mS
    by_cases b0 : b = M
    · subst b0
      rw [if_pos rfl, hF]
      simp only [up, rz, true_and]
      rw [if_neg (show ¬ b = b + 1 + 1 + 1 + 1 + 1 by omega), if_neg (show ¬ b = b + 1 + 1 + 1 + 1 by omega), if_neg (show ¬ b = b + 1 + 1 + 1 by omega), if_neg (show ¬ b = b + 1 + 1 by omega), if_neg (show ¬ b = b + 1 by omega), hz]
    · rw [if_neg b0]
      simp only [up, rz, b0, false_and, if_false]
      repeat' split
      all_goals first | rfl | omega
  rw [eV]
  have hML : ML (GA (GA (GA (GA (GA Γ 10 640) 10 2226) 10 2226) 10 22260) 10 30) M F := by
    rw [hG, hF]
    refine ⟨⟨?_, ?_, ?_, ?_, ?_, ?_⟩, ⟨?_, ?_, ?_, ?_, ?_⟩, ?_, ?_, ?_, ?_, ?_⟩
    · show uf _ _ _ M = 9
      rw [uf_ne (by omega), uf_ne (by omega), uf_ne (by omega), uf_ne (by omega), uf_ne (by omega)]; exact h9
    all_goals first | rfl | skip
    all_goals simp [uf]
  have g2 : begN 2 (fun _ => 0) = begN 2 (fun _ => 0) := rfl
  refine c_begins (n := 2) (by omega) hML (by omega) (by omega) (fun _ _ => rfl) ?_
  refine tG_at hd kMod_init_53 ?_
  simp only [bMod_init_53, rn, sm, lg, lt_, cmpP, tk, pr_, pu, swl, cs, Nat.reduceAdd, Nat.reduceLeDiff, Nat.zero_le, Nat.le_refl, true_and, and_true, Int.toNat_natCast, Int.reduceToNat, Int.reduceEq, false_implies, true_implies, Int.reduceNeg, Int.cast_ofNat_Int]
  exact hq F hML (fun j h1 h11 h12 h13 h17 => by rw [hF]; simp [h1, h11, h12, h13, h17])
end MD
