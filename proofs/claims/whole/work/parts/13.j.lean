/-! THE CLASS: text -/
section RD
variable {T : Nat → Int} {L : Nat}
theorem rkL_e {n : Nat} : ∀ f {c p : Nat} {r : Nat → Int} {fk pl : Nat}, p ≤ L → rkL T L n f c r p = .inl (fk, pl) → pl ≤ L
  | 0, c, p, r, fk, pl, _, h => by
    unfold rkL at h
    cases h
    exact Nat.zero_le _
  | f + 1, c, p, r, fk, pl, hp, h => by
    unfold rkL at h
    split at h
    · next hw =>
      cases h3 : rdK T L n c p with
      | inl e =>
        obtain ⟨f', pl'⟩ := e
        rw [h3] at h
        cases h
        exact rdK_e hp hw.1 h3
      | inr u =>
        obtain ⟨x, y, p1⟩ := u
        rw [h3] at h
        exact rkL_e f (rdK_ok hp hw.1 h3).2.2.2.2.1 h
    · cases h
theorem rdAll_e : ∀ f {p fk pl : Nat}, p ≤ L → (rdAll T L f p).2 = some (fk, pl) → pl ≤ L
  | 0, p, fk, pl, _, h => by
    unfold rdAll at h
    cases h
    exact Nat.zero_le _
  | f + 1, p, fk, pl, hp, h => by
    unfold rdAll at h
    split at h
    · cases h
    · cases h1 : rdA T L p with
      | inl e =>
        obtain ⟨f', pl'⟩ := e
        rw [h1] at h
        cases h
        exact rdA_e hp h1
      | inr u =>
        obtain ⟨t, a, b, q, p1⟩ := u
        rw [h1] at h
        exact rdAll_e f (rdA_ok hp h1).2.2.2.2.1 h
theorem rdAll_pl : ∀ f {p : Nat}, p ≤ L → ∀ x ∈ (rdAll T L f p).1, x.2.2.2 ≤ 600
  | 0, p, hp, x, hx => by simp [rdAll] at hx
  | f + 1, p, hp, x, hx => by
    unfold rdAll at hx
    split at hx
    · simp at hx
    · cases h1 : rdA T L p with
      | inl e => rw [h1] at hx; simp at hx
      | inr u =>
        obtain ⟨t, a, b, pl, p1⟩ := u
        rw [h1] at hx
        dsimp only at hx
        have ok := rdA_ok hp h1
        rcases List.mem_cons.mp hx with h | h
        · rw [h]
          exact ok.2.2.2.2.2.2
        · exact rdAll_pl f ok.2.2.2.2.1 x h
def cmbE (a : ER (Nat × NT)) (e : Option (Nat × Nat)) : ER (Nat × NT) := match a, e with
  | .inl e, _ => .inl e
  | .inr _, some e => .inl e
  | .inr x, none => .inr x
theorem exA_D {n f c p : Nat} {X : NT} : exA T L n f c p X = cmbE (exC n (rdAll T L f p).1 c X) (rdAll T L f p).2 := by
  rw [exA_C]
  rfl
theorem exC_c {n : Nat} : ∀ (l : List (Nat × Nat × Nat × Nat)) {c c' : Nat} {X X' : NT}, exC n l c X = .inr (c', X') → c' = c + l.length
  | [], c, c', X, X', h => by
    unfold exC at h
    cases h
    rfl
  | (t, a, b, pl) :: l, c, c', X, X', h => by
    unfold exC at h
    split at h
    · cases h
    · rw [exC_c l h, List.length_cons]
      omega
end RD
section CM
variable {w : WP} {d : Nat} {Γ : GM} {V : VH} {Q : QT} {x Z L n k W c hh : Nat} {T : Nat → Int} {fk : Int} {X : NT} {Y : Nat → NT} {ad : Nat → Nat} {tb : Nat → TBL}
theorem T_fin0 (hC : CI w Γ V x Z L T fk n k W X c Y) (ch : c ≤ hh) (ch10 : hh ≤ 10) (cx : CX Γ V x ad fk c hh) (ly : LY Γ V x Z ad tb hh) (cm : CM tb n k W X c Y) {kd st sp v m a f1 f2 f : Int} {T' R K F G P : Nat → Int} {A : Nat → Int} {B S : Nat → Nat → Int} {q : Nat → Nat} (hq : QP q) :
    CI w Γ (up (nP (sS (tS V (x + 1) 0 kd st sp v T') (x + 3) m a f1 f2 R K F G P) (ad 1) A B S q) x 5 f) x Z 0 T f n k W X c Y ∧ FR x Z V (up (nP (sS (tS V (x + 1) 0 kd st sp v T') (x + 3) m a f1 f2 R K F G P) (ad 1) A B S q) x 5 f) := by
  obtain ⟨h1, h2, h3, h4, -⟩ := hC
  have b1 := ly.b h1.1 (u := 1) (by omega)
  have lo : ∀ b j, b ≠ x → (b < x + 1 ∨ x + 9 ≤ b) → (b < ad 1 ∨ ad 1 + 292 ≤ b) → up (nP (sS (tS V (x + 1) 0 kd st sp v T') (x + 3) m a f1 f2 R K F G P) (ad 1) A B S q) x 5 f b j = V b j := fun b j e1 e2 e3 => by rw [up_ne e1, nP_o e3, y_o (by omega), t_o (by omega)]
  have mid : ∀ b j, x + 1 ≤ b → b < x + 9 → up (nP (sS (tS V (x + 1) 0 kd st sp v T') (x + 3) m a f1 f2 R K F G P) (ad 1) A B S q) x 5 f b j = sS (tS V (x + 1) 0 kd st sp v T') (x + 3) m a f1 f2 R K F G P b j := fun b j e1 e2 => by rw [up_ne (by omega), nP_o (by omega)]
  have ex : ∀ j, j ≠ 5 → up (nP (sS (tS V (x + 1) 0 kd st sp v T') (x + 3) m a f1 f2 R K F G P) (ad 1) A B S q) x 5 f x j = V x j := fun j hj => by rw [up_nj hj, nP_o (by omega), y_o (by omega), t_o (by omega)]
  obtain ⟨a1, ⟨v0, v1, v2, v3, v4, v5⟩, u0, u1, u2⟩ := id cx
  refine ⟨⟨h1, h2.fr (fun b j hb => lo b j (by omega) (by omega) (by omega)), ⟨h3.1, by omega, kd, st, sp, v, T', fun j => ?_, fun j => ?_, fun j hj => absurd hj (by omega)⟩, ⟨h4.1, m, a, f1, f2, R, K, F, G, P, fun j => ?_, fun j => ?_, fun j => ?_, fun j => ?_, fun j => ?_, fun j => ?_⟩, ad, ut tb 1 (A, B, S, q), hh, ch, ch10, ⟨a1, ⟨(ex 0 (by omega)).trans v0, (ex 1 (by omega)).trans v1, (ex 2 (by omega)).trans v2, (ex 3 (by omega)).trans v3, (ex 4 (by omega)).trans v4, up_at⟩, (lo _ _ (by omega) (by omega) (by omega)).trans u0, (lo _ _ (by omega) (by omega) (by omega)).trans u1, fun j hj => (lo _ _ (by omega) (by omega) (by omega)).trans (u2 j hj)⟩, ?_, ⟨⟨cm.1.1, cm.1.2.1, by rw [ut_ne (by omega)]; exact cm.1.2.2⟩, fun i hi => by rw [ut_ne (by omega)]; exact cm.2 i hi⟩⟩, fun b j hb => ?_⟩
  · rw [mid _ _ (by omega) (by omega), y_o (by omega)]
    exact if_pos rfl
  · rw [mid _ _ (by omega) (by omega), y_o (by omega)]
    exact t_a
  · rw [mid _ _ (by omega) (by omega)]
    exact if_pos rfl
  · rw [mid _ _ (by omega) (by omega)]
    exact y_a1
  · rw [mid _ _ (by omega) (by omega)]
    exact y_a2
  · rw [mid _ _ (by omega) (by omega)]
    exact y_a3
  · rw [mid _ _ (by omega) (by omega)]
    exact y_a4
  · rw [mid _ _ (by omega) (by omega)]
    exact y_a5
  · have ly1 : LY Γ (sS (tS V (x + 1) 0 kd st sp v T') (x + 3) m a f1 f2 R K F G P) x Z ad tb hh := ly.fr (fun b j hb => by rw [y_o (by omega), t_o (by omega)])
    exact (ly1.set (u := 1) (by omega) hq).fr (fun b j hb => up_ne (by omega))
  · have := (ly.1 1 (by omega)).2.2.2.1
    exact lo b j (by omega) (by omega) (by omega)
set_option maxHeartbeats 2000000 in
theorem T_text (hd10 : 10 ≤ d) (hC : CI w Γ V x Z L T fk n k W X c Y)
    (hq0 : ∀ f pl : Nat, texF T L = .inl (f, pl) → ∀ V', CI w Γ V' x Z 0 T (f : Int) n k W X c Y → FR x Z V V' → Q (some (.inl (-1 - (pl : Int)))) Γ V')
    (hq1 : ∀ cc X', texF T L = .inr (cc, X') → ∀ V' n' k', CI w Γ V' x Z 0 T 0 n' k' 150000 X' 0 Y → FR x Z V V' → Q (some (.inl (cc : Int))) Γ V') :
    tC w d nTok_text [.inr (.inl x)] Γ V Q := by
  have hd : 4 ≤ d := by omega
  obtain ⟨⟨c1, c2, c3⟩, cs_, ⟨⟨z0, z1, z2⟩, cl, kd, st, sp, v, T', ct0, ct1, ct2⟩, cc, ad, tb, hh, ch, ch10, ⟨⟨g8, g1, g15, g10⟩, ⟨v0, v1, v2, v3, v4, v5⟩, u0, u1, u2⟩, ly, cm⟩ := id hC
  have n0 := (ly.1 0 (by omega)).1.1.1
  have n1 := (ly.1 1 (by omega)).1.1.1
  have cx : CX Γ V x ad fk c hh := ⟨⟨g8, g1, g15, g10⟩, ⟨v0, v1, v2, v3, v4, v5⟩, u0, u1, u2⟩
  have b0 := ly.b c1 (u := 0) (by omega)
  have b1 := ly.b c1 (u := 1) (by omega)
  have hN1 := (ly.1 1 (by omega)).1
  have hQ1 := (ly.1 1 (by omega)).2.1
  have dis := ly.2 0 1 (by omega) (by omega) (by omega)
  obtain ⟨hS, m, a, f1, f2, R, K, F, G, P, s0, s1, s2, s3, s4, s5⟩ := id cc
  obtain ⟨⟨y0, y1, y2, y3, y4, y5⟩, m1, m2, m3, m4, m5⟩ := id hS
  have eT : tS V (x + 1) (L : Int) kd st sp v T' = V := t_id ct0 ct1
  have eS : sS V (x + 3) m a f1 f2 R K F G P = V := y_id s0 s1 s2 s3 s4 s5
  have e2 : sS (tS V (x + 1) (L : Int) kd st sp v T') (x + 3) m a f1 f2 R K F G P = V := by rw [eT, eS]
  have cs1 : strA w Γ V (x + 1) := ⟨fun k hk => by have := cs_.1 k hk; omega, cs_.2⟩
  have hpl : ∀ {f pl : Nat}, pl ≤ 640 → wr (-1 - (pl : Int)) = -1 - (pl : Int) := fun {f pl} h => wr_id (by omega) (by omega)
  -- the paper begins
  have k11 : ∀ (N : Nat) (r : Nat → Int) (a' f1' f2' kd st sp v : Int) (R' K' F' G' P' : Nat → Int), N ≤ 6 → (∀ j, j < 6 → R' j = r j) →
      (∀ A' B', RN N 9 A' B' (tb 1).2.2.1 (tb 1).2.2.2 (begN N r) → tG w d nTok_text 42 [some (.inr (.inl x)), some (.inl 0), none] [] Γ (nP (sS (tS V (x + 1) 0 kd st sp v T') (x + 3) (N : Int) a' f1' f2' R' K' F' G' P') (ad 1) A' B' (tb 1).2.2.1 (tb 1).2.2.2) 0 0 Q) →
      tG w d nTok_text 11 [some (.inr (.inl x)), none, none] [] Γ (sS (tS V (x + 1) (L : Int) kd st sp v T') (x + 3) (N : Int) a' f1' f2' R' K' F' G' P') 0 0 Q := by
    intro N r a' f1' f2' kd st sp v R' K' F' G' P' hN6 hr hk
    have pn1 : pN (sS (tS V (x + 1) 0 kd st sp v T') (x + 3) (N : Int) a' f1' f2' R' K' F' G' P') (ad 1) (tb 1) := (ly.1 1 (by omega)).2.2.1.fr (fun b j e1 e2 => by rw [y_o (by omega), t_o (by omega)])
    refine tG_at hd kTok_text_11 ?_
    simp (disch := omega) only [bTok_text_11, rn, sm, lg, lt_, cmpP, tk, pr_, pu, swl, cs, Nat.reduceAdd, Nat.reduceLeDiff, Nat.zero_le, Nat.le_refl, true_and, and_true, Int.toNat_natCast, Int.reduceToNat, Int.reduceEq, false_implies, true_implies, Int.reduceNeg, Int.cast_ofNat_Int, g8, g1, g15, g10, v0, v1, v2, v3, v4, v5, u0, u1, z0, n0, n1, reduceIte, Nat.reduceEqDiff, true_or, or_true, Int.reduceLE, Int.reduceLT, Int.reduceAdd, Int.reduceSub, Int.reduceMul, not_true_eq_false, not_false_eq_true, implies_true, nat_s, wr_id, uR_at, uR_uR, u1_at, u1_ne, uf_at, uf_ne, iltT, iltF, ileT, ieqT, ieqF, y_o, t_o, t_w1, y_up, y_r5, y_r0, y0]
    rw [← pn1.eq]
    refine k_netBegin1 (by omega) hN1 (a := x + 3 + 1) (r := r) (by omega) y1 m1 (fun j hj => by rw [y_a1]; exact hr j hj) hN6 hQ1 (fun A' B' hR => ?_)
    refine tG_at hd kTok_text_40 ?_
    simp (disch := omega) only [bTok_text_40, rn, sm, lg, lt_, cmpP, tk, pr_, pu, swl, cs, Nat.reduceAdd, Nat.reduceLeDiff, Nat.zero_le, Nat.le_refl, true_and, and_true, Int.toNat_natCast, Int.reduceToNat, Int.reduceEq, false_implies, true_implies, Int.reduceNeg, Int.cast_ofNat_Int, g8, g1, g15, g10, v0, v1, v2, v3, v4, v5, u0, u1, z0, n0, n1, reduceIte, Nat.reduceEqDiff, true_or, or_true, Int.reduceLE, Int.reduceLT, Int.reduceAdd, Int.reduceSub, Int.reduceMul, not_true_eq_false, not_false_eq_true, implies_true, nat_s, wr_id, uR_at, uR_uR, u1_at, u1_ne, uf_at, uf_ne, iltT, iltF, ileT, ieqT, ieqF]
    exact hk A' B' hR
  -- a fault of the reading
  have k124 : ∀ (i1 : Int) (f pl : Nat) (m' a' kd st sp v : Int) (R' K' F' G' P' : Nat → Int) (A : Nat → Int) (B S : Nat → Nat → Int) (q : Nat → Nat), texF T L = .inl (f, pl) → f ≠ 0 → pl ≤ 640 → QP q → tG w d nTok_text 124 [some (.inr (.inl x)), some (.inl i1), none] [] Γ (nP (sS (tS V (x + 1) 0 kd st sp v T') (x + 3) m' a' (f : Int) (pl : Int) R' K' F' G' P') (ad 1) A B S q) 0 0 Q := by
    intro i1 f pl m' a' kd st sp v R' K' F' G' P' A B S q ht hf hpl6 hQ
    have fin := T_fin0 hC ch ch10 cx ly cm (kd := kd) (st := st) (sp := sp) (v := v) (m := m') (a := a') (f1 := (f : Int)) (f2 := (pl : Int)) (f := (f : Int)) (T' := T') (R := R') (K := K') (F := F') (G := G') (P := P') (A := A) (B := B) (S := S) hQ
    have hf' : ((f : Int) = 0) = False := eq_false (by omega)
    refine tG_at hd kTok_text_124 ?_
    simp (disch := omega) only [bTok_text_124, rn, sm, lg, lt_, cmpP, tk, pr_, pu, swl, cs, Nat.reduceAdd, Nat.reduceLeDiff, Nat.zero_le, Nat.le_refl, true_and, and_true, Int.toNat_natCast, Int.reduceToNat, Int.reduceEq, false_implies, true_implies, Int.reduceNeg, Int.cast_ofNat_Int, g8, g1, g15, g10, v0, v1, v2, v3, v4, v5, u0, u1, z0, n0, n1, reduceIte, Nat.reduceEqDiff, true_or, or_true, Int.reduceLE, Int.reduceLT, Int.reduceAdd, Int.reduceSub, Int.reduceMul, not_true_eq_false, not_false_eq_true, implies_true, nat_s, wr_id, uR_at, uR_uR, u1_at, u1_ne, uf_at, uf_ne, iltT, iltF, ileT, ieqT, ieqF, y_o, t_o, nP_o, y_r7, y0, up_at, hf']
    refine tG_at hd kTok_text_142 ?_
    simp (disch := omega) only [bTok_text_142, rn, sm, lg, lt_, cmpP, tk, pr_, pu, swl, cs, Nat.reduceAdd, Nat.reduceLeDiff, Nat.zero_le, Nat.le_refl, true_and, and_true, Int.toNat_natCast, Int.reduceToNat, Int.reduceEq, false_implies, true_implies, Int.reduceNeg, Int.cast_ofNat_Int, g8, g1, g15, g10, v0, v1, v2, v3, v4, v5, u0, u1, z0, n0, n1, reduceIte, Nat.reduceEqDiff, true_or, or_true, Int.reduceLE, Int.reduceLT, Int.reduceAdd, Int.reduceSub, Int.reduceMul, not_true_eq_false, not_false_eq_true, implies_true, nat_s, wr_id, uR_at, uR_uR, u1_at, u1_ne, uf_at, uf_ne, iltT, iltF, ileT, ieqT, ieqF, y_o, t_o, nP_o, y_r8, y0, up_at, up_nj, up_ne]
    exact hq0 f pl ht _ fin.1 fin.2
  have k42 : ∀ (f pl : Nat) (m' kd st sp v : Int) (R' K' F' G' P' : Nat → Int) (A : Nat → Int) (B S : Nat → Nat → Int) (q : Nat → Nat), texF T L = .inl (f, pl) → f ≠ 0 → pl ≤ 640 → QP q → tG w d nTok_text 42 [some (.inr (.inl x)), some (.inl 0), none] [] Γ (nP (sS (tS V (x + 1) 0 kd st sp v T') (x + 3) m' 0 (f : Int) (pl : Int) R' K' F' G' P') (ad 1) A B S q) 0 0 Q := by
    intro f pl m' kd st sp v R' K' F' G' P' A B S q ht hf hpl6 hQ
    refine tG_at hd kTok_text_42 ?_
    simp (disch := omega) only [bTok_text_42, rn, sm, lg, lt_, cmpP, tk, pr_, pu, swl, cs, Nat.reduceAdd, Nat.reduceLeDiff, Nat.zero_le, Nat.le_refl, true_and, and_true, Int.toNat_natCast, Int.reduceToNat, Int.reduceEq, false_implies, true_implies, Int.reduceNeg, Int.cast_ofNat_Int, g8, g1, g15, g10, v0, v1, v2, v3, v4, v5, u0, u1, z0, n0, n1, reduceIte, Nat.reduceEqDiff, true_or, or_true, Int.reduceLE, Int.reduceLT, Int.reduceAdd, Int.reduceSub, Int.reduceMul, not_true_eq_false, not_false_eq_true, implies_true, nat_s, wr_id, uR_at, uR_uR, u1_at, u1_ne, uf_at, uf_ne, iltT, iltF, ileT, ieqT, ieqF, y_o, t_o, nP_o, y_r6, y0]
    refine tG_at hd kTok_text_96 ?_
    simp (disch := omega) only [bTok_text_96, rn, sm, lg, lt_, cmpP, tk, pr_, pu, swl, cs, Nat.reduceAdd, Nat.reduceLeDiff, Nat.zero_le, Nat.le_refl, true_and, and_true, Int.toNat_natCast, Int.reduceToNat, Int.reduceEq, false_implies, true_implies, Int.reduceNeg, Int.cast_ofNat_Int, g8, g1, g15, g10, v0, v1, v2, v3, v4, v5, u0, u1, z0, n0, n1, reduceIte, Nat.reduceEqDiff, true_or, or_true, Int.reduceLE, Int.reduceLT, Int.reduceAdd, Int.reduceSub, Int.reduceMul, not_true_eq_false, not_false_eq_true, implies_true, nat_s, wr_id, uR_at, uR_uR, u1_at, u1_ne, uf_at, uf_ne, iltT, iltF, ileT, ieqT, ieqF, y_o, t_o, nP_o, y_r6, y0]
    exact k124 0 f pl m' 0 kd st sp v R' K' F' G' P' A B S q ht hf hpl6 hQ
  refine tC_enter (nL := 3) (by decide +kernel) (by decide +kernel) rfl (Nat.le_of_ble_eq_true rfl) (fun hok => ?_)
  simp only [ent]
  refine tG_at hd kTok_text_0 ?_
  simp (disch := omega) only [bTok_text_0, rn, sm, lg, lt_, cmpP, tk, pr_, pu, swl, cs, Nat.reduceAdd, Nat.reduceLeDiff, Nat.zero_le, Nat.le_refl, true_and, and_true, Int.toNat_natCast, Int.reduceToNat, Int.reduceEq, false_implies, true_implies, Int.reduceNeg, Int.cast_ofNat_Int, g8, g1, g15, g10, v0, v1, v2, v3, v4, v5, u0, u1, z0, n0, n1, reduceIte, Nat.reduceEqDiff, true_or, or_true, Int.reduceLE, Int.reduceLT, Int.reduceAdd, Int.reduceSub, Int.reduceMul, not_true_eq_false, not_false_eq_true, implies_true, nat_s, wr_id, uR_at, uR_uR, u1_at, u1_ne, uf_at, uf_ne, iltT, iltF, ileT, ieqT, ieqF, y0]
  rw [← e2]
  refine k_read (by omega) ⟨z0, z1, z2⟩ hS (by omega) cl ct2 cs1 (fun f pl e m' hm' kd st sp v R' => ?_) (fun N p f pl e1 e2 kd st sp v R' => ?_) (fun N p r p1 l e e1 e2 e3 hp1 hlen hf0 kd st sp v fk' fp' R' K' F' G' P' hR' hac hs hn => ?_)
  · refine k11 m' (fun j => R' j) 0 f pl kd st sp v R' K F G P hm' (fun j _ => rfl) (fun A' B' hR => ?_)
    refine k42 f pl _ kd st sp v R' K F G P A' B' _ _ ?_ (rdM_f e) ?_ hQ1
    · unfold texF
      rw [e]
    · have := rdM_e (Nat.zero_le L) e
      omega
  · have ok := rdM_ok (Nat.zero_le L) e1
    refine k11 N (fun j => R' j) 0 f pl kd st sp v R' K F G P ok.2.1 (fun j _ => rfl) (fun A' B' hR => ?_)
    refine k42 f pl _ kd st sp v R' K F G P A' B' _ _ ?_ (rkL_f 22 (by omega) (by omega) e2) ?_ hQ1
    · unfold texF
      rw [e1]
      dsimp only
      rw [e2]
    · have := rkL_e 22 ok.2.2.2.1 e2
      omega
  · have ok := rdM_ok (Nat.zero_le L) e1
    have ok2 := rkL_ok 22 ok.2.2.2.1 (fun j _ => by omega) e2
    have et : texF T L = cmbE (exC N l 0 (begN N r)) e := by
      unfold texF
      rw [e1]
      dsimp only
      rw [e2]
      dsimp only
      rw [exA_D, e3]
    have hall := rdAll_ok (T := T) 101 hp1
    have hapl := rdAll_pl (T := T) 101 hp1
    rw [e3] at hall hapl
    have hee : ∀ f pl, e = some (f, pl) → pl ≤ 640 := fun f pl h => by
      have := rdAll_e (T := T) 101 hp1 (fk := f) (pl := pl) (by rw [e3]; exact h)
      omega
    refine k11 N r l.length fk' fp' kd st sp v R' K' F' G' P' ok.2.1 hR' (fun A' B' hR => ?_)
    -- all acts done
    have kend : ∀ (X' : NT) (k' : Nat) (A : Nat → Int) (B S : Nat → Nat → Int) (q : Nat → Nat), exC N l 0 (begN N r) = .inr (l.length, X') → GJ N k' 150000 X' → RW N X'.2.1 → RN N 150000 A B S q X' → tG w d nTok_text 96 [some (.inr (.inl x)), some (.inl (l.length : Int)), none] [] Γ (nP (sS (tS V (x + 1) 0 kd st sp v T') (x + 3) (N : Int) (l.length : Int) fk' fp' R' K' F' G' P') (ad 1) A B S q) 0 0 Q := by
      intro X' k' A B S q hex g' w' r'
      rw [hex] at et
      cases he : e with
      | some ee =>
        obtain ⟨f, pl⟩ := ee
        rw [he] at et
        obtain ⟨h1, h2⟩ := hs f pl he
        rw [h1, h2]
        refine tG_at hd kTok_text_96 ?_
        simp (disch := omega) only [bTok_text_96, rn, sm, lg, lt_, cmpP, tk, pr_, pu, swl, cs, Nat.reduceAdd, Nat.reduceLeDiff, Nat.zero_le, Nat.le_refl, true_and, and_true, Int.toNat_natCast, Int.reduceToNat, Int.reduceEq, false_implies, true_implies, Int.reduceNeg, Int.cast_ofNat_Int, g8, g1, g15, g10, v0, v1, v2, v3, v4, v5, u0, u1, z0, n0, n1, reduceIte, Nat.reduceEqDiff, true_or, or_true, Int.reduceLE, Int.reduceLT, Int.reduceAdd, Int.reduceSub, Int.reduceMul, not_true_eq_false, not_false_eq_true, implies_true, nat_s, wr_id, uR_at, uR_uR, u1_at, u1_ne, uf_at, uf_ne, iltT, iltF, ileT, ieqT, ieqF, y_o, t_o, nP_o, y_r6, y0]
        exact k124 _ f pl _ _ kd st sp v R' K' F' G' P' A B S q et (hf0 f pl he) (hee f pl he) r'.2.2.2.2.1
      | none =>
        rw [he] at et
        have h1 := hn he
        rw [h1]
        have f0 : nP (sS (tS V (x + 1) 0 kd st sp v T') (x + 3) (N : Int) (l.length : Int) 0 fp' R' K' F' G' P') (ad 1) A B S q x 3 = ((ad 0 : Nat) : Int) := by
          rw [nP_o (by omega), y_o (by omega), t_o (by omega)]
          exact v3
        refine tG_at hd kTok_text_96 ?_
        simp (disch := omega) only [bTok_text_96, rn, sm, lg, lt_, cmpP, tk, pr_, pu, swl, cs, Nat.reduceAdd, Nat.reduceLeDiff, Nat.zero_le, Nat.le_refl, true_and, and_true, Int.toNat_natCast, Int.reduceToNat, Int.reduceEq, false_implies, true_implies, Int.reduceNeg, Int.cast_ofNat_Int, g8, g1, g15, g10, v0, v1, v2, v3, v4, v5, u0, u1, z0, n0, n1, reduceIte, Nat.reduceEqDiff, true_or, or_true, Int.reduceLE, Int.reduceLT, Int.reduceAdd, Int.reduceSub, Int.reduceMul, not_true_eq_false, not_false_eq_true, implies_true, nat_s, wr_id, uR_at, uR_uR, u1_at, u1_ne, uf_at, uf_ne, iltT, iltF, ileT, ieqT, ieqF, y_o, t_o, nP_o, y_r6, y0]
        refine tG_at hd kTok_text_124 ?_
        simp (disch := omega) only [bTok_text_124, rn, sm, lg, lt_, cmpP, tk, pr_, pu, swl, cs, Nat.reduceAdd, Nat.reduceLeDiff, Nat.zero_le, Nat.le_refl, true_and, and_true, Int.toNat_natCast, Int.reduceToNat, Int.reduceEq, false_implies, true_implies, Int.reduceNeg, Int.cast_ofNat_Int, g8, g1, g15, g10, v0, v1, v2, v3, v4, v5, u0, u1, z0, n0, n1, reduceIte, Nat.reduceEqDiff, true_or, or_true, Int.reduceLE, Int.reduceLT, Int.reduceAdd, Int.reduceSub, Int.reduceMul, not_true_eq_false, not_false_eq_true, implies_true, nat_s, wr_id, uR_at, uR_uR, u1_at, u1_ne, uf_at, uf_ne, iltT, iltF, ileT, ieqT, ieqF, y_o, t_o, nP_o, y_r7, y0, up_at]
        refine tG_at hd kTok_text_152 ?_
        simp (disch := omega) only [bTok_text_152, rn, sm, lg, lt_, cmpP, tk, pr_, pu, swl, cs, Nat.reduceAdd, Nat.reduceLeDiff, Nat.zero_le, Nat.le_refl, true_and, and_true, Int.toNat_natCast, Int.reduceToNat, Int.reduceEq, false_implies, true_implies, Int.reduceNeg, Int.cast_ofNat_Int, g8, g1, g15, g10, v0, v1, v2, v3, v4, v5, u0, u1, z0, n0, n1, reduceIte, Nat.reduceEqDiff, true_or, or_true, Int.reduceLE, Int.reduceLT, Int.reduceAdd, Int.reduceSub, Int.reduceMul, not_true_eq_false, not_false_eq_true, implies_true, nat_s, wr_id, uR_at, uR_uR, u1_at, u1_ne, uf_at, uf_ne, iltT, iltF, ileT, ieqT, ieqF, y_o, t_o, nP_o, y0, up_at, up_nj, up_ne]
        have fin := T_fin0 hC ch ch10 cx ly cm (kd := kd) (st := st) (sp := sp) (v := v) (m := (N : Int)) (a := (l.length : Int)) (f1 := 0) (f2 := fp') (f := 0) (T' := T') (R := R') (K := K') (F := F') (G := G') (P := P') (A := A) (B := B) (S := S) r'.2.2.2.2.1
        obtain ⟨VF, hVF⟩ : ∃ VF, VF = up (nP (sS (tS V (x + 1) 0 kd st sp v T') (x + 3) (N : Int) (l.length : Int) 0 fp' R' K' F' G' P') (ad 1) A B S q) x 5 0 := ⟨_, rfl⟩
        rw [← hVF] at fin ⊢
        have ly1 : LY Γ VF x Z ad (ut tb 1 (A, B, S, q)) hh := by
          rw [hVF]
          have ly1 : LY Γ (sS (tS V (x + 1) 0 kd st sp v T') (x + 3) (N : Int) (l.length : Int) 0 fp' R' K' F' G' P') x Z ad tb hh := ly.fr (fun b j hb => by rw [y_o (by omega), t_o (by omega)])
          exact (ly1.set (u := 1) (by omega) r'.2.2.2.2.1).fr (fun b j hb => up_ne (by omega))
        have lyp := ly1.perm (sw1 0 1) (fun u hu => sw1_b (by omega) (by omega) hu) (fun u v hu hv h => sw1_inj h)
        obtain ⟨ad', had⟩ : ∃ ad' : Nat → Nat, ad' = fun u => ad (sw1 0 1 u) := ⟨_, rfl⟩
        obtain ⟨tb', htb⟩ : ∃ tb' : Nat → TBL, tb' = fun u => ut tb 1 (A, B, S, q) (sw1 0 1 u) := ⟨_, rfl⟩
        rw [← had, ← htb] at lyp
        have ea : ∀ u, ad' u = ad (sw1 0 1 u) := fun u => by rw [had]
        have et' : ∀ u, tb' u = ut tb 1 (A, B, S, q) (sw1 0 1 u) := fun u => by rw [htb]
        have q0 : sw1 0 1 0 = 1 := rfl
        have q1 : sw1 0 1 1 = 0 := rfl
        have qo : ∀ u, 2 ≤ u → sw1 0 1 u = u := fun u hu => by
          unfold sw1
          rw [if_neg (by omega), if_neg (by omega)]
        obtain ⟨⟨i1, i2, i3, i4, ad2, tb2, hh2, i5, i6, ⟨a1, ⟨x0, x1, x2, x3, x4, x5⟩, x6, x7, x8⟩, i8, i9⟩, ifr⟩ := fin
        have fx : ∀ j, VF x j = V x j ∨ j = 5 := fun j => by
          by_cases hj : j = 5
          · exact Or.inr hj
          · left
            rw [hVF, up_nj hj, nP_o (by omega), y_o (by omega), t_o (by omega)]
        have fx10 : ∀ j, VF (x + 10) j = V (x + 10) j := fun j => by rw [hVF, up_ne (by omega), nP_o (by omega), y_o (by omega), t_o (by omega)]
        have e : ∀ b j, b ≠ x → b ≠ x + 9 → up (up (up VF x 3 ((ad 1 : Nat) : Int)) x 4 ((ad 0 : Nat) : Int)) (x + 9) 1 0 b j = VF b j := fun b j h1 h2 => by rw [up_ne h2, up_ne h1, up_ne h1]
        have exx : ∀ j, j ≠ 3 → j ≠ 4 → up (up (up VF x 3 ((ad 1 : Nat) : Int)) x 4 ((ad 0 : Nat) : Int)) (x + 9) 1 0 x j = VF x j := fun j h1 h2 => by rw [up_ne (by omega), up_nj h2, up_nj h1]
        refine hq1 l.length X' et _ N k' ⟨⟨c1, c2, by omega⟩, i2.fr (fun b j hb => e b j (by omega) (by omega)), i3.fr (fun b j h1 h2 => e b j (by omega) (by omega)), i4.fr (fun b j h1 h2 => e b j (by omega) (by omega)), ad', tb', hh, by omega, ch10, ⟨a1, ⟨(exx 0 (by omega) (by omega)).trans x0, (exx 1 (by omega) (by omega)).trans x1, (exx 2 (by omega) (by omega)).trans x2, ?_, ?_, (exx 5 (by omega) (by omega)).trans x5⟩, ?_, ?_, fun j hj => ?_⟩, lyp.fr (fun b j hb => e b j (by omega) (by omega)), ⟨?_, fun i hi => absurd hi (by omega)⟩⟩ (ifr.tr (fun b j hb => e b j (by omega) (by omega)))
        · rw [up_ne (by omega), up_nj (by omega), up_at, ea, q0]
        · rw [up_ne (by omega), up_at, ea, q1]
        · rw [up_nj (by omega), up_ne (by omega), up_ne (by omega)]
          exact x6
        · rw [up_at]
          rfl
        · rw [e _ _ (by omega) (by omega), fx10, u2 j hj, ea, qo _ (by omega)]
        · rw [et', q0, ut_at]
          exact ⟨g', w', r'⟩
    -- the acts, one by one
    have key : ∀ (rest : List (Nat × Nat × Nat × Nat)) (i : Nat) (Xi : NT) (ki Wi : Nat) (A : Nat → Int) (B S : Nat → Nat → Int) (q : Nat → Nat), (∀ y ∈ rest, y ∈ l) → i + rest.length = l.length → acL K' F' G' P' i rest → GJ N ki Wi Xi → RW N Xi.2.1 → RN N Wi A B S q Xi → 9 ≤ Wi → Wi + 1400 * rest.length ≤ 150000 → exC N l 0 (begN N r) = exC N rest i Xi → tG w d nTok_text 42 [some (.inr (.inl x)), some (.inl (i : Int)), none] [] Γ (nP (sS (tS V (x + 1) 0 kd st sp v T') (x + 3) (N : Int) (l.length : Int) fk' fp' R' K' F' G' P') (ad 1) A B S q) 0 0 Q := by
      intro rest
      induction rest with
      | nil =>
        intro i Xi ki Wi A B S q hmem hlen2 hacr g wi ri h9 hWi hex
        have hil : i = l.length := by simpa using hlen2
        have hex2 : exC N [] i Xi = .inr (i, Xi) := rfl
        rw [hex2, hil] at hex
        rw [hil]
        refine tG_at hd kTok_text_42 ?_
        simp (disch := omega) only [bTok_text_42, rn, sm, lg, lt_, cmpP, tk, pr_, pu, swl, cs, Nat.reduceAdd, Nat.reduceLeDiff, Nat.zero_le, Nat.le_refl, true_and, and_true, Int.toNat_natCast, Int.reduceToNat, Int.reduceEq, false_implies, true_implies, Int.reduceNeg, Int.cast_ofNat_Int, g8, g1, g15, g10, v0, v1, v2, v3, v4, v5, u0, u1, z0, n0, n1, reduceIte, Nat.reduceEqDiff, true_or, or_true, Int.reduceLE, Int.reduceLT, Int.reduceAdd, Int.reduceSub, Int.reduceMul, not_true_eq_false, not_false_eq_true, implies_true, nat_s, wr_id, uR_at, uR_uR, u1_at, u1_ne, uf_at, uf_ne, iltT, iltF, ileT, ieqT, ieqF, y_o, t_o, nP_o, y_r6, y0]
        exact kend Xi ki A B S q hex (g.mono (by omega) (by omega)) wi (ri.mono (by omega))
      | cons y rest ih =>
        intro i Xi ki Wi A B S q hmem hlen2 hacr g wi ri h9 hWi hex
        obtain ⟨t, a, b, pl⟩ := y
        rw [List.length_cons] at hlen2 hWi
        rw [Nat.mul_add, Nat.mul_one] at hWi
        have hWa : Wi + 1400 ≤ 150000 := Nat.le_trans (Nat.add_le_add_left (Nat.le_add_left _ _) _) hWi
        have hWb : Wi + 1400 ≤ 1000000000 := Nat.le_trans hWa (Nat.le_of_ble_eq_true rfl)
        have hy := hmem _ List.mem_cons_self
        have hb := hall _ hy
        have hbp := hapl _ hy
        dsimp only at hb hbp
        have h0 := hacr 0 (by rw [List.length_cons]; omega)
        rw [Nat.add_zero] at h0
        obtain ⟨hK0, hF0, hG0, hP0⟩ := h0
        have hK0 : K' i = (t : Int) := hK0
        have hF0 : F' i = (a : Int) := hF0
        have hG0 : G' i = (b : Int) := hG0
        have hP0 : P' i = (pl : Int) := hP0
        have hki : (Xi.1 5).toNat = ki := by rw [g.1.A.2.1, Int.toNat_natCast]
        have hex2 : exC N ((t, a, b, pl) :: rest) i Xi = if (actF N (Xi.1 5).toNat t a b Xi).1 < 0 then .inl (4, pl) else exC N rest (i + 1) (actF N (Xi.1 5).toNat t a b Xi).2 := rfl
        rw [hex2, hki] at hex
        have ha99 : (a : Int) ≤ 99 := by omega
        obtain ⟨k2, g2⟩ := g.act (t := t) (x := a) (y := b) (Or.inr (Or.inr (Or.inr (Or.inr (Or.inr ha99))))) h9 hWb
        have w2 := RW.act g wi (t := t) (x := a) (y := b) (Or.inr (Or.inr (Or.inr (Or.inr (Or.inr ha99))))) hWb
        refine tG_at hd kTok_text_42 ?_
        simp (disch := omega) only [bTok_text_42, rn, sm, lg, lt_, cmpP, tk, pr_, pu, swl, cs, Nat.reduceAdd, Nat.reduceLeDiff, Nat.zero_le, Nat.le_refl, true_and, and_true, Int.toNat_natCast, Int.reduceToNat, Int.reduceEq, false_implies, true_implies, Int.reduceNeg, Int.cast_ofNat_Int, g8, g1, g15, g10, v0, v1, v2, v3, v4, v5, u0, u1, z0, n0, n1, reduceIte, Nat.reduceEqDiff, true_or, or_true, Int.reduceLE, Int.reduceLT, Int.reduceAdd, Int.reduceSub, Int.reduceMul, not_true_eq_false, not_false_eq_true, implies_true, nat_s, wr_id, uR_at, uR_uR, u1_at, u1_ne, uf_at, uf_ne, iltT, iltF, ileT, ieqT, ieqF, y_o, t_o, nP_o, y_r6, y0]
        refine tG_at hd kTok_text_53 ?_
        simp (disch := omega) only [bTok_text_53, rn, sm, lg, lt_, cmpP, tk, pr_, pu, swl, cs, Nat.reduceAdd, Nat.reduceLeDiff, Nat.zero_le, Nat.le_refl, true_and, and_true, Int.toNat_natCast, Int.reduceToNat, Int.reduceEq, false_implies, true_implies, Int.reduceNeg, Int.cast_ofNat_Int, g8, g1, g15, g10, v0, v1, v2, v3, v4, v5, u0, u1, z0, n0, n1, reduceIte, Nat.reduceEqDiff, true_or, or_true, Int.reduceLE, Int.reduceLT, Int.reduceAdd, Int.reduceSub, Int.reduceMul, not_true_eq_false, not_false_eq_true, implies_true, nat_s, wr_id, uR_at, uR_uR, u1_at, u1_ne, uf_at, uf_ne, iltT, iltF, ileT, ieqT, ieqF, y_o, t_o, nP_o, y_r1, y_r2, y_r3, y_a2, y_a3, y_a4, y0, y2, y3, y4, m2, m3, m4, hK0, hF0, hG0]
        refine k_act (by omega) hN1 g ri (by omega) (by omega) hWb (fun A2 B2 S2 q2 r2 => ?_)
        by_cases hneg : (actF N ki t a b Xi).1 < 0
        · rw [if_pos hneg] at hex
          rw [hex] at et
          have hQ2 := r2.2.2.2.2.1
          have fin := T_fin0 hC ch ch10 cx ly cm (kd := kd) (st := st) (sp := sp) (v := v) (m := (N : Int)) (a := (l.length : Int)) (f1 := fk') (f2 := fp') (f := 4) (T' := T') (R := R') (K := K') (F := F') (G := G') (P := P') (A := A2) (B := B2) (S := S2) hQ2
          refine tG_at hd kTok_text_87 ?_
          simp (disch := omega) only [bTok_text_87, rn, sm, lg, lt_, cmpP, tk, pr_, pu, swl, cs, Nat.reduceAdd, Nat.reduceLeDiff, Nat.zero_le, Nat.le_refl, true_and, and_true, Int.toNat_natCast, Int.reduceToNat, Int.reduceEq, false_implies, true_implies, Int.reduceNeg, Int.cast_ofNat_Int, g8, g1, g15, g10, v0, v1, v2, v3, v4, v5, u0, u1, z0, n0, n1, reduceIte, Nat.reduceEqDiff, true_or, or_true, Int.reduceLE, Int.reduceLT, Int.reduceAdd, Int.reduceSub, Int.reduceMul, not_true_eq_false, not_false_eq_true, implies_true, nat_s, wr_id, uR_at, uR_uR, u1_at, u1_ne, uf_at, uf_ne, iltT, iltF, ileT, ieqT, ieqF]
          refine tG_at hd kTok_text_96 ?_
          simp (disch := omega) only [bTok_text_96, rn, sm, lg, lt_, cmpP, tk, pr_, pu, swl, cs, Nat.reduceAdd, Nat.reduceLeDiff, Nat.zero_le, Nat.le_refl, true_and, and_true, Int.toNat_natCast, Int.reduceToNat, Int.reduceEq, false_implies, true_implies, Int.reduceNeg, Int.cast_ofNat_Int, g8, g1, g15, g10, v0, v1, v2, v3, v4, v5, u0, u1, z0, n0, n1, reduceIte, Nat.reduceEqDiff, true_or, or_true, Int.reduceLE, Int.reduceLT, Int.reduceAdd, Int.reduceSub, Int.reduceMul, not_true_eq_false, not_false_eq_true, implies_true, nat_s, wr_id, uR_at, uR_uR, u1_at, u1_ne, uf_at, uf_ne, iltT, iltF, ileT, ieqT, ieqF, y_o, t_o, nP_o, y_r6, y0]
          refine tG_at hd kTok_text_107 ?_
          simp (disch := omega) only [bTok_text_107, rn, sm, lg, lt_, cmpP, tk, pr_, pu, swl, cs, Nat.reduceAdd, Nat.reduceLeDiff, Nat.zero_le, Nat.le_refl, true_and, and_true, Int.toNat_natCast, Int.reduceToNat, Int.reduceEq, false_implies, true_implies, Int.reduceNeg, Int.cast_ofNat_Int, g8, g1, g15, g10, v0, v1, v2, v3, v4, v5, u0, u1, z0, n0, n1, reduceIte, Nat.reduceEqDiff, true_or, or_true, Int.reduceLE, Int.reduceLT, Int.reduceAdd, Int.reduceSub, Int.reduceMul, not_true_eq_false, not_false_eq_true, implies_true, nat_s, wr_id, uR_at, uR_uR, u1_at, u1_ne, uf_at, uf_ne, iltT, iltF, ileT, ieqT, ieqF, y_o, t_o, nP_o, y_r4, y_a5, y0, y5, m5, up_ne, up_nj, hP0]
          exact hq0 4 pl et _ fin.1 fin.2
        · rw [if_neg hneg] at hex
          refine tG_at hd kTok_text_87 ?_
          simp (disch := omega) only [bTok_text_87, rn, sm, lg, lt_, cmpP, tk, pr_, pu, swl, cs, Nat.reduceAdd, Nat.reduceLeDiff, Nat.zero_le, Nat.le_refl, true_and, and_true, Int.toNat_natCast, Int.reduceToNat, Int.reduceEq, false_implies, true_implies, Int.reduceNeg, Int.cast_ofNat_Int, g8, g1, g15, g10, v0, v1, v2, v3, v4, v5, u0, u1, z0, n0, n1, reduceIte, Nat.reduceEqDiff, true_or, or_true, Int.reduceLE, Int.reduceLT, Int.reduceAdd, Int.reduceSub, Int.reduceMul, not_true_eq_false, not_false_eq_true, implies_true, nat_s, wr_id, uR_at, uR_uR, u1_at, u1_ne, uf_at, uf_ne, iltT, iltF, ileT, ieqT, ieqF]
          refine tG_at hd kTok_text_90 ?_
          simp (disch := omega) only [bTok_text_90, rn, sm, lg, lt_, cmpP, tk, pr_, pu, swl, cs, Nat.reduceAdd, Nat.reduceLeDiff, Nat.zero_le, Nat.le_refl, true_and, and_true, Int.toNat_natCast, Int.reduceToNat, Int.reduceEq, false_implies, true_implies, Int.reduceNeg, Int.cast_ofNat_Int, g8, g1, g15, g10, v0, v1, v2, v3, v4, v5, u0, u1, z0, n0, n1, reduceIte, Nat.reduceEqDiff, true_or, or_true, Int.reduceLE, Int.reduceLT, Int.reduceAdd, Int.reduceSub, Int.reduceMul, not_true_eq_false, not_false_eq_true, implies_true, nat_s, wr_id, uR_at, uR_uR, u1_at, u1_ne, uf_at, uf_ne, iltT, iltF, ileT, ieqT, ieqF]
          refine ih (i + 1) _ k2 (Wi + 1400) A2 B2 S2 q2 (fun y hy => hmem y (List.mem_cons_of_mem _ hy)) (by omega) (fun j hj => ?_) g2 w2 r2 (Nat.le_trans h9 (Nat.le_add_right _ _)) (by rw [Nat.add_assoc, Nat.add_comm 1400]; exact hWi) hex
          have := hacr (j + 1) (by rw [List.length_cons]; omega)
          rw [show i + (j + 1) = i + 1 + j by omega, List.getD_cons_succ] at this
          exact this
    have := key l 0 (begN N r) 0 9 A' B' _ _ (fun y hy => hy) (by omega) hac (GJ.beg ok.1 ok.2.1 ok2.1) RW.beg hR (by omega) (by omega) rfl
    exact this
end CM
