theorem tk_spec : ∀ {b : Nat} {acc st args st' : List TV}, tk b acc st = some (args, st') → ∃ l, st = l ++ st' ∧ l.length = b ∧ args = l.reverse ++ acc
  | 0, acc, st, args, st', h => by
    simp only [tk, Option.some.injEq, Prod.mk.injEq] at h
    exact ⟨[], by simp [h.2], rfl, by simp [h.1]⟩
  | b + 1, acc, [], args, st', h => by simp [tk] at h
  | b + 1, acc, v :: st, args, st', h => by
    simp only [tk] at h
    obtain ⟨l, h1, h2, h3⟩ := tk_spec h
    exact ⟨v :: l, by simp [h1], by simp [h2], by simp [h3]⟩
theorem tk_0 {b : Nat} {st args st' : List TV} (h : tk b [] st = some (args, st')) : st = args.reverse ++ st' ∧ args.length = b := by
  obtain ⟨l, h1, h2, h3⟩ := tk_spec h
  subst h3
  simp [h1, h2]
/-- the looking calls hold -/
def PuK (w : WP) (d k : Nat) : Prop := ∀ (a : Nat) (args : List TV) (Γ : GM) (V : VH) (h : Prop) (r : TV), pnl[k]? = some a → pu k args Γ V = some (h, r) → h → ∀ Q : QT, Q (some r) Γ V → tC w (d - 1) a args Γ V Q
def sad (w : WP) (k : Nat) : Nat := tw_K w k + 1
section TB
variable {w : WP} {d n pc : Nat} {ls : LT} {st : List TV} {Γ : GM} {V : VH} {uc us : Nat} {Q : QT}
theorem okt_fv {t : Nat} {x : Int} (ht : t < 4) (h : okv (fv t x)) (h1 : t = 1 → x = 0 ∨ x = 1) : okt t x := by
  match t, ht, h, h1 with
  | 0, _, h, _ => exact h
  | 1, _, _, h1 => exact h1 rfl
  | 2, _, h, _ => exact h
  | 3, _, _, _ => exact trivial
theorem g_put {i a b o : Nat} {x : Int} (hd : decode (mth n).2.1 pc = .ok (.putfield i, 3)) {q : Nat × Nat × Nat × Nat × Nat} (hq : q ∈ flk) (h1 : q.1 = (mth n).2.2.2.2.1) (h2 : q.2.1 = i) (h3 : q.2.2.1 = a) (h4 : q.2.2.2.1 = b) (hfin : (fT a b).2.2.2 = true → (mth n).1.name = "<init>" ∧ a = (mth n).2.2.2.2.1) (hk : Γ.1 o = a + 1) (hx : ftc a b = 1 → x = 0 ∨ x = 1) (k : tG w d n (pc + 3) ls st Γ (up V o b x) uc us Q) : tG w d n pc ls (fv (ftc a b) x :: .inr (.inl o) :: st) Γ V uc us Q := by
  intro p e s m args below meth c H locs lsr X hL hst hR hS hu hv
  obtain ⟨-, -, l3, l4⟩ := flk_ok q hq
  rw [h3] at l3
  rw [h3, h4] at l4
  exact g_putfield hd hq h1 h2 h3 h4 hfin hk (okt_fv (ft_ok a l3 b l4).2.1 (okh hst) hx) k p e s m args below meth c H locs lsr X hL hst hR hS hu hv
theorem g_callV0 {Q' : QT} {i a b o : Nat} {args : List TV} {c0 : Int} (hd : decode (mth n).2.1 pc = .ok (.invokevirtual i, 3)) {q : Nat × Nat × Nat × Nat × Nat × Nat × Nat} (hq : q ∈ clk) (h1 : q.1 = (mth n).2.2.2.2.1) (h2 : q.2.1 = i) (h3 : q.2.2.1 = a) (h4 : q.2.2.2.1 = b) (h5 : q.2.2.2.2.2.1 = 1) (h6 : (q.2.2.2.2.1 : Int) = c0) (hk : (Γ.1 o : Int) = c0) (hd1 : 1 ≤ d) (hb : args.length + 1 = b) (hsl : cs st ≤ 8) (hm : m_c a = 0 ∧ m_s a = 0)
    (hC : tC w (d - 1) a (.inr (.inl o) :: args) Γ V Q') (k : ∀ r Γ V, Q' r Γ V → tG w d n (pc + 3) ls (pr_ r st) Γ V uc us Q) : tG w d n pc ls (args.reverse ++ .inr (.inl o) :: st) Γ V uc us Q := by
  intro p e s m sargs below meth c H locs lsr X hL hst hR hS hu hv
  refine g_callV hd hq h1 h2 h3 h4 h5 h6 hk hd1 hb hsl ?_ ?_ hC ?_ p e s m sargs below meth c H locs lsr X hL hst hR hS hu hv
  · rw [hm.1]; exact hu
  · rw [hm.2]; exact hv
  · rw [hm.1, hm.2]; exact k
theorem mm_ok : tables_1[346]? = some (.static Lib.Math.min.name) ∧ tables_1[347]? = some (.code Lib.Math.min.name Lib.Math.min.code 2 (some .int)) ∧ tables_1[543]? = some (.static Lib.Math.max.name) ∧ tables_1[544]? = some (.code Lib.Math.max.name Lib.Math.max.code 2 (some .int)) ∧ tables_1[10]? = some (.initialized "java/lang/Math") ∧ (mth nMath_max).1 = Lib.Math.max.name ∧ (mth nMath_min).1 = Lib.Math.min.name := by decide +kernel
theorem g_mmax {i : Nat} {x y : Int} (hd : decode (mth n).2.1 pc = .ok (.invokestatic i, 3)) {q : Nat × Nat × Nat × Nat × Nat × Nat × Nat} (hq : q ∈ clk) (h1 : q.1 = (mth n).2.2.2.2.1) (h2 : q.2.1 = i) (h3 : q.2.2.1 = nMath_max) (h5 : q.2.2.2.2.2.1 = 0) (hd1 : 1 ≤ d) (hsl : cs st ≤ 8) (k : tG w d n (pc + 3) ls (.inl (if y ≤ x then x else y) :: st) Γ V uc us Q) : tG w d n pc ls (.inl y :: .inl x :: st) Γ V uc us Q := by
  intro p e s m args below meth c H locs lsr X hL hst hR hS hu hv
  obtain ⟨l1, -, -⟩ := clk_ok q hq
  have l1 := l1.resolve_left (by omega)
  have hm := mm_ok
  rw [h1, h2, h3, hm.2.2.2.2.2.1] at l1
  have hy : okt 0 y := okh hst
  have hx : okt 0 x := okh (okd hst)
  have hok : okt 0 (if y ≤ x then x else y) := by split <;> assumption
  refine va_mmax X.1 X.2.1 (by rw [X.2.2.2.1]; exact hL.1.symm) X.ow (X.lk _ (g_mem l1.1 l1.2)) (X.lk _ (g_mem hm.2.2.1 rfl)) (X.lk _ (g_mem hm.2.2.2.2.1 rfl)) (X.lk _ (g_mem hm.2.2.2.1 rfl)) hd1 ?_ hu hv hd ?_
  · have := cat_sum st
    show _ + 13 ≤ 38 * d
    omega
  · have e1 : (if Int32.ofInt x < Int32.ofInt y then Int32.ofInt y else Int32.ofInt x) = Int32.ofInt (if y ≤ x then x else y) := by
      by_cases hc : y ≤ x
      · rw [if_neg (fun h => by rw [e_lt hx hy] at h; omega), if_pos hc]
      · rw [if_pos ((e_lt hx hy).mpr (by omega)), if_neg hc]
    rw [e1]
    exact k p e s m args below meth c H locs lsr X hL (okc (v := .inl _) hok (okd (okd hst))) hR hS hu hv
theorem g_mmin {i : Nat} {x y : Int} (hd : decode (mth n).2.1 pc = .ok (.invokestatic i, 3)) {q : Nat × Nat × Nat × Nat × Nat × Nat × Nat} (hq : q ∈ clk) (h1 : q.1 = (mth n).2.2.2.2.1) (h2 : q.2.1 = i) (h3 : q.2.2.1 = nMath_min) (h5 : q.2.2.2.2.2.1 = 0) (hd1 : 1 ≤ d) (hsl : cs st ≤ 8) (k : tG w d n (pc + 3) ls (.inl (if x ≤ y then x else y) :: st) Γ V uc us Q) : tG w d n pc ls (.inl y :: .inl x :: st) Γ V uc us Q := by
  intro p e s m args below meth c H locs lsr X hL hst hR hS hu hv
  obtain ⟨l1, -, -⟩ := clk_ok q hq
  have l1 := l1.resolve_left (by omega)
  have hm := mm_ok
  rw [h1, h2, h3, hm.2.2.2.2.2.2] at l1
  have hy : okt 0 y := okh hst
  have hx : okt 0 x := okh (okd hst)
  have hok : okt 0 (if x ≤ y then x else y) := by split <;> assumption
  refine va_mmin X.1 X.2.1 (by rw [X.2.2.2.1]; exact hL.1.symm) X.ow (X.lk _ (g_mem l1.1 l1.2)) (X.lk _ (g_mem hm.1 rfl)) (X.lk _ (g_mem hm.2.2.2.2.1 rfl)) (X.lk _ (g_mem hm.2.1 rfl)) hd1 ?_ hu hv hd ?_
  · have := cat_sum st
    show _ + 13 ≤ 38 * d
    omega
  · have e1 : (if Int32.ofInt y < Int32.ofInt x then Int32.ofInt y else Int32.ofInt x) = Int32.ofInt (if x ≤ y then x else y) := by
      by_cases hc : x ≤ y
      · rw [if_neg (fun h => by rw [e_lt hy hx] at h; omega), if_pos hc]
      · rw [if_pos ((e_lt hy hx).mpr (by omega)), if_neg hc]
    rw [e1]
    exact k p e s m args below meth c H locs lsr X hL (okc (v := .inl _) hok (okd (okd hst))) hR hS hu hv
set_option maxHeartbeats 4000000 in
theorem sm_ok (hd1 : 1 ≤ d) {len a b : Nat} {i : Instr} {c : Int} {tg : List Nat} (hp : ∀ k, tg = [k] → k < 20 → PuK w d k) (hdec : decode (mth n).2.1 pc = .ok (i, len)) (hok : oke (mth n) (pc, i, len, a, b, c, tg) = true) (hln : ilen i len = true) {K : KT} (hK : ∀ ls st Γ V uc us, K ls st Γ V uc us → tG w d n (pc + len) ls st Γ V uc us Q)
    (h : sm (sad w) (tC w (d - 1)) i pc a b c tg K (fun pc' ls st Γ V uc us => tG w d n pc' ls st Γ V uc us Q) Q ls st Γ V uc us) : tG w d n pc ls st Γ V uc us Q := by
  cases i with
  | aload_n k =>
    have hl : len = 1 := of_decide_eq_true hln
    subst hl
    simp only [sm] at h
    split at h
    · rename_i x hx
      exact g_aload_n hdec hx (hK _ _ _ _ _ _ h)
    · exact h.elim
  | iload_n k =>
    have hl : len = 1 := of_decide_eq_true hln
    subst hl
    simp only [sm] at h
    split at h
    · rename_i x hx
      exact g_iload_n hdec hx (hK _ _ _ _ _ _ h)
    · exact h.elim
  | lload_n k =>
    have hl : len = 1 := of_decide_eq_true hln
    subst hl
    simp only [sm] at h
    split at h
    · rename_i x hx
      exact g_lload_n hdec hx (hK _ _ _ _ _ _ h)
    · exact h.elim
  | aload k =>
    have hl : len = 2 := of_decide_eq_true hln
    subst hl
    simp only [sm] at h
    split at h
    · rename_i x hx
      exact g_aload hdec hx (hK _ _ _ _ _ _ h)
    · exact h.elim
  | iload k =>
    have hl : len = 2 := of_decide_eq_true hln
    subst hl
    simp only [sm] at h
    split at h
    · rename_i x hx
      exact g_iload hdec hx (hK _ _ _ _ _ _ h)
    · exact h.elim
  | istore_n k =>
    have hl : len = 1 := of_decide_eq_true hln
    subst hl
    simp only [sm] at h
    split at h
    · exact g_istore_n hdec (of_decide_eq_true hok) (hK _ _ _ _ _ _ h)
    · exact h.elim
  | astore_n k =>
    have hl : len = 1 := of_decide_eq_true hln
    subst hl
    simp only [sm] at h
    split at h
    · exact g_astore_n hdec (of_decide_eq_true hok) (hK _ _ _ _ _ _ h)
    · exact h.elim
  | istore k =>
    have hl : len = 2 := of_decide_eq_true hln
    subst hl
    simp only [sm] at h
    split at h
    · exact g_istore hdec (of_decide_eq_true hok) (hK _ _ _ _ _ _ h)
    · exact h.elim
  | astore k =>
    have hl : len = 2 := of_decide_eq_true hln
    subst hl
    simp only [sm] at h
    split at h
    · exact g_astore hdec (of_decide_eq_true hok) (hK _ _ _ _ _ _ h)
    · exact h.elim
  | iinc k z =>
    have hl : len = 3 := of_decide_eq_true hln
    subst hl
    simp only [sm] at h
    simp only [oke, Bool.and_eq_true, decide_eq_true_eq] at hok
    split at h
    · rename_i x hx
      exact g_iinc hdec hok.2 hx (hK _ _ _ _ _ _ h)
    · exact h.elim
  | iconst z =>
    have hl : len = 1 := of_decide_eq_true hln
    subst hl
    simp only [sm] at h
    exact g_iconst hdec (of_decide_eq_true hok) (hK _ _ _ _ _ _ h)
  | bipush z =>
    have hl : len = 2 := of_decide_eq_true hln
    subst hl
    simp only [sm] at h
    exact g_bipush hdec (of_decide_eq_true hok) (hK _ _ _ _ _ _ h)
  | sipush z =>
    have hl : len = 3 := of_decide_eq_true hln
    subst hl
    simp only [sm] at h
    exact g_sipush hdec (of_decide_eq_true hok) (hK _ _ _ _ _ _ h)
  | lconst z =>
    have hl : len = 1 := of_decide_eq_true hln
    subst hl
    simp only [sm] at h
    exact g_lconst hdec (hK _ _ _ _ _ _ h)
  | iadd =>
    have hl : len = 1 := of_decide_eq_true hln
    subst hl
    simp only [sm] at h
    split at h
    · exact g_iadd hdec (hK _ _ _ _ _ _ h)
    · exact h.elim
  | isub =>
    have hl : len = 1 := of_decide_eq_true hln
    subst hl
    simp only [sm] at h
    split at h
    · exact g_isub hdec (hK _ _ _ _ _ _ h)
    · exact h.elim
  | imul =>
    have hl : len = 1 := of_decide_eq_true hln
    subst hl
    simp only [sm] at h
    split at h
    · exact g_imul hdec (hK _ _ _ _ _ _ h)
    · exact h.elim
  | iand =>
    have hl : len = 1 := of_decide_eq_true hln
    subst hl
    simp only [sm] at h
    split at h
    · exact g_iand hdec (hK _ _ _ _ _ _ h)
    · exact h.elim
  | ior =>
    have hl : len = 1 := of_decide_eq_true hln
    subst hl
    simp only [sm] at h
    split at h
    · exact g_ior hdec (hK _ _ _ _ _ _ h)
    · exact h.elim
  | ishl =>
    have hl : len = 1 := of_decide_eq_true hln
    subst hl
    simp only [sm] at h
    split at h
    · exact g_ishl hdec (hK _ _ _ _ _ _ h)
    · exact h.elim
  | ishr =>
    have hl : len = 1 := of_decide_eq_true hln
    subst hl
    simp only [sm] at h
    split at h
    · exact g_ishr hdec (hK _ _ _ _ _ _ h)
    · exact h.elim
  | iushr =>
    have hl : len = 1 := of_decide_eq_true hln
    subst hl
    simp only [sm] at h
    split at h
    · exact g_iushr hdec (hK _ _ _ _ _ _ h)
    · exact h.elim
  | i2b =>
    have hl : len = 1 := of_decide_eq_true hln
    subst hl
    simp only [sm] at h
    split at h
    · exact g_i2b hdec (hK _ _ _ _ _ _ h)
    · exact h.elim
  | i2l =>
    have hl : len = 1 := of_decide_eq_true hln
    subst hl
    simp only [sm] at h
    split at h
    · exact g_i2l hdec (hK _ _ _ _ _ _ h)
    · exact h.elim
  | ladd =>
    have hl : len = 1 := of_decide_eq_true hln
    subst hl
    simp only [sm] at h
    split at h
    · exact g_ladd hdec (hK _ _ _ _ _ _ h)
    · exact h.elim
  | lsub =>
    have hl : len = 1 := of_decide_eq_true hln
    subst hl
    simp only [sm] at h
    split at h
    · exact g_lsub hdec (hK _ _ _ _ _ _ h)
    · exact h.elim
  | lmul =>
    have hl : len = 1 := of_decide_eq_true hln
    subst hl
    simp only [sm] at h
    split at h
    · exact g_lmul hdec (hK _ _ _ _ _ _ h)
    · exact h.elim
  | lcmp =>
    have hl : len = 1 := of_decide_eq_true hln
    subst hl
    simp only [sm] at h
    split at h
    · exact g_lcmp hdec (hK _ _ _ _ _ _ h)
    · exact h.elim
  | idiv =>
    have hl : len = 1 := of_decide_eq_true hln
    subst hl
    simp only [sm] at h
    split at h
    · exact g_idiv hdec h.1 (hK _ _ _ _ _ _ h.2)
    · exact h.elim
  | irem =>
    have hl : len = 1 := of_decide_eq_true hln
    subst hl
    simp only [sm] at h
    split at h
    · exact g_irem hdec h.1 (hK _ _ _ _ _ _ h.2)
    · exact h.elim
  | dup =>
    have hl : len = 1 := of_decide_eq_true hln
    subst hl
    simp only [sm] at h
    split at h
    · exact g_dupi hdec (hK _ _ _ _ _ _ h)
    · exact g_dupr hdec (hK _ _ _ _ _ _ h)
    · exact h.elim
  | dup2 =>
    have hl : len = 1 := of_decide_eq_true hln
    subst hl
    simp only [sm] at h
    split at h
    · exact g_dup2 hdec (hK _ _ _ _ _ _ h)
    · exact h.elim
  | pop =>
    have hl : len = 1 := of_decide_eq_true hln
    subst hl
    simp only [sm] at h
    split at h
    · exact g_pop hdec rfl (hK _ _ _ _ _ _ h)
    · exact g_pop hdec rfl (hK _ _ _ _ _ _ h)
    · exact h.elim
  | goto z =>
    have hl : len = 3 := of_decide_eq_true hln
    subst hl
    simp only [sm] at h
    exact g_goto hdec (of_decide_eq_true hok) h
  | if_icmp k z =>
    have hl : len = 3 := of_decide_eq_true hln
    subst hl
    simp only [sm] at h
    split at h
    · cases k with
      | eq => exact g_icmp_eq hdec (of_decide_eq_true hok) h.1 h.2
      | ne => exact g_icmp_ne hdec (of_decide_eq_true hok) h.1 h.2
      | lt => exact g_icmp_lt hdec (of_decide_eq_true hok) h.1 h.2
      | ge => exact g_icmp_ge hdec (of_decide_eq_true hok) h.1 h.2
      | gt => exact g_icmp_gt hdec (of_decide_eq_true hok) h.1 h.2
      | le => exact g_icmp_le hdec (of_decide_eq_true hok) h.1 h.2
    · exact h.elim
  | ifCond k z =>
    have hl : len = 3 := of_decide_eq_true hln
    subst hl
    simp only [sm] at h
    split at h
    · cases k with
      | eq => exact g_if_eq hdec (of_decide_eq_true hok) h.1 h.2
      | ne => exact g_if_ne hdec (of_decide_eq_true hok) h.1 h.2
      | lt => exact g_if_lt hdec (of_decide_eq_true hok) h.1 h.2
      | ge => exact g_if_ge hdec (of_decide_eq_true hok) h.1 h.2
      | gt => exact g_if_gt hdec (of_decide_eq_true hok) h.1 h.2
      | le => exact g_if_le hdec (of_decide_eq_true hok) h.1 h.2
    · exact h.elim
  | ifnonnull z =>
    have hl : len = 3 := of_decide_eq_true hln
    subst hl
    simp only [sm] at h
    split at h
    · exact g_nonnull hdec (of_decide_eq_true hok) h.1 h.2
    · exact h.elim
  | tableswitch df lo hi offs =>
    simp only [sm] at h
    simp only [oke, Bool.and_eq_true, decide_eq_true_eq] at hok
    split at h
    · exact g_switch hdec hok.1.1 hok.1.2 hok.2 h.1 h.2
    · exact h.elim
  | getfield j =>
    have hl : len = 3 := of_decide_eq_true hln
    subst hl
    simp only [sm] at h
    simp only [oke, Bool.and_eq_true, decide_eq_true_eq, List.any_eq_true] at hok
    obtain ⟨⟨q, hq, e1, e2, e3, e4⟩, hc⟩ := hok
    split at h
    · obtain ⟨hk, h⟩ := h
      refine g_getfield hdec hq e1 e2 e3 e4 hk ?_
      have hlt := flk_ok q hq
      have hf := (ft_ok a (by rw [← e3]; exact hlt.2.2.1) b (by rw [← e3, ← e4]; exact hlt.2.2.2)).2.1
      split at h
      · rw [show ftc a b = 2 by omega]
        exact hK _ _ _ _ _ _ h
      · rw [show ftc a b = 3 by omega]
        exact hK _ _ _ _ _ _ h
      · rename_i n2 n3
        rcases (show ftc a b = 0 ∨ ftc a b = 1 by
          rcases (show ftc a b = 0 ∨ ftc a b = 1 ∨ ftc a b = 2 ∨ ftc a b = 3 by omega) with g | g | g | g
          · exact Or.inl g
          · exact Or.inr g
          · exact absurd (by omega) n2
          · exact absurd (by omega) n3) with g | g
        · rw [g]
          exact hK _ _ _ _ _ _ h
        · rw [g]
          exact hK _ _ _ _ _ _ h
    · exact h.elim
  | putfield j =>
    have hl : len = 3 := of_decide_eq_true hln
    subst hl
    simp only [sm] at h
    simp only [oke, Bool.and_eq_true, decide_eq_true_eq, List.any_eq_true] at hok
    obtain ⟨⟨⟨q, hq, e1, e2, e3, e4⟩, hc⟩, hfin⟩ := hok
    have hlt := flk_ok q hq
    have hff : (fT a b).2.2.2 = true → (mth n).1.name = "<init>" ∧ a = (mth n).2.2.2.2.1 := by
      intro hF
      obtain ⟨C, T, N, c1, -, -, -, -, -, c7⟩ := cf_ok a (by rw [← e3]; exact hlt.2.2.1)
      rw [c1] at hfin
      simp only [c7 b, hF, Bool.not_true, Bool.false_or, Bool.and_eq_true, decide_eq_true_eq] at hfin
      exact hfin
    split at h
    · obtain ⟨hk, h⟩ := h
      have g : ftc a b = 0 := by omega
      have := g_put (ls := ls) (uc := uc) (us := us) (V := V) (Q := Q) hdec hq e1 e2 e3 e4 hff hk (fun h => by omega) (hK _ _ _ _ _ _ h)
      rw [g] at this
      exact this
    · obtain ⟨hk, hx, h⟩ := h
      have g : ftc a b = 1 := by omega
      have := g_put (ls := ls) (uc := uc) (us := us) (V := V) (Q := Q) hdec hq e1 e2 e3 e4 hff hk (fun _ => hx) (hK _ _ _ _ _ _ h)
      rw [g] at this
      exact this
    · obtain ⟨hk, h⟩ := h
      have g : ftc a b = 2 := by omega
      have := g_put (ls := ls) (uc := uc) (us := us) (V := V) (Q := Q) hdec hq e1 e2 e3 e4 hff hk (fun h => by omega) (hK _ _ _ _ _ _ h)
      rw [g] at this
      exact this
    · obtain ⟨hk, h⟩ := h
      have g : ftc a b = 3 := by omega
      have := g_put (ls := ls) (uc := uc) (us := us) (V := V) (Q := Q) hdec hq e1 e2 e3 e4 hff hk (fun h => by omega) (hK _ _ _ _ _ _ h)
      rw [g] at this
      exact this
    · exact h.elim
  | iaload =>
    have hl : len = 1 := of_decide_eq_true hln
    subst hl
    simp only [sm] at h
    split at h
    · exact g_iaload hdec h.1 h.2.1 h.2.2.1 (hK _ _ _ _ _ _ h.2.2.2)
    · exact h.elim
  | baload =>
    have hl : len = 1 := of_decide_eq_true hln
    subst hl
    simp only [sm] at h
    split at h
    · exact g_baload hdec h.1 h.2.1 h.2.2.1 (hK _ _ _ _ _ _ h.2.2.2)
    · exact h.elim
  | laload =>
    have hl : len = 1 := of_decide_eq_true hln
    subst hl
    simp only [sm] at h
    split at h
    · exact g_laload hdec h.1 h.2.1 h.2.2.1 (hK _ _ _ _ _ _ h.2.2.2)
    · exact h.elim
  | aaload =>
    have hl : len = 1 := of_decide_eq_true hln
    subst hl
    simp only [sm] at h
    split at h
    · exact g_aaload hdec h.1 h.2.1 h.2.2.1 (hK _ _ _ _ _ _ h.2.2.2)
    · exact h.elim
  | iastore =>
    have hl : len = 1 := of_decide_eq_true hln
    subst hl
    simp only [sm] at h
    split at h
    · exact g_iastore hdec h.1 h.2.1 h.2.2.1 (hK _ _ _ _ _ _ h.2.2.2)
    · exact h.elim
  | lastore =>
    have hl : len = 1 := of_decide_eq_true hln
    subst hl
    simp only [sm] at h
    split at h
    · exact g_lastore hdec h.1 h.2.1 h.2.2.1 (hK _ _ _ _ _ _ h.2.2.2)
    · exact h.elim
  | aastore =>
    have hl : len = 1 := of_decide_eq_true hln
    subst hl
    simp only [sm] at h
    split at h
    · exact g_aastore hdec h.1 h.2.1 h.2.2.1 (hK _ _ _ _ _ _ h.2.2.2)
    · exact h.elim
  | bastore =>
    have hl : len = 1 := of_decide_eq_true hln
    subst hl
    simp only [sm] at h
    split at h
    · exact g_bastore hdec h.1 h.2.1 h.2.2.1 ⟨h.2.2.2.1, h.2.2.2.2.1⟩ (hK _ _ _ _ _ _ h.2.2.2.2.2)
    · exact h.elim
  | arraylength =>
    have hl : len = 1 := of_decide_eq_true hln
    subst hl
    simp only [sm] at h
    split at h
    · exact g_alen hdec h.1 (hK _ _ _ _ _ _ h.2)
    · exact h.elim
  | newarray t =>
    have hl : len = 2 := of_decide_eq_true hln
    subst hl
    simp only [sm] at h
    simp only [oke, Bool.and_eq_true, decide_eq_true_eq] at hok
    split at h
    · obtain ⟨h0, h9, hc, hs, h⟩ := h
      obtain ⟨ht, htg⟩ := hok
      simp only [List.cons.injEq, and_true] at htg
      obtain ⟨g1, g2⟩ := htg
      subst g1; subst g2
      exact g_newarr hdec ht h0 h9 hc hs (hK _ _ _ _ _ _ h)
    · exact h.elim
  | anewarray j =>
    have hl : len = 3 := of_decide_eq_true hln
    subst hl
    simp only [sm] at h
    simp only [oke, Bool.and_eq_true, decide_eq_true_eq, List.any_eq_true] at hok
    obtain ⟨⟨q, hq, e1, e2, e3, e4, e5⟩, htg⟩ := hok
    split at h
    · obtain ⟨h0, h9, hc, hs, h⟩ := h
      simp only [List.cons.injEq, and_true] at htg
      obtain ⟨g1, g2⟩ := htg
      subst g1; subst g2
      exact g_anewarr hdec hq e1 e2 e3 ⟨e4, e5⟩ h0 h9 hc hs (hK _ _ _ _ _ _ h)
    · exact h.elim
  | new j =>
    have hl : len = 3 := of_decide_eq_true hln
    subst hl
    simp only [sm] at h
    simp only [oke, Bool.and_eq_true, decide_eq_true_eq, List.any_eq_true] at hok
    obtain ⟨⟨⟨q, hq, e1, e2, e3⟩, hb⟩, htg⟩ := hok
    split at h
    · obtain ⟨hc, hs, h⟩ := h
      simp only [List.cons.injEq, and_true] at htg
      obtain ⟨g1, g2⟩ := htg
      subst g1; subst g2; subst hb
      exact g_new hdec hq e1 e2 e3 hc hs (hK _ _ _ _ _ _ h)
    · exact h.elim
  | ldc j =>
    have hl : len = 2 := of_decide_eq_true hln
    subst hl
    simp only [sm] at h
    simp only [oke] at hok
    split at h
    · simp only [decide_eq_true_eq, List.any_eq_true] at hok
      obtain ⟨q, hq, e1, e2, e3⟩ := hok
      exact g_ldc hdec hq e1 e2 e3 (hK _ _ _ _ _ _ h)
    · simp only [Bool.and_eq_true, decide_eq_true_eq, List.any_eq_true] at hok
      obtain ⟨hn, q, hq, e1, e2⟩ := hok
      exact g_ldcs hdec hn hq e1 e2 (hK _ _ _ _ _ _ h)
  | ldc_w j =>
    have hl : len = 3 := of_decide_eq_true hln
    subst hl
    simp only [sm] at h
    simp only [oke, decide_eq_true_eq, List.any_eq_true] at hok
    obtain ⟨q, hq, e1, e2, e3⟩ := hok
    exact g_ldcw hdec hq e1 e2 e3 (hK _ _ _ _ _ _ h)
  | ldc2_w j =>
    have hl : len = 3 := of_decide_eq_true hln
    subst hl
    simp only [sm] at h
    simp only [oke, decide_eq_true_eq, List.any_eq_true] at hok
    obtain ⟨q, hq, e1, e2, e3⟩ := hok
    exact g_ldc2 hdec hq e1 e2 e3 (hK _ _ _ _ _ _ h)
  | ireturn =>
    have hl : len = 1 := of_decide_eq_true hln
    subst hl
    simp only [sm] at h
    simp only [oke, decide_eq_true_eq] at hok
    split at h
    · rcases hok with ⟨g1, g2⟩ | ⟨g1, g2⟩
      · exact g_ireturn hdec g1 h.2
      · exact g_zreturn hdec g1 (h.1 g2) h.2
    · exact h.elim
  | lreturn =>
    have hl : len = 1 := of_decide_eq_true hln
    subst hl
    simp only [sm] at h
    split at h
    · exact g_lreturn hdec (of_decide_eq_true hok) h
    · exact h.elim
  | areturn =>
    have hl : len = 1 := of_decide_eq_true hln
    subst hl
    simp only [sm] at h
    split at h
    · exact g_areturn hdec (of_decide_eq_true hok) h
    · exact h.elim
  | return_ =>
    have hl : len = 1 := of_decide_eq_true hln
    subst hl
    simp only [sm] at h
    split at h
    · exact g_return hdec (of_decide_eq_true hok) h
    · exact h.elim
  | invokestatic j =>
    have hl : len = 3 := of_decide_eq_true hln
    subst hl
    simp only [sm] at h
    simp only [oke, Bool.and_eq_true, decide_eq_true_eq, List.any_eq_true] at hok
    obtain ⟨⟨⟨q, hq, e1, e2, e3, e4, e5⟩, htg⟩, hm⟩ := hok
    split at h
    · rename_i args st' htk
      obtain ⟨t1, t2⟩ := tk_0 htk
      subst t1
      obtain ⟨hsl, h⟩ := h
      split at h
      · rename_i k
        split at h
        · rename_i hh r hpu
          simp only [decide_eq_true_eq] at htg
          by_cases hk : k < 20
          · refine g_callS hdec hq e1 e2 e3 e4 e5 hm hd1 t2 hsl (hp k rfl hk a args Γ V hh r htg hpu h.1 (fun r' Γ' V' => r' = some r ∧ Γ' = Γ ∧ V' = V) ⟨rfl, rfl, rfl⟩) (fun r' Γ' V' g => ?_)
            obtain ⟨g1, g2, g3⟩ := g
            subst g1; subst g2; subst g3
            exact hK _ _ _ _ _ _ h.2
          · have hk2 : k = 20 ∨ k = 21 := by
              have := (List.getElem?_eq_some_iff.mp htg).1
              have : k < 22 := this
              omega
            rcases hk2 with rfl | rfl
            · have ha : nMath_max = a := Option.some.inj htg
              subst ha
              unfold pu at hpu
              split at hpu <;> first | (exfalso; omega) | skip
              all_goals first | (rename_i hz; exact absurd hz (by decide)) | skip
              all_goals first | (cases hpu; exact g_mmax hdec hq e1 e2 e3 e5 hd1 hsl (hK _ _ _ _ _ _ h.2)) | (cases hpu)
            · have ha : nMath_min = a := Option.some.inj htg
              subst ha
              unfold pu at hpu
              split at hpu <;> first | (exfalso; omega) | skip
              all_goals first | (rename_i hz; exact absurd hz (by decide)) | skip
              all_goals first | (cases hpu; exact g_mmin hdec hq e1 e2 e3 e5 hd1 hsl (hK _ _ _ _ _ _ h.2)) | (cases hpu)
        · exact h.elim
      · exact g_callS hdec hq e1 e2 e3 e4 e5 hm hd1 t2 hsl h (fun r' Γ' V' g => hK _ _ _ _ _ _ g)
    · exact h.elim
  | invokevirtual j =>
    have hl : len = 3 := of_decide_eq_true hln
    subst hl
    simp only [sm] at h
    simp only [oke, Bool.and_eq_true, decide_eq_true_eq, List.any_eq_true] at hok
    obtain ⟨⟨q, hq, e1, e2, e3, e4, e6, e5⟩, htg⟩ := hok
    split at h
    · rename_i o args st' htk
      obtain ⟨t1, t2⟩ := tk_0 htk
      rw [List.reverse_cons, List.append_assoc, List.singleton_append] at t1
      subst t1
      obtain ⟨hkd, hsl, h⟩ := h
      split at h
      · rename_i k
        split at h
        · rename_i hh r hpu
          simp only [Bool.and_eq_true, decide_eq_true_eq] at htg
          have hk : k < 20 := by
            rcases Nat.lt_or_ge k 20 with g | g
            · exact g
            · exfalso
              have g2 := (List.getElem?_eq_some_iff.mp htg.1).1
              have g2 : k < 22 := g2
              unfold pu at hpu
              rcases (show k = 20 ∨ k = 21 by omega) with rfl | rfl <;> simp at hpu
          refine g_callV0 hdec hq e1 e2 e3 e4 e5 e6 hkd hd1 (by simpa using t2) hsl htg.2 (hp k rfl hk a _ Γ V hh r htg.1 hpu h.1 (fun r' Γ' V' => r' = some r ∧ Γ' = Γ ∧ V' = V) ⟨rfl, rfl, rfl⟩) (fun r' Γ' V' g => ?_)
          obtain ⟨g1, g2, g3⟩ := g
          subst g1; subst g2; subst g3
          exact hK _ _ _ _ _ _ h.2
        · exact h.elim
      · rename_i mc ms mc0 ms0
        simp only [decide_eq_true_eq, List.cons.injEq, and_true] at htg
        obtain ⟨g1, g2, g3, g4⟩ := htg
        subst g1; subst g2; subst g3; subst g4
        exact g_callV hdec hq e1 e2 e3 e4 e5 e6 hkd hd1 (by simpa using t2) hsl h.1 h.2.1 h.2.2 (fun r' Γ' V' g => hK _ _ _ _ _ _ g)
      · rename_i n1 n2
        have hm : m_c a = 0 ∧ m_s a = 0 := by
          split at htg
          · exact of_decide_eq_true htg
          · exact absurd rfl (n1 _)
          · exact absurd (of_decide_eq_true htg) (fun g => n2 _ _ _ _ g)
        exact g_callV0 hdec hq e1 e2 e3 e4 e5 e6 hkd hd1 (by simpa using t2) hsl hm h (fun r' Γ' V' g => hK _ _ _ _ _ _ g)
    · exact h.elim
  | invokespecial j =>
    have hl : len = 3 := of_decide_eq_true hln
    subst hl
    simp only [sm] at h
    simp only [oke] at hok
    split at h
    · rename_i o args st' htk
      obtain ⟨t1, t2⟩ := tk_0 htk
      rw [List.reverse_cons, List.append_assoc, List.singleton_append] at t1
      subst t1
      obtain ⟨hsl, h⟩ := h
      split at h
      · rw [if_pos rfl] at hok
        simp only [Bool.and_eq_true, decide_eq_true_eq, List.any_eq_true] at hok
        obtain ⟨⟨q, hq, e1, e2⟩, hb⟩ := hok
        have : args = [] := by
          cases args with
          | nil => rfl
          | cons x y => simp [hb] at t2
        subst this
        exact g_objinit hdec hq e1 e2 h.1 hd1 hsl (hK _ _ _ _ _ _ h.2)
      · rename_i hne
        rw [if_neg (fun g => hne g)] at hok
        simp only [Bool.and_eq_true, decide_eq_true_eq, List.any_eq_true, List.cons.injEq, and_true] at hok
        obtain ⟨⟨q, hq, e1, e2, e3, e4, e6, e5⟩, g1, g2, g3, g4⟩ := hok
        subst g1; subst g2; subst g3; subst g4
        exact g_callI hdec hq e1 e2 e3 e4 e5 e6 h.1 hd1 (by simpa using t2) hsl h.2.1 h.2.2.1 h.2.2.2 (fun r' Γ' V' g => hK _ _ _ _ _ _ g)
      · exact h.elim
    · exact h.elim
  | _ => exact absurd h (by simp [sm])
end TB
