/-! calls -/
theorem KU.same {w : WP} {u U : State} (hv : U.vm = u.vm) (h : KU w u) : KU w U := by
  have ha : u.vm.Alike U.vm := by rw [hv]; exact Vm.Alike.refl _
  obtain ⟨h1, h2, h3, h4, h5⟩ := h
  refine ⟨va_K.moved ha h1, fun q hq => ?_, ⟨h3.1.moved ha, h3.2.1.moved ha, h3.2.2.moved ha⟩, fun q hq => (h4 q hq).same hv, State.isArrayOf_alike ha h5⟩
  obtain ⟨z, -, rfl⟩ := List.mem_map.mp hq
  exact va_Nw.same rfl hv.symm (h2 _ hq)
theorem KU.warm {w : WP} {s U : State} (hW : s.WarmedH U.vm) (h : KU w s) : KU w U := by
  obtain ⟨h1, h2, h3, h4, h5⟩ := h
  refine ⟨va_K.moved hW.alike h1, fun q hq => ?_, ⟨h3.1.moved hW.alike, h3.2.1.moved hW.alike, h3.2.2.moved hW.alike⟩, fun q hq => (h4 q hq).warm hW, State.isArrayOf_alike hW.alike h5⟩
  obtain ⟨z, -, rfl⟩ := List.mem_map.mp hq
  exact (h2 _ hq).warmM hW
theorem tP_blind (w : WP) (args : List TV) (Γ : GM) (V : VH) : FrameBlind (tP w args Γ V) := by
  intro a U g mk h
  obtain ⟨h1, h2, h3, h4, h5⟩ := h
  exact ⟨h1, h2, h3, KU.same (u := U) (U := U.calling g mk a) rfl h4, SU.warm (s := U) (U := U.calling g mk a) (State.WarmedH.refl U) h5⟩
theorem cat_sum : ∀ (st : List TV), ((st.map tvv).map fun v => v.category).sum = cs st
  | [] => rfl
  | .inl _ :: st => by
    have h := cat_sum st
    simp only [List.map_cons, List.sum_cons, tvv_cat, cs, h, cat]
    omega
  | .inr (.inl _) :: st => by
    have h := cat_sum st
    simp only [List.map_cons, List.sum_cons, tvv_cat, cs, h, cat]
    omega
  | .inr (.inr _) :: st => by
    have h := cat_sum st
    simp only [List.map_cons, List.sum_cons, tvv_cat, cs, h, cat]
    omega
theorem tws_good {n : Nat} (h : n < mtl.length) (h2 : n ≠ 173) : GoodIn lw_g (tws n) := by
  intro q hq
  have hq : q ∈ lw_g := (List.mem_cons.mp hq).elim (fun e => e ▸ cw_ok h h2) id
  exact ⟨hq, good_of_word (List.mem_filter.mp hq).2⟩
theorem pr_map (r : Option TV) (st : List TV) : (r.map tvv).toList ++ st.map tvv = (pr_ r st).map tvv := by
  cases r <;> rfl
section TB
variable {w : WP} {d n pc : Nat} {ls : LT} {st : List TV} {Γ : GM} {V : VH} {uc us : Nat} {Q Q' : QT}
theorem tP_at {p : Program} {s : State} {m : MethodId} {sargs : Array Value} {meth : Method} {c : Code} {H : Heap} {locs : List Loc} {args : List TV} (X : tX w n p s m sargs meth c) (hR : RH w Γ V H) (hS : va_S (tA w) s.heap H locs) (ha : ∀ v ∈ args, okv v) : ∀ U : State, U.heap = H → s.WarmedH U.vm → tP w args Γ V (args.map tvv).toArray U := by
  intro U hU hW
  refine ⟨rfl, ha, by rw [hU]; exact hR, X.K.warm hW, ?_⟩
  rw [hU]
  exact (SU.warm hW X.2.2.2.2.2.2.2.2.2.1).kept hS.2.1
/-- behind a call -/
theorem W_call {p : Program} {e : Env} {s : State} {m : MethodId} {args : Array Value} {below : List Frame} {meth : Method} {c : Code} {H : Heap} {locs : List Loc} {lsr : Array Slot} {st0 : List Value} {a : Array Value} {mc ms : Nat}
    (X : tX w n p s m args meth c) (hL : LR ls lsr (mth n).2.2.1) (hst : ∀ v ∈ st, okv v) (hS : va_S (tA w) s.heap H locs) (hc : uc + mc ≤ m_c n) (hs : us + ms ≤ m_s n)
    (hr : va_Run p (tw_L w) e (trm d n) s m args below meth c H locs uc us mc ms (F0 m pc lsr st0) (st.map tvv) (tQ w Q' a) (tA w))
    (k : ∀ r Γ V, Q' r Γ V → tG w d n (pc + 3) ls (pr_ r st) Γ V (uc + mc) (us + ms) Q) :
    W p (tw_L w) e (trm d n) s m args below meth c H locs uc us (MQ below (tQ w Q) args s (m_c n) (m_s n) (tA w)) (F0 m pc lsr st0) := by
  intro T hT S
  obtain ⟨v, st₀, t, T', L, h0, S', hL2, e1, e2, ⟨r, Γ', V', hv, hok, hR', ⟨hz, hk⟩, hq⟩, sg⟩ := hr T hT S
  have hv : v = r.map tvv := Outcome.returned.inj hv
  subst hv
  rw [h0] at hz hk
  have hS' : va_S (tA w) s.heap T'.heap (locs ++ L) := by
    refine ⟨Nat.le_trans hS.1 (by rw [e1]; exact hz), fun q h1 h2 => by rw [e1, hk q (Nat.lt_of_lt_of_le h1 hS.1) h2]; exact hS.2.1 q h1 h2, fun q hq => ?_⟩
    rcases List.mem_append.mp hq with h | h
    · exact hS.2.2 q h
    · exact hL2 q h
  have hst' : ∀ v ∈ pr_ r st, okv v := by
    cases r with
    | none => exact hst
    | some v => exact okc (hok v rfl) hst
  obtain ⟨t2, a1, b1⟩ := k r Γ' V' hq p e s m args below meth c T'.heap (locs ++ L) lsr X hL hst' (by rw [e1]; exact hR') hS' hc hs T' rfl S'
  refine ⟨t2, sg t2 ?_, b1⟩
  rw [pr_map]
  exact a1
theorem trm_room {a : Nat} (hd : 1 ≤ d) (ha : a < mtl.length) : (trm (d - 1) a).frames + 1 ≤ (trm d n).frames ∧ 8 + ((mth a).2.2.1 + 11) + (trm (d - 1) a).locals ≤ (trm d n).locals := by
  have h := (mw_ok a ha).2.2.2.1
  show d - 1 + 1 ≤ d ∧ 8 + ((mth a).2.2.1 + 11) + 38 * (d - 1) ≤ 38 * d
  omega
theorem g_callS {i a b : Nat} {args : List TV} (hd : decode (mth n).2.1 pc = .ok (.invokestatic i, 3)) {q : Nat × Nat × Nat × Nat × Nat × Nat × Nat} (hq : q ∈ clk) (h1 : q.1 = (mth n).2.2.2.2.1) (h2 : q.2.1 = i) (h3 : q.2.2.1 = a) (h4 : q.2.2.2.1 = b) (h5 : q.2.2.2.2.2.1 = 0) (hm : m_c a = 0 ∧ m_s a = 0) (hd1 : 1 ≤ d) (hb : args.length = b) (hsl : cs st ≤ 8)
    (hC : tC w (d - 1) a args Γ V Q') (k : ∀ r Γ V, Q' r Γ V → tG w d n (pc + 3) ls (pr_ r st) Γ V uc us Q) : tG w d n pc ls (args.reverse ++ st) Γ V uc us Q := by
  intro p e s m sargs below meth c H locs lsr X hL hst hR hS hu hv
  obtain ⟨l1, l2, l3⟩ := clk_ok q hq
  have l1 := l1.resolve_left (by omega)
  rw [h1, h2, h3] at l1
  rw [h3] at l2 l3
  rw [if_pos h5, h4] at l3
  have hna : a ≠ 173 := by rw [← h3]; exact clk_law q hq
  have hst2 := mw_st q hq h5
  rw [h3] at hst2
  obtain ⟨i1, i2, -, -, -, i3, i4⟩ := mw_ok a l2
  have hsa : ∀ v ∈ args, okv v := fun v h => hst v (List.mem_append_left _ (List.mem_reverse.mpr h))
  have hrun := va_runS (l := tw_L w) (e := e) (below := below) (meth := meth) (locs := locs) (cells := uc) (slots := us) (R := trm d n) (nL := (mth n).2.2.1) (g := F0 m pc lsr ((args.reverse ++ st).map tvv)) (rest := st.map tvv) (As := args.map tvv) (H := H) ⟨X.1, X.2.1, X.2.2.2.1, X.ow, X.lk⟩ hC
    ⟨callB_of b X.lk (tws_good l2 hna) rfl rfl rfl (X.lk _ (g_mem i1 i2)) (X.lk _ (g_mem l1.1 l1.2)) ⟨i3, i4, l3⟩ (trm_room hd1 l2), X.lk _ (g_mem hst2.1 hst2.2)⟩ ⟨tP_blind w args Γ V, tP_at X hR hS hsa⟩ rfl (by rw [List.length_map]; exact hb) hL.1 (by simp [F0]) (lv_room (by have := cat_sum st; omega)) hd (by rw [hm.1, hm.2]; exact ⟨hu, hv⟩)
  rw [hm.1, hm.2] at hrun
  exact W_call X hL (fun v h => hst v (List.mem_append_right _ h)) hS hu hv hrun k
theorem recv_ok {p : Program} {s : State} {m : MethodId} {sargs : Array Value} {meth : Method} {c : Code} {H : Heap} {locs : List Loc} {o a : Nat} (X : tX w n p s m sargs meth c) (hR : RH w Γ V H) (hS : va_S (tA w) s.heap H locs) (hk : Γ.1 (o + 1) = a + 1 ∧ a < 9 ∨ Γ.1 (o + 1) = 20 ∧ a = 12) : ∃ cellB : Cell, H[o]? = some cellB ∧ cellB.vm.isStatics = false ∧ s.vm.findClass (rnm a) = some cellB.cls := by
  rcases hk with ⟨hk, ha⟩ | ⟨hk, rfl⟩
  · obtain ⟨-, -, -, ⟨cell, q1, q2, q3, -⟩, -⟩ := hR.obj hk ha
    obtain ⟨C, T, N, c1, c2, -⟩ := cf_ok a ha
    exact ⟨cell, q1, by rw [q3]; rfl, by rw [q2, ← c2]; exact (X.K.1.1 a _ c1).2.1⟩
  · obtain ⟨-, -, h3⟩ := hR.2.2 (o + 1) (by omega)
    rcases h3 with ⟨a1, -⟩ | ⟨a1, a2, -⟩ | ⟨a1, -⟩ | ⟨a1, a2, j, a3, a4, -⟩
    · omega
    · omega
    · omega
    · have := vk_recv (i := j) X.2.2.2.2.2.2.2.2.2.1.1 a3 hS
      have e : o = tw_K w j := by omega
      rw [e]
      exact this
theorem g_callV {i a b o : Nat} {args : List TV} {c0 : Int} (hd : decode (mth n).2.1 pc = .ok (.invokevirtual i, 3)) {q : Nat × Nat × Nat × Nat × Nat × Nat × Nat} (hq : q ∈ clk) (h1 : q.1 = (mth n).2.2.2.2.1) (h2 : q.2.1 = i) (h3 : q.2.2.1 = a) (h4 : q.2.2.2.1 = b) (h5 : q.2.2.2.2.2.1 = 1) (h6 : (q.2.2.2.2.1 : Int) = c0) (hk : (Γ.1 o : Int) = c0) (hd1 : 1 ≤ d) (hb : args.length + 1 = b) (hsl : cs st ≤ 8) (hc : uc + m_c a ≤ m_c n) (hs : us + m_s a ≤ m_s n)
    (hC : tC w (d - 1) a (.inr (.inl o) :: args) Γ V Q') (k : ∀ r Γ V, Q' r Γ V → tG w d n (pc + 3) ls (pr_ r st) Γ V (uc + m_c a) (us + m_s a) Q) : tG w d n pc ls (args.reverse ++ .inr (.inl o) :: st) Γ V uc us Q := by
  intro p e s m sargs below meth c H locs lsr X hL hst hR hS hu hv
  obtain ⟨l1, l2, l3⟩ := clk_ok q hq
  have l1 := l1.resolve_left (by omega)
  rw [h1, h2, h3] at l1
  rw [h3] at l2 l3
  rw [if_neg (by omega), h4] at l3
  have hna : a ≠ 173 := by rw [← h3]; exact clk_law q hq
  obtain ⟨-, k2, -⟩ := clk_ok2 q hq
  obtain ⟨-, k2⟩ := k2 (by omega)
  rw [h3] at k2
  have hin := mw_in q hq (by omega)
  have hse := mw_se q hq h5
  rw [h3] at hin hse
  obtain ⟨i1, i2, i5, -, -, i3, i4⟩ := mw_ok a l2
  have hsa : ∀ v ∈ (Sum.inr (Sum.inl o) : TV) :: args, okv v := okc trivial (fun v h => hst v (List.mem_append_left _ (List.mem_reverse.mpr h)))
  have ho : 0 < o := (hR.2.2 o (by omega)).1
  cases o with
  | zero => exact absurd ho (by omega)
  | succ o =>
    have hrc := recv_ok (o := o) (a := (mth a).2.2.2.2.1) X hR hS (by omega)
    rw [← i5] at hrc
    have hrun := va_runV (l := tw_L w) (e := e) (below := below) (meth := meth) (locs := locs) (cells := uc) (slots := us) (R := trm d n) (nL := (mth n).2.2.1) (g := F0 m pc lsr ((args.reverse ++ .inr (.inl (o + 1)) :: st).map tvv)) (rest := st.map tvv) (As := args.map tvv) (H := H) (C := (mth a).1.cls) (b := o) ⟨X.1, X.2.1, X.2.2.2.1, X.ow, X.lk⟩ hC
      ⟨callB_of (b - 1) X.lk (tws_good l2 hna) rfl rfl rfl (X.lk _ (g_mem i1 i2)) (X.lk _ (g_mem l1.1 l1.2)) ⟨i3, i4, l3⟩ (trm_room hd1 l2), X.lk _ (g_mem hin.1 hin.2), X.lk _ (g_memL hse.1 hse.2)⟩ ⟨tP_blind w _ Γ V, hrc, tP_at X hR hS hsa⟩ rfl (by rw [List.length_map]; omega) hL.1 (by simp [F0, tvv, rv]) (lv_room (by have := cat_sum st; omega)) hd ⟨hc, hs⟩
    exact W_call X hL (fun v h => hst v (List.mem_append_right _ (List.mem_cons_of_mem _ h))) hS hc hs hrun k
theorem g_callI {i a b o : Nat} {args : List TV} {c0 : Int} (hd : decode (mth n).2.1 pc = .ok (.invokespecial i, 3)) {q : Nat × Nat × Nat × Nat × Nat × Nat × Nat} (hq : q ∈ clk) (h1 : q.1 = (mth n).2.2.2.2.1) (h2 : q.2.1 = i) (h3 : q.2.2.1 = a) (h4 : q.2.2.2.1 = b) (h5 : q.2.2.2.2.2.1 = 2 ∨ q.2.2.2.2.2.1 = 3) (h6 : (q.2.2.2.2.1 : Int) = c0) (hk : (Γ.1 o : Int) = c0) (hd1 : 1 ≤ d) (hb : args.length + 1 = b) (hsl : cs st ≤ 8) (hc : uc + m_c a ≤ m_c n) (hs : us + m_s a ≤ m_s n)
    (hC : tC w (d - 1) a (.inr (.inl o) :: args) Γ V Q') (k : ∀ r Γ V, Q' r Γ V → tG w d n (pc + 3) ls (pr_ r st) Γ V (uc + m_c a) (us + m_s a) Q) : tG w d n pc ls (args.reverse ++ .inr (.inl o) :: st) Γ V uc us Q := by
  intro p e s m sargs below meth c H locs lsr X hL hst hR hS hu hv
  obtain ⟨l1, l2, l3⟩ := clk_ok q hq
  rw [h3] at l2 l3
  rw [if_neg (by omega), h4] at l3
  have hna : a ≠ 173 := by rw [← h3]; exact clk_law q hq
  obtain ⟨-, k2, k3⟩ := clk_ok2 q hq
  obtain ⟨-, k2⟩ := k2 (by omega)
  obtain ⟨k3, k4, k5⟩ := k3 (by omega)
  rw [h3] at k2 k3 k4
  have hin := mw_in q hq (by omega)
  rw [h3] at hin
  obtain ⟨i1, i2, i5, -, -, i3, i4⟩ := mw_ok a l2
  have hsa : ∀ v ∈ (Sum.inr (Sum.inl o) : TV) :: args, okv v := okc trivial (fun v h => hst v (List.mem_append_left _ (List.mem_reverse.mpr h)))
  have ho : 0 < o := (hR.2.2 o (by omega)).1
  have hw : tws a = Cond.code (mth a).1 (mth a).2.1 (mth a).2.2.1 none :: lw_g := by rw [← k4]
  cases o with
  | zero => exact absurd ho (by omega)
  | succ o =>
    have hlv : 2 * (F0 m pc lsr ((args.reverse ++ .inr (.inl (o + 1)) :: st).map tvv)).monitorRoom + ((st.map tvv).map fun v => v.category).sum ≤ 8 := lv_room (by have := cat_sum st; omega)
    rcases h5 with h5 | h5
    · have l1 := l1.resolve_left (by omega)
      rw [h1, h2, h3] at l1
      have hrun := va_runI (l := tw_L w) (e := e) (below := below) (meth := meth) (locs := locs) (cells := uc) (slots := us) (R := trm d n) (nL := (mth n).2.2.1) (g := F0 m pc lsr ((args.reverse ++ .inr (.inl (o + 1)) :: st).map tvv)) (rest := st.map tvv) (As := args.map tvv) (H := H) (b := o) ⟨X.1, X.2.1, X.2.2.2.1, X.ow, X.lk⟩ hC
        ⟨callB_of (b - 1) X.lk (tws_good l2 hna) hw rfl rfl (X.lk _ (g_mem i1 i2)) (X.lk _ (g_mem l1.1 l1.2)) ⟨i3, i4, l3⟩ (trm_room hd1 l2), k3, X.lk _ (g_mem hin.1 hin.2)⟩ ⟨tP_blind w _ Γ V, tP_at X hR hS hsa⟩ rfl (by rw [List.length_map]; omega) hL.1 (by simp [F0, tvv, rv]) hlv hd ⟨hc, hs⟩
      exact W_call X hL (fun v h => hst v (List.mem_append_right _ (List.mem_cons_of_mem _ h))) hS hc hs hrun k
    · have hn : va_Nw (.methodLinkNest (rnm (mth n).2.2.2.2.1) i (mth a).1 RX7) s := by
        refine X.K.2.1 _ (List.mem_map.mpr ⟨q, List.mem_filter.mpr ⟨hq, by simp [h5]⟩, ?_⟩)
        rw [h1, h2, h3]
      have hrun := va_runIN (l := tw_L w) (e := e) (below := below) (meth := meth) (locs := locs) (cells := uc) (slots := us) (R := trm d n) (nL := (mth n).2.2.1) (g := F0 m pc lsr ((args.reverse ++ .inr (.inl (o + 1)) :: st).map tvv)) (rest := st.map tvv) (As := args.map tvv) (H := H) (b := o) ⟨X.1, X.2.1, X.2.2.2.1, X.ow, X.lk⟩ hC
        ⟨va_cnB (b - 1) X.lk (tws_good l2 hna) hw rfl rfl hn (X.lk _ (g_mem i1 i2)) ⟨i3, i4, l3⟩ (trm_room hd1 l2), k3, X.lk _ (g_mem hin.1 hin.2)⟩ ⟨tP_blind w _ Γ V, tP_at X hR hS hsa⟩ rfl (by rw [List.length_map]; omega) hL.1 (by simp [F0, tvv, rv]) hlv hd ⟨hc, hs⟩
      exact W_call X hL (fun v h => hst v (List.mem_append_right _ (List.mem_cons_of_mem _ h))) hS hc hs hrun k
theorem g_objinit {i o : Nat} (hd : decode (mth n).2.1 pc = .ok (.invokespecial i, 3)) {q : Nat × Nat × Nat} (hq : q ∈ oik) (h1 : q.1 = (mth n).2.2.2.2.1) (h2 : q.2.1 = i) (ho : o ≠ 0) (hd1 : 1 ≤ d) (hsl : cs st ≤ 8) (k : tG w d n (pc + 3) ls st Γ V uc us Q) : tG w d n pc ls (.inr (.inl o) :: st) Γ V uc us Q := by
  intro p e s m sargs below meth c H locs lsr X hL hst hR hS hu hv
  obtain ⟨l1, l2⟩ := oik_ok q hq
  rw [h1, h2] at l1 l2
  cases o with
  | zero => exact absurd rfl ho
  | succ o =>
    refine W.objInit X.1 X.2.1 X.ow (X.lk _ (g_mem l1 l2)) (X.lk _ (g_mem obj_ok.1 obj_ok.2.1)) (X.lk _ (g_mem obj_ok.2.2.1 obj_ok.2.2.2)) rfl (by rw [X.2.2.2.1]; exact hL.1) rfl hd hd1 ?_ ?_
    · have := cat_sum st
      show 2 * 0 + _ + 12 ≤ 38 * d
      omega
    · exact k p e s m sargs below meth c H locs lsr X hL (okd hst) hR hS hu hv
end TB
