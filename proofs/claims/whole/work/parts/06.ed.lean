/-! the heap's rows -/
theorem okv_fv {t : Nat} {x : Int} (ht : t < 5) (h : okt t x) : okv (fv t x) := by
  match t, ht, h with
  | 0, _, h => exact h
  | 1, _, h =>
    have h : x = 0 ∨ x = 1 := h
    show -2147483648 ≤ x ∧ x ≤ 2147483647
    omega
  | 2, _, h => exact h
  | 3, _, _ => exact trivial
  | 4, _, h =>
    have h : -128 ≤ x ∧ x ≤ 127 := h
    show -2147483648 ≤ x ∧ x ≤ 2147483647
    omega
theorem ck.kept {w : WP} {Γ : GM} {V V' : VH} {H H' : Heap} {t : Nat} (h : ck w Γ V H t) (hH : H'[t - 1]? = H[t - 1]?) (hV : ∀ j, V' t j = V t j) : ck w Γ V' H' t := by
  have e : V' t = V t := funext hV
  obtain ⟨h1, h2, h3⟩ := h
  refine ⟨h1, h2, ?_⟩
  rcases h3 with ⟨a1, a2, a3, a4⟩ | ⟨a1, a2, a3, a4, a5, a6⟩ | ⟨a1, a2, a3, a4, a5, a6, a7, a8⟩ | ⟨a1, a2, k, a3, a4, a5, a6⟩
  · exact Or.inl ⟨a1, a2, by simp only [e]; exact a3.kept hH, by simp only [e]; exact a4⟩
  · exact Or.inr (Or.inl ⟨a1, a2, a3, a4, by simp only [e]; rw [hH]; exact a5, by simp only [e]; exact a6⟩)
  · exact Or.inr (Or.inr (Or.inl ⟨a1, a2, a3, a4, by rw [hH]; exact a5, a6, a7, by simp only [e]; exact a8⟩))
  · exact Or.inr (Or.inr (Or.inr ⟨a1, a2, k, a3, a4, a5, by simp only [e]; exact a6⟩))
theorem RH.upd {w : WP} {Γ : GM} {V V' : VH} {H H' : Heap} {o : Nat} (hR : RH w Γ V H) (hz : H'.size = H.size) (ho : ∀ q, q ≠ o - 1 → H'[q]? = H[q]?) (h0 : 0 < o) (hV : ∀ t j, t ≠ o → V' t j = V t j) (hc : ck w Γ V' H' o) : RH w Γ V' H' := by
  refine ⟨hz.trans hR.1, by rw [hz]; exact hR.2.1, fun t ht => ?_⟩
  by_cases e : t = o
  · subst e; exact hc
  · have h := hR.2.2 t ht
    have h1 := h.1
    exact h.kept (ho _ (by omega)) (fun j => hV t j e)
theorem up_ne {V : VH} {a k : Nat} {x : Int} {b j : Nat} (h : b ≠ a) : up V a k x b j = V b j := if_neg (fun e => h e.1)
theorem up_nk {V : VH} {a k : Nat} {x : Int} {b j : Nat} (h : j ≠ k) : up V a k x b j = V b j := if_neg (fun e => h e.2)
theorem up_at {V : VH} {a k : Nat} {x : Int} : up V a k x a k = x := if_pos ⟨rfl, rfl⟩
/-- an object of class a at o -/
theorem RH.obj {w : WP} {Γ : GM} {V : VH} {H : Heap} {o a : Nat} (hR : RH w Γ V H) (hk : Γ.1 o = a + 1) (ha : a < 9) : 0 < o ∧ o ≤ Γ.2.2 ∧ tw_Z w < o ∧ t_OB (o - 1) (tw_C w a) (nf a) (tw_I w a) H (fun k => tvv (fv (ftc a k) (V o k))) ∧ ∀ k, k < nf a → okt (ftc a k) (V o k) := by
  obtain ⟨h1, h2, h3⟩ := hR.2.2 o (by omega)
  have e : Γ.1 o - 1 = a := by omega
  rcases h3 with ⟨a1, a2, a3, a4⟩ | ⟨a1, a2, -⟩ | ⟨a1, -⟩ | ⟨a1, -⟩
  · rw [e] at a3 a4
    exact ⟨h1, h2, a2, a3, a4⟩
  · omega
  · omega
  · omega
theorem RH.arr {w : WP} {Γ : GM} {V : VH} {H : Heap} {o a : Nat} (hR : RH w Γ V H) (hk : Γ.1 o = a) (ha : 10 ≤ a) (hb : a ≤ 15) : 0 < o ∧ o ≤ Γ.2.2 ∧ tw_Z w < o ∧ Γ.2.1 o ≤ 100000 ∧ H[o - 1]? = some (arrV (tw_A w a) (Γ.2.1 o) (fun j => tvv (fv (atc a) (V o j)))) ∧ ∀ j, j < Γ.2.1 o → okt (atc a) (V o j) := by
  obtain ⟨h1, h2, h3⟩ := hR.2.2 o (by omega)
  subst hk
  rcases h3 with ⟨a1, -⟩ | ⟨a1, a2, a3, a4, a5, a6⟩ | ⟨a1, -⟩ | ⟨a1, -⟩
  · omega
  · exact ⟨h1, h2, a3, a4, a5, a6⟩
  · omega
  · omega
theorem fit_ok {ty : FieldType} {x : Int} (ht : ftOf ty < 5) (h : okt (ftOf ty) x) : narrow ty (tvv (fv (ftOf ty) x)) = tvv (fv (ftOf ty) x) ∧ fits ty (tvv (fv (ftOf ty) x)) = true := by
  cases ty with
  | int => exact ⟨rfl, rfl⟩
  | boolean =>
    have h : x = 0 ∨ x = 1 := h
    rcases h with rfl | rfl <;> exact ⟨by decide, by decide⟩
  | long => exact ⟨rfl, rfl⟩
  | object C =>
    show narrow (.object C) (rv x.toNat) = rv x.toNat ∧ fits (.object C) (rv x.toNat) = true
    cases x.toNat <;> exact ⟨rfl, rfl⟩
  | array C =>
    show narrow (.array C) (rv x.toNat) = rv x.toNat ∧ fits (.array C) (rv x.toNat) = true
    cases x.toNat <;> exact ⟨rfl, rfl⟩
  | byte =>
    have h : -128 ≤ x ∧ x ≤ 127 := h
    have h0 : okt 0 x := ⟨by omega, by omega⟩
    have e1 : (Int32.ofInt x).toInt8.toInt32 = Int32.ofInt x := by
      apply Int32.toInt_inj.mp
      rw [Int8.toInt_toInt32, Int32.toInt_toInt8, ti_ h0]
      exact Int.bmod_eq_of_le (by omega) (by omega)
    refine ⟨?_, ?_⟩
    · show Value.int ((Int32.ofInt x).toInt8.toInt32) = _
      rw [e1]
      rfl
    · show (decide ((-128 : Int32) ≤ Int32.ofInt x) && decide (Int32.ofInt x ≤ 127)) = true
      have q1 : (-128 : Int32) ≤ Int32.ofInt x := (e_le (x := -128) ⟨by decide, by decide⟩ h0).mpr h.1
      have q2 : Int32.ofInt x ≤ (127 : Int32) := (e_le (y := 127) h0 ⟨by decide, by decide⟩).mpr h.2
      simp [q1, q2]
  | _ => exact absurd ht (by decide)
section TB
variable {w : WP} {d n pc : Nat} {ls : LT} {st : List TV} {Γ : GM} {V : VH} {uc us : Nat} {Q : QT}
theorem tX.lk {p : Program} {s : State} {m : MethodId} {args : Array Value} {meth : Method} {c : Code} (X : tX w n p s m args meth c) : ∀ q ∈ lw_g, q.before args s = true := X.2.2.2.2.2.1
theorem tX.ow {p : Program} {s : State} {m : MethodId} {args : Array Value} {meth : Method} {c : Code} (X : tX w n p s m args meth c) : s.vm.findClass (rnm (mth n).2.2.2.2.1) = some m.cls := X.2.2.2.2.1
theorem tX.K {p : Program} {s : State} {m : MethodId} {args : Array Value} {meth : Method} {c : Code} (X : tX w n p s m args meth c) : KU w s := X.2.2.2.2.2.2.2.2.1
theorem g_getfield {i a b o : Nat} (hd : decode (mth n).2.1 pc = .ok (.getfield i, 3)) {q : Nat × Nat × Nat × Nat × Nat} (hq : q ∈ flk) (h1 : q.1 = (mth n).2.2.2.2.1) (h2 : q.2.1 = i) (h3 : q.2.2.1 = a) (h4 : q.2.2.2.1 = b) (hk : Γ.1 o = a + 1) (k : tG w d n (pc + 3) ls (fv (ftc a b) (V o b) :: st) Γ V uc us Q) : tG w d n pc ls (.inr (.inl o) :: st) Γ V uc us Q := by
  intro p e s m args below meth c H locs lsr X hL hst hR hS hu hv
  obtain ⟨l1, l2, l3, l4⟩ := flk_ok q hq
  rw [h1, h2, h3, h4] at l1 l2
  rw [h3] at l3
  rw [h3, h4] at l4
  obtain ⟨C, T, N, c1, c2, c3, c4, c5, c6, c7⟩ := cf_ok a l3
  subst c2; subst c3
  obtain ⟨r1, r2, r3, r4, r5⟩ := hR.obj hk l3
  cases o with
  | zero => exact absurd r1 (by omega)
  | succ o =>
    have hP : va_P (tw_C w, tw_I w) vwCl [(o, .inr (a, (List.range (nf a)).map (fun k => tvv (fv (ftc a k) (V (o + 1) k)))))] H := by
      intro k q hk
      have hz : k < 1 := (List.getElem?_eq_some_iff.mp hk).1
      rw [show k = 0 by omega] at hk
      cases hk
      refine ⟨_, c1, t_OB.to r4 (fun j hj => ?_)⟩
      simp [vp_V, hj]
    have hl := X.lk _ (g_mem l1 l2)
    rw [← (ft_ok a l3 b l4).2.2, ← c7 b] at hl
    refine va_get (C := rnm a) (T := T) (N := nf a) (ci := a) X.1 X.2.1 X.lk c4 X.ow X.K.1 hP 0 rfl c1 b l4 hl (fun _ h => h) (v := tvv (fv (ftc a b) (V (o + 1) b))) ?_ hd ?_
    · simp [l4]
    · exact k p e s m args below meth c H locs lsr X hL (okc (okv_fv (by have := (ft_ok a l3 b l4).2.1; omega) (r5 b l4)) (okd hst)) hR hS hu hv
theorem g_putfield {i a b o : Nat} {x : Int} (hd : decode (mth n).2.1 pc = .ok (.putfield i, 3)) {q : Nat × Nat × Nat × Nat × Nat} (hq : q ∈ flk) (h1 : q.1 = (mth n).2.2.2.2.1) (h2 : q.2.1 = i) (h3 : q.2.2.1 = a) (h4 : q.2.2.2.1 = b) (hfin : (fT a b).2.2.2 = true → (mth n).1.name = "<init>" ∧ a = (mth n).2.2.2.2.1) (hk : Γ.1 o = a + 1) (hx : okt (ftc a b) x) (k : tG w d n (pc + 3) ls st Γ (up V o b x) uc us Q) : tG w d n pc ls (fv (ftc a b) x :: .inr (.inl o) :: st) Γ V uc us Q := by
  intro p e s m args below meth c H locs lsr X hL hst hR hS hu hv
  obtain ⟨l1, l2, l3, l4⟩ := flk_ok q hq
  rw [h1, h2, h3, h4] at l1 l2
  rw [h3] at l3
  rw [h3, h4] at l4
  obtain ⟨C, T, N, c1, c2, c3, c4, c5, c6, c7⟩ := cf_ok a l3
  subst c2; subst c3
  obtain ⟨r1, r2, r3, r4, r5⟩ := hR.obj hk l3
  obtain ⟨f1, f2, f3⟩ := ft_ok a l3 b l4
  cases o with
  | zero => exact absurd r1 (by omega)
  | succ o =>
    have hl := X.lk _ (g_mem l1 l2)
    rw [← f3, ← c7 b] at hl
    have hap := va_apart (own := rnm a) X.lk c4 (tyf a) c5 c6 X.K.1 c1
    obtain ⟨cell, q1, q2, q3, q4⟩ := r4
    obtain ⟨hSl, hfc, kC, hkC, hkind⟩ := X.K.1.1 a _ c1
    obtain ⟨cf, kf, fi, f, hi, hsl⟩ := hSl b l4
    have hft := fit_ok (ty := tyf a b) (x := x) (by omega) (by rw [f1]; exact hx)
    rw [f1] at hft
    have hlay := X.lk _ (c4 _ (u_in_lay l4))
    have hst2 := (u_facts hfc hkC (u_lays X.lk c4 l4) hi).1
    have fin : ∀ (H' : Heap) (locs' : List Loc), H'[o]? = some (cell.setSlot (tw_I w a b) (tvv (fv (ftc a b) x))) → H'.size = H.size → (∀ q, q ≠ o → H'[q]? = H[q]?) → va_S (tA w) s.heap H' locs' → W p (tw_L w) e (trm d n) s m args below meth c H' locs' uc us (MQ below (tQ w Q) args s (m_c n) (m_s n) (tA w)) (F0 m (pc + 3) lsr (st.map tvv)) := by
      intro H' locs' e1 e2 e3 e4
      refine k p e s m args below meth c H' locs' lsr X hL (okd (okd hst)) ?_ e4 hu hv
      refine hR.upd (o := o + 1) e2 (fun q hq => e3 q hq) (by omega) (fun t j ht => up_ne ht) ?_
      refine ⟨by omega, r2, Or.inl ⟨by omega, r3, ?_, ?_⟩⟩
      · rw [show Γ.1 (o + 1) - 1 = a by omega]
        refine ⟨_, e1, q2, q3, fun j hj => ?_⟩
        rw [t_set q4 hap l4 _ j hj]
        by_cases hjb : j = b
        · subst hjb
          simp [updV, up_at]
        · simp [updV, hjb, up_nk hjb]
      · rw [show Γ.1 (o + 1) - 1 = a by omega]
        intro j hj
        by_cases hjb : j = b
        · subst hjb
          rw [up_at]
          exact hx
        · rw [up_nk hjb]
          exact r5 j hj
    by_cases hF : (T b).2.2.2 = true
    · obtain ⟨i1, i2⟩ := hfin (by rw [← c7 b]; exact hF)
      unfold u_lay at hlay
      rw [if_pos hF] at hlay
      have hcf : m.cls = cf := by
        obtain ⟨_, _, c', _, _, _, -, -, hf', -, -, -, hown2, -⟩ := Cond.laysFinal_spec hlay
        have e1 : c' = cf := by have := hi.symm.trans hf'; simp at this; exact this.1.symm
        have hd2 : (T b).1 = rnm (mth n).2.2.2.2.1 := by rw [c7 b, f3, ← i2]
        rw [hd2] at hown2
        rw [← e1]; exact Option.some.inj (X.ow.symm.trans hown2)
      have h6 := u_fits hfc hkC hkind (Or.inr hlay) hi (c5 b l4) hft.1 hft.2
      refine W.putFinK X.1 X.2.1 X.ow hl hi hst2 hcf (X.2.2.2.2.2.2.2.1 i1) (by rw [q2]; exact h6) q1 q3 (by rw [hsl]; exact k2_hasslot (q4 b l4)) rfl rfl hd fun H' e1 e2 e3 => ?_
      rw [hsl] at e1
      exact fin H' _ e1 e2 e3 (hS.put e2 e3 (show tw_Z w ≤ o by omega))
    · have hF : (T b).2.2.2 = false := by simpa using hF
      unfold u_lay at hlay
      rw [if_neg (by rw [hF]; decide)] at hlay
      have h6 := u_store hfc hkC hkind hlay hi (c5 b l4) hft.1 hft.2
      refine W.putK X.1 X.2.1 (f := f) ⟨X.ow, hl, ⟨_, _, _, hi⟩, hst2⟩ (by rw [q2]; exact h6) q1 q3 (by rw [hsl]; exact k2_hasslot (q4 b l4)) rfl rfl hd fun H' e1 e2 e3 => ?_
      rw [hsl] at e1
      exact fin H' _ e1 e2 e3 (hS.put e2 e3 (show tw_Z w ≤ o by omega))
theorem ka_int {s : State} (K : KU w s) (N : Nat) (f : Nat → Value) : s.isArrayOf (arrV (tw_A w 10) N f) .int := (K.1.2 0 _ rfl).1 N f
theorem ka_byte {s : State} (K : KU w s) (N : Nat) (f : Nat → Value) : s.isArrayOf (arrV (tw_A w 11) N f) .byte := (K.1.2 1 _ rfl).1 N f
theorem ka_long {s : State} (K : KU w s) (N : Nat) (f : Nat → Value) : s.isArrayOf (arrV (tw_A w 12) N f) .long := (K.1.2 2 _ rfl).1 N f
def acl (a : Nat) : String := if a = 13 then RX1 else if a = 14 then RX2 else RX3
theorem ka_ref {s : State} (K : KU w s) {a : Nat} (ha : 13 ≤ a ∧ a ≤ 15) : ArrOfT s (tw_A w a) (.object (acl a)) ∧ va_RA s (tw_A w a) (.object (acl a)) := by
  rcases (show a = 13 ∨ a = 14 ∨ a = 15 by omega) with rfl | rfl | rfl
  · exact K.1.2 3 _ rfl
  · exact K.1.2 4 _ rfl
  · exact K.1.2 5 _ rfl
theorem arr_in {cA : ClassId} {N : Nat} {f : Nat → Value} {x : Int} (hx : okt 0 x) (h0 : 0 ≤ x) (h1 : x < (N : Int)) : ¬ (Int32.ofInt x < 0 ∨ (arrV cA N f).slots.size ≤ (Int32.ofInt x).toNatClampNeg) := by
  rw [arrV_size]
  exact e_in hx h0 h1
theorem arr_rd {cA : ClassId} {N : Nat} {f : Nat → Value} {x : Int} (hx : okt 0 x) (h0 : 0 ≤ x) (h1 : x < (N : Int)) : (arrV cA N f).slots[(Int32.ofInt x).toNatClampNeg]? = some (f x.toNat) := by
  rw [e_nat hx h0]
  exact arrV_read _ _ (by omega)
theorem g_iaload {o : Nat} {x : Int} (hd : decode (mth n).2.1 pc = .ok (.iaload, 1)) (hk : Γ.1 o = 10 ∨ Γ.1 o = 16) (h0 : 0 ≤ x) (h1 : x < (Γ.2.1 o : Int)) (k : tG w d n (pc + 1) ls (.inl (V o x.toNat) :: st) Γ V uc us Q) : tG w d n pc ls (.inl x :: .inr (.inl o) :: st) Γ V uc us Q := by
  intro p e s m args below meth c H locs lsr X hL hst hR hS hu hv
  have hx : okt 0 x := okh hst
  rcases hk with hk | hk
  · obtain ⟨r1, r2, r3, r4, r5, r6⟩ := hR.arr hk (by omega) (by omega)
    cases o with
    | zero => exact absurd r1 (by omega)
    | succ o =>
      refine W.iald X.1 X.2.1 r5 (ka_int X.K _ _) (fun h => by cases h) (arr_in hx h0 h1) (arr_rd hx h0 h1) rfl rfl hd ?_
      exact k p e s m args below meth c H locs lsr X hL (okc (v := .inl _) (r6 x.toNat (by omega)) (okd (okd hst))) hR hS hu hv
  · obtain ⟨q1, q2, h3⟩ := hR.2.2 o (by omega)
    rcases h3 with ⟨a1, -⟩ | ⟨a1, a2, -⟩ | ⟨a1, a2, a3, a4, a5, a6, a7, a8⟩ | ⟨a1, -⟩
    · omega
    · omega
    · cases o with
      | zero => exact absurd q1 (by omega)
      | succ o =>
        refine W.iald X.1 X.2.1 a5 X.K.2.2.2.2 a6 (by rw [a7]; exact e_in hx h0 h1) (by rw [e_nat hx h0]; exact (a8 x.toNat (by omega)).1) rfl rfl hd ?_
        exact k p e s m args below meth c H locs lsr X hL (okc (v := .inl _) (a8 x.toNat (by omega)).2 (okd (okd hst))) hR hS hu hv
    · omega
theorem g_baload {o : Nat} {x : Int} (hd : decode (mth n).2.1 pc = .ok (.baload, 1)) (hk : Γ.1 o = 11) (h0 : 0 ≤ x) (h1 : x < (Γ.2.1 o : Int)) (k : tG w d n (pc + 1) ls (.inl (V o x.toNat) :: st) Γ V uc us Q) : tG w d n pc ls (.inl x :: .inr (.inl o) :: st) Γ V uc us Q := by
  intro p e s m args below meth c H locs lsr X hL hst hR hS hu hv
  have hx : okt 0 x := okh hst
  obtain ⟨r1, r2, r3, r4, r5, r6⟩ := hR.arr hk (by omega) (by omega)
  cases o with
  | zero => exact absurd r1 (by omega)
  | succ o =>
    refine W.bald X.1 X.2.1 r5 (ka_byte X.K _ _) (fun h => by cases h) (arr_in hx h0 h1) (arr_rd hx h0 h1) rfl rfl hd ?_
    exact k p e s m args below meth c H locs lsr X hL (okc (v := .inl _) (okv_fv (t := 4) (by omega) (r6 x.toNat (by omega))) (okd (okd hst))) hR hS hu hv
theorem g_laload {o : Nat} {x : Int} (hd : decode (mth n).2.1 pc = .ok (.laload, 1)) (hk : Γ.1 o = 12) (h0 : 0 ≤ x) (h1 : x < (Γ.2.1 o : Int)) (k : tG w d n (pc + 1) ls (.inr (.inr (V o x.toNat)) :: st) Γ V uc us Q) : tG w d n pc ls (.inl x :: .inr (.inl o) :: st) Γ V uc us Q := by
  intro p e s m args below meth c H locs lsr X hL hst hR hS hu hv
  have hx : okt 0 x := okh hst
  obtain ⟨r1, r2, r3, r4, r5, r6⟩ := hR.arr hk (by omega) (by omega)
  cases o with
  | zero => exact absurd r1 (by omega)
  | succ o =>
    refine W.lald X.1 X.2.1 r5 (ka_long X.K _ _) (fun h => by cases h) (arr_in hx h0 h1) (arr_rd hx h0 h1) rfl rfl hd ?_
    exact k p e s m args below meth c H locs lsr X hL (okc (v := .inr (.inr _)) (r6 x.toNat (by omega)) (okd (okd hst))) hR hS hu hv
theorem atc_ref {a : Nat} (ha : 13 ≤ a) : atc a = 3 := by
  unfold atc
  rw [if_neg (by omega), if_neg (by omega), if_neg (by omega)]
theorem g_aaload {o : Nat} {x : Int} (hd : decode (mth n).2.1 pc = .ok (.aaload, 1)) (hk : 13 ≤ Γ.1 o ∧ Γ.1 o ≤ 15) (h0 : 0 ≤ x) (h1 : x < (Γ.2.1 o : Int)) (k : tG w d n (pc + 1) ls (.inr (.inl (V o x.toNat).toNat) :: st) Γ V uc us Q) : tG w d n pc ls (.inl x :: .inr (.inl o) :: st) Γ V uc us Q := by
  intro p e s m args below meth c H locs lsr X hL hst hR hS hu hv
  have hx : okt 0 x := okh hst
  obtain ⟨r1, r2, r3, r4, r5, r6⟩ := hR.arr (a := Γ.1 o) rfl (by omega) (by omega)
  rw [atc_ref hk.1] at r5
  cases o with
  | zero => exact absurd r1 (by omega)
  | succ o =>
    refine W.aald (ty := .object (acl (Γ.1 (o + 1)))) X.1 X.2.1 r5 ((ka_ref X.K hk).1 _ _) rfl (fun h => by cases h) (arr_in hx h0 h1) (arr_rd hx h0 h1) rfl rfl hd ?_
    exact k p e s m args below meth c H locs lsr X hL (okc (v := .inr (.inl _)) trivial (okd (okd hst))) hR hS hu hv
/-- an element written -/
theorem RH.elt {H H' : Heap} {o a : Nat} {x y : Int} (hR : RH w Γ V H) (hk : Γ.1 o = a) (ha : 10 ≤ a) (hb : a ≤ 15) (h0 : 0 ≤ x) (h1 : x < (Γ.2.1 o : Int)) (hy : okt (atc a) y)
    (e1 : H'[o - 1]? = some ((arrV (tw_A w a) (Γ.2.1 o) (fun j => tvv (fv (atc a) (V o j)))).setSlot x.toNat (tvv (fv (atc a) y)))) (e2 : H'.size = H.size) (e3 : ∀ q, q ≠ o - 1 → H'[q]? = H[q]?) : RH w Γ (up V o x.toNat y) H' := by
  obtain ⟨r1, r2, r3, r4, r5, r6⟩ := hR.arr hk ha hb
  refine hR.upd (o := o) e2 e3 r1 (fun t j ht => up_ne ht) ?_
  refine ⟨r1, r2, Or.inr (Or.inl ⟨by omega, by omega, r3, r4, ?_, ?_⟩)⟩
  · rw [e1, hk, arrV_store]
    congr 2
    funext j
    by_cases hj : j = x.toNat
    · subst hj
      simp [updV, up_at]
    · simp [updV, hj, up_nk hj]
  · intro j hj
    rw [hk]
    by_cases hjx : j = x.toNat
    · subst hjx
      rw [up_at]
      exact hy
    · rw [up_nk hjx]
      exact r6 j hj
theorem g_iastore {o : Nat} {x y : Int} (hd : decode (mth n).2.1 pc = .ok (.iastore, 1)) (hk : Γ.1 o = 10) (h0 : 0 ≤ x) (h1 : x < (Γ.2.1 o : Int)) (k : tG w d n (pc + 1) ls st Γ (up V o x.toNat y) uc us Q) : tG w d n pc ls (.inl y :: .inl x :: .inr (.inl o) :: st) Γ V uc us Q := by
  intro p e s m args below meth c H locs lsr X hL hst hR hS hu hv
  have hy : okt 0 y := okh hst
  have hx : okt 0 x := okh (okd hst)
  obtain ⟨r1, r2, r3, r4, r5, r6⟩ := hR.arr hk (by omega) (by omega)
  cases o with
  | zero => exact absurd r1 (by omega)
  | succ o =>
    refine W.iast X.1 X.2.1 r5 (ka_int X.K _ _) (fun h => by cases h) (arr_in hx h0 h1) rfl rfl hd fun H' e1 e2 e3 => ?_
    rw [e_nat hx h0] at e1 ⊢
    exact k p e s m args below meth c H' _ lsr X hL (okd (okd (okd hst))) (hR.elt hk (by omega) (by omega) h0 h1 hy e1 e2 e3) (hS.put e2 e3 (show tw_Z w ≤ o by omega)) hu hv
theorem g_bastore {o : Nat} {x y : Int} (hd : decode (mth n).2.1 pc = .ok (.bastore, 1)) (hk : Γ.1 o = 11) (h0 : 0 ≤ x) (h1 : x < (Γ.2.1 o : Int)) (hy : -128 ≤ y ∧ y ≤ 127) (k : tG w d n (pc + 1) ls st Γ (up V o x.toNat y) uc us Q) : tG w d n pc ls (.inl y :: .inl x :: .inr (.inl o) :: st) Γ V uc us Q := by
  intro p e s m args below meth c H locs lsr X hL hst hR hS hu hv
  have hx : okt 0 x := okh (okd hst)
  obtain ⟨r1, r2, r3, r4, r5, r6⟩ := hR.arr hk (by omega) (by omega)
  cases o with
  | zero => exact absurd r1 (by omega)
  | succ o =>
    refine W.bast X.1 X.2.1 r5 (ka_byte X.K _ _) (fun h => by cases h) (arr_in hx h0 h1) rfl rfl hd fun H' e1 e2 e3 => ?_
    have hn := (fit_ok (ty := .byte) (x := y) (by decide) hy).1
    have hn : narrow .byte (.int (Int32.ofInt y)) = tvv (fv (atc 11) y) := hn
    rw [e_nat hx h0, hn] at e1
    rw [e_nat hx h0]
    exact k p e s m args below meth c H' _ lsr X hL (okd (okd (okd hst))) (hR.elt hk (by omega) (by omega) h0 h1 hy e1 e2 e3) (hS.put e2 e3 (show tw_Z w ≤ o by omega)) hu hv
theorem g_lastore {o : Nat} {x y : Int} (hd : decode (mth n).2.1 pc = .ok (.lastore, 1)) (hk : Γ.1 o = 12) (h0 : 0 ≤ x) (h1 : x < (Γ.2.1 o : Int)) (k : tG w d n (pc + 1) ls st Γ (up V o x.toNat y) uc us Q) : tG w d n pc ls (.inr (.inr y) :: .inl x :: .inr (.inl o) :: st) Γ V uc us Q := by
  intro p e s m args below meth c H locs lsr X hL hst hR hS hu hv
  have hy : okt 2 y := okh hst
  have hx : okt 0 x := okh (okd hst)
  obtain ⟨r1, r2, r3, r4, r5, r6⟩ := hR.arr hk (by omega) (by omega)
  cases o with
  | zero => exact absurd r1 (by omega)
  | succ o =>
    refine W.last X.1 X.2.1 r5 (ka_long X.K _ _) (fun h => by cases h) (arr_in hx h0 h1) rfl rfl hd fun H' e1 e2 e3 => ?_
    rw [e_nat hx h0] at e1 ⊢
    exact k p e s m args below meth c H' _ lsr X hL (okd (okd (okd hst))) (hR.elt hk (by omega) (by omega) h0 h1 hy e1 e2 e3) (hS.put e2 e3 (show tw_Z w ≤ o by omega)) hu hv
theorem g_aastore {o y : Nat} {x : Int} (hd : decode (mth n).2.1 pc = .ok (.aastore, 1)) (hk : 2 ≤ Γ.1 y ∧ Γ.1 y ≤ 4 ∧ Γ.1 o = Γ.1 y + 11) (h0 : 0 ≤ x) (h1 : x < (Γ.2.1 o : Int)) (k : tG w d n (pc + 1) ls st Γ (up V o x.toNat (y : Int)) uc us Q) : tG w d n pc ls (.inr (.inl y) :: .inl x :: .inr (.inl o) :: st) Γ V uc us Q := by
  intro p e s m args below meth c H locs lsr X hL hst hR hS hu hv
  have hx : okt 0 x := okh (okd hst)
  obtain ⟨r1, r2, r3, r4, r5, r6⟩ := hR.arr (a := Γ.1 o) rfl (by omega) (by omega)
  obtain ⟨v1, v2, v3, ⟨cv, v4, v5, v6, -⟩, -⟩ := hR.obj (o := y) (a := Γ.1 y - 1) (by omega) (by omega)
  have hka := ka_ref X.K (a := Γ.1 o) (by omega)
  obtain ⟨C, T, N, c1, c2, -⟩ := cf_ok (Γ.1 y - 1) (by omega)
  have hcls := (X.K.1.1 (Γ.1 y - 1) _ c1).2
  have hac : acl (Γ.1 o) = C := by
    rw [c2]
    rcases (show Γ.1 y = 2 ∨ Γ.1 y = 3 ∨ Γ.1 y = 4 by omega) with h | h | h <;> (rw [hk.2.2, h]; rfl)
  obtain ⟨kA, comp, k1, k2, k3, -⟩ := hka.2
  rw [hac] at k2 k3
  have hcomp : comp = tw_C w (Γ.1 y - 1) := Option.some.inj (k3.symm.trans hcls.1)
  subst hcomp
  obtain ⟨kC, hkC, -⟩ := hcls.2
  cases o with
  | zero => exact absurd r1 (by omega)
  | succ o =>
    cases y with
    | zero => exact absurd v1 (by omega)
    | succ y =>
      have hin : ¬ Int32.ofInt x < 0 ∧ (Int32.ofInt x).toNatClampNeg < Γ.2.1 (o + 1) := by
        have := e_in (n := Γ.2.1 (o + 1)) hx h0 h1
        exact ⟨fun h => this (Or.inl h), Nat.not_le.mp (fun h => this (Or.inr h))⟩
      refine W.aast X.1 X.2.1 r5 (fun q h => by cases h) (fun h => by cases h) k1 k2 rfl hkC ⟨hin.1, by rw [arrV_size]; exact hin.2⟩ v4 (fun q h => by rw [v6] at h; cases h) (by rw [v5]; exact hkC) (by rw [v5]; exact va_assign hcls) rfl rfl hd fun H' e1 e2 e3 => ?_
      rw [e_nat hx h0] at e1 ⊢
      have hat := atc_ref (a := Γ.1 (o + 1)) (by omega)
      refine k p e s m args below meth c H' _ lsr X hL (okd (okd (okd hst))) (hR.elt (a := Γ.1 (o + 1)) (y := ((y + 1 : Nat) : Int)) rfl (by omega) (by omega) h0 h1 (by rw [hat]; trivial) ?_ e2 e3) (hS.put e2 e3 (show tw_Z w ≤ o by omega)) hu hv
      refine e1.trans ?_
      congr 2
      rw [hat]
      rfl
theorem g_alen {o : Nat} (hd : decode (mth n).2.1 pc = .ok (.arraylength, 1)) (hk : 10 ≤ Γ.1 o ∧ Γ.1 o ≤ 16) (k : tG w d n (pc + 1) ls (.inl (Γ.2.1 o : Int) :: st) Γ V uc us Q) : tG w d n pc ls (.inr (.inl o) :: st) Γ V uc us Q := by
  intro p e s m args below meth c H locs lsr X hL hst hR hS hu hv
  have hn : ∀ N : Nat, N ≤ 100000 → N.toInt32 = Int32.ofInt (N : Int) ∧ okt 0 (N : Int) := fun N h => ⟨rfl, ⟨by omega, by omega⟩⟩
  by_cases h16 : Γ.1 o = 16
  · obtain ⟨q1, q2, h3⟩ := hR.2.2 o (by omega)
    rcases h3 with ⟨a1, -⟩ | ⟨a1, a2, -⟩ | ⟨a1, a2, a3, a4, a5, a6, a7, a8⟩ | ⟨a1, -⟩
    · omega
    · omega
    · cases o with
      | zero => exact absurd q1 (by omega)
      | succ o =>
        refine W.alen (n := Int32.ofInt (Γ.2.1 (o + 1) : Int)) X.1 X.2.1 a5 X.K.2.2.2.2 (by rw [a7]; exact (hn _ a4).1) rfl rfl hd ?_
        exact k p e s m args below meth c H locs lsr X hL (okc (v := .inl _) (hn _ a4).2 (okd hst)) hR hS hu hv
    · omega
  · obtain ⟨r1, r2, r3, r4, r5, r6⟩ := hR.arr (a := Γ.1 o) rfl (by omega) (by omega)
    cases o with
    | zero => exact absurd r1 (by omega)
    | succ o =>
      have hty : ∃ ty, s.isArrayOf (arrV (tw_A w (Γ.1 (o + 1))) (Γ.2.1 (o + 1)) (fun j => tvv (fv (atc (Γ.1 (o + 1))) (V (o + 1) j)))) ty := by
        rcases (show Γ.1 (o + 1) = 10 ∨ Γ.1 (o + 1) = 11 ∨ Γ.1 (o + 1) = 12 ∨ 13 ≤ Γ.1 (o + 1) by omega) with h | h | h | h
        · rw [h]; exact ⟨_, ka_int X.K _ _⟩
        · rw [h]; exact ⟨_, ka_byte X.K _ _⟩
        · rw [h]; exact ⟨_, ka_long X.K _ _⟩
        · exact ⟨_, (ka_ref X.K (a := Γ.1 (o + 1)) (by omega)).1 _ _⟩
      obtain ⟨ty, hty⟩ := hty
      refine W.alen (n := Int32.ofInt (Γ.2.1 (o + 1) : Int)) X.1 X.2.1 r5 hty (by rw [arrV_size]; exact (hn _ r4).1) rfl rfl hd ?_
      exact k p e s m args below meth c H locs lsr X hL (okc (v := .inl _) (hn _ r4).2 (okd hst)) hR hS hu hv
end TB
