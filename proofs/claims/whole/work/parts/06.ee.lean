/-! making cells, constants, returns, calls -/
theorem RH.new {w : WP} {Γ Γ' : GM} {V V' : VH} {H H' : Heap} (hR : RH w Γ V H) (hz : H'.size = H.size + 1) (ho : ∀ q, q < H.size → H'[q]? = H[q]?) (h2 : Γ'.2.2 = Γ.2.2 + 1)
    (hs : ∀ t, t ≠ Γ.2.2 + 1 → Γ'.1 t = Γ.1 t ∧ Γ'.2.1 t = Γ.2.1 t ∧ V' t = V t) (hc : ck w Γ' V' H' (Γ.2.2 + 1)) : RH w Γ' V' H' := by
  refine ⟨by rw [hz, h2, hR.1], by have := hR.2.1; omega, fun t ht => ?_⟩
  by_cases e : t = Γ.2.2 + 1
  · subst e; exact hc
  · obtain ⟨s1, s2, s3⟩ := hs t e
    have h := hR.2.2 t (by rw [← s1]; exact ht)
    obtain ⟨q1, q2, q3⟩ := h
    have hH : H'[t - 1]? = H[t - 1]? := ho _ (by have := hR.1; omega)
    have h := (show ck w Γ V H t from ⟨q1, q2, q3⟩).kept (V' := V') hH (fun j => by rw [s3])
    obtain ⟨-, -, h3⟩ := h
    refine ⟨q1, by omega, ?_⟩
    rw [s1, s2]
    exact h3
theorem def_ok {ty : FieldType} (h : ftOf ty < 5) : defaultValue ty = tvv (fv (ftOf ty) 0) := by
  cases ty with
  | int => rfl
  | boolean => rfl
  | long => rfl
  | object C => rfl
  | array C => rfl
  | byte => rfl
  | _ => exact absurd h (by decide)
theorem okt_0 (t : Nat) : okt t 0 := by
  unfold okt
  split <;> first | trivial | (constructor <;> decide) | exact Or.inl rfl
theorem rz_at {V : VH} {a j : Nat} : rz V a a j = 0 := if_pos rfl
theorem rz_ne {V : VH} {a b j : Nat} (h : b ≠ a) : rz V a b j = V b j := if_neg h
theorem uf_at {f : Nat → Nat} {a x : Nat} : uf f a x a = x := if_pos rfl
theorem uf_ne {f : Nat → Nat} {a x b : Nat} (h : b ≠ a) : uf f a x b = f b := if_neg h
theorem va_S.grow {A : Nat → Prop} {H0 H H1 : Heap} {locs : List Loc} (h : va_S A H0 H locs) (z : H1.size = H.size + 1) (oq : ∀ q : Nat, q < H.size → H1[q]? = H[q]?) : va_S A H0 H1 locs :=
  ⟨by have := h.1; omega, fun q h1 h2 => (oq q (Nat.lt_of_lt_of_le h1 h.1)).trans (h.2.1 q h1 h2), h.2.2⟩
section TB
variable {w : WP} {d n pc : Nat} {ls : LT} {st : List TV} {Γ : GM} {V : VH} {uc us : Nat} {Q : QT}
theorem g_new {i a : Nat} (hd : decode (mth n).2.1 pc = .ok (.new i, 3)) {q : Nat × Nat × Nat × Nat} (hq : q ∈ nwk) (h1 : q.1 = (mth n).2.2.2.2.1) (h2 : q.2.1 = i) (h3 : q.2.2.1 = a) (hc : uc + 1 ≤ m_c n) (hs : us + nf a ≤ m_s n)
    (k : tG w d n (pc + 3) ls (.inr (.inl (Γ.2.2 + 1)) :: st) (uf Γ.1 (Γ.2.2 + 1) (a + 1), Γ.2.1, Γ.2.2 + 1) (rz V (Γ.2.2 + 1)) (uc + 1) (us + nf a) Q) : tG w d n pc ls st Γ V uc us Q := by
  intro p e s m args below meth c H locs lsr X hL hst hR hS hu hv
  obtain ⟨l1, l2, l3⟩ := nwk_ok q hq
  rw [h1, h2, h3] at l1 l2
  rw [h3] at l3
  obtain ⟨C, T, N, c1, c2, c3, c4, c5, c6, c7⟩ := cf_ok a l3
  subst c2; subst c3
  obtain ⟨i1, i2, i3, i4⟩ := inl_ok a l3
  have hKn := X.K.1.1 a _ c1
  refine W.newcK X.1 X.2.1 X.ow (X.lk _ (g_mem l1 l2)) (X.lk _ (g_mem i1 i2)) (X.lk _ (g_mem i3 i4)) rfl hd hc hs hKn.2.1 rfl fun H' kC hkC e1 z1 o1 => ?_
  have hsz : H.size = Γ.2.2 := hR.1
  have hb := u_born (tyf a) X.lk c4 hKn hkC e1 c5
  have k := k p e s m args below meth c H' locs lsr X hL (okc (v := .inr (.inl _)) trivial hst) (hR.new z1 o1 rfl (fun t ht => ⟨uf_ne ht, rfl, funext fun j => rz_ne ht⟩) ?_) (hS.grow z1 o1) hc hs
  · simp only [List.map_cons, tvv, rv] at k
    rw [← hsz] at k
    exact k
  · refine ⟨by omega, Nat.le_refl _, Or.inl ?_⟩
    simp only [uf_at]
    refine ⟨by omega, by have := hR.2.1; omega, ?_, fun j _ => ?_⟩
    · rw [show Γ.2.2 + 1 - 1 = H.size by omega, show a + 1 - 1 = a by omega]
      refine hb.to (fun j hj => ?_)
      obtain ⟨f1, f2, -⟩ := ft_ok a l3 j hj
      rw [def_ok (by omega), f1, rz_at]
    · rw [rz_at]
      exact okt_0 _
theorem g_newarr {at_ : ArrayType} {a : Nat} {x : Int} (hd : decode (mth n).2.1 pc = .ok (.newarray at_, 2)) (ha : at_ = .int ∧ a = 10 ∨ at_ = .byte ∧ a = 11 ∨ at_ = .long ∧ a = 12) (h0 : 0 ≤ x) (h9 : x ≤ 100000) (hc : uc + 1 ≤ m_c n) (hs : us + x.toNat ≤ m_s n)
    (k : tG w d n (pc + 2) ls (.inr (.inl (Γ.2.2 + 1)) :: st) (uf Γ.1 (Γ.2.2 + 1) a, uf Γ.2.1 (Γ.2.2 + 1) x.toNat, Γ.2.2 + 1) (rz V (Γ.2.2 + 1)) (uc + 1) (us + x.toNat) Q) : tG w d n pc ls (.inl x :: st) Γ V uc us Q := by
  intro p e s m args below meth c H locs lsr X hL hst hR hS hu hv
  have hx : okt 0 x := okh hst
  have hsz : H.size = Γ.2.2 := hR.1
  have key : ∀ (ty : FieldType), newarray.typeOf at_ = ty → atc a = ftOf ty → ftOf ty < 5 → 10 ≤ a → a ≤ 15 → componentBytes ty ≤ 8 → s.vm.findClass ("[" ++ ty.toString) = some (tw_A w a) → (Cond.arrayClass ty).before args s = true → W p (tw_L w) e (trm d n) s m args below meth c H locs uc us (MQ below (tQ w Q) args s (m_c n) (m_s n) (tA w)) (F0 m pc lsr ((Sum.inl x :: st).map tvv)) := by
    intro ty hty hat hft ha1 ha2 hcb hfc harr
    refine va_newaK X.1 X.2.1 (atype := at_) (by rw [hty]; exact harr) rfl hd rfl (fun h => ?_) (e_nat hx h0) (by rw [hty]; exact Nat.le_trans (Nat.mul_le_mul (show x.toNat ≤ 100000 by omega) hcb) (Nat.le_of_ble_eq_true rfl)) hc hs rfl fun H' cA e1 z1 o1 hAr hNm => ?_
    · rw [e_0, e_lt hx ok0] at h
      omega
    · rw [hty] at e1 hNm
      have hcA : cA = tw_A w a := Option.some.inj (hNm.symm.trans hfc)
      subst hcA
      have k := k p e s m args below meth c H' locs lsr X hL (okc (v := .inr (.inl _)) trivial (okd hst)) (hR.new z1 o1 rfl (fun t ht => ⟨uf_ne ht, uf_ne ht, funext fun j => rz_ne ht⟩) ?_) (hS.grow z1 o1) hc hs
      · simp only [List.map_cons, tvv, rv] at k
        rw [← hsz] at k
        exact k
      · refine ⟨by omega, Nat.le_refl _, Or.inr (Or.inl ?_)⟩
        simp only [uf_at]
        refine ⟨ha1, ha2, by have := hR.2.1; omega, by omega, ?_, fun j _ => ?_⟩
        · rw [show Γ.2.2 + 1 - 1 = H.size by omega, e1]
          congr 2
          funext j
          rw [rz_at, hat, def_ok hft]
        · rw [rz_at]
          exact okt_0 _
  rcases ha with ⟨rfl, rfl⟩ | ⟨rfl, rfl⟩ | ⟨rfl, rfl⟩
  · exact key .int rfl rfl (by decide) (by omega) (by omega) (by decide) (X.K.1.2 0 _ rfl).2 (X.lk _ (g_mem arc_ok.1 rfl))
  · exact key .byte rfl rfl (by decide) (by omega) (by omega) (by decide) (X.K.1.2 1 _ rfl).2 (X.lk _ (g_mem arc_ok.2.1 rfl))
  · exact key .long rfl rfl (by decide) (by omega) (by omega) (by decide) (X.K.1.2 2 _ rfl).2 (X.lk _ (g_mem arc_ok.2.2 rfl))
theorem g_anewarr {i a : Nat} {x : Int} (hd : decode (mth n).2.1 pc = .ok (.anewarray i, 3)) {q : Nat × Nat × Nat × Nat} (hq : q ∈ nwk) (h1 : q.1 = (mth n).2.2.2.2.1) (h2 : q.2.1 = i) (h3 : q.2.2.1 + 12 = a) (h4 : 1 ≤ q.2.2.1 ∧ q.2.2.1 ≤ 3) (h0 : 0 ≤ x) (h9 : x ≤ 100000) (hc : uc + 1 ≤ m_c n) (hs : us + x.toNat ≤ m_s n)
    (k : tG w d n (pc + 3) ls (.inr (.inl (Γ.2.2 + 1)) :: st) (uf Γ.1 (Γ.2.2 + 1) a, uf Γ.2.1 (Γ.2.2 + 1) x.toNat, Γ.2.2 + 1) (rz V (Γ.2.2 + 1)) (uc + 1) (us + x.toNat) Q) : tG w d n pc ls (.inl x :: st) Γ V uc us Q := by
  intro p e s m args below meth c H locs lsr X hL hst hR hS hu hv
  have hx : okt 0 x := okh hst
  have hsz : H.size = Γ.2.2 := hR.1
  obtain ⟨l1, l2, l3⟩ := nwk_ok q hq
  rw [h1, h2] at l1 l2
  have hcl : rnm q.2.2.1 = acl a := by
    rcases (show q.2.2.1 = 1 ∨ q.2.2.1 = 2 ∨ q.2.2.1 = 3 by omega) with h | h | h <;> (rw [← h3, h]; rfl)
  rw [hcl] at l1 l2
  have hov : va_AO (acl a) s := by
    have hK := X.K.2.2.1
    rcases (show a = 13 ∨ a = 14 ∨ a = 15 by omega) with rfl | rfl | rfl
    · exact hK.1
    · exact hK.2.1
    · exact hK.2.2
  obtain ⟨hA1, hA2⟩ := ka_ref X.K (a := a) (by omega)
  obtain ⟨_, _, -, -, -, hfc⟩ := hA2
  have hbytes : (Int32.ofInt x).toNatClampNeg * 4 ≤ 536870912 := by rw [e_nat hx h0]; omega
  refine W.anew X.1 X.2.1 X.ow (X.lk _ (g_mem l1 l2)) hov.use rfl hd rfl (fun h => ?_) hbytes hc (by rw [e_nat hx h0]; exact hs) fun cA kA comp f1 f2 f3 f4 => ?_
  · rw [e_0, e_lt hx ok0] at h
    omega
  · have hcA : cA = tw_A w a := Option.some.inj (f1.symm.trans hfc)
    subst hcA
    rw [e_nat hx h0]
    generalize hH1 : H.push ({ cls := tw_A w a, slots := Array.replicate x.toNat .null, vm := .none } : Cell) = H'
    have z1 : H'.size = H.size + 1 := by rw [← hH1, Array.size_push]
    have e1 : H'[H.size]? = some (arrV (tw_A w a) x.toNat (fun _ => .null)) := by rw [← hH1, Array.getElem?_push_size, ← arrV_new]
    have o1 : ∀ q : Nat, q < H.size → H'[q]? = H[q]? := fun q hq => by rw [← hH1, Array.getElem?_push, if_neg (Nat.ne_of_lt hq)]
    have k := k p e s m args below meth c H' locs lsr X hL (okc (v := .inr (.inl _)) trivial (okd hst)) (hR.new z1 o1 rfl (fun t ht => ⟨uf_ne ht, uf_ne ht, funext fun j => rz_ne ht⟩) ?_) (hS.grow z1 o1) hc hs
    · simp only [List.map_cons, tvv, rv] at k
      rw [← hsz] at k
      exact k
    · refine ⟨by omega, Nat.le_refl _, Or.inr (Or.inl ?_)⟩
      simp only [uf_at]
      refine ⟨by omega, by omega, by have := hR.2.1; omega, by omega, ?_, fun j _ => ?_⟩
      · rw [show Γ.2.2 + 1 - 1 = H.size by omega, e1]
        congr 2
        funext j
        rw [rz_at, atc_ref (by omega)]
        rfl
      · rw [rz_at]
        exact okt_0 _
theorem g_ldc {i : Nat} {z : Int} (hd : decode (mth n).2.1 pc = .ok (.ldc i, 2)) {q : Nat × Nat × Int × Nat} (hq : q ∈ kok) (h1 : q.1 = (mth n).2.2.2.2.1) (h2 : q.2.1 = i) (h3 : q.2.2.1 = z) (k : tG w d n (pc + 2) ls (.inl z :: st) Γ V uc us Q) : tG w d n pc ls st Γ V uc us Q := by
  intro p e s m args below meth c H locs lsr X hL hst hR hS hu hv
  obtain ⟨l1, l2, l3, l4⟩ := kok_ok q hq
  rw [h1, h2, h3] at l1 l2
  rw [h3] at l3 l4
  exact lv_ldc X.1 X.2.1 X.ow (X.lk _ (g_mem l1 l2)) hd (k p e s m args below meth c H locs lsr X hL (okc (v := .inl z) ⟨l3, l4⟩ hst) hR hS hu hv)
theorem g_ldcw {i : Nat} {z : Int} (hd : decode (mth n).2.1 pc = .ok (.ldc_w i, 3)) {q : Nat × Nat × Int × Nat} (hq : q ∈ kok) (h1 : q.1 = (mth n).2.2.2.2.1) (h2 : q.2.1 = i) (h3 : q.2.2.1 = z) (k : tG w d n (pc + 3) ls (.inl z :: st) Γ V uc us Q) : tG w d n pc ls st Γ V uc us Q := by
  intro p e s m args below meth c H locs lsr X hL hst hR hS hu hv
  obtain ⟨l1, l2, l3, l4⟩ := kok_ok q hq
  rw [h1, h2, h3] at l1 l2
  rw [h3] at l3 l4
  exact lv_ldcw X.1 X.2.1 X.ow (X.lk _ (g_mem l1 l2)) hd (k p e s m args below meth c H locs lsr X hL (okc (v := .inl z) ⟨l3, l4⟩ hst) hR hS hu hv)
theorem g_ldc2 {i : Nat} {z : Int} (hd : decode (mth n).2.1 pc = .ok (.ldc2_w i, 3)) {q : Nat × Nat × Int × Nat} (hq : q ∈ lok) (h1 : q.1 = (mth n).2.2.2.2.1) (h2 : q.2.1 = i) (h3 : q.2.2.1 = z) (k : tG w d n (pc + 3) ls (.inr (.inr z) :: st) Γ V uc us Q) : tG w d n pc ls st Γ V uc us Q := by
  intro p e s m args below meth c H locs lsr X hL hst hR hS hu hv
  obtain ⟨l1, l2, l3, l4⟩ := lok_ok q hq
  rw [h1, h2, h3] at l1 l2
  rw [h3] at l3 l4
  exact lv_ldc2 X.1 X.2.1 X.ow (X.lk _ (g_mem l1 l2)) hd (k p e s m args below meth c H locs lsr X hL (okc (v := .inr (.inr z)) ⟨by omega, by omega⟩ hst) hR hS hu hv)
theorem g_ldcs {i j : Nat} (hd : decode (mth n).2.1 pc = .ok (.ldc i, 2)) (hn : (mth n).2.2.2.2.1 = 5) {q : Nat × Nat} (hq : q ∈ sok) (h1 : q.1 = i) (h2 : q.2 = j) (k : tG w d n (pc + 2) ls (.inr (.inl (tw_K w j + 1)) :: st) Γ V uc us Q) : tG w d n pc ls st Γ V uc us Q := by
  intro p e s m args below meth c H locs lsr X hL hst hR hS hu hv
  have hr := X.K.2.2.2.1 q hq
  rw [h1, h2] at hr
  have ho := X.ow
  rw [hn] at ho
  exact va_ldcS X.1 X.2.1 ho hr hd (k p e s m args below meth c H locs lsr X hL (okc (v := .inr (.inl _)) trivial hst) hR hS hu hv)
-- returns
theorem g_ireturn {x : Int} (hd : decode (mth n).2.1 pc = .ok (.ireturn, 1)) (hr : (mth n).2.2.2.1 = some .int) (hq : Q (some (.inl x)) Γ V) : tG w d n pc ls [.inl x] Γ V uc us Q := by
  intro p e s m args below meth c H locs lsr X hL hst hR hS hu hv
  refine W.widen hu hv ?_
  exact W.iret X.1 X.2.1 (X.2.2.1.trans hr) (fun t ht hW => ⟨some (.inl x), Γ, V, rfl, fun v h => by cases h; exact okh hst, by rw [ht]; exact hR, hS.F ht, hq⟩) hS.2.2 hd X.2.2.2.2.2.2.1
theorem g_zreturn {x : Int} (hd : decode (mth n).2.1 pc = .ok (.ireturn, 1)) (hr : (mth n).2.2.2.1 = some .boolean) (hx : x = 0 ∨ x = 1) (hq : Q (some (.inl x)) Γ V) : tG w d n pc ls [.inl x] Γ V uc us Q := by
  intro p e s m args below meth c H locs lsr X hL hst hR hS hu hv
  refine W.widen hu hv ?_
  exact W.zret X.1 X.2.1 (X.2.2.1.trans hr) (by rcases hx with rfl | rfl <;> decide) (fun t ht hW => ⟨some (.inl x), Γ, V, rfl, fun v h => by cases h; exact okh hst, by rw [ht]; exact hR, hS.F ht, hq⟩) hS.2.2 hd X.2.2.2.2.2.2.1
theorem g_lreturn {x : Int} (hd : decode (mth n).2.1 pc = .ok (.lreturn, 1)) (hr : (mth n).2.2.2.1 = some .long) (hq : Q (some (.inr (.inr x))) Γ V) : tG w d n pc ls [.inr (.inr x)] Γ V uc us Q := by
  intro p e s m args below meth c H locs lsr X hL hst hR hS hu hv
  refine W.widen hu hv ?_
  exact W.lret X.1 X.2.1 (X.2.2.1.trans hr) (fun t ht hW => ⟨some (.inr (.inr x)), Γ, V, rfl, fun v h => by cases h; exact okh hst, by rw [ht]; exact hR, hS.F ht, hq⟩) hS.2.2 hd X.2.2.2.2.2.2.1
theorem g_areturn {x : Nat} {C : String} (hd : decode (mth n).2.1 pc = .ok (.areturn, 1)) (hr : (mth n).2.2.2.1 = some (.object C)) (hq : Q (some (.inr (.inl x))) Γ V) : tG w d n pc ls [.inr (.inl x)] Γ V uc us Q := by
  intro p e s m args below meth c H locs lsr X hL hst hR hS hu hv
  refine W.widen hu hv ?_
  refine W.aret (v := rv x) X.1 X.2.1 (X.2.2.1.trans hr) (Or.inl ⟨_, rfl⟩) ?_ (fun t ht hW => ⟨some (.inr (.inl x)), Γ, V, rfl, fun v h => by cases h; trivial, by rw [ht]; exact hR, hS.F ht, hq⟩) hS.2.2 hd X.2.2.2.2.2.2.1
  cases x with
  | zero => exact Or.inl rfl
  | succ y => exact Or.inr ⟨y, rfl⟩
theorem g_return (hd : decode (mth n).2.1 pc = .ok (.return_, 1)) (hr : (mth n).2.2.2.1 = none) (hq : Q none Γ V) : tG w d n pc ls [] Γ V uc us Q := by
  intro p e s m args below meth c H locs lsr X hL hst hR hS hu hv
  refine W.widen hu hv ?_
  exact W.vret X.1 X.2.1 (X.2.2.1.trans hr) (fun t ht hW => ⟨none, Γ, V, rfl, fun v h => (by cases h), by rw [ht]; exact hR, hS.F ht, hq⟩) hS.2.2 hd X.2.2.2.2.2.2.1
end TB
