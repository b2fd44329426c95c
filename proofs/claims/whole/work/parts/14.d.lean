/-! TravelToken.member throws, TravelTokenLaw.member catches -/
abbrev cX7m : ByteArray := prog_1_method_7_code
def yX7m : MethodName := ⟨RX7, "member", "(II)I"⟩
abbrev cLm : ByteArray := method_3_code
def yLm : MethodName := ⟨RL, "member", "(LTravelToken;II[J)I"⟩
abbrev eNS : String := "java/util/NoSuchElementException"
abbrev eUp : List String := ["java/lang/RuntimeException", "java/lang/Exception"]
abbrev wX7m : List Cond := .code yX7m cX7m 4 (some .int) :: lw_g
abbrev wLm : List Cond := .codeWith yLm cLm 5 (some .int) [(0, 10, 13, 13)] :: lw_g
def rm7 : Room := { frames := 11, cells := 1, slots := 6, locals := 38 * 11 }
def rmL : Room := { frames := 12, cells := 1, slots := 6, locals := 38 * 12 }
theorem mb_c7 : Cond.code yX7m cX7m 4 (some .int) ∈ lw_g := in_g (by decide +kernel) (by decide +kernel)
theorem mb_cL : Cond.codeWith yLm cLm 5 (some .int) [(0, 10, 13, 13)] ∈ lw_g := in_g (by decide +kernel) (by decide +kernel)
theorem mb_l3 : Cond.methodLink RX7 119 (mth nNet_ofMember).1 ∈ lw_g := in_g (by decide +kernel) (by decide +kernel)
theorem mb_i3 : Cond.instanceMethod (mth nNet_ofMember).1 ∈ lw_g := in_g (by decide +kernel) (by decide +kernel)
theorem mb_s3 : Cond.selects (mth nNet_ofMember).1.cls (mth nNet_ofMember).1 (mth nNet_ofMember).1 ∈ lw_g := in_g (by decide +kernel) (by decide +kernel)
theorem mb_n3 : Cond.initialized (mth nNet_ofMember).1.cls ∈ lw_g := in_g (by decide +kernel) (by decide +kernel)
theorem mb_k7 : Cond.classLink RX7 123 eNS ∈ lw_g := in_g (by decide +kernel) (by decide +kernel)
theorem mb_ie : Cond.initialized eNS ∈ lw_g := in_g (by decide +kernel) (by decide +kernel)
theorem mb_l7 : Cond.methodLink RL 7 yX7m ∈ lw_g := in_g (by decide +kernel) (by decide +kernel)
theorem mb_i7 : Cond.instanceMethod yX7m ∈ lw_g := in_g (by decide +kernel) (by decide +kernel)
theorem mb_s7 : Cond.selects yX7m.cls yX7m yX7m ∈ lw_g := in_g (by decide +kernel) (by decide +kernel)
theorem mb_n7 : Cond.initialized yX7m.cls ∈ lw_g := in_g (by decide +kernel) (by decide +kernel)
theorem mb_kL : Cond.classLink RL 13 eNS ∈ lw_g := in_g (by decide +kernel) (by decide +kernel)
theorem mb_x6 : Cond.instantiable eNS 6 ∈ lw_g := in_g (by decide +kernel) (by decide +kernel)
theorem cast_ref {args : Array Value} {s : State} {E : String} {n : Nat} (h : (Cond.instantiable E n).before args s = true) : (Cond.castable E E).before args s = true := by
  obtain ⟨c, k, hc, -⟩ := Cond.instantiable_spec h
  have ha : s.vm.assignable c c = true := by
    show s.vm.assignableAux (255 + 1) c c = true
    rw [Vm.assignableAux, beq_self_eq_true, Bool.true_or]
  simp [Cond.before, Cond.holds, Cond.value, hc, ha]
theorem mb_lL : Cond.methodLink RL 43 yLm ∈ lw_g := in_g (by decide +kernel) (by decide +kernel)
theorem mb_sL : Cond.static yLm ∈ lw_g := in_g (by decide +kernel) (by decide +kernel)
theorem mb_nL : Cond.initialized yLm.cls ∈ lw_g := in_g (by decide +kernel) (by decide +kernel)
theorem mb_at : ∀ q ∈ (vx_at0 RX7 125 eNS eUp).filter goodWord, q ∈ lw_tbl := by decide +kernel
theorem mb_nd : ∀ q ∈ (vx_at0 RX7 125 eNS eUp).filter (fun q => !goodWord q), q ∈ Cond.castable eNS eNS :: dcl.map Cond.declares := by decide +kernel
theorem mb_ot : ∀ q ∈ Cond.classLink RX7 123 eNS :: Cond.initialized eNS :: vx_at0 RX7 125 eNS eUp, vx_ot q = true := by decide +kernel
theorem RH.grow {w : WP} {Γ : GM} {V : VH} {H H1 : Heap} (h : RH w Γ V H) (hz : H.size ≤ H1.size) (hq : ∀ q, q < H.size → H1[q]? = H[q]?) : RH w (Γ.1, Γ.2.1, H1.size) V H1 := by
  obtain ⟨h1, h2, h3⟩ := h
  refine ⟨rfl, by omega, fun t ht => ?_⟩
  have hc := h3 t ht
  obtain ⟨a, b, c⟩ := hc.kept (H' := H1) (V' := V) (hq _ (by have := hc.1; have := hc.2.1; omega)) (fun _ => rfl)
  exact ⟨a, show t ≤ H1.size by omega, c⟩
section MB
variable {w : WP} {Γ : GM} {V : VH} {p : Program} {e : Env} {R : Room} {s : State} {m : MethodId} {args : Array Value} {below : List Frame} {meth : Method} {c : Code} {H : Heap} {locs : List Loc} {uc us mc ms pc : Nat} {lsr : Array Slot} {st0 rest : List Value} {Z : State → Prop} {cc : ByteArray}
theorem W_getf {q1 i a b j o : Nat} (hexec : p.tables.exec = Jvm.exec) (hb : c.code = cc) (lk : ∀ q ∈ lw_g, q.before args s = true) (hown : s.vm.findClass (rnm q1) = some m.cls) (hK : KU w s) (hR : RH w Γ V H) (hq : (q1, i, a, b, j) ∈ flk) (hk : Γ.1 o = a + 1) (hd : decode cc pc = .ok (.getfield i, 3))
    (k : W p (tw_L w) e R s m args below meth c H locs uc us Z (F0 m (pc + 3) lsr (tvv (fv (ftc a b) (V o b)) :: rest))) : W p (tw_L w) e R s m args below meth c H locs uc us Z (F0 m pc lsr (tvv (.inr (.inl o)) :: rest)) := by
  obtain ⟨l1, l2, l3, l4⟩ : tables_1[j]? = some (.fieldLink (rnm q1) i (rnm a) (fT a b).2.1 (fT a b).2.2.1) ∧ goodWord (.fieldLink (rnm q1) i (rnm a) (fT a b).2.1 (fT a b).2.2.1) = true ∧ a < 9 ∧ b < nf a := flk_ok _ hq
  obtain ⟨C, T, N, c1, c2, c3, c4, c5, c6, c7⟩ := cf_ok a l3
  subst c2; subst c3
  obtain ⟨r1, r2, r3, r4, r5⟩ := hR.obj hk l3
  cases o with
  | zero => exact absurd r1 (by omega)
  | succ o =>
    have hP : va_P (tw_C w, tw_I w) vwCl [(o, .inr (a, (List.range (nf a)).map (fun k => tvv (fv (ftc a k) (V (o + 1) k)))))] H := by
      intro k q hk
      have hz : k < 1 := (List.getElem?_eq_some_iff.mp hk).1
      rw [show k = 0 by omega] at hk
      cases hk
      refine ⟨_, c1, t_OB.to r4 (fun j hj => ?_)⟩
      simp [vp_V, hj]
    have hl := lk _ (g_mem l1 l2)
    rw [← (ft_ok a l3 b l4).2.2, ← c7 b] at hl
    refine va_get (C := rnm a) (T := T) (N := nf a) (ci := a) hexec hb lk c4 hown hK.1 hP 0 rfl c1 b l4 hl (fun _ h => h) (v := tvv (fv (ftc a b) (V (o + 1) b))) ?_ hd ?_
    · simp [l4]
    · exact k
theorem recv2 {o a : Nat} (hK : KU w s) (hR : RH w Γ V H) (hk : Γ.1 (o + 1) = a + 1) (ha : a < 9) : ∃ cellB : Cell, H[o]? = some cellB ∧ cellB.vm.isStatics = false ∧ s.vm.findClass (rnm a) = some cellB.cls := by
  obtain ⟨-, -, -, ⟨cell, q1, q2, q3, -⟩, -⟩ := hR.obj hk ha
  obtain ⟨C, T, N, c1, c2, -⟩ := cf_ok a ha
  exact ⟨cell, q1, by rw [q3]; rfl, by rw [q2, ← c2]; exact (hK.1.1 a _ c1).2.1⟩
abbrev mXC (w : WP) (Γ : GM) (V : VH) (r : Int) : String → State → State → Prop := fun E st t => E = eNS ∧ r = -1 ∧ Γ.2.2 ≤ t.heap.size ∧ RH w (Γ.1, Γ.2.1, t.heap.size) V t.heap ∧ va_F (tA w) st t
theorem W_callX {Q' : QT} {a : Array Value} {r0 : Int} (hS : va_S (tA w) s.heap H locs)
    (hr : vx_Run p (tw_L w) e R s m args below meth c H locs uc us mc ms (F0 m pc lsr st0) rest (tQ w Q' a) (mXC w Γ V r0) (tA w))
    (k : ∀ r Γ V H' locs', (∀ v, r = some v → okv v) → Q' r Γ V → RH w Γ V H' → va_S (tA w) s.heap H' locs' → W p (tw_L w) e R s m args below meth c H' locs' (uc + mc) (us + ms) Z (F0 m (pc + 3) lsr ((r.map tvv).toList ++ rest)))
    (kx : ∀ (q : Addr) (ce : Cell) (H' : Heap) (locs' : List Loc), r0 = -1 → Γ.2.2 ≤ H'.size → RH w (Γ.1, Γ.2.1, H'.size) V H' → va_S (tA w) s.heap H' locs' → H'[q]? = some ce → ce.vm = .none → s.vm.findClass eNS = some ce.cls → vx_W p (tw_L w) e R s m args below meth c H' locs' (uc + mc) (us + ms) Z (F0 m pc lsr rest) q) :
    W p (tw_L w) e R s m args below meth c H locs uc us Z (F0 m pc lsr st0) := by
  intro T hT S
  rcases hr T hT S with ⟨v, st₀, t, T', L, h0, S', hL2, e1, e2, ⟨r, Γ', V', hv, hok, hR', ⟨hz, hk⟩, hq⟩, sg⟩ | ⟨q, st₀, t, T', L, E, ce, h0, S', hL2, e1, e2, ⟨hE, hr1, hz0, hR', ⟨hz, hk⟩⟩, hce, hcv, hcl, sg⟩
  · have hv : v = r.map tvv := Outcome.returned.inj hv
    subst hv
    rw [h0] at hz hk
    have hS' : va_S (tA w) s.heap T'.heap (locs ++ L) := by
      refine ⟨Nat.le_trans hS.1 (by rw [e1]; exact hz), fun q h1 h2 => by rw [e1, hk q (Nat.lt_of_lt_of_le h1 hS.1) h2]; exact hS.2.1 q h1 h2, fun q hq => ?_⟩
      rcases List.mem_append.mp hq with h | h
      · exact hS.2.2 q h
      · exact hL2 q h
    obtain ⟨t2, a1, b1⟩ := k r Γ' V' T'.heap (locs ++ L) hok hq (by rw [e1]; exact hR') hS' T' rfl S'
    exact ⟨t2, sg t2 a1, b1⟩
  · rw [h0] at hz hk
    subst hE
    have hS' : va_S (tA w) s.heap T'.heap (locs ++ L) := by
      refine ⟨Nat.le_trans hS.1 (by rw [e1]; exact hz), fun q h1 h2 => by rw [e1, hk q (Nat.lt_of_lt_of_le h1 hS.1) h2]; exact hS.2.1 q h1 h2, fun q hq => ?_⟩
      rcases List.mem_append.mp hq with h | h
      · exact hS.2.2 q h
      · exact hL2 q h
    obtain ⟨t2, a1, b1⟩ := kx q ce T'.heap (locs ++ L) hr1 (by rw [e1]; exact hz0) (by rw [e1]; exact hR') hS' (by rw [e1]; exact hce) hcv hcl T' rfl S'
    exact ⟨t2, sg.trans a1, b1⟩
end MB
section MB
variable {w : WP} {Γ : GM} {V : VH} {x o o3 : Nat} {a b r : Int}
set_option maxHeartbeats 1000000 in
theorem m_member (hx : Γ.1 x = 8) (hv3 : fv (ftc 7 3) (V x 3) = .inr (.inl o)) (ho : Γ.1 o = 4) (hof : ∀ Q : QT, Q (some (.inl r)) Γ V → tC w 10 nNet_ofMember [.inr (.inl o), .inl a, .inl b] Γ V Q) :
    vx_Met (tw_L w) yX7m wX7m rm7 (tP w [.inr (.inl x), .inl a, .inl b] Γ V) (tQ w (fun v Γ' V' => r ≠ -1 ∧ v = some (.inl r) ∧ Γ' = Γ ∧ V' = V)) (mXC w Γ V r) 1 6 (tA w) := by
  refine vx_ofW (cc := cX7m) (maxL := 4) (ret := some .int) (by decide) rfl ?_
  intro p e s m args' below meth c s₁ B hml hnt hv
  obtain ⟨rfl, hok, hR, hK, hZ⟩ := hv
  have hts := atoms_spec (ws := wX7m) B.pre
  have lk : ∀ q ∈ lw_g, q.before _ s = true := fun q hq => hts q (List.mem_cons_of_mem _ hq)
  have hown : s.vm.findClass (rnm 7) = some m.cls := findClass_of_methodNamed B.named
  show W p (tw_L w) e rm7 s m _ below meth c s.heap [] 0 0 _ _
  refine ent_W (P := fun g => W p (tw_L w) e rm7 s m _ below meth c s.heap [] 0 0 _ g) (Nat.le_of_ble_eq_true rfl) hok (fun lsr hL => ?_)
  have h0 := hL.2.2.2 0 (.inr (.inl x)) rfl
  have h1 := hL.2.2.2 1 (.inl a) rfl
  have h2 := hL.2.2.2 2 (.inl b) rfl
  have hx0 := (hR.obj (a := 7) hx (by omega)).1
  have ho0 := (hR.obj (a := 3) ho (by omega)).1
  obtain ⟨x, rfl⟩ : ∃ y, x = y + 1 := ⟨x - 1, by omega⟩
  obtain ⟨o, rfl⟩ : ∃ y, o = y + 1 := ⟨o - 1, by omega⟩
  refine lv_aload_n B.exec B.bytes (pc := 0) (by decide +kernel : decode cX7m 0 = .ok (.aload_n 0, 1)) rfl h0.1 ?_
  refine W_getf (q1 := 7) (i := 33) (a := 7) (b := 3) (j := 298) (o := x + 1) B.exec B.bytes lk hown hK hR (by decide +kernel) hx (by decide +kernel : decode cX7m 1 = .ok (.getfield 33, 3)) ?_
  rw [hv3]
  refine lv_iload_n B.exec B.bytes (by decide +kernel : decode cX7m 4 = .ok (.iload_n 1, 1)) rfl h1.1 ?_
  refine lv_iload_n B.exec B.bytes (by decide +kernel : decode cX7m 5 = .ok (.iload_n 2, 1)) rfl h2.1 ?_
  have hoa : ∀ v ∈ ([.inr (.inl (o + 1)), .inl a, .inl b] : List TV), okv v := okc trivial (okd hok)
  have hrun := va_runV (l := tw_L w) (e := e) (below := below) (meth := meth) (locs := []) (cells := 0) (slots := 0) (R := rm7) (nL := 4) (g := F0 m 6 lsr (([.inl b, .inl a, .inr (.inl (o + 1))] : List TV).map tvv)) (rest := []) (As := ([.inl a, .inl b] : List TV).map tvv) (H := s.heap) (C := (mth nNet_ofMember).1.cls) (b := o) ⟨B.exec, B.bytes, hml, hown, lk⟩
    (hof (fun v Γ' V' => v = some (.inl r) ∧ Γ' = Γ ∧ V' = V) ⟨rfl, rfl, rfl⟩)
    ⟨callB_of 2 lk (tws_good (n := nNet_ofMember) (by decide +kernel) (by decide +kernel)) rfl rfl rfl (lk _ mb_n3) (lk _ mb_l3) ⟨by decide +kernel, by decide +kernel, by decide +kernel⟩ (by decide +kernel), lk _ mb_i3, lk _ mb_s3⟩ ⟨tP_blind w _ Γ V, recv2 (a := 3) hK hR ho (by omega), pre2 hK hZ hR va_S.rf hoa⟩ rfl rfl hL.1 rfl (Nat.le_of_ble_eq_true rfl) (show decode cX7m 6 = _ by decide +kernel) ⟨Nat.le_of_ble_eq_true rfl, Nat.le_of_ble_eq_true rfl⟩
  refine W_call2 va_S.rf hrun (fun r' Γ' V' H' locs' hok' hq hR' hS' => ?_)
  obtain ⟨e1, e2, e3⟩ := hq
  subst e1 e2 e3
  have hr : okt 0 r := hok' _ rfl
  refine lv_istore_n B.exec B.bytes (by decide +kernel : decode cX7m 9 = .ok (.istore_n 3, 1)) rfl hL.has (by decide) rfl (fun ls' h' => ?_)
  have hL' := hL.set (v := .inl r) hr h'
  have h3 := hL'.2.2.2 3 (.inl r) rfl
  refine lv_iload_n B.exec B.bytes (by decide +kernel : decode cX7m 10 = .ok (.iload_n 3, 1)) rfl h3.1 ?_
  refine lv_iconst B.exec B.bytes (by decide +kernel : decode cX7m 11 = .ok (.iconst (-1), 1)) rfl ?_
  refine lv_icmp_ne B.exec B.bytes (tgt := 23) (by decide +kernel : decode cX7m 12 = .ok (.if_icmp .ne 11, 3)) rfl (fun h => ?_) (fun h => ?_)
  · have hne : r ≠ -1 := fun q => h (by rw [q])
    refine lv_iload_n B.exec B.bytes (by decide +kernel : decode cX7m 23 = .ok (.iload_n 3, 1)) rfl h3.1 ?_
    refine vx_ret (W.widen (Nat.le_of_ble_eq_true rfl : _ ≤ 1) (Nat.le_of_ble_eq_true rfl : _ ≤ 6) ?_)
    exact W.iret B.exec B.bytes B.returns (fun t ht hW => ⟨some (.inl r), _, _, rfl, fun v h => by cases h; exact hr, by rw [ht]; exact hR', hS'.F ht, hne, rfl, rfl, rfl⟩) hS'.2.2 (by decide +kernel : decode cX7m 24 = .ok (.ireturn, 1)) B.notSynchronized
  · have hm1 : r = -1 := (e_eq hr (by constructor <;> decide)).mp h
    have hat : ∀ q ∈ vx_at0 RX7 125 eNS eUp, q.before _ s = true := vx_hat (fun q hq => lk q (in_g (mb_at q hq) (List.mem_filter.mp hq).2)) mb_nd (vx_c (cast_ref (lk _ mb_x6)) (fun q hq => by
      obtain ⟨y, hy, rfl⟩ := List.mem_map.mp hq
      exact va_Nw.use rfl (hZ.2.2.2.2.2 y hy)))
    refine vx_throw0 (cc := cX7m) (pc := 15) (own := RX7) (cls := eNS) (names := eUp) (ik := 123) (ic := 125) (A := tA w) B.exec B.bytes hZ.2.1 hown (by decide +kernel) (by decide +kernel) (lk _ mb_k7) (lk _ mb_ie) hat mb_ot hZ.2.2.2.1 hZ.2.2.2.2.1 hS' (hL'.1.trans hml.symm) (by decide +kernel) (by decide +kernel) (by decide +kernel) (by decide +kernel) (fun z hz => (hnt z hz).elim) (Nat.le_of_ble_eq_true rfl) (Nat.le_of_ble_eq_true rfl) (Nat.le_of_ble_eq_true rfl) (Nat.le_of_ble_eq_true rfl) B.notSynchronized (fun t ha hz hq => ⟨rfl, hm1, by rw [← hR'.1]; exact hz, hR'.grow hz hq, Nat.le_trans hS'.1 hz, fun q h1 h2 => (hq q (Nat.lt_of_lt_of_le h1 hS'.1)).trans (hS'.2.1 q h1 h2)⟩) hS'.2.2 (Nat.le_of_ble_eq_true rfl) (Nat.le_of_ble_eq_true rfl)
set_option maxHeartbeats 1000000 in
theorem m_lmember (hx : Γ.1 x = 8) (hv3 : fv (ftc 7 3) (V x 3) = .inr (.inl o)) (ho : Γ.1 o = 4) (hof : ∀ Q : QT, Q (some (.inl r)) Γ V → tC w 10 nNet_ofMember [.inr (.inl o), .inl a, .inl b] Γ V Q) (ho3 : Γ.1 o3 = 12) (hl3 : Γ.2.1 o3 = 1) {QQ : QT} (q0 : r ≠ -1 → QQ (some (.inl 0)) Γ (up V o3 0 r)) (q1 : r = -1 → ∀ z, Γ.2.2 ≤ z → QQ (some (.inl 1)) (Γ.1, Γ.2.1, z) V) :
    Met (tw_L w) yLm wLm rmL (tP w [.inr (.inl x), .inl a, .inl b, .inr (.inl o3)] Γ V) (tQ w QQ) 1 6 (tA w) := by
  refine va_MetW (cc := cLm) (maxL := 5) (ret := some .int) (hh := [(0, 10, 13, 13)]) (by decide) rfl ?_
  intro p e s m args' below meth c s₁ B hml hv
  obtain ⟨rfl, hok, hR, hK, hZ⟩ := hv
  have hts := atoms_spec (ws := wLm) B.pre
  have lk : ∀ q ∈ lw_g, q.before _ s = true := fun q hq => hts q (List.mem_cons_of_mem _ hq)
  have htb : c.exceptionTable.toList = tableOf [(0, 10, 13, 13)] := vx_table (x := yLm) B (hts _ List.mem_cons_self)
  have hown : s.vm.findClass (rnm 11) = some m.cls := findClass_of_methodNamed B.named
  show W p (tw_L w) e rmL s m _ below meth c s.heap [] 0 0 _ _
  refine ent_W (P := fun g => W p (tw_L w) e rmL s m _ below meth c s.heap [] 0 0 _ g) (Nat.le_of_ble_eq_true rfl) hok (fun lsr hL => ?_)
  have h0 := hL.2.2.2 0 (.inr (.inl x)) rfl
  have h1 := hL.2.2.2 1 (.inl a) rfl
  have h2 := hL.2.2.2 2 (.inl b) rfl
  have h3 := hL.2.2.2 3 (.inr (.inl o3)) rfl
  have hx0 := (hR.obj (a := 7) hx (by omega)).1
  have ho0 := (hR.arr (a := 12) ho3 (by omega) (by omega)).1
  have hpre := pre2 (as := [.inr (.inl x), .inl a, .inl b]) hK hZ hR va_S.rf (okc (okh hok) (okc (okh (okd hok)) (okc (okh (okd (okd hok))) (fun v h => by cases h))))
  have hrc := fun (y : Nat) (e : x = y + 1) => recv2 (o := y) (a := 7) hK hR (by rw [← e]; exact hx) (by omega)
  have hm := m_member hx hv3 ho hof
  obtain ⟨x, rfl⟩ : ∃ y, x = y + 1 := ⟨x - 1, by omega⟩
  obtain ⟨o3, rfl⟩ : ∃ y, o3 = y + 1 := ⟨o3 - 1, by omega⟩
  refine lv_aload_n B.exec B.bytes (pc := 0) (by decide +kernel : decode cLm 0 = .ok (.aload_n 3, 1)) rfl h3.1 ?_
  refine lv_iconst B.exec B.bytes (by decide +kernel : decode cLm 1 = .ok (.iconst 0, 1)) rfl ?_
  refine lv_aload_n B.exec B.bytes (by decide +kernel : decode cLm 2 = .ok (.aload_n 0, 1)) rfl h0.1 ?_
  refine lv_iload_n B.exec B.bytes (by decide +kernel : decode cLm 3 = .ok (.iload_n 1, 1)) rfl h1.1 ?_
  refine lv_iload_n B.exec B.bytes (by decide +kernel : decode cLm 4 = .ok (.iload_n 2, 1)) rfl h2.1 ?_
  have hrun := vx_runV (l := tw_L w) (e := e) (below := below) (meth := meth) (locs := []) (cells := 0) (slots := 0) (R := rmL) (nL := 5) (g := F0 m 5 lsr (([.inl b, .inl a, .inr (.inl (x + 1)), .inl 0, .inr (.inl (o3 + 1))] : List TV).map tvv)) (rest := ([.inl 0, .inr (.inl (o3 + 1))] : List TV).map tvv) (As := ([.inl a, .inl b] : List TV).map tvv) (H := s.heap) (C := yX7m.cls) (b := x) ⟨B.exec, B.bytes, hml, hown, lk⟩ hm
    ⟨callB_of 2 lk (good_c mb_c7) rfl rfl rfl (lk _ mb_n7) (lk _ mb_l7) ⟨by decide +kernel, by decide +kernel, by decide +kernel⟩ (by decide +kernel), lk _ mb_i7, lk _ mb_s7⟩ ⟨tP_blind w _ Γ V, hrc x rfl, hpre⟩ rfl rfl hL.1 rfl (Nat.le_of_ble_eq_true rfl) (show decode cLm 5 = _ by decide +kernel) ⟨Nat.le_of_ble_eq_true rfl, Nat.le_of_ble_eq_true rfl⟩
  refine W_callX va_S.rf hrun (fun r' Γ' V' H' locs' hok' hq hR' hS' => ?_) (fun q ce H' locs' hr1 hz hR' hS' hce hcv hcl => ?_)
  · obtain ⟨hne, e1, e2, e3⟩ := hq
    subst e1 e2 e3
    have hr : okt 0 r := hok' _ rfl
    obtain ⟨b1, b2⟩ : -2147483648 ≤ r ∧ r ≤ 2147483647 := hr
    have e1 : (Int32.ofInt r).toInt64 = Int64.ofInt r := by
      apply Int64.toInt_inj.mp
      rw [Int32.toInt_toInt64, Int32.toInt_ofInt_of_le (by omega) (by omega), Int64.toInt_ofInt_of_le (by omega) (by omega)]
    refine lv_i2l B.exec B.bytes (by decide +kernel : decode cLm 8 = .ok (.i2l, 1)) e1 ?_
    obtain ⟨r1, r2, r3, r4, r5, r6⟩ := hR'.arr ho3 (by omega) (by omega)
    refine W.last B.exec B.bytes r5 (ka_long hK _ _) (fun h => by cases h) (arr_in (x := 0) ok0 (by omega) (by omega)) rfl rfl (by decide +kernel : decode cLm 9 = .ok (.lastore, 1)) fun H2 f1 f2 f3 => ?_
    rw [e_nat ok0 (by omega)] at f1
    have hR2 := hR'.elt (x := 0) (y := r) ho3 (by omega) (by omega) (by omega) (by omega) (show okt 2 r from ⟨by omega, by omega⟩) f1 f2 f3
    refine lv_goto B.exec B.bytes (tgt := 17) (by decide +kernel : decode cLm 10 = .ok (.goto 7, 3)) rfl ?_
    refine lv_iconst B.exec B.bytes (by decide +kernel : decode cLm 17 = .ok (.iconst 0, 1)) rfl ?_
    refine W.widen (Nat.le_of_ble_eq_true rfl : _ ≤ 1) (Nat.le_of_ble_eq_true rfl : _ ≤ 6) ?_
    have hS2 := hS'.put (k := (Int32.ofInt 0).toNatClampNeg) f2 f3 (show tw_Z w ≤ o3 by omega)
    exact W.iret B.exec B.bytes B.returns (fun t ht hW => ⟨some (.inl 0), _, _, rfl, fun v h => by cases h; exact ok0, by rw [ht]; exact hR2, hS2.F ht, q0 hne⟩) hS2.2.2 (by decide +kernel : decode cLm 18 = .ok (.ireturn, 1)) B.notSynchronized
  · refine vx_catch (own := RL) (name := eNS) (E := eNS) hown [] _ [] (htb.trans rfl) (fun z hz => by cases hz) (by decide +kernel) (by decide +kernel) (lk _ mb_kL) (cast_ref (lk _ mb_x6)) hce hcv hcl ?_
    refine lv_astore B.exec B.bytes (by decide +kernel : decode cLm 13 = .ok (.astore 4, 2)) hL.has (by decide) rfl (fun ls' h' => ?_)
    refine lv_iconst B.exec B.bytes (by decide +kernel : decode cLm 15 = .ok (.iconst 1, 1)) rfl ?_
    refine W.widen (Nat.le_of_ble_eq_true rfl : _ ≤ 1) (Nat.le_of_ble_eq_true rfl : _ ≤ 6) ?_
    exact W.iret B.exec B.bytes B.returns (fun t ht hW => ⟨some (.inl 1), _, _, rfl, fun v h => by cases h; exact ⟨by decide, by decide⟩, by rw [ht]; exact hR', hS'.F ht, q1 hr1 _ hz⟩) hS'.2.2 (by decide +kernel : decode cLm 16 = .ok (.ireturn, 1)) B.notSynchronized
set_option maxHeartbeats 1000000 in
theorem L_member {ls : LT} {uc us : Nat} {Q : QT} (hx : Γ.1 x = 8) (hv3 : fv (ftc 7 3) (V x 3) = .inr (.inl o)) (ho : Γ.1 o = 4) (hof : ∀ Q : QT, Q (some (.inl r)) Γ V → tC w 10 nNet_ofMember [.inr (.inl o), .inl a, .inl b] Γ V Q) (ho3 : Γ.1 o3 = 12) (hl3 : Γ.2.1 o3 = 1)
    (hc : uc + 1 ≤ m_c nLaw_law) (hs : us + 6 ≤ m_s nLaw_law) (k0 : r ≠ -1 → tG w 13 nLaw_law 298 ls [.inl 0] Γ (up V o3 0 r) (uc + 1) (us + 6) Q) (k1 : r = -1 → ∀ z, Γ.2.2 ≤ z → tG w 13 nLaw_law 298 ls [.inl 1] (Γ.1, Γ.2.1, z) V (uc + 1) (us + 6) Q) :
    tG w 13 nLaw_law 295 ls [.inr (.inl o3), .inl b, .inl a, .inr (.inl x)] Γ V uc us Q := by
  intro p e s m sargs below meth c H locs lsr X hL hst hR hS hu hv
  have hm := m_lmember (w := w) (QQ := fun v Γ' V' => (r ≠ -1 ∧ v = some (.inl 0) ∧ Γ' = Γ ∧ V' = up V o3 0 r) ∨ (r = -1 ∧ v = some (.inl 1) ∧ ∃ z, Γ.2.2 ≤ z ∧ Γ' = (Γ.1, Γ.2.1, z) ∧ V' = V)) hx hv3 ho hof ho3 hl3 (fun h => Or.inl ⟨h, rfl, rfl, rfl⟩) (fun h z hz => Or.inr ⟨h, rfl, z, hz, rfl, rfl⟩)
  have hsa : ∀ v ∈ ([.inr (.inl x), .inl a, .inl b, .inr (.inl o3)] : List TV), okv v := okc trivial (okc (okh (okd (okd hst))) (okc (okh (okd hst)) (okc trivial (fun v h => by cases h))))
  have hT : GoodIn lw_g (va_wsS RL 43 yLm wLm) := fun q hq => by
    rcases List.mem_append.mp hq with h | h
    · rcases List.mem_cons.mp h with rfl | h
      · exact ⟨mb_lL, good_of_word (List.mem_filter.mp mb_lL).2⟩
      rcases List.mem_cons.mp h with rfl | h
      · exact ⟨mb_sL, good_of_word (List.mem_filter.mp mb_sL).2⟩
      rcases List.mem_cons.mp h with rfl | h
      · exact ⟨mb_nL, good_of_word (List.mem_filter.mp mb_nL).2⟩
      · cases h
    · exact good_c mb_cL q h
  have hrun := vx_runSW (l := tw_L w) (e := e) (below := below) (meth := meth) (locs := locs) (cells := uc) (slots := us) (R := trm 13 nLaw_law) (nL := (mth nLaw_law).2.2.1) (g := F0 m 295 lsr (([.inr (.inl o3), .inl b, .inl a, .inr (.inl x)] : List TV).map tvv)) (rest := []) (As := ([.inr (.inl x), .inl a, .inl b, .inr (.inl o3)] : List TV).map tvv) (H := H) ⟨X.1, X.2.1, X.2.2.2.1, X.ow, X.lk⟩ hm
    (vx_cwSW (own := RL) (index := 43) 4 X.lk hT rfl rfl rfl ⟨by decide +kernel, by decide +kernel, by decide +kernel⟩ (by decide +kernel)) ⟨tP_blind w _ Γ V, tP_at X hR hS hsa⟩ rfl rfl hL.1 rfl (Nat.le_of_ble_eq_true rfl) (show decode (mth nLaw_law).2.1 295 = _ by decide +kernel) ⟨hc, hs⟩
  refine W_call (mc := 1) (ms := 6) (st := []) X hL (fun v h => by cases h) hS hc hs hrun (fun r' Γ' V' h => ?_)
  rcases h with ⟨h1, rfl, rfl, rfl⟩ | ⟨h1, rfl, z, h2, rfl, rfl⟩
  · exact k0 h1
  · exact k1 h1 z h2
end MB
