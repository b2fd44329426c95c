/-! strings: length and charAt of a constant -/
theorem in_g {w : Cond} (h : w ∈ lw_tbl) (h2 : goodWord w = true) : w ∈ lw_g := List.mem_filter.mpr ⟨h, h2⟩
theorem good_c {q0 : Cond} (h : q0 ∈ lw_g) : GoodIn lw_g (q0 :: lw_g) := by
  intro q hq
  have hq : q ∈ lw_g := (List.mem_cons.mp hq).elim (fun e => e ▸ h) id
  exact ⟨hq, good_of_word (List.mem_filter.mp hq).2⟩
theorem ent_W {args : List TV} {nL : Nat} {m : MethodId} {P : JFrame → Prop} (hs : asz args ≤ nL) (hok : ∀ v ∈ args, okv v) (h : ∀ lsr, LR (ent nL args) lsr nL → P (F0 m 0 lsr [])) : P (entryFrame m (args.map tvv).toArray nL) := by
  have hl := lv_entry (args.map tvv) (n := nL) (by rw [asz_sl]; exact hs)
  rw [lg_entry_eq]
  generalize (lg_sl (args.map tvv) ++ List.replicate (nL - (lg_sl (args.map tvv)).length) Slot.unset).toArray = lsr at hl ⊢
  exact h lsr ⟨hl.1, hl.2.1, ent_len _ _, fun i v hi => by
    have := ent_at nL args i 0 v hi
    rw [Nat.zero_add] at this
    exact ⟨hl.2.2 _ this.1, hok v this.2⟩⟩
section MB
variable {w : WP} {Γ : GM} {V : VH} {p : Program} {e : Env} {R : Room} {s : State} {m : MethodId} {args : Array Value} {below : List Frame} {meth : Method} {c : Code} {H : Heap} {locs : List Loc} {uc us mc ms pc : Nat} {lsr : Array Slot} {st0 rest : List Value} {Z : State → Prop} {cc : ByteArray}
theorem pre2 {as : List TV} (hK : KU w s) (hZ : SU w s s.heap) (hR : RH w Γ V H) (hS : va_S (tA w) s.heap H locs) (ha : ∀ v ∈ as, okv v) : ∀ U : State, U.heap = H → s.WarmedH U.vm → tP w as Γ V (as.map tvv).toArray U := by
  intro U hU hW
  refine ⟨rfl, ha, by rw [hU]; exact hR, hK.warm hW, ?_⟩
  rw [hU]
  exact (SU.warm hW hZ).kept hS.2.1
theorem W_call2 {Q' : QT} {a : Array Value} (hS : va_S (tA w) s.heap H locs)
    (hr : va_Run p (tw_L w) e R s m args below meth c H locs uc us mc ms (F0 m pc lsr st0) rest (tQ w Q' a) (tA w))
    (k : ∀ r Γ V H' locs', (∀ v, r = some v → okv v) → Q' r Γ V → RH w Γ V H' → va_S (tA w) s.heap H' locs' → W p (tw_L w) e R s m args below meth c H' locs' (uc + mc) (us + ms) Z (F0 m (pc + 3) lsr ((r.map tvv).toList ++ rest))) :
    W p (tw_L w) e R s m args below meth c H locs uc us Z (F0 m pc lsr st0) := by
  intro T hT S
  obtain ⟨v, st₀, t, T', L, h0, S', hL2, e1, e2, ⟨r, Γ', V', hv, hok, hR', ⟨hz, hk⟩, hq⟩, sg⟩ := hr T hT S
  have hv : v = r.map tvv := Outcome.returned.inj hv
  subst hv
  rw [h0] at hz hk
  have hS' : va_S (tA w) s.heap T'.heap (locs ++ L) := by
    refine ⟨Nat.le_trans hS.1 (by rw [e1]; exact hz), fun q h1 h2 => by rw [e1, hk q (Nat.lt_of_lt_of_le h1 hS.1) h2]; exact hS.2.1 q h1 h2, fun q hq => ?_⟩
    rcases List.mem_append.mp hq with h | h
    · exact hS.2.2 q h
    · exact hL2 q h
  obtain ⟨t2, a1, b1⟩ := k r Γ' V' T'.heap (locs ++ L) hok hq (by rw [e1]; exact hR') hS' T' rfl S'
  exact ⟨t2, sg t2 a1, b1⟩
end MB
abbrev cCo : ByteArray := prog_18_method_152_code
def yCo : MethodName := ⟨RJ0, "coder", "()B"⟩
abbrev cLa : ByteArray := prog_18_method_154_code
def yLa : MethodName := ⟨RJ0, "isLatin1", "()Z"⟩
abbrev cCk : ByteArray := prog_18_method_155_code
def yCk : MethodName := ⟨RJ0, "checkIndex", "(II)V"⟩
abbrev cL1 : ByteArray := prog_19_method_2_code
def yL1 : MethodName := ⟨"java/lang/StringLatin1", "charAt", "([BI)C"⟩
abbrev cPr : ByteArray := prog_25_method_11_code
def yPr : MethodName := ⟨"jdk/internal/util/Preconditions", "checkIndex", "(IILjava/util/function/BiFunction;)I"⟩
def rmD (d : Nat) : Room := { frames := d, cells := 0, slots := 0, locals := 38 * d }
def tD (w : WP) (d : Nat) (y : MethodName) (cc : ByteArray) (mL : Nat) (ret : Option FieldType) (args : List TV) (Γ : GM) (V : VH) (Q : QT) : Prop := Met (tw_L w) y (.code y cc mL ret :: lw_g) (rmD d) (tP w args Γ V) (tQ w Q) 0 0 (tA w)
def tY (w : WP) (p : Program) (s : State) (m : MethodId) (args : Array Value) (meth : Method) (c : Code) (own : String) (cc : ByteArray) (mL : Nat) (ret : Option FieldType) : Prop :=
  p.tables.exec = Jvm.exec ∧ c.code = cc ∧ meth.sig.returnType = ret ∧ c.maxLocals = mL ∧ s.vm.findClass own = some m.cls ∧ (∀ q ∈ lw_g, q.before args s = true) ∧ meth.locks = false ∧ KU w s ∧ SU w s s.heap
section DD
variable {w : WP} {d d2 mL mL2 i n pc : Nat} {y : MethodName} {cc cc2 : ByteArray} {ret ret2 : Option FieldType} {as : List TV} {Γ : GM} {V : VH} {Q Q' : QT} {p : Program} {e : Env} {s : State} {m : MethodId} {args : Array Value} {below : List Frame} {meth : Method} {c : Code} {H : Heap} {locs : List Loc} {lsr : Array Slot} {st0 rest : List Value} {Z : State → Prop} {own : String}
theorem tD_enter (hy : plainName y.cls = true) (hs : asz as ≤ mL) (h : ∀ p e s m below meth c lsr, tY w p s m (as.map tvv).toArray meth c y.cls cc mL ret → RH w Γ V s.heap → (∀ v ∈ as, okv v) → LR (ent mL as) lsr mL → W p (tw_L w) e (rmD d) s m (as.map tvv).toArray below meth c s.heap [] 0 0 (MQ below (tQ w Q) (as.map tvv).toArray s 0 0 (tA w)) (F0 m 0 lsr [])) : tD w d y cc mL ret as Γ V Q := by
  refine Met.ofW (cc := cc) (maxL := mL) (ret := ret) hy rfl ?_
  intro p e s m args' below meth c s₁ B hml hv
  obtain ⟨rfl, hok, hR, hK, hS⟩ := hv
  have hts := atoms_spec (ws := .code y cc mL ret :: lw_g) B.pre
  show W p (tw_L w) e (rmD d) s m _ below meth c s.heap [] 0 0 _ _
  refine ent_W (P := fun g => W p (tw_L w) e (rmD d) s m _ below meth c s.heap [] 0 0 _ g) hs hok (fun lsr hL => ?_)
  exact h p e s m below meth c lsr ⟨B.exec, B.bytes, B.returns, hml, findClass_of_methodNamed B.named, fun q hq => hts q (List.mem_cons_of_mem _ hq), B.notSynchronized, hK, hS⟩ hR hok hL
def wdS (own : String) (i : Nat) (y : MethodName) (cc : ByteArray) (mL : Nat) (ret : Option FieldType) : List Cond := [.code y cc mL ret, .initialized y.cls, .methodLink own i y, .static y]
def wdV (own : String) (i : Nat) (y : MethodName) (cc : ByteArray) (mL : Nat) (ret : Option FieldType) : List Cond := [.code y cc mL ret, .initialized y.cls, .methodLink own i y, .instanceMethod y, .selects y.cls y y]
def wdN (y : MethodName) (n : Nat) : Bool := decide (y.cls ≠ "java/lang/invoke/MethodHandle") && decide (y.cls ≠ "java/lang/invoke/VarHandle") && decide ((parseMethodDescriptor y.desc).map (fun d => d.parameters.length) = some n)
theorem wd_in {l : List Cond} (h : l.all (fun q => decide (q ∈ lw_tbl) && goodWord q) = true) : ∀ q ∈ l, q ∈ lw_g := fun q hq => by
  have := List.all_eq_true.mp h q hq
  simp only [Bool.and_eq_true, decide_eq_true_eq] at this
  exact in_g this.1 this.2
theorem dS (Y : tY w p s m args meth c own cc mL ret) (hD : tD w d2 y cc2 mL2 ret2 as Γ V Q') (hw : ∀ q ∈ wdS own i y cc2 mL2 ret2, q ∈ lw_g) (hn : wdN y as.length = true) (hroom : d2 + 1 ≤ d ∧ mL2 ≤ 19) (hst : st0 = (as.map tvv).reverse ++ rest) (hcat : (rest.map fun v => v.category).sum ≤ 8) (hR : RH w Γ V H) (hS : va_S (tA w) s.heap H locs) (hok : ∀ v ∈ as, okv v) (hsz : lsr.size = mL) (hd : decode cc pc = .ok (.invokestatic i, 3))
    (k : ∀ r Γ V H' locs', (∀ v, r = some v → okv v) → Q' r Γ V → RH w Γ V H' → va_S (tA w) s.heap H' locs' → W p (tw_L w) e (rmD d) s m args below meth c H' locs' 0 0 Z (F0 m (pc + 3) lsr ((r.map tvv).toList ++ rest))) :
    W p (tw_L w) e (rmD d) s m args below meth c H locs 0 0 Z (F0 m pc lsr st0) := by
  obtain ⟨y1, y2, y3, y4, y5, y6, y7, y8, y9⟩ := Y
  simp only [wdN, Bool.and_eq_true, decide_eq_true_eq] at hn
  have hrun := va_runS (l := tw_L w) (e := e) (below := below) (meth := meth) (locs := locs) (cells := 0) (slots := 0) (R := rmD d) (nL := mL) (g := F0 m pc lsr st0) (rest := rest) (As := as.map tvv) (H := H) ⟨y1, y2, y4, y5, y6⟩ hD
    ⟨callB_of as.length y6 (good_c (hw _ (by simp [wdS]))) rfl rfl rfl (y6 _ (hw _ (by simp [wdS]))) (y6 _ (hw _ (by simp [wdS]))) ⟨hn.1.1, hn.1.2, hn.2⟩ ⟨hroom.1, show 8 + (mL2 + 11) + 38 * d2 ≤ 38 * d by omega⟩, y6 _ (hw _ (by simp [wdS]))⟩ ⟨tP_blind w as Γ V, pre2 y8 y9 hR hS hok⟩ rfl (by rw [List.length_map]) hsz hst (show 2 * 0 + _ ≤ 8 by omega) hd ⟨Nat.le_refl _, Nat.le_refl _⟩
  exact W_call2 hS hrun k
theorem dV {t : Nat} (Y : tY w p s m args meth c own cc mL ret) (hD : tD w d2 y cc2 mL2 ret2 (.inr (.inl (t + 1)) :: as) Γ V Q') (hw : ∀ q ∈ wdV own i y cc2 mL2 ret2, q ∈ lw_g) (hn : wdN y as.length = true) (hroom : d2 + 1 ≤ d ∧ mL2 ≤ 19) (hst : st0 = (as.map tvv).reverse ++ .ref t :: rest) (hcat : (rest.map fun v => v.category).sum ≤ 8) (hR : RH w Γ V H) (hS : va_S (tA w) s.heap H locs) (hok : ∀ v ∈ as, okv v) (hrc : ∃ cellB : Cell, H[t]? = some cellB ∧ cellB.vm.isStatics = false ∧ s.vm.findClass y.cls = some cellB.cls) (hsz : lsr.size = mL) (hd : decode cc pc = .ok (.invokevirtual i, 3))
    (k : ∀ r Γ V H' locs', (∀ v, r = some v → okv v) → Q' r Γ V → RH w Γ V H' → va_S (tA w) s.heap H' locs' → W p (tw_L w) e (rmD d) s m args below meth c H' locs' 0 0 Z (F0 m (pc + 3) lsr ((r.map tvv).toList ++ rest))) :
    W p (tw_L w) e (rmD d) s m args below meth c H locs 0 0 Z (F0 m pc lsr st0) := by
  obtain ⟨y1, y2, y3, y4, y5, y6, y7, y8, y9⟩ := Y
  simp only [wdN, Bool.and_eq_true, decide_eq_true_eq] at hn
  have hrun := va_runV (l := tw_L w) (e := e) (below := below) (meth := meth) (locs := locs) (cells := 0) (slots := 0) (R := rmD d) (nL := mL) (g := F0 m pc lsr st0) (rest := rest) (As := as.map tvv) (H := H) (C := y.cls) (b := t) ⟨y1, y2, y4, y5, y6⟩ hD
    ⟨callB_of as.length y6 (good_c (hw _ (by simp [wdV]))) rfl rfl rfl (y6 _ (hw _ (by simp [wdV]))) (y6 _ (hw _ (by simp [wdV]))) ⟨hn.1.1, hn.1.2, hn.2⟩ ⟨hroom.1, show 8 + (mL2 + 11) + 38 * d2 ≤ 38 * d by omega⟩, y6 _ (hw _ (by simp [wdV])), y6 _ (hw _ (by simp [wdV]))⟩ ⟨tP_blind w _ Γ V, hrc, pre2 (as := .inr (.inl (t + 1)) :: as) y8 y9 hR hS (okc trivial hok)⟩ rfl (by rw [List.length_map]) hsz hst (show 2 * 0 + _ ≤ 8 by omega) hd ⟨Nat.le_refl _, Nat.le_refl _⟩
  exact W_call2 hS hrun k
end DD
theorem fl_co : ∀ q ∈ [Cond.fieldLink RJ0 38 RJ0 "COMPACT_STRINGS" "Z", Cond.fieldLink RJ0 15 RJ0 "coder" "B", Cond.fieldLink RJ0 9 RJ0 "value" "[B", Cond.fieldLink RJ0 1053 "jdk/internal/util/Preconditions" "SIOOBE_FORMATTER" "Ljava/util/function/BiFunction;"], q ∈ lw_g := wd_in (by decide +kernel)
theorem fk_0 : Cond.fieldLink RJ0 38 RJ0 "COMPACT_STRINGS" "Z" ∈ lw_g := fl_co _ (by simp)
theorem fk_1 : Cond.fieldLink RJ0 15 RJ0 "coder" "B" ∈ lw_g := fl_co _ (by simp)
theorem fk_2 : Cond.fieldLink RJ0 9 RJ0 "value" "[B" ∈ lw_g := fl_co _ (by simp)
theorem fk_3 : Cond.fieldLink RJ0 1053 "jdk/internal/util/Preconditions" "SIOOBE_FORMATTER" "Ljava/util/function/BiFunction;" ∈ lw_g := fl_co _ (by simp)
theorem ln_ok : ∀ k, k < 8 → (Int32.ofNat (sln.getD k 0) = Int32.ofInt ((sln.getD k 0 : Nat) : Int) ∧ Int32.ofInt ((sln.getD k 0 : Nat) : Int) >>> (Int32.ofInt 0 &&& 31) = Int32.ofInt ((sln.getD k 0 : Nat) : Int)) ∧ sln.getD k 0 ≤ 100 ∧ ∀ i, i < sln.getD k 0 → ((sby.getD k []).getD i 0 &&& 255 = (sby.getD k []).getD i 0 ∧ narrow .char (.int ((sby.getD k []).getD i 0)) = .int ((sby.getD k []).getD i 0)) := by decide +kernel
section ST
variable {w : WP} {d k : Nat} {Γ : GM} {V : VH} {Q : QT}
theorem j_coder (hk : k < 8) (hq : Q (some (.inl 0)) Γ V) : tD w d yCo cCo 1 (some .byte) [.inr (.inl (tw_K w k + 1))] Γ V Q := by
  refine tD_enter (by decide) (Nat.le_of_ble_eq_true rfl) (fun p e s m below meth c lsr Y hR hok hL => ?_)
  obtain ⟨y1, y2, y3, y4, y5, y6, y7, y8, y9⟩ := id Y
  have h0 := hL.2.2.2 0 (.inr (.inl (tw_K w k + 1))) rfl
  refine va_gets (A := tA w) y1 y2 y9.2.2.1.1 va_S.rf y5 (y6 _ fk_0) (fun _ h => h) (by decide +kernel : decode cCo 0 = .ok (.getstatic 38, 3)) ?_
  refine lv_if_eq y1 y2 (tgt := 13) (by decide +kernel : decode cCo 3 = .ok (.ifCond .eq 10, 3)) rfl (fun h => absurd h (by decide)) (fun _ => ?_)
  refine lv_aload_n y1 y2 (by decide +kernel : decode cCo 6 = .ok (.aload_n 0, 1)) rfl h0.1 ?_
  refine vk_getf (A := tA w) y1 y2 ((y9.1.1 k hk).2.1) va_S.rf y5 (y6 _ fk_1) (fun _ h => h) (by decide +kernel : decode cCo 7 = .ok (.getfield 15, 3)) ?_
  refine lv_goto y1 y2 (tgt := 14) (by decide +kernel : decode cCo 10 = .ok (.goto 4, 3)) rfl ?_
  exact W.zret y1 y2 y3 (by decide) (fun t ht hW => ⟨some (.inl 0), Γ, V, rfl, fun v h => by cases h; exact ok0, by rw [ht]; exact hR, va_S.rf.F ht, hq⟩) (va_S.rf (H0 := s.heap)).2.2 (by decide +kernel : decode cCo 14 = .ok (.ireturn, 1)) y7
theorem j_latin (hk : k < 8) (hq : Q (some (.inl 1)) Γ V) : tD w d yLa cLa 1 (some .boolean) [.inr (.inl (tw_K w k + 1))] Γ V Q := by
  refine tD_enter (by decide) (Nat.le_of_ble_eq_true rfl) (fun p e s m below meth c lsr Y hR hok hL => ?_)
  obtain ⟨y1, y2, y3, y4, y5, y6, y7, y8, y9⟩ := id Y
  have h0 := hL.2.2.2 0 (.inr (.inl (tw_K w k + 1))) rfl
  refine va_gets (A := tA w) y1 y2 y9.2.2.1.1 va_S.rf y5 (y6 _ fk_0) (fun _ h => h) (by decide +kernel : decode cLa 0 = .ok (.getstatic 38, 3)) ?_
  refine lv_if_eq y1 y2 (tgt := 17) (by decide +kernel : decode cLa 3 = .ok (.ifCond .eq 14, 3)) rfl (fun h => absurd h (by decide)) (fun _ => ?_)
  refine lv_aload_n y1 y2 (by decide +kernel : decode cLa 6 = .ok (.aload_n 0, 1)) rfl h0.1 ?_
  refine vk_getf (A := tA w) y1 y2 ((y9.1.1 k hk).2.1) va_S.rf y5 (y6 _ fk_1) (fun _ h => h) (by decide +kernel : decode cLa 7 = .ok (.getfield 15, 3)) ?_
  refine lv_if_ne y1 y2 (tgt := 17) (by decide +kernel : decode cLa 10 = .ok (.ifCond .ne 7, 3)) rfl (fun h => absurd rfl h) (fun _ => ?_)
  refine lv_iconst y1 y2 (by decide +kernel : decode cLa 13 = .ok (.iconst 1, 1)) rfl ?_
  refine lv_goto y1 y2 (tgt := 18) (by decide +kernel : decode cLa 14 = .ok (.goto 4, 3)) rfl ?_
  exact W.zret y1 y2 y3 (by decide) (fun t ht hW => ⟨some (.inl 1), Γ, V, rfl, fun v h => by cases h; exact ⟨by decide, by decide⟩, by rw [ht]; exact hR, va_S.rf.F ht, hq⟩) (va_S.rf (H0 := s.heap)).2.2 (by decide +kernel : decode cLa 18 = .ok (.ireturn, 1)) y7
theorem j_pre {i n f : Nat} (hi : i < n) (hn : n ≤ 100) (hq : Q (some (.inl (i : Int))) Γ V) : tD w d yPr cPr 3 (some .int) [.inl (i : Int), .inl (n : Int), .inr (.inl f)] Γ V Q := by
  refine tD_enter (by decide) (Nat.le_of_ble_eq_true rfl) (fun p e s m below meth c lsr Y hR hok hL => ?_)
  obtain ⟨y1, y2, y3, y4, y5, y6, y7, y8, y9⟩ := id Y
  have h0 := hL.2.2.2 0 (.inl (i : Int)) rfl
  have h1 := hL.2.2.2 1 (.inl (n : Int)) rfl
  have oi : okt 0 (i : Int) := h0.2
  have on_ : okt 0 (n : Int) := h1.2
  refine lv_iload_n y1 y2 (by decide +kernel : decode cPr 0 = .ok (.iload_n 0, 1)) rfl h0.1 ?_
  refine lv_if_lt y1 y2 (tgt := 9) (by decide +kernel : decode cPr 1 = .ok (.ifCond .lt 8, 3)) rfl (fun h => ?_) (fun _ => ?_)
  · rw [e_0, e_lt oi ok0] at h
    omega
  refine lv_iload_n y1 y2 (by decide +kernel : decode cPr 4 = .ok (.iload_n 0, 1)) rfl h0.1 ?_
  refine lv_iload_n y1 y2 (by decide +kernel : decode cPr 5 = .ok (.iload_n 1, 1)) rfl h1.1 ?_
  refine lv_icmp_lt y1 y2 (tgt := 16) (by decide +kernel : decode cPr 6 = .ok (.if_icmp .lt 10, 3)) rfl (fun _ => ?_) (fun h => ?_)
  · refine lv_iload_n y1 y2 (by decide +kernel : decode cPr 16 = .ok (.iload_n 0, 1)) rfl h0.1 ?_
    exact W.iret y1 y2 y3 (fun t ht hW => ⟨some (.inl (i : Int)), Γ, V, rfl, fun v h => by cases h; exact oi, by rw [ht]; exact hR, va_S.rf.F ht, hq⟩) (va_S.rf (H0 := s.heap)).2.2 (by decide +kernel : decode cPr 17 = .ok (.ireturn, 1)) y7
  · rw [e_lt oi on_] at h
    omega
abbrev FZ (w : WP) : Prop := ∀ s : State, SU w s s.heap → va_Zq "jdk/internal/util/Preconditions" "SIOOBE_FORMATTER" "Ljava/util/function/BiFunction;" (tA w) s s.heap
theorem FZ_ok : FZ w := fun s h => h.2.2.1.2
theorem j_ck (hF : FZ w) {i n : Nat} (hi : i < n) (hn : n ≤ 100) (hq : Q none Γ V) : tD w (d + 1) yCk cCk 2 none [.inl (i : Int), .inl (n : Int)] Γ V Q := by
  refine tD_enter (by decide) (Nat.le_of_ble_eq_true rfl) (fun p e s m below meth c lsr Y hR hok hL => ?_)
  obtain ⟨y1, y2, y3, y4, y5, y6, y7, y8, y9⟩ := id Y
  have h0 := hL.2.2.2 0 (.inl (i : Int)) rfl
  have h1 := hL.2.2.2 1 (.inl (n : Int)) rfl
  obtain ⟨f, hf⟩ : ∃ f : Nat, va_Z "jdk/internal/util/Preconditions" "SIOOBE_FORMATTER" "Ljava/util/function/BiFunction;" (tvv (.inr (.inl f))) (tA w) s s.heap := by
    rcases hF s y9 with h | ⟨t, h⟩
    · exact ⟨0, h⟩
    · exact ⟨t + 1, h⟩
  refine lv_iload_n y1 y2 (by decide +kernel : decode cCk 0 = .ok (.iload_n 0, 1)) rfl h0.1 ?_
  refine lv_iload_n y1 y2 (by decide +kernel : decode cCk 1 = .ok (.iload_n 1, 1)) rfl h1.1 ?_
  refine va_gets (A := tA w) y1 y2 hf va_S.rf y5 (y6 _ fk_3) (fun _ h => h) (by decide +kernel : decode cCk 2 = .ok (.getstatic 1053, 3)) ?_
  refine dS (d2 := d) (rest := []) Y (j_pre (f := f) (Q := fun r Γ' V' => r = some (.inl (i : Int)) ∧ Γ' = Γ ∧ V' = V) hi hn ⟨rfl, rfl, rfl⟩) (wd_in (by decide +kernel)) (show wdN yPr 3 = true by decide +kernel) ⟨Nat.le_refl _, by decide⟩ rfl (Nat.zero_le _) hR va_S.rf (okc h0.2 (okc h1.2 (okc trivial (fun v h => by cases h)))) hL.1 (by decide +kernel : decode cCk 5 = .ok (.invokestatic 1059, 3)) (fun r' Γ' V' H' locs' hok' hq' hR' hS' => ?_)
  obtain ⟨e1, e2, e3⟩ := hq'
  subst e1 e2 e3
  refine lv_pop y1 y2 (by decide +kernel : decode cCk 8 = .ok (.pop, 1)) rfl ?_
  exact W.vret y1 y2 y3 (fun t ht hW => ⟨none, _, _, rfl, (fun v h => by cases h), by rw [ht]; exact hR', hS'.F ht, hq⟩) hS'.2.2 (by decide +kernel : decode cCk 9 = .ok (.return_, 1)) y7
theorem j_l1 (hF : FZ w) (hk : k < 8) {i : Nat} (hi : i < sln.getD k 0) (hq : Q (some (.inl ((sby.getD k []).getD i 0).toInt)) Γ V) : tD w (d + 1 + 1) yL1 cL1 2 (some .char) [.inr (.inl (tw_V w k + 1)), .inl (i : Int)] Γ V Q := by
  refine tD_enter (by decide) (Nat.le_of_ble_eq_true rfl) (fun p e s m below meth c lsr Y hR hok hL => ?_)
  obtain ⟨y1, y2, y3, y4, y5, y6, y7, y8, y9⟩ := id Y
  obtain ⟨⟨l1, l2⟩, l3, l4⟩ := ln_ok k hk
  obtain ⟨b1, b2⟩ := l4 i hi
  have h0 := hL.2.2.2 0 (.inr (.inl (tw_V w k + 1))) rfl
  have h1 := hL.2.2.2 1 (.inl (i : Int)) rfl
  have oi : okt 0 (i : Int) := h1.2
  have hT := (y9.1.1 k hk).2.2.2
  refine lv_iload_n y1 y2 (by decide +kernel : decode cL1 0 = .ok (.iload_n 1, 1)) rfl h1.1 ?_
  refine lv_aload_n y1 y2 (by decide +kernel : decode cL1 1 = .ok (.aload_n 0, 1)) rfl h0.1 ?_
  refine va_tlen (A := tA w) y1 y2 hT va_S.rf l1 (by decide +kernel : decode cL1 2 = .ok (.arraylength, 1)) ?_
  refine dS (d2 := d + 1) (rest := []) Y (j_ck (d := d) (Q := fun r Γ' V' => r = none ∧ Γ' = Γ ∧ V' = V) hF hi l3 ⟨rfl, rfl, rfl⟩) (wd_in (by decide +kernel)) (show wdN yCk 2 = true by decide +kernel) ⟨Nat.le_refl _, by decide⟩ rfl (Nat.zero_le _) hR va_S.rf (okc h1.2 (okc (v := .inl ((sln.getD k 0 : Nat) : Int)) (show -2147483648 ≤ ((sln.getD k 0 : Nat) : Int) ∧ ((sln.getD k 0 : Nat) : Int) ≤ 2147483647 by omega) (fun v h => by cases h))) hL.1 (by decide +kernel : decode cL1 3 = .ok (.invokestatic 9, 3)) (fun r' Γ' V' H' locs' hok' hq' hR' hS' => ?_)
  obtain ⟨e1, e2, e3⟩ := hq'
  subst e1 e2 e3
  refine lv_aload_n y1 y2 (by decide +kernel : decode cL1 6 = .ok (.aload_n 0, 1)) rfl h0.1 ?_
  refine lv_iload_n y1 y2 (by decide +kernel : decode cL1 7 = .ok (.iload_n 1, 1)) rfl h1.1 ?_
  refine va_tb (A := tA w) y1 y2 hT hS' (e_in oi (by omega) (by omega)) (v := .int ((sby.getD k []).getD i 0)) (by rw [e_nat oi (by omega)]; rfl) (by decide +kernel : decode cL1 8 = .ok (.baload, 1)) ?_
  refine lv_sipush y1 y2 (v := 255) (by decide +kernel : decode cL1 9 = .ok (.sipush 255, 3)) (by decide) ?_
  refine lv_iand y1 y2 (by decide +kernel : decode cL1 12 = .ok (.iand, 1)) ?_
  refine lv_i2c y1 y2 (v := (sby.getD k []).getD i 0) (by decide +kernel : decode cL1 13 = .ok (.i2c, 1)) ((sc_c2 _).trans b1) ?_
  exact W.zret y1 y2 y3 b2 (fun t ht hW => ⟨some (.inl ((sby.getD k []).getD i 0).toInt), _, _, by show _ = Outcome.returned (some (.int (Int32.ofInt _))); rw [Int32.ofInt_toInt], fun v h => by cases h; exact t32_ok _, by rw [ht]; exact hR', hS'.F ht, hq⟩) hS'.2.2 (by decide +kernel : decode cL1 14 = .ok (.ireturn, 1)) y7
theorem k_strLen (hd : 4 ≤ d) {t : Nat} (h : Γ.1 t = 20) (hq : Q (some (.inl (Γ.2.1 t : Int))) Γ V) : tC w d nStr_length [.inr (.inl t)] Γ V Q := by
  refine tC_enter (nL := 1) (by decide +kernel) (by decide +kernel) rfl (Nat.le_of_ble_eq_true rfl) (fun hok0 => ?_)
  intro p e s m sargs below meth c H locs lsr X hL hst hR hS hu hv
  obtain ⟨-, -, h3⟩ := hR.2.2 t (by omega)
  obtain ⟨k, hk, rfl, k1, k2⟩ : ∃ k, k < 8 ∧ t = tw_K w k + 1 ∧ Γ.2.1 t = sln.getD k 0 ∧ ∀ j, j < Γ.2.1 t → V t j = ((sby.getD k []).getD j 0).toInt := by
    rcases h3 with ⟨a1, -⟩ | ⟨a1, a2, -⟩ | ⟨a1, -⟩ | ⟨a1, a2, r⟩
    · omega
    · omega
    · omega
    · exact r
  rw [k1] at hq
  obtain ⟨⟨l1, l2⟩, l3, l4⟩ := ln_ok k hk
  have Y : tY w p s m sargs meth c RJ0 (mth nStr_length).2.1 1 (some .int) := ⟨X.1, X.2.1, X.2.2.1, X.2.2.2.1, X.ow, X.lk, X.2.2.2.2.2.2.1, X.K, X.2.2.2.2.2.2.2.2.2.1⟩
  obtain ⟨y1, y2, y3, y4, y5, y6, y7, y8, y9⟩ := id Y
  have h0 := hL.2.2.2 0 (.inr (.inl (tw_K w k + 1))) rfl
  have hd1 : d = (d - 1) + 1 := by omega
  show W p (tw_L w) e (rmD d) s m sargs below meth c H locs 0 0 (MQ below (tQ w Q) sargs s 0 0 (tA w)) (F0 m 0 lsr [])
  refine lv_aload_n y1 y2 (by decide +kernel : decode (mth nStr_length).2.1 0 = .ok (.aload_n 0, 1)) rfl h0.1 ?_
  refine vk_getf (A := tA w) y1 y2 ((y9.1.1 k hk).2.2.1) hS y5 (y6 _ fk_2) (fun _ h => h) (by decide +kernel : decode (mth nStr_length).2.1 1 = .ok (.getfield 9, 3)) ?_
  refine va_tlen (A := tA w) y1 y2 ((y9.1.1 k hk).2.2.2) hS l1 (by decide +kernel : decode (mth nStr_length).2.1 4 = .ok (.arraylength, 1)) ?_
  refine lv_aload_n y1 y2 (by decide +kernel : decode (mth nStr_length).2.1 5 = .ok (.aload_n 0, 1)) rfl h0.1 ?_
  refine dV (d2 := d - 1) (t := tw_K w k) (as := []) (rest := [.int (Int32.ofInt ((sln.getD k 0 : Nat) : Int))]) Y (j_coder (Q := fun r Γ' V' => r = some (.inl 0) ∧ Γ' = Γ ∧ V' = V) hk ⟨rfl, rfl, rfl⟩) (wd_in (by decide +kernel)) (show wdN yCo 0 = true by decide +kernel) ⟨by omega, by decide⟩ rfl (Nat.le_of_ble_eq_true rfl) hR hS (fun v h => by cases h) (vk_recv y9.1 hk hS) hL.1 (by decide +kernel : decode (mth nStr_length).2.1 6 = .ok (.invokevirtual 335, 3)) (fun r' Γ' V' H' locs' hok' hq' hR' hS' => ?_)
  obtain ⟨e1, e2, e3⟩ := hq'
  subst e1 e2 e3
  refine lv_ishr y1 y2 (by decide +kernel : decode (mth nStr_length).2.1 9 = .ok (.ishr, 1)) ?_
  rw [l2]
  exact W.iret y1 y2 y3 (fun t ht hW => ⟨some (.inl ((sln.getD k 0 : Nat) : Int)), _, _, rfl, (fun v h => by cases h; exact (show -2147483648 ≤ ((sln.getD k 0 : Nat) : Int) ∧ ((sln.getD k 0 : Nat) : Int) ≤ 2147483647 by omega)), by rw [ht]; exact hR', hS'.F ht, hq⟩) hS'.2.2 (by decide +kernel : decode (mth nStr_length).2.1 10 = .ok (.ireturn, 1)) y7
theorem k_charAt (hd : 4 ≤ d) {t i : Nat} (h : Γ.1 t = 20) (hi : i < Γ.2.1 t) (hq : Q (some (.inl (V t i))) Γ V) : tC w d nStr_charAt [.inr (.inl t), .inl (i : Int)] Γ V Q := by
  refine tC_enter (nL := 2) (by decide +kernel) (by decide +kernel) rfl (Nat.le_of_ble_eq_true rfl) (fun hok0 => ?_)
  intro p e s m sargs below meth c H locs lsr X hL hst hR hS hu hv
  obtain ⟨-, -, h3⟩ := hR.2.2 t (by omega)
  obtain ⟨k, hk, rfl, k1, k2⟩ : ∃ k, k < 8 ∧ t = tw_K w k + 1 ∧ Γ.2.1 t = sln.getD k 0 ∧ ∀ j, j < Γ.2.1 t → V t j = ((sby.getD k []).getD j 0).toInt := by
    rcases h3 with ⟨a1, -⟩ | ⟨a1, a2, -⟩ | ⟨a1, -⟩ | ⟨a1, a2, r⟩
    · omega
    · omega
    · omega
    · exact r
  rw [k2 i hi] at hq
  rw [k1] at hi
  obtain ⟨⟨l1, l2⟩, l3, l4⟩ := ln_ok k hk
  obtain ⟨b1, b2⟩ := l4 i hi
  have Y : tY w p s m sargs meth c RJ0 (mth nStr_charAt).2.1 2 (some .char) := ⟨X.1, X.2.1, X.2.2.1, X.2.2.2.1, X.ow, X.lk, X.2.2.2.2.2.2.1, X.K, X.2.2.2.2.2.2.2.2.2.1⟩
  obtain ⟨y1, y2, y3, y4, y5, y6, y7, y8, y9⟩ := id Y
  have h0 := hL.2.2.2 0 (.inr (.inl (tw_K w k + 1))) rfl
  have h1 := hL.2.2.2 1 (.inl (i : Int)) rfl
  obtain ⟨d, rfl⟩ : ∃ z, d = z + 1 + 1 + 1 := ⟨d - 3, by omega⟩
  show W p (tw_L w) e (rmD (d + 1 + 1 + 1)) s m sargs below meth c H locs 0 0 (MQ below (tQ w Q) sargs s 0 0 (tA w)) (F0 m 0 lsr [])
  refine lv_aload_n y1 y2 (by decide +kernel : decode (mth nStr_charAt).2.1 0 = .ok (.aload_n 0, 1)) rfl h0.1 ?_
  refine dV (d2 := d + 1 + 1) (t := tw_K w k) (as := []) (rest := []) Y (j_latin (Q := fun r Γ' V' => r = some (.inl 1) ∧ Γ' = Γ ∧ V' = V) hk ⟨rfl, rfl, rfl⟩) (wd_in (by decide +kernel)) (show wdN yLa 0 = true by decide +kernel) ⟨Nat.le_refl _, by decide⟩ rfl (Nat.zero_le _) hR hS (fun v h => by cases h) (vk_recv y9.1 hk hS) hL.1 (by decide +kernel : decode (mth nStr_charAt).2.1 1 = .ok (.invokevirtual 492, 3)) (fun r' Γ' V' H' locs' hok' hq' hR' hS' => ?_)
  obtain ⟨e1, e2, e3⟩ := hq'
  subst e1 e2 e3
  refine lv_if_eq y1 y2 (tgt := 16) (by decide +kernel : decode (mth nStr_charAt).2.1 4 = .ok (.ifCond .eq 12, 3)) rfl (fun h => absurd h (by decide)) (fun _ => ?_)
  refine lv_aload_n y1 y2 (by decide +kernel : decode (mth nStr_charAt).2.1 7 = .ok (.aload_n 0, 1)) rfl h0.1 ?_
  refine vk_getf (A := tA w) y1 y2 ((y9.1.1 k hk).2.2.1) hS' y5 (y6 _ fk_2) (fun _ h => h) (by decide +kernel : decode (mth nStr_charAt).2.1 8 = .ok (.getfield 9, 3)) ?_
  refine lv_iload_n y1 y2 (by decide +kernel : decode (mth nStr_charAt).2.1 11 = .ok (.iload_n 1, 1)) rfl h1.1 ?_
  refine dS (d2 := d + 1 + 1) (rest := []) Y (j_l1 (d := d) (Q := fun r Γ1 V1 => r = some (.inl ((sby.getD k []).getD i 0).toInt) ∧ Γ1 = Γ' ∧ V1 = V') FZ_ok hk hi ⟨rfl, rfl, rfl⟩) (wd_in (by decide +kernel)) (show wdN yL1 2 = true by decide +kernel) ⟨Nat.le_refl _, by decide⟩ rfl (Nat.zero_le _) hR' hS' (okc trivial (okc h1.2 (fun v h => by cases h))) hL.1 (by decide +kernel : decode (mth nStr_charAt).2.1 12 = .ok (.invokestatic 495, 3)) (fun r2 Γ2 V2 H2 locs2 hok2 hq2 hR2 hS2 => ?_)
  obtain ⟨e1, e2, e3⟩ := hq2
  subst e1 e2 e3
  show W p (tw_L w) e (rmD (d + 1 + 1 + 1)) s m sargs below meth c H2 locs2 0 0 _ (F0 m 15 lsr [.int (Int32.ofInt ((sby.getD k []).getD i 0).toInt)])
  rw [Int32.ofInt_toInt]
  exact W.zret y1 y2 y3 b2 (fun t ht hW => ⟨some (.inl ((sby.getD k []).getD i 0).toInt), _, _, by show _ = Outcome.returned (some (.int (Int32.ofInt _))); rw [Int32.ofInt_toInt], (fun v h => by cases h; exact t32_ok _), by rw [ht]; exact hR2, hS2.F ht, hq⟩) hS2.2.2 (by decide +kernel : decode (mth nStr_charAt).2.1 15 = .ok (.ireturn, 1)) y7
end ST
