theorem okc {v : TV} {st : List TV} (h : okv v) (hs : ∀ u ∈ st, okv u) : ∀ u ∈ v :: st, okv u := fun u hu => (List.mem_cons.mp hu).elim (fun e => e ▸ h) (hs u)
theorem okd {v : TV} {st : List TV} (hs : ∀ u ∈ v :: st, okv u) : ∀ u ∈ st, okv u := fun u hu => hs u (List.mem_cons_of_mem _ hu)
theorem okh {v : TV} {st : List TV} (hs : ∀ u ∈ v :: st, okv u) : okv v := hs v List.mem_cons_self
section TB
variable {w : WP} {d n pc : Nat} {ls : LT} {st : List TV} {Γ : GM} {V : VH} {uc us : Nat} {Q : QT}
theorem g_iload_n {a : Fin 4} {x : Int} (hd : decode (mth n).2.1 pc = .ok (.iload_n a, 1)) (hl : lg ls a.val = some (.inl x)) (k : tG w d n (pc + 1) ls (.inl x :: st) Γ V uc us Q) : tG w d n pc ls st Γ V uc us Q := by
  intro p e s m args below meth c H locs lsr X hL hst hR hS hu hv
  obtain ⟨h1, h2⟩ := hL.2.2.2 _ _ (lg_at hl)
  refine lv_iload_n X.1 X.2.1 hd rfl h1 ?_
  exact k p e s m args below meth c H locs lsr X hL (okc h2 hst) hR hS hu hv
theorem g_iload {a : Nat} {x : Int} (hd : decode (mth n).2.1 pc = .ok (.iload a, 2)) (hl : lg ls a = some (.inl x)) (k : tG w d n (pc + 2) ls (.inl x :: st) Γ V uc us Q) : tG w d n pc ls st Γ V uc us Q := by
  intro p e s m args below meth c H locs lsr X hL hst hR hS hu hv
  obtain ⟨h1, h2⟩ := hL.2.2.2 _ _ (lg_at hl)
  refine lv_iload X.1 X.2.1 hd h1 ?_
  exact k p e s m args below meth c H locs lsr X hL (okc h2 hst) hR hS hu hv
theorem g_lload_n {a : Fin 4} {x : Int} (hd : decode (mth n).2.1 pc = .ok (.lload_n a, 1)) (hl : lg ls a.val = some (.inr (.inr x))) (k : tG w d n (pc + 1) ls (.inr (.inr x) :: st) Γ V uc us Q) : tG w d n pc ls st Γ V uc us Q := by
  intro p e s m args below meth c H locs lsr X hL hst hR hS hu hv
  obtain ⟨h1, h2⟩ := hL.2.2.2 _ _ (lg_at hl)
  refine lv_lload_n X.1 X.2.1 hd rfl h1 ?_
  exact k p e s m args below meth c H locs lsr X hL (okc h2 hst) hR hS hu hv
theorem g_aload_n {a : Fin 4} {x : Nat} (hd : decode (mth n).2.1 pc = .ok (.aload_n a, 1)) (hl : lg ls a.val = some (.inr (.inl x))) (k : tG w d n (pc + 1) ls (.inr (.inl x) :: st) Γ V uc us Q) : tG w d n pc ls st Γ V uc us Q := by
  intro p e s m args below meth c H locs lsr X hL hst hR hS hu hv
  obtain ⟨h1, h2⟩ := hL.2.2.2 _ _ (lg_at hl)
  cases x with
  | zero =>
    refine lv_aload_nN X.1 X.2.1 hd rfl h1 ?_
    exact k p e s m args below meth c H locs lsr X hL (okc h2 hst) hR hS hu hv
  | succ y =>
    refine lv_aload_n X.1 X.2.1 hd rfl h1 ?_
    exact k p e s m args below meth c H locs lsr X hL (okc h2 hst) hR hS hu hv
theorem g_aload {a x : Nat} (hd : decode (mth n).2.1 pc = .ok (.aload a, 2)) (hl : lg ls a = some (.inr (.inl x))) (k : tG w d n (pc + 2) ls (.inr (.inl x) :: st) Γ V uc us Q) : tG w d n pc ls st Γ V uc us Q := by
  intro p e s m args below meth c H locs lsr X hL hst hR hS hu hv
  obtain ⟨h1, h2⟩ := hL.2.2.2 _ _ (lg_at hl)
  cases x with
  | zero =>
    refine lv_aloadN X.1 X.2.1 hd h1 ?_
    exact k p e s m args below meth c H locs lsr X hL (okc h2 hst) hR hS hu hv
  | succ y =>
    refine lv_aload X.1 X.2.1 hd h1 ?_
    exact k p e s m args below meth c H locs lsr X hL (okc h2 hst) hR hS hu hv
theorem g_istore_n {a : Fin 4} {x : Int} (hd : decode (mth n).2.1 pc = .ok (.istore_n a, 1)) (ha : a.val < (mth n).2.2.1) (k : tG w d n (pc + 1) (lt_ ls a.val (.inl x)) st Γ V uc us Q) : tG w d n pc ls (.inl x :: st) Γ V uc us Q := by
  intro p e s m args below meth c H locs lsr X hL hst hR hS hu hv
  refine lv_istore_n X.1 X.2.1 hd rfl hL.has ha rfl (fun ls' h' => ?_)
  exact k p e s m args below meth c H locs ls' X (hL.set (v := .inl x) (okh hst) h') (okd hst) hR hS hu hv
theorem g_istore {a : Nat} {x : Int} (hd : decode (mth n).2.1 pc = .ok (.istore a, 2)) (ha : a < (mth n).2.2.1) (k : tG w d n (pc + 2) (lt_ ls a (.inl x)) st Γ V uc us Q) : tG w d n pc ls (.inl x :: st) Γ V uc us Q := by
  intro p e s m args below meth c H locs lsr X hL hst hR hS hu hv
  refine lv_istore X.1 X.2.1 hd hL.has ha rfl (fun ls' h' => ?_)
  exact k p e s m args below meth c H locs ls' X (hL.set (v := .inl x) (okh hst) h') (okd hst) hR hS hu hv
theorem g_astore_n {a : Fin 4} {x : Nat} (hd : decode (mth n).2.1 pc = .ok (.astore_n a, 1)) (ha : a.val < (mth n).2.2.1) (k : tG w d n (pc + 1) (lt_ ls a.val (.inr (.inl x))) st Γ V uc us Q) : tG w d n pc ls (.inr (.inl x) :: st) Γ V uc us Q := by
  intro p e s m args below meth c H locs lsr X hL hst hR hS hu hv
  cases x with
  | zero =>
    refine lv_astore_nN X.1 X.2.1 hd rfl hL.has ha rfl (fun ls' h' => ?_)
    exact k p e s m args below meth c H locs ls' X (hL.set (v := .inr (.inl 0)) trivial h') (okd hst) hR hS hu hv
  | succ y =>
    refine lv_astore_n X.1 X.2.1 hd rfl hL.has ha rfl (fun ls' h' => ?_)
    exact k p e s m args below meth c H locs ls' X (hL.set (v := .inr (.inl (y + 1))) trivial h') (okd hst) hR hS hu hv
theorem g_astore {a : Nat} {x : Nat} (hd : decode (mth n).2.1 pc = .ok (.astore a, 2)) (ha : a < (mth n).2.2.1) (k : tG w d n (pc + 2) (lt_ ls a (.inr (.inl x))) st Γ V uc us Q) : tG w d n pc ls (.inr (.inl x) :: st) Γ V uc us Q := by
  intro p e s m args below meth c H locs lsr X hL hst hR hS hu hv
  cases x with
  | zero =>
    refine lv_astoreN X.1 X.2.1 hd hL.has ha rfl (fun ls' h' => ?_)
    exact k p e s m args below meth c H locs ls' X (hL.set (v := .inr (.inl 0)) trivial h') (okd hst) hR hS hu hv
  | succ y =>
    refine lv_astore X.1 X.2.1 hd hL.has ha rfl (fun ls' h' => ?_)
    exact k p e s m args below meth c H locs ls' X (hL.set (v := .inr (.inl (y + 1))) trivial h') (okd hst) hR hS hu hv
theorem g_iinc {a : Nat} {z x : Int} (hd : decode (mth n).2.1 pc = .ok (.iinc a z, 3)) (ha : a < (mth n).2.2.1) (hl : lg ls a = some (.inl x)) (k : tG w d n (pc + 3) (lt_ ls a (.inl (wr (x + z)))) st Γ V uc us Q) : tG w d n pc ls st Γ V uc us Q := by
  intro p e s m args below meth c H locs lsr X hL hst hR hS hu hv
  have hm : (a, tvv (.inl x)) ∈ lps ls := by
    refine List.mem_filterMap.mpr ⟨a, List.mem_range.mpr (List.getElem?_eq_some_iff.mp (lg_at hl)).1, ?_⟩
    rw [hl]
    rfl
  obtain ⟨q, hq⟩ := List.getElem?_of_mem hm
  refine lv_iinc (v := Int32.ofInt (wr (x + z))) X.1 X.2.1 hd hL.has hq (by rw [e_wr, Int32.ofInt_add]) ha rfl (fun ls' h' => ?_)
  exact k p e s m args below meth c H locs ls' X (hL.set (v := .inl (wr (x + z))) (wr_ok _) h') hst hR hS hu hv
theorem g_iconst {z : Int} (hd : decode (mth n).2.1 pc = .ok (.iconst z, 1)) (hz : -1 ≤ z ∧ z ≤ 5) (k : tG w d n (pc + 1) ls (.inl z :: st) Γ V uc us Q) : tG w d n pc ls st Γ V uc us Q := by
  intro p e s m args below meth c H locs lsr X hL hst hR hS hu hv
  refine lv_iconst X.1 X.2.1 hd rfl ?_
  exact k p e s m args below meth c H locs lsr X hL (okc (v := .inl z) (show -2147483648 ≤ z ∧ z ≤ 2147483647 by omega) hst) hR hS hu hv
theorem g_bipush {z : Int} (hd : decode (mth n).2.1 pc = .ok (.bipush z, 2)) (hz : -128 ≤ z ∧ z ≤ 127) (k : tG w d n (pc + 2) ls (.inl z :: st) Γ V uc us Q) : tG w d n pc ls st Γ V uc us Q := by
  intro p e s m args below meth c H locs lsr X hL hst hR hS hu hv
  have e1 : (Int8.ofInt z).toInt32 = Int32.ofInt z := by
    apply Int32.toInt_inj.mp
    rw [Int8.toInt_toInt32, Int8.toInt_ofInt_of_le (by omega) (by omega), Int32.toInt_ofInt_of_le (by omega) (by omega)]
  refine lv_bipush X.1 X.2.1 hd e1 ?_
  exact k p e s m args below meth c H locs lsr X hL (okc (v := .inl z) (show -2147483648 ≤ z ∧ z ≤ 2147483647 by omega) hst) hR hS hu hv
theorem g_sipush {z : Int} (hd : decode (mth n).2.1 pc = .ok (.sipush z, 3)) (hz : -32768 ≤ z ∧ z ≤ 32767) (k : tG w d n (pc + 3) ls (.inl z :: st) Γ V uc us Q) : tG w d n pc ls st Γ V uc us Q := by
  intro p e s m args below meth c H locs lsr X hL hst hR hS hu hv
  have e1 : (Int16.ofInt z).toInt32 = Int32.ofInt z := by
    apply Int32.toInt_inj.mp
    rw [Int16.toInt_toInt32, Int16.toInt_ofInt_of_le (by omega) (by omega), Int32.toInt_ofInt_of_le (by omega) (by omega)]
  refine lv_sipush X.1 X.2.1 hd e1 ?_
  exact k p e s m args below meth c H locs lsr X hL (okc (v := .inl z) (show -2147483648 ≤ z ∧ z ≤ 2147483647 by omega) hst) hR hS hu hv
theorem g_lconst {z : Fin 2} (hd : decode (mth n).2.1 pc = .ok (.lconst z, 1)) (k : tG w d n (pc + 1) ls (.inr (.inr (z.val : Int)) :: st) Γ V uc us Q) : tG w d n pc ls st Γ V uc us Q := by
  intro p e s m args below meth c H locs lsr X hL hst hR hS hu hv
  have hz := z.isLt
  refine lv_lconst (v := Int64.ofInt (z.val : Int)) X.1 X.2.1 hd (by obtain ⟨z, hz2⟩ := z; rcases (show z = 0 ∨ z = 1 by omega) with h | h <;> subst h <;> rfl) ?_
  exact k p e s m args below meth c H locs lsr X hL (okc (v := .inr (.inr (z.val : Int))) (show -9223372036854775808 ≤ (z.val : Int) ∧ (z.val : Int) ≤ 9223372036854775807 by omega) hst) hR hS hu hv
theorem g_iadd {x y : Int} (hd : decode (mth n).2.1 pc = .ok (.iadd, 1)) (k : tG w d n (pc + 1) ls (.inl (wr (x + y)) :: st) Γ V uc us Q) : tG w d n pc ls (.inl y :: .inl x :: st) Γ V uc us Q := by
  intro p e s m args below meth c H locs lsr X hL hst hR hS hu hv
  refine lv_iadd X.1 X.2.1 hd ?_
  rw [show Int32.ofInt x + Int32.ofInt y = Int32.ofInt (wr (x + y)) by rw [e_wr, Int32.ofInt_add]]
  exact k p e s m args below meth c H locs lsr X hL (okc (v := .inl (wr (x + y))) (wr_ok _) (okd (okd hst))) hR hS hu hv
theorem g_isub {x y : Int} (hd : decode (mth n).2.1 pc = .ok (.isub, 1)) (k : tG w d n (pc + 1) ls (.inl (wr (x - y)) :: st) Γ V uc us Q) : tG w d n pc ls (.inl y :: .inl x :: st) Γ V uc us Q := by
  intro p e s m args below meth c H locs lsr X hL hst hR hS hu hv
  refine lv_isub X.1 X.2.1 hd ?_
  rw [show Int32.ofInt x - Int32.ofInt y = Int32.ofInt (wr (x - y)) by rw [e_wr, Int32.ofInt_sub]]
  exact k p e s m args below meth c H locs lsr X hL (okc (v := .inl (wr (x - y))) (wr_ok _) (okd (okd hst))) hR hS hu hv
theorem g_imul {x y : Int} (hd : decode (mth n).2.1 pc = .ok (.imul, 1)) (k : tG w d n (pc + 1) ls (.inl (wr (x * y)) :: st) Γ V uc us Q) : tG w d n pc ls (.inl y :: .inl x :: st) Γ V uc us Q := by
  intro p e s m args below meth c H locs lsr X hL hst hR hS hu hv
  refine lv_imul X.1 X.2.1 hd ?_
  rw [show Int32.ofInt x * Int32.ofInt y = Int32.ofInt (wr (x * y)) by rw [e_wr, Int32.ofInt_mul]]
  exact k p e s m args below meth c H locs lsr X hL (okc (v := .inl (wr (x * y))) (wr_ok _) (okd (okd hst))) hR hS hu hv
theorem g_ladd {x y : Int} (hd : decode (mth n).2.1 pc = .ok (.ladd, 1)) (k : tG w d n (pc + 1) ls (.inr (.inr (wl (x + y))) :: st) Γ V uc us Q) : tG w d n pc ls (.inr (.inr y) :: .inr (.inr x) :: st) Γ V uc us Q := by
  intro p e s m args below meth c H locs lsr X hL hst hR hS hu hv
  refine lv_ladd X.1 X.2.1 hd ?_
  rw [show Int64.ofInt x + Int64.ofInt y = Int64.ofInt (wl (x + y)) by rw [e_wl, Int64.ofInt_add]]
  exact k p e s m args below meth c H locs lsr X hL (okc (v := .inr (.inr (wl (x + y)))) (wl_ok _) (okd (okd hst))) hR hS hu hv
theorem g_lsub {x y : Int} (hd : decode (mth n).2.1 pc = .ok (.lsub, 1)) (k : tG w d n (pc + 1) ls (.inr (.inr (wl (x - y))) :: st) Γ V uc us Q) : tG w d n pc ls (.inr (.inr y) :: .inr (.inr x) :: st) Γ V uc us Q := by
  intro p e s m args below meth c H locs lsr X hL hst hR hS hu hv
  refine lv_lsub X.1 X.2.1 hd ?_
  rw [show Int64.ofInt x - Int64.ofInt y = Int64.ofInt (wl (x - y)) by rw [e_wl, Int64.ofInt_sub]]
  exact k p e s m args below meth c H locs lsr X hL (okc (v := .inr (.inr (wl (x - y)))) (wl_ok _) (okd (okd hst))) hR hS hu hv
theorem g_lmul {x y : Int} (hd : decode (mth n).2.1 pc = .ok (.lmul, 1)) (k : tG w d n (pc + 1) ls (.inr (.inr (wl (x * y))) :: st) Γ V uc us Q) : tG w d n pc ls (.inr (.inr y) :: .inr (.inr x) :: st) Γ V uc us Q := by
  intro p e s m args below meth c H locs lsr X hL hst hR hS hu hv
  refine lv_lmul X.1 X.2.1 hd ?_
  rw [show Int64.ofInt x * Int64.ofInt y = Int64.ofInt (wl (x * y)) by rw [e_wl, Int64.ofInt_mul]]
  exact k p e s m args below meth c H locs lsr X hL (okc (v := .inr (.inr (wl (x * y)))) (wl_ok _) (okd (okd hst))) hR hS hu hv
theorem g_iand {x y : Int} (hd : decode (mth n).2.1 pc = .ok (.iand, 1)) (k : tG w d n (pc + 1) ls (.inl (bAnd x y) :: st) Γ V uc us Q) : tG w d n pc ls (.inl y :: .inl x :: st) Γ V uc us Q := by
  intro p e s m args below meth c H locs lsr X hL hst hR hS hu hv
  have k := k p e s m args below meth c H locs lsr X hL (okc (v := .inl (bAnd x y)) (t32_ok _) (okd (okd hst))) hR hS hu hv
  simp only [List.map_cons, tvv, bAnd, Int32.ofInt_toInt] at k
  exact lv_iand X.1 X.2.1 hd k
theorem g_ior {x y : Int} (hd : decode (mth n).2.1 pc = .ok (.ior, 1)) (k : tG w d n (pc + 1) ls (.inl (bOr x y) :: st) Γ V uc us Q) : tG w d n pc ls (.inl y :: .inl x :: st) Γ V uc us Q := by
  intro p e s m args below meth c H locs lsr X hL hst hR hS hu hv
  have k := k p e s m args below meth c H locs lsr X hL (okc (v := .inl (bOr x y)) (t32_ok _) (okd (okd hst))) hR hS hu hv
  simp only [List.map_cons, tvv, bOr, Int32.ofInt_toInt] at k
  exact lv_ior X.1 X.2.1 hd k
theorem g_ishl {x y : Int} (hd : decode (mth n).2.1 pc = .ok (.ishl, 1)) (k : tG w d n (pc + 1) ls (.inl (bShl x y) :: st) Γ V uc us Q) : tG w d n pc ls (.inl y :: .inl x :: st) Γ V uc us Q := by
  intro p e s m args below meth c H locs lsr X hL hst hR hS hu hv
  have k := k p e s m args below meth c H locs lsr X hL (okc (v := .inl (bShl x y)) (t32_ok _) (okd (okd hst))) hR hS hu hv
  simp only [List.map_cons, tvv, bShl, Int32.ofInt_toInt] at k
  exact lv_ishl X.1 X.2.1 hd k
theorem g_ishr {x y : Int} (hd : decode (mth n).2.1 pc = .ok (.ishr, 1)) (k : tG w d n (pc + 1) ls (.inl (bShr x y) :: st) Γ V uc us Q) : tG w d n pc ls (.inl y :: .inl x :: st) Γ V uc us Q := by
  intro p e s m args below meth c H locs lsr X hL hst hR hS hu hv
  have k := k p e s m args below meth c H locs lsr X hL (okc (v := .inl (bShr x y)) (t32_ok _) (okd (okd hst))) hR hS hu hv
  simp only [List.map_cons, tvv, bShr, Int32.ofInt_toInt] at k
  exact lv_ishr X.1 X.2.1 hd k
theorem g_iushr {x y : Int} (hd : decode (mth n).2.1 pc = .ok (.iushr, 1)) (k : tG w d n (pc + 1) ls (.inl (bUsh x y) :: st) Γ V uc us Q) : tG w d n pc ls (.inl y :: .inl x :: st) Γ V uc us Q := by
  intro p e s m args below meth c H locs lsr X hL hst hR hS hu hv
  have k := k p e s m args below meth c H locs lsr X hL (okc (v := .inl (bUsh x y)) (t32_ok _) (okd (okd hst))) hR hS hu hv
  simp only [List.map_cons, tvv, bUsh, Int32.ofInt_toInt] at k
  exact lv_iushr X.1 X.2.1 hd rfl k
theorem g_idiv {x y : Int} (hd : decode (mth n).2.1 pc = .ok (.idiv, 1)) (hy : y ≠ 0) (k : tG w d n (pc + 1) ls (.inl (bDiv x y) :: st) Γ V uc us Q) : tG w d n pc ls (.inl y :: .inl x :: st) Γ V uc us Q := by
  intro p e s m args below meth c H locs lsr X hL hst hR hS hu hv
  have k := k p e s m args below meth c H locs lsr X hL (okc (v := .inl (bDiv x y)) (t32_ok _) (okd (okd hst))) hR hS hu hv
  simp only [List.map_cons, tvv, bDiv, Int32.ofInt_toInt] at k
  exact lv_idiv X.1 X.2.1 hd (fun h => hy ((e_eq (okh hst) ok0).mp h)) k
theorem g_irem {x y : Int} (hd : decode (mth n).2.1 pc = .ok (.irem, 1)) (hy : y ≠ 0) (k : tG w d n (pc + 1) ls (.inl (bRem x y) :: st) Γ V uc us Q) : tG w d n pc ls (.inl y :: .inl x :: st) Γ V uc us Q := by
  intro p e s m args below meth c H locs lsr X hL hst hR hS hu hv
  have k := k p e s m args below meth c H locs lsr X hL (okc (v := .inl (bRem x y)) (t32_ok _) (okd (okd hst))) hR hS hu hv
  simp only [List.map_cons, tvv, bRem, Int32.ofInt_toInt] at k
  exact lv_irem X.1 X.2.1 hd (fun h => hy ((e_eq (okh hst) ok0).mp h)) k
theorem g_i2b {x : Int} (hd : decode (mth n).2.1 pc = .ok (.i2b, 1)) (k : tG w d n (pc + 1) ls (.inl (bI2b x) :: st) Γ V uc us Q) : tG w d n pc ls (.inl x :: st) Γ V uc us Q := by
  intro p e s m args below meth c H locs lsr X hL hst hR hS hu hv
  have k := k p e s m args below meth c H locs lsr X hL (okc (v := .inl (bI2b x)) (t32_ok _) (okd hst)) hR hS hu hv
  simp only [List.map_cons, tvv, bI2b, Int32.ofInt_toInt] at k
  exact lv_i2b X.1 X.2.1 hd rfl k
theorem g_i2l {x : Int} (hd : decode (mth n).2.1 pc = .ok (.i2l, 1)) (k : tG w d n (pc + 1) ls (.inr (.inr x) :: st) Γ V uc us Q) : tG w d n pc ls (.inl x :: st) Γ V uc us Q := by
  intro p e s m args below meth c H locs lsr X hL hst hR hS hu hv
  have hx := okh hst
  obtain ⟨h1, h2⟩ : -2147483648 ≤ x ∧ x ≤ 2147483647 := hx
  have e1 : (Int32.ofInt x).toInt64 = Int64.ofInt x := by
    apply Int64.toInt_inj.mp
    rw [Int32.toInt_toInt64, Int32.toInt_ofInt_of_le (by omega) (by omega), Int64.toInt_ofInt_of_le (by omega) (by omega)]
  refine lv_i2l X.1 X.2.1 hd e1 ?_
  exact k p e s m args below meth c H locs lsr X hL (okc (v := .inr (.inr x)) (show -9223372036854775808 ≤ x ∧ x ≤ 9223372036854775807 by omega) (okd hst)) hR hS hu hv
theorem g_lcmp {x y : Int} (hd : decode (mth n).2.1 pc = .ok (.lcmp, 1)) (k : tG w d n (pc + 1) ls (.inl (if x = y then 0 else if x < y then -1 else 1) :: st) Γ V uc us Q) : tG w d n pc ls (.inr (.inr y) :: .inr (.inr x) :: st) Γ V uc us Q := by
  intro p e s m args below meth c H locs lsr X hL hst hR hS hu hv
  have hy : okt 2 y := okh hst
  have hx : okt 2 x := okh (okd hst)
  have e1 : lg_cmp (Int64.ofInt x) (Int64.ofInt y) = Int32.ofInt (if x = y then 0 else if x < y then -1 else 1) := by
    unfold lg_cmp
    have q1 : (Int64.ofInt x > Int64.ofInt y) ↔ y < x := by
      show (Int64.ofInt y < Int64.ofInt x) ↔ _
      rw [Int64.lt_iff_toInt_lt, tl_ hx, tl_ hy]
    have q2 : (Int64.ofInt x = Int64.ofInt y) ↔ x = y := by
      constructor
      · intro h
        rw [← tl_ hx, ← tl_ hy, h]
      · intro h
        rw [h]
    by_cases h1 : x = y
    · subst h1
      have : ¬ (Int64.ofInt x > Int64.ofInt x) := fun h => absurd (q1.mp h) (by omega)
      simp only [this, if_false, if_true]
      rfl
    · by_cases h2 : x < y
      · have h3 : ¬ (Int64.ofInt x > Int64.ofInt y) := fun h => absurd (q1.mp h) (by omega)
        have h4 : ¬ (Int64.ofInt x = Int64.ofInt y) := fun h => h1 (q2.mp h)
        simp only [h3, h4, h1, h2, if_false, if_true]
        rfl
      · have h3 : Int64.ofInt x > Int64.ofInt y := q1.mpr (by omega)
        simp only [h3, h1, h2, if_false, if_true]
        rfl
  have hok : okt 0 (if x = y then (0 : Int) else if x < y then -1 else 1) := by
    split
    · exact ok0
    · split <;> constructor <;> decide
  refine W.lcmp X.1 X.2.1 hd ?_
  rw [e1]
  exact k p e s m args below meth c H locs lsr X hL (okc (v := .inl _) hok (okd (okd hst))) hR hS hu hv
theorem g_dupi {x : Int} (hd : decode (mth n).2.1 pc = .ok (.dup, 1)) (k : tG w d n (pc + 1) ls (.inl x :: .inl x :: st) Γ V uc us Q) : tG w d n pc ls (.inl x :: st) Γ V uc us Q := by
  intro p e s m args below meth c H locs lsr X hL hst hR hS hu hv
  refine lv_dup X.1 X.2.1 hd (tvv_cat _) ?_
  exact k p e s m args below meth c H locs lsr X hL (okc (okh hst) hst) hR hS hu hv
theorem g_dupr {x : Nat} (hd : decode (mth n).2.1 pc = .ok (.dup, 1)) (k : tG w d n (pc + 1) ls (.inr (.inl x) :: .inr (.inl x) :: st) Γ V uc us Q) : tG w d n pc ls (.inr (.inl x) :: st) Γ V uc us Q := by
  intro p e s m args below meth c H locs lsr X hL hst hR hS hu hv
  refine lv_dup X.1 X.2.1 hd (tvv_cat (.inr (.inl x))) ?_
  exact k p e s m args below meth c H locs lsr X hL (okc (okh hst) hst) hR hS hu hv
theorem g_dup2 {y : Int} {x : Nat} (hd : decode (mth n).2.1 pc = .ok (.dup2, 1)) (k : tG w d n (pc + 1) ls (.inl y :: .inr (.inl x) :: .inl y :: .inr (.inl x) :: st) Γ V uc us Q) : tG w d n pc ls (.inl y :: .inr (.inl x) :: st) Γ V uc us Q := by
  intro p e s m args below meth c H locs lsr X hL hst hR hS hu hv
  refine lv_dup2_11 X.1 X.2.1 hd (tvv_cat (.inl y)) (tvv_cat (.inr (.inl x))) ?_
  exact k p e s m args below meth c H locs lsr X hL (okc (okh hst) (okc (okh (okd hst)) hst)) hR hS hu hv
theorem g_pop {v : TV} (hd : decode (mth n).2.1 pc = .ok (.pop, 1)) (hc : cat v = 1) (k : tG w d n (pc + 1) ls st Γ V uc us Q) : tG w d n pc ls (v :: st) Γ V uc us Q := by
  intro p e s m args below meth c H locs lsr X hL hst hR hS hu hv
  refine lv_pop X.1 X.2.1 hd (by rw [tvv_cat]; exact hc) ?_
  exact k p e s m args below meth c H locs lsr X hL (okd hst) hR hS hu hv
theorem g_goto {z : Int} {t : Nat} (hd : decode (mth n).2.1 pc = .ok (.goto z, 3)) (ht : (pc : Int) + z = (t : Int)) (k : tG w d n t ls st Γ V uc us Q) : tG w d n pc ls st Γ V uc us Q := by
  intro p e s m args below meth c H locs lsr X hL hst hR hS hu hv
  refine lv_goto X.1 X.2.1 hd ht ?_
  exact k p e s m args below meth c H locs lsr X hL (hst) hR hS hu hv
theorem g_icmp_eq {x y z : Int} {t : Nat} (hd : decode (mth n).2.1 pc = .ok (.if_icmp .eq z, 3)) (ht : (pc : Int) + z = (t : Int)) (k1 : cmpP .eq x y → tG w d n t ls st Γ V uc us Q) (k2 : ¬ cmpP .eq x y → tG w d n (pc + 3) ls st Γ V uc us Q) : tG w d n pc ls (.inl y :: .inl x :: st) Γ V uc us Q := by
  intro p e s m args below meth c H locs lsr X hL hst hR hS hu hv
  have hy : okt 0 y := okh hst
  have hx : okt 0 x := okh (okd hst)
  exact lv_icmp_eq X.1 X.2.1 hd ht (fun h => k1 ((e_eq hx hy).mp h) p e s m args below meth c H locs lsr X hL (okd (okd hst)) hR hS hu hv) (fun h => k2 (fun q => h ((e_eq hx hy).mpr q)) p e s m args below meth c H locs lsr X hL (okd (okd hst)) hR hS hu hv)
theorem g_if_eq {x z : Int} {t : Nat} (hd : decode (mth n).2.1 pc = .ok (.ifCond .eq z, 3)) (ht : (pc : Int) + z = (t : Int)) (k1 : cmpP .eq x 0 → tG w d n t ls st Γ V uc us Q) (k2 : ¬ cmpP .eq x 0 → tG w d n (pc + 3) ls st Γ V uc us Q) : tG w d n pc ls (.inl x :: st) Γ V uc us Q := by
  intro p e s m args below meth c H locs lsr X hL hst hR hS hu hv
  have hx : okt 0 x := okh hst
  exact lv_if_eq X.1 X.2.1 hd ht (fun h => k1 ((e_eq hx ok0).mp h) p e s m args below meth c H locs lsr X hL (okd hst) hR hS hu hv) (fun h => k2 (fun q => h ((e_eq hx ok0).mpr q)) p e s m args below meth c H locs lsr X hL (okd hst) hR hS hu hv)
theorem g_icmp_ne {x y z : Int} {t : Nat} (hd : decode (mth n).2.1 pc = .ok (.if_icmp .ne z, 3)) (ht : (pc : Int) + z = (t : Int)) (k1 : cmpP .ne x y → tG w d n t ls st Γ V uc us Q) (k2 : ¬ cmpP .ne x y → tG w d n (pc + 3) ls st Γ V uc us Q) : tG w d n pc ls (.inl y :: .inl x :: st) Γ V uc us Q := by
  intro p e s m args below meth c H locs lsr X hL hst hR hS hu hv
  have hy : okt 0 y := okh hst
  have hx : okt 0 x := okh (okd hst)
  exact lv_icmp_ne X.1 X.2.1 hd ht (fun h => k1 (fun q => h ((e_eq hx hy).mpr q)) p e s m args below meth c H locs lsr X hL (okd (okd hst)) hR hS hu hv) (fun h => k2 (fun q => q ((e_eq hx hy).mp h)) p e s m args below meth c H locs lsr X hL (okd (okd hst)) hR hS hu hv)
theorem g_if_ne {x z : Int} {t : Nat} (hd : decode (mth n).2.1 pc = .ok (.ifCond .ne z, 3)) (ht : (pc : Int) + z = (t : Int)) (k1 : cmpP .ne x 0 → tG w d n t ls st Γ V uc us Q) (k2 : ¬ cmpP .ne x 0 → tG w d n (pc + 3) ls st Γ V uc us Q) : tG w d n pc ls (.inl x :: st) Γ V uc us Q := by
  intro p e s m args below meth c H locs lsr X hL hst hR hS hu hv
  have hx : okt 0 x := okh hst
  exact lv_if_ne X.1 X.2.1 hd ht (fun h => k1 (fun q => h ((e_eq hx ok0).mpr q)) p e s m args below meth c H locs lsr X hL (okd hst) hR hS hu hv) (fun h => k2 (fun q => q ((e_eq hx ok0).mp h)) p e s m args below meth c H locs lsr X hL (okd hst) hR hS hu hv)
theorem g_icmp_lt {x y z : Int} {t : Nat} (hd : decode (mth n).2.1 pc = .ok (.if_icmp .lt z, 3)) (ht : (pc : Int) + z = (t : Int)) (k1 : cmpP .lt x y → tG w d n t ls st Γ V uc us Q) (k2 : ¬ cmpP .lt x y → tG w d n (pc + 3) ls st Γ V uc us Q) : tG w d n pc ls (.inl y :: .inl x :: st) Γ V uc us Q := by
  intro p e s m args below meth c H locs lsr X hL hst hR hS hu hv
  have hy : okt 0 y := okh hst
  have hx : okt 0 x := okh (okd hst)
  exact lv_icmp_lt X.1 X.2.1 hd ht (fun h => k1 ((e_lt hx hy).mp h) p e s m args below meth c H locs lsr X hL (okd (okd hst)) hR hS hu hv) (fun h => k2 (fun q => h ((e_lt hx hy).mpr q)) p e s m args below meth c H locs lsr X hL (okd (okd hst)) hR hS hu hv)
theorem g_if_lt {x z : Int} {t : Nat} (hd : decode (mth n).2.1 pc = .ok (.ifCond .lt z, 3)) (ht : (pc : Int) + z = (t : Int)) (k1 : cmpP .lt x 0 → tG w d n t ls st Γ V uc us Q) (k2 : ¬ cmpP .lt x 0 → tG w d n (pc + 3) ls st Γ V uc us Q) : tG w d n pc ls (.inl x :: st) Γ V uc us Q := by
  intro p e s m args below meth c H locs lsr X hL hst hR hS hu hv
  have hx : okt 0 x := okh hst
  exact lv_if_lt X.1 X.2.1 hd ht (fun h => k1 ((e_lt hx ok0).mp h) p e s m args below meth c H locs lsr X hL (okd hst) hR hS hu hv) (fun h => k2 (fun q => h ((e_lt hx ok0).mpr q)) p e s m args below meth c H locs lsr X hL (okd hst) hR hS hu hv)
theorem g_icmp_ge {x y z : Int} {t : Nat} (hd : decode (mth n).2.1 pc = .ok (.if_icmp .ge z, 3)) (ht : (pc : Int) + z = (t : Int)) (k1 : cmpP .ge x y → tG w d n t ls st Γ V uc us Q) (k2 : ¬ cmpP .ge x y → tG w d n (pc + 3) ls st Γ V uc us Q) : tG w d n pc ls (.inl y :: .inl x :: st) Γ V uc us Q := by
  intro p e s m args below meth c H locs lsr X hL hst hR hS hu hv
  have hy : okt 0 y := okh hst
  have hx : okt 0 x := okh (okd hst)
  exact lv_icmp_ge X.1 X.2.1 hd ht (fun h => k1 (Int.not_lt.mpr ((e_le hy hx).mp h)) p e s m args below meth c H locs lsr X hL (okd (okd hst)) hR hS hu hv) (fun h => k2 (fun q => h ((e_le hy hx).mpr (Int.not_lt.mp q))) p e s m args below meth c H locs lsr X hL (okd (okd hst)) hR hS hu hv)
theorem g_if_ge {x z : Int} {t : Nat} (hd : decode (mth n).2.1 pc = .ok (.ifCond .ge z, 3)) (ht : (pc : Int) + z = (t : Int)) (k1 : cmpP .ge x 0 → tG w d n t ls st Γ V uc us Q) (k2 : ¬ cmpP .ge x 0 → tG w d n (pc + 3) ls st Γ V uc us Q) : tG w d n pc ls (.inl x :: st) Γ V uc us Q := by
  intro p e s m args below meth c H locs lsr X hL hst hR hS hu hv
  have hx : okt 0 x := okh hst
  exact lv_if_ge X.1 X.2.1 hd ht (fun h => k1 (Int.not_lt.mpr ((e_le ok0 hx).mp h)) p e s m args below meth c H locs lsr X hL (okd hst) hR hS hu hv) (fun h => k2 (fun q => h ((e_le ok0 hx).mpr (Int.not_lt.mp q))) p e s m args below meth c H locs lsr X hL (okd hst) hR hS hu hv)
theorem g_icmp_gt {x y z : Int} {t : Nat} (hd : decode (mth n).2.1 pc = .ok (.if_icmp .gt z, 3)) (ht : (pc : Int) + z = (t : Int)) (k1 : cmpP .gt x y → tG w d n t ls st Γ V uc us Q) (k2 : ¬ cmpP .gt x y → tG w d n (pc + 3) ls st Γ V uc us Q) : tG w d n pc ls (.inl y :: .inl x :: st) Γ V uc us Q := by
  intro p e s m args below meth c H locs lsr X hL hst hR hS hu hv
  have hy : okt 0 y := okh hst
  have hx : okt 0 x := okh (okd hst)
  exact lv_icmp_gt X.1 X.2.1 hd ht (fun h => k1 ((e_lt hy hx).mp h) p e s m args below meth c H locs lsr X hL (okd (okd hst)) hR hS hu hv) (fun h => k2 (fun q => h ((e_lt hy hx).mpr q)) p e s m args below meth c H locs lsr X hL (okd (okd hst)) hR hS hu hv)
theorem g_if_gt {x z : Int} {t : Nat} (hd : decode (mth n).2.1 pc = .ok (.ifCond .gt z, 3)) (ht : (pc : Int) + z = (t : Int)) (k1 : cmpP .gt x 0 → tG w d n t ls st Γ V uc us Q) (k2 : ¬ cmpP .gt x 0 → tG w d n (pc + 3) ls st Γ V uc us Q) : tG w d n pc ls (.inl x :: st) Γ V uc us Q := by
  intro p e s m args below meth c H locs lsr X hL hst hR hS hu hv
  have hx : okt 0 x := okh hst
  exact lv_if_gt X.1 X.2.1 hd ht (fun h => k1 ((e_lt ok0 hx).mp h) p e s m args below meth c H locs lsr X hL (okd hst) hR hS hu hv) (fun h => k2 (fun q => h ((e_lt ok0 hx).mpr q)) p e s m args below meth c H locs lsr X hL (okd hst) hR hS hu hv)
theorem g_icmp_le {x y z : Int} {t : Nat} (hd : decode (mth n).2.1 pc = .ok (.if_icmp .le z, 3)) (ht : (pc : Int) + z = (t : Int)) (k1 : cmpP .le x y → tG w d n t ls st Γ V uc us Q) (k2 : ¬ cmpP .le x y → tG w d n (pc + 3) ls st Γ V uc us Q) : tG w d n pc ls (.inl y :: .inl x :: st) Γ V uc us Q := by
  intro p e s m args below meth c H locs lsr X hL hst hR hS hu hv
  have hy : okt 0 y := okh hst
  have hx : okt 0 x := okh (okd hst)
  exact lv_icmp_le X.1 X.2.1 hd ht (fun h => k1 (Int.not_lt.mpr ((e_le hx hy).mp h)) p e s m args below meth c H locs lsr X hL (okd (okd hst)) hR hS hu hv) (fun h => k2 (fun q => h ((e_le hx hy).mpr (Int.not_lt.mp q))) p e s m args below meth c H locs lsr X hL (okd (okd hst)) hR hS hu hv)
theorem g_if_le {x z : Int} {t : Nat} (hd : decode (mth n).2.1 pc = .ok (.ifCond .le z, 3)) (ht : (pc : Int) + z = (t : Int)) (k1 : cmpP .le x 0 → tG w d n t ls st Γ V uc us Q) (k2 : ¬ cmpP .le x 0 → tG w d n (pc + 3) ls st Γ V uc us Q) : tG w d n pc ls (.inl x :: st) Γ V uc us Q := by
  intro p e s m args below meth c H locs lsr X hL hst hR hS hu hv
  have hx : okt 0 x := okh hst
  exact lv_if_le X.1 X.2.1 hd ht (fun h => k1 (Int.not_lt.mpr ((e_le hx ok0).mp h)) p e s m args below meth c H locs lsr X hL (okd hst) hR hS hu hv) (fun h => k2 (fun q => h ((e_le hx ok0).mpr (Int.not_lt.mp q))) p e s m args below meth c H locs lsr X hL (okd hst) hR hS hu hv)
theorem g_nonnull {x t : Nat} {z : Int} (hd : decode (mth n).2.1 pc = .ok (.ifnonnull z, 3)) (ht : (pc : Int) + z = (t : Int)) (k1 : x ≠ 0 → tG w d n t ls st Γ V uc us Q) (k2 : x = 0 → tG w d n (pc + 3) ls st Γ V uc us Q) : tG w d n pc ls (.inr (.inl x) :: st) Γ V uc us Q := by
  intro p e s m args below meth c H locs lsr X hL hst hR hS hu hv
  cases x with
  | zero => exact lv_ifnonnullN X.1 X.2.1 hd (k2 rfl p e s m args below meth c H locs lsr X hL (okd hst) hR hS hu hv)
  | succ y => exact lv_ifnonnull X.1 X.2.1 hd ht (k1 (by omega) p e s m args below meth c H locs lsr X hL (okd hst) hR hS hu hv)
theorem swl_at {x : Int} {J : Nat → Prop} : ∀ {lo : Int} {l : List Nat} {i t : Nat}, swl x J lo l → l[i]? = some t → x = lo + i → J t
  | lo, [], i, t, _, h, _ => by simp at h
  | lo, y :: l, 0, t, h, ht, hx => by
    have e : y = t := by simpa using ht
    subst e
    exact h.1 (by omega)
  | lo, y :: l, i + 1, t, h, ht, hx => swl_at (lo := lo + 1) (l := l) (i := i) h.2 (by simpa using ht) (by omega)
theorem g_switch {x lo hi df : Int} {offs : Array Int} {len t : Nat} {tg : List Nat} (hd : decode (mth n).2.1 pc = .ok (.tableswitch df lo hi offs, len)) (ht : (pc : Int) + df = (t : Int)) (ho : offs.toList.map (fun o => (pc : Int) + o) = tg.map (fun (t : Nat) => (t : Int))) (hlen : (tg.length : Int) = hi - lo + 1) (k1 : x < lo ∨ hi < x → tG w d n t ls st Γ V uc us Q) (k2 : swl x (fun t => tG w d n t ls st Γ V uc us Q) lo tg) : tG w d n pc ls (.inl x :: st) Γ V uc us Q := by
  intro p e s m args below meth c H locs lsr X hL hst hR hS hu hv
  have hx : okt 0 x := okh hst
  by_cases h : x < lo ∨ hi < x
  · exact lv_tableOut X.1 X.2.1 hd (by rw [ti_ hx]; exact h) ht (k1 h p e s m args below meth c H locs lsr X hL (okd hst) hR hS hu hv)
  · have hl2 : offs.toList.length = tg.length := by
      have := congrArg List.length ho
      simpa using this
    obtain ⟨i, hi2⟩ : ∃ i : Nat, x = lo + i := ⟨(x - lo).toNat, by omega⟩
    have hit : i < tg.length := by omega
    have hio : i < offs.size := by
      have : offs.toList.length = offs.size := Array.length_toList
      omega
    have e0 : (offs.toList.map (fun o => (pc : Int) + o))[i]? = (tg.map (fun (t : Nat) => (t : Int)))[i]? := by rw [ho]
    rw [List.getElem?_map, List.getElem?_map] at e0
    have e1 : offs.toList[i]? = some offs[i] := by simp [hio]
    have e2 : tg[i]? = some tg[i] := by simp [hit]
    rw [e1, e2] at e0
    have e3 : (pc : Int) + offs[i] = (tg[i] : Int) := Option.some.inj e0
    refine lv_tableIn X.1 X.2.1 hd (by rw [ti_ hx]; omega) (by rw [ti_ hx]; omega) (off := offs[i]) ?_ e3 (swl_at k2 e2 hi2 p e s m args below meth c H locs lsr X hL (okd hst) hR hS hu hv)
    rw [ti_ hx, show (x - lo).toNat = i by omega]
    simp [hio]
end TB
