/-! THE WORLD: what ties the small machine to the real one -/
abbrev WP : Type := Launch × (Nat → ClassId) × (Nat → Nat → Nat) × (Nat → ClassId) × Nat × Cell × Nat × (Nat → Nat) × (Nat → Nat)
abbrev tw_L (w : WP) : Launch := w.1
abbrev tw_C (w : WP) : Nat → ClassId := w.2.1
abbrev tw_I (w : WP) : Nat → Nat → Nat := w.2.2.1
abbrev tw_A (w : WP) : Nat → ClassId := w.2.2.2.1
abbrev tw_Z (w : WP) : Nat := w.2.2.2.2.1
abbrev tw_S (w : WP) : Cell := w.2.2.2.2.2.1
abbrev tw_B (w : WP) : Nat := w.2.2.2.2.2.2.1
abbrev tw_K (w : WP) : Nat → Nat := w.2.2.2.2.2.2.2.1
abbrev tw_V (w : WP) : Nat → Nat := w.2.2.2.2.2.2.2.2
def atc (k : Nat) : Nat := if k = 10 then 0 else if k = 11 then 4 else if k = 12 then 2 else 3
def sby : List (List Int32) := [[109, 101, 109, 98, 101, 114, 115], [114, 97, 110, 107], [97, 115, 107], [108, 101, 97, 118, 101], [115, 117, 115, 112, 101, 99, 116], [115, 101, 110, 100], [108, 111, 115, 101], [115, 101, 116, 116, 108, 101]]
def sln : List Nat := [7, 4, 3, 5, 7, 4, 4, 6]
def stx : List String := ["members", "rank", "ask", "leave", "suspect", "send", "lose", "settle"]
abbrev tw_T (w : WP) : List (ClassId × FieldType) := [(tw_A w 10, .int), (tw_A w 11, .byte), (tw_A w 12, .long), (tw_A w 13, .object RX1), (tw_A w 14, .object RX2), (tw_A w 15, .object RX3)]
def nsl : List Cond := (clk.filter (fun q => q.2.2.2.2.2.1 == 3)).map (fun q => .methodLinkNest (rnm q.1) q.2.1 (mth q.2.2.1).1 RX7)
def KU (w : WP) (U : State) : Prop :=
  va_K (tw_C w, tw_I w) vwCl (tw_T w) U ∧ (∀ q ∈ nsl, va_Nw q U) ∧ (va_AO RX1 U ∧ va_AO RX2 U ∧ va_AO RX3 U) ∧ (∀ q ∈ sok, vk_R RX5 q.1 (stx.getD q.2 "") (tw_K w q.2) U) ∧ U.isArrayOf (tw_S w) .int
def SU (w : WP) (U : State) (H : Heap) : Prop := vk_S 8 sln sby (tw_K w) (tw_V w) (fun q => tw_Z w ≤ q) U H
/-- a cell of the small heap in the real one -/
def ck (w : WP) (Γ : GM) (V : VH) (H : Heap) (t : Nat) : Prop :=
  0 < t ∧ t ≤ Γ.2.2 ∧
  ((Γ.1 t ≤ 9 ∧ tw_Z w < t ∧ t_OB (t - 1) (tw_C w (Γ.1 t - 1)) (nf (Γ.1 t - 1)) (tw_I w (Γ.1 t - 1)) H (fun k => tvv (fv (ftc (Γ.1 t - 1) k) (V t k))) ∧ ∀ k, k < nf (Γ.1 t - 1) → okt (ftc (Γ.1 t - 1) k) (V t k))
  ∨ (10 ≤ Γ.1 t ∧ Γ.1 t ≤ 15 ∧ tw_Z w < t ∧ Γ.2.1 t ≤ 100000 ∧ H[t - 1]? = some (arrV (tw_A w (Γ.1 t)) (Γ.2.1 t) (fun j => tvv (fv (atc (Γ.1 t)) (V t j)))) ∧ ∀ j, j < Γ.2.1 t → okt (atc (Γ.1 t)) (V t j))
  ∨ (Γ.1 t = 16 ∧ t = tw_B w + 1 ∧ t ≤ tw_Z w ∧ Γ.2.1 t ≤ 100000 ∧ H[t - 1]? = some (tw_S w) ∧ (tw_S w).vm ≠ .unknown ∧ (tw_S w).slots.size = Γ.2.1 t ∧ ∀ j, j < Γ.2.1 t → (tw_S w).slots[j]? = some (.int (Int32.ofInt (V t j))) ∧ okt 0 (V t j))
  ∨ (Γ.1 t = 20 ∧ t ≤ tw_Z w ∧ ∃ k, k < 8 ∧ t = tw_K w k + 1 ∧ Γ.2.1 t = sln.getD k 0 ∧ ∀ j, j < Γ.2.1 t → V t j = ((sby.getD k []).getD j 0).toInt))
def RH (w : WP) (Γ : GM) (V : VH) (H : Heap) : Prop := H.size = Γ.2.2 ∧ tw_Z w ≤ H.size ∧ ∀ t, Γ.1 t ≠ 0 → ck w Γ V H t
abbrev m_c (n : Nat) : Nat := (mth n).2.2.2.2.2.1
abbrev m_s (n : Nat) : Nat := (mth n).2.2.2.2.2.2
def trm (d n : Nat) : Room := { frames := d, cells := m_c n, slots := m_s n, locals := 38 * d }
def tA (w : WP) : Nat → Prop := fun q => tw_Z w ≤ q
def tQ (w : WP) (Q : QT) : Array Value → State → Outcome → State → Prop := fun _ st o t => ∃ (r : Option TV) (Γ : GM) (V : VH), o = .returned (r.map tvv) ∧ (∀ v, r = some v → okv v) ∧ RH w Γ V t.heap ∧ va_F (tA w) st t ∧ Q r Γ V
def tP (w : WP) (args : List TV) (Γ : GM) (V : VH) : Array Value → State → Prop := fun a U => a = (args.map tvv).toArray ∧ (∀ v ∈ args, okv v) ∧ RH w Γ V U.heap ∧ KU w U ∧ SU w U U.heap
abbrev tws (n : Nat) : List Cond := .code (mth n).1 (mth n).2.1 (mth n).2.2.1 (mth n).2.2.2.1 :: lw_g
/-- THE CONTRACT of method n: called with args in the heap (Γ, V) it returns, and Q holds of its answer and the heap -/
def tC (w : WP) (d n : Nat) (args : List TV) (Γ : GM) (V : VH) (Q : QT) : Prop :=
  Met (tw_L w) (mth n).1 (tws n) (trm d n) (tP w args Γ V) (tQ w Q) (m_c n) (m_s n) (tA w)
def LR (ls : LT) (lsr : Array Slot) (nL : Nat) : Prop := lsr.size = nL ∧ lv_wf lsr ∧ ls.length = nL ∧ (∀ (i : Nat) (v : TV), ls[i]? = some (some v) → lsr[i]? = some (.val (tvv v)) ∧ okv v)
def tX (w : WP) (n : Nat) (p : Program) (s : State) (m : MethodId) (args : Array Value) (meth : Method) (c : Code) : Prop :=
  p.tables.exec = Jvm.exec ∧ c.code = (mth n).2.1 ∧ meth.sig.returnType = (mth n).2.2.2.1 ∧ c.maxLocals = (mth n).2.2.1 ∧ s.vm.findClass (rnm (mth n).2.2.2.2.1) = some m.cls ∧ (∀ q ∈ lw_g, q.before args s = true) ∧ meth.locks = false ∧ ((mth n).1.name = "<init>" → meth.name = "<init>") ∧ KU w s ∧ SU w s s.heap ∧ tw_Z w ≤ s.heap.size
/-- inside method n, at pc, with locals ls and stack st in the heap (Γ, V), uc cells and us slots made: it comes to its end with Q -/
def tG (w : WP) (d n pc : Nat) (ls : LT) (st : List TV) (Γ : GM) (V : VH) (uc us : Nat) (Q : QT) : Prop :=
  ∀ (p : Program) (e : Env) (s : State) (m : MethodId) (args : Array Value) (below : List Frame) (meth : Method) (c : Code) (H : Heap) (locs : List Loc) (lsr : Array Slot),
    tX w n p s m args meth c → LR ls lsr (mth n).2.2.1 → (∀ v ∈ st, okv v) → RH w Γ V H → va_S (tA w) s.heap H locs → uc ≤ m_c n → us ≤ m_s n →
    W p (tw_L w) e (trm d n) s m args below meth c H locs uc us (MQ below (tQ w Q) args s (m_c n) (m_s n) (tA w)) (F0 m pc lsr (st.map tvv))
-- numbers
theorem e_wr (x : Int) : Int32.ofInt (wr x) = Int32.ofInt x := by
  apply Int32.toInt_inj.mp
  rw [Int32.toInt_ofInt, Int32.toInt_ofInt, wr_def]
  exact Int.bmod_bmod
theorem e_wl (x : Int) : Int64.ofInt (wl x) = Int64.ofInt x := by
  apply Int64.toInt_inj.mp
  rw [Int64.toInt_ofInt, Int64.toInt_ofInt, wl_def]
  exact Int.bmod_bmod
theorem wr_ok (x : Int) : okt 0 (wr x) := by
  have h1 := @Int.le_bmod x 4294967296 (by decide)
  have h2 := @Int.bmod_lt x 4294967296 (by decide)
  show -2147483648 ≤ wr x ∧ wr x ≤ 2147483647
  rw [wr_def]
  omega
theorem wl_ok (x : Int) : okt 2 (wl x) := by
  have h1 := @Int.le_bmod x 18446744073709551616 (by decide)
  have h2 := @Int.bmod_lt x 18446744073709551616 (by decide)
  show -9223372036854775808 ≤ wl x ∧ wl x ≤ 9223372036854775807
  rw [wl_def]
  omega
theorem ti_ {x : Int} (h : okt 0 x) : (Int32.ofInt x).toInt = x := by
  obtain ⟨h1, h2⟩ : -2147483648 ≤ x ∧ x ≤ 2147483647 := h
  exact Int32.toInt_ofInt_of_le (by omega) (by omega)
theorem tl_ {x : Int} (h : okt 2 x) : (Int64.ofInt x).toInt = x := by
  obtain ⟨h1, h2⟩ : -9223372036854775808 ≤ x ∧ x ≤ 9223372036854775807 := h
  exact Int64.toInt_ofInt_of_le (by omega) (by omega)
theorem t32_ok (v : Int32) : okt 0 v.toInt := by
  have h1 := v.le_toInt
  have h2 := v.toInt_lt
  show -2147483648 ≤ v.toInt ∧ v.toInt ≤ 2147483647
  omega
theorem e_eq {x y : Int} (hx : okt 0 x) (hy : okt 0 y) : Int32.ofInt x = Int32.ofInt y ↔ x = y := by
  constructor
  · intro h
    rw [← ti_ hx, ← ti_ hy, h]
  · intro h
    rw [h]
theorem e_lt {x y : Int} (hx : okt 0 x) (hy : okt 0 y) : Int32.ofInt x < Int32.ofInt y ↔ x < y := by
  rw [Int32.lt_iff_toInt_lt, ti_ hx, ti_ hy]
theorem e_le {x y : Int} (hx : okt 0 x) (hy : okt 0 y) : Int32.ofInt x ≤ Int32.ofInt y ↔ x ≤ y := by
  rw [Int32.le_iff_toInt_le, ti_ hx, ti_ hy]
theorem ok0 : okt 0 0 := by constructor <;> decide
theorem e_0 : (0 : Int32) = Int32.ofInt 0 := rfl
theorem wr_id {x : Int} (h1 : -2147483648 ≤ x) (h2 : x ≤ 2147483647) : wr x = x := by
  rw [wr_def]
  exact Int.bmod_eq_of_le (by omega) (by omega)
theorem wl_id {x : Int} (h1 : -9223372036854775808 ≤ x) (h2 : x ≤ 9223372036854775807) : wl x = x := by
  rw [wl_def]
  exact Int.bmod_eq_of_le (by omega) (by omega)
theorem e_nat {x : Int} (hx : okt 0 x) (h0 : 0 ≤ x) : (Int32.ofInt x).toNatClampNeg = x.toNat := by
  show (Int32.ofInt x).toInt.toNat = _
  rw [ti_ hx]
theorem e_in {x : Int} {n : Nat} (hx : okt 0 x) (h0 : 0 ≤ x) (h1 : x < (n : Int)) : ¬ (Int32.ofInt x < 0 ∨ n ≤ (Int32.ofInt x).toNatClampNeg) := by
  rw [e_nat hx h0, e_0, e_lt hx ok0]
  omega
-- locals
theorem lg_at : ∀ {ls : LT} {i : Nat} {v : TV}, lg ls i = some v → ls[i]? = some (some v)
  | [], i, v, h => by simp [lg] at h
  | x :: l, 0, v, h => by simp [lg] at h; simp [h]
  | x :: l, k + 1, v, h => by
    have h' : lg l k = some v := h
    rw [List.getElem?_cons_succ]
    exact lg_at h'
theorem lt_len : ∀ (ls : LT) (n : Nat) (v : TV), (lt_ ls n v).length = ls.length
  | [], _, _ => rfl
  | _ :: l, 0, v => rfl
  | none :: l, k + 1, v => by simp [lt_, lt_len l k v]
  | some (.inl x) :: l, k + 1, v => by simp [lt_, lt_len l k v]
  | some (.inr (.inl x)) :: l, k + 1, v => by simp [lt_, lt_len l k v]
  | some (.inr (.inr _)) :: l, k + 1, v => by simp [lt_, lt_len l k v]
def cat (v : TV) : Nat := match v with
  | .inl _ => 1
  | .inr (.inl _) => 1
  | .inr (.inr _) => 2
theorem tvv_cat (v : TV) : (tvv v).category = cat v := by
  match v with
  | .inl _ => rfl
  | .inr (.inl 0) => rfl
  | .inr (.inl (_ + 1)) => rfl
  | .inr (.inr _) => rfl
theorem lt_get : ∀ (ls : LT) (n : Nat) (v : TV) (i : Nat) (x : TV), (lt_ ls n v)[i]? = some (some x) → (i = n ∧ x = v) ∨ (i ≠ n ∧ ls[i]? = some (some x) ∧ (i < n → cat x = 1))
  | [], _, _, i, x, h => by simp [lt_] at h
  | y :: l, 0, v, 0, x, h => by
    left
    simp [lt_] at h
    exact ⟨rfl, h.symm⟩
  | y :: l, 0, v, i + 1, x, h => by
    right
    refine ⟨by omega, ?_, fun h => by omega⟩
    simpa [lt_] using h
  | none :: l, k + 1, v, 0, x, h => by simp [lt_] at h
  | none :: l, k + 1, v, i + 1, x, h => by
    have h' : (lt_ l k v)[i]? = some (some x) := by simpa [lt_] using h
    rcases lt_get l k v i x h' with ⟨h1, h2⟩ | ⟨h1, h2, h3⟩
    · exact Or.inl ⟨by omega, h2⟩
    · exact Or.inr ⟨by omega, by simpa using h2, fun h => h3 (by omega)⟩
  | some (.inl y) :: l, k + 1, v, 0, x, h => by
    right
    have h' : x = .inl y := by simp [lt_] at h; exact h.symm
    subst h'
    exact ⟨by omega, by simp, fun _ => rfl⟩
  | some (.inl y) :: l, k + 1, v, i + 1, x, h => by
    have h' : (lt_ l k v)[i]? = some (some x) := by simpa [lt_] using h
    rcases lt_get l k v i x h' with ⟨h1, h2⟩ | ⟨h1, h2, h3⟩
    · exact Or.inl ⟨by omega, h2⟩
    · exact Or.inr ⟨by omega, by simpa using h2, fun h => h3 (by omega)⟩
  | some (.inr (.inl y)) :: l, k + 1, v, 0, x, h => by
    right
    have h' : x = .inr (.inl y) := by simp [lt_] at h; exact h.symm
    subst h'
    exact ⟨by omega, by simp, fun _ => rfl⟩
  | some (.inr (.inl y)) :: l, k + 1, v, i + 1, x, h => by
    have h' : (lt_ l k v)[i]? = some (some x) := by simpa [lt_] using h
    rcases lt_get l k v i x h' with ⟨h1, h2⟩ | ⟨h1, h2, h3⟩
    · exact Or.inl ⟨by omega, h2⟩
    · exact Or.inr ⟨by omega, by simpa using h2, fun h => h3 (by omega)⟩
  | some (.inr (.inr y)) :: l, k + 1, v, 0, x, h => by simp [lt_] at h
  | some (.inr (.inr y)) :: l, k + 1, v, i + 1, x, h => by
    have h' : (lt_ l k v)[i]? = some (some x) := by simpa [lt_] using h
    rcases lt_get l k v i x h' with ⟨h1, h2⟩ | ⟨h1, h2, h3⟩
    · exact Or.inl ⟨by omega, h2⟩
    · exact Or.inr ⟨by omega, by simpa using h2, fun h => h3 (by omega)⟩
def lps (ls : LT) : List (Nat × Value) := (List.range ls.length).filterMap (fun i => (lg ls i).map (fun v => (i, tvv v)))
theorem lg_of_at : ∀ {ls : LT} {i : Nat} {v : TV}, ls[i]? = some (some v) → lg ls i = some v
  | [], i, v, h => by simp at h
  | x :: l, 0, v, h => by simp at h; simp [lg, h]
  | x :: l, k + 1, v, h => by
    rw [List.getElem?_cons_succ] at h
    exact lg_of_at (ls := l) h
theorem LR.has {ls : LT} {lsr : Array Slot} {nL : Nat} (h : LR ls lsr nL) : lv_has lsr nL (lps ls) := by
  refine ⟨h.1, h.2.1, fun q hq => ?_⟩
  obtain ⟨i, -, hi⟩ := List.mem_filterMap.mp hq
  cases hg : lg ls i with
  | none => rw [hg] at hi; cases hi
  | some v =>
    rw [hg] at hi
    cases hi
    exact (h.2.2.2 i v (lg_at hg)).1
theorem LR.set {ls : LT} {lsr lsr' : Array Slot} {nL i : Nat} {v : TV} (h : LR ls lsr nL) (hok : okv v) (h' : lv_has lsr' nL ((i, tvv v) :: (lps ls).filter (fun q => !(q.1 == i) && !(q.1 + 1 == i && q.2.category == 2)))) : LR (lt_ ls i v) lsr' nL := by
  refine ⟨h'.1, h'.2.1, by rw [lt_len]; exact h.2.2.1, fun j x hj => ?_⟩
  rcases lt_get ls i v j x hj with ⟨h1, h2⟩ | ⟨h1, h2, h3⟩
  · subst h1; subst h2
    exact ⟨h'.2.2 _ List.mem_cons_self, hok⟩
  · refine ⟨h'.2.2 (j, tvv x) (List.mem_cons_of_mem _ (List.mem_filter.mpr ⟨?_, ?_⟩)), (h.2.2.2 j x h2).2⟩
    · refine List.mem_filterMap.mpr ⟨j, List.mem_range.mpr (List.getElem?_eq_some_iff.mp h2).1, ?_⟩
      rw [lg_of_at h2]
      rfl
    · simp only [tvv_cat]
      by_cases hc : j + 1 = i
      · have := h3 (by omega)
        simp [this]
        exact h1
      · simp [hc]
        exact h1
