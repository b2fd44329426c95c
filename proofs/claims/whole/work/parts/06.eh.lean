/-! a row of instructions; a method's entry -/
def npu (blk : List EN) : List Nat := blk.filterMap (fun e => match e.2.2.2.2.2.2 with
  | [k] => some k
  | _ => none)
theorem rn_ok {w : WP} {d n : Nat} {Q : QT} (hd1 : 1 ≤ d) : ∀ (blk : List EN) (pc : Nat), (∀ k ∈ npu blk, k < 20 → PuK w d k) → okb (mth n) pc blk = true → ∀ (ls : LT) (st : List TV) (Γ : GM) (V : VH) (uc us : Nat), rn (sad w) (tC w (d - 1)) (fun pc' ls st Γ V uc us => tG w d n pc' ls st Γ V uc us Q) Q pc blk ls st Γ V uc us → tG w d n pc ls st Γ V uc us Q
  | [], pc, _, _, ls, st, Γ, V, uc, us, h => h
  | (pc0, i, len, a, b, c, tg) :: l, pc, hp, hok, ls, st, Γ, V, uc, us, h => by
    simp only [okb, Bool.and_eq_true, decide_eq_true_eq] at hok
    obtain ⟨⟨⟨⟨h1, h2⟩, h3⟩, h4⟩, h5⟩ := hok
    subst h1
    refine sm_ok hd1 (fun k hk => hp k ?_) h2 h3 h4 (fun ls st Γ V uc us g => rn_ok hd1 l _ (fun k hk => hp k ?_) h5 ls st Γ V uc us g) h
    · subst hk
      exact List.mem_filterMap.mpr ⟨_, List.mem_cons_self, rfl⟩
    · obtain ⟨e, he, hk⟩ := List.mem_filterMap.mp hk
      exact List.mem_filterMap.mpr ⟨e, List.mem_cons_of_mem _ he, hk⟩
/-- the locals at a method's entry -/
def ent : Nat → List TV → LT
  | 0, _ => []
  | n + 1, [] => none :: ent n []
  | n + 1, .inl x :: l => some (.inl x) :: ent n l
  | n + 1, .inr (.inl x) :: l => some (.inr (.inl x)) :: ent n l
  | n + 2, .inr (.inr x) :: l => some (.inr (.inr x)) :: none :: ent n l
  | 1, .inr (.inr _) :: _ => [none]
def asz : List TV → Nat
  | [] => 0
  | .inl _ :: l => asz l + 1
  | .inr (.inl _) :: l => asz l + 1
  | .inr (.inr _) :: l => asz l + 2
theorem ent_len : ∀ (n : Nat) (l : List TV), (ent n l).length = n
  | 0, _ => by simp [ent]
  | n + 1, [] => by simp [ent, ent_len n []]
  | n + 1, .inl x :: l => by simp [ent, ent_len n l]
  | n + 1, .inr (.inl x) :: l => by simp [ent, ent_len n l]
  | n + 2, .inr (.inr x) :: l => by simp [ent, ent_len n l]
  | 1, .inr (.inr _) :: _ => by simp [ent]
theorem ent_at : ∀ (n : Nat) (l : List TV) (i k : Nat) (v : TV), (ent n l)[i]? = some (some v) → (k + i, tvv v) ∈ lv_args k (l.map tvv) ∧ v ∈ l
  | 0, l, i, k, v, h => by simp [ent] at h
  | n + 1, [], 0, k, v, h => by simp [ent] at h
  | n + 1, [], i + 1, k, v, h => by
    have h' : (ent n [])[i]? = some (some v) := by simpa [ent] using h
    have := (ent_at n [] i (k + 1) v h').2
    simp at this
  | n + 1, .inl x :: l, 0, k, v, h => by
    have h' : v = .inl x := by simp [ent] at h; exact h.symm
    subst h'
    exact ⟨List.mem_cons_self, List.mem_cons_self⟩
  | n + 1, .inl x :: l, i + 1, k, v, h => by
    have h' : (ent n l)[i]? = some (some v) := by simpa [ent] using h
    have := ent_at n l i (k + 1) v h'
    refine ⟨List.mem_cons_of_mem _ ?_, List.mem_cons_of_mem _ this.2⟩
    rw [if_neg (by rw [tvv_cat]; simp [cat]), show k + (i + 1) = k + 1 + i by omega]
    exact this.1
  | n + 1, .inr (.inl x) :: l, 0, k, v, h => by
    have h' : v = .inr (.inl x) := by simp [ent] at h; exact h.symm
    subst h'
    exact ⟨List.mem_cons_self, List.mem_cons_self⟩
  | n + 1, .inr (.inl x) :: l, i + 1, k, v, h => by
    have h' : (ent n l)[i]? = some (some v) := by simpa [ent] using h
    have := ent_at n l i (k + 1) v h'
    refine ⟨List.mem_cons_of_mem _ ?_, List.mem_cons_of_mem _ this.2⟩
    rw [if_neg (by rw [tvv_cat]; simp [cat]), show k + (i + 1) = k + 1 + i by omega]
    exact this.1
  | n + 2, .inr (.inr x) :: l, 0, k, v, h => by
    have h' : v = .inr (.inr x) := by simp [ent] at h; exact h.symm
    subst h'
    exact ⟨List.mem_cons_self, List.mem_cons_self⟩
  | n + 2, .inr (.inr x) :: l, 1, k, v, h => by simp [ent] at h
  | n + 2, .inr (.inr x) :: l, i + 2, k, v, h => by
    have h' : (ent n l)[i]? = some (some v) := by simpa [ent] using h
    have := ent_at n l i (k + 2) v h'
    refine ⟨List.mem_cons_of_mem _ ?_, List.mem_cons_of_mem _ this.2⟩
    rw [if_pos (by rw [tvv_cat]; rfl), show k + (i + 2) = k + 2 + i by omega]
    exact this.1
  | 1, .inr (.inr x) :: l, 0, k, v, h => by simp [ent] at h
  | 1, .inr (.inr x) :: l, i + 1, k, v, h => by simp [ent] at h
theorem asz_sl : ∀ (l : List TV), (lg_sl (l.map tvv)).length = asz l
  | [] => rfl
  | v :: l => by
    have h := asz_sl l
    have e : lg_sl ((v :: l).map tvv) = (if (tvv v).category = 2 then [Slot.val (tvv v), .second] else [.val (tvv v)]) ++ lg_sl (l.map tvv) := by simp [lg_sl]
    rw [e, List.length_append, h, tvv_cat]
    match v with
    | .inl x => simp [cat, asz]; omega
    | .inr (.inl x) => simp [cat, asz]; omega
    | .inr (.inr x) => simp [cat, asz]; omega
theorem tC_enter {w : WP} {d a nL : Nat} {args : List TV} {Γ : GM} {V : VH} {Q : QT} (ha : a < mtl.length) (hpl : plainName (mth a).1.cls = true) (hn : (mth a).2.2.1 = nL) (hs : asz args ≤ nL) (h : (∀ v ∈ args, okv v) → tG w d a 0 (ent nL args) [] Γ V 0 0 Q) : tC w d a args Γ V Q := by
  refine Met.ofW (cc := (mth a).2.1) (maxL := (mth a).2.2.1) (ret := (mth a).2.2.2.1) hpl rfl ?_
  intro p e s m args' below meth c s₁ B hml hv
  obtain ⟨rfl, hok, hR, hK, hS⟩ := hv
  have hts := atoms_spec (ws := tws a) B.pre
  have hown : s.vm.findClass (mth a).1.cls = some m.cls := findClass_of_methodNamed B.named
  rw [(mw_ok a ha).2.2.1] at hown
  have hl := lv_entry (args.map tvv) (n := (mth a).2.2.1) (by rw [asz_sl, hn]; exact hs)
  rw [lg_entry_eq]
  generalize (lg_sl (args.map tvv) ++ List.replicate ((mth a).2.2.1 - (lg_sl (args.map tvv)).length) Slot.unset).toArray = lsr at hl ⊢
  refine h hok p e s m _ below meth c s.heap [] lsr ⟨B.exec, B.bytes, B.returns, hml, hown, fun q hq => hts q (List.mem_cons_of_mem _ hq), B.notSynchronized, fun hi => ?_, hK, hS, hR.2.1⟩ ⟨hl.1, hl.2.1, by rw [ent_len, hn], fun i v hi => ?_⟩ (fun v h => by cases h) hR va_S.rf (Nat.zero_le _) (Nat.zero_le _)
  · have := (name_of_methodNamed B.named B.method).1
    rw [this, hi]
  · have := ent_at nL args i 0 v hi
    rw [Nat.zero_add] at this
    exact ⟨hl.2.2 _ this.1, hok v this.2⟩
