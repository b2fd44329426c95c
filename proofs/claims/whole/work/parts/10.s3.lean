/-! words by their numbers -/
def wdl (T : Nat → Int) (s : Nat) : Nat → List Int
  | 0 => []
  | i + 1 => T (s + i) :: wdl T s i
def codR : List Int → Int
  | [] => 0
  | c :: l => 27 * codR l + (c - 96)
theorem wdl_len {T : Nat → Int} {s : Nat} : ∀ i, (wdl T s i).length = i
  | 0 => rfl
  | i + 1 => by simp [wdl, wdl_len i]
theorem codR_0 : ∀ l : List Int, (∀ c ∈ l, isLt c) → 0 ≤ codR l
  | [], _ => by simp [codR]
  | c :: l, h => by
    have h1 := codR_0 l (fun x hx => h x (List.mem_cons_of_mem _ hx))
    have h2 := h c List.mem_cons_self
    simp only [isLt] at h2
    unfold codR
    omega
theorem codR_inj : ∀ l l' : List Int, (∀ c ∈ l, isLt c) → (∀ c ∈ l', isLt c) → codR l = codR l' → l = l'
  | [], [], _, _, _ => rfl
  | [], c :: l, _, h, e => by
    have h1 := codR_0 l (fun x hx => h x (List.mem_cons_of_mem _ hx))
    have h2 := h c List.mem_cons_self
    simp only [isLt] at h2
    simp only [codR] at e
    omega
  | c :: l, [], h, _, e => by
    have h1 := codR_0 l (fun x hx => h x (List.mem_cons_of_mem _ hx))
    have h2 := h c List.mem_cons_self
    simp only [isLt] at h2
    simp only [codR] at e
    omega
  | c :: l, c' :: l', h, h', e => by
    have h1 := codR_0 l (fun x hx => h x (List.mem_cons_of_mem _ hx))
    have h1' := codR_0 l' (fun x hx => h' x (List.mem_cons_of_mem _ hx))
    have h2 := h c List.mem_cons_self
    have h2' := h' c' List.mem_cons_self
    simp only [isLt] at h2 h2'
    simp only [codR] at e
    have e1 : codR l = codR l' := by omega
    have e2 : c = c' := by omega
    rw [e2, codR_inj l l' (fun x hx => h x (List.mem_cons_of_mem _ hx)) (fun x hx => h' x (List.mem_cons_of_mem _ hx)) e1]
theorem wdl_lt {T : Nat → Int} {s : Nat} : ∀ i, alL T s i = true → ∀ c ∈ wdl T s i, isLt c
  | 0, _, c, hc => by simp [wdl] at hc
  | i + 1, h, c, hc => by
    unfold alL at h
    rw [Bool.and_eq_true, decide_eq_true_eq] at h
    rcases List.mem_cons.mp hc with rfl | hc
    · exact h.2
    · exact wdl_lt i h.1 c hc
theorem codR_hi {T : Nat → Int} {s : Nat} : ∀ i, alL T s i = true → codR (wdl T s i) < 27 ^ i
  | 0, _ => by simp [wdl, codR]
  | i + 1, h => by
    unfold alL at h
    rw [Bool.and_eq_true, decide_eq_true_eq] at h
    have ih := codR_hi i h.1
    have h2 := h.2
    simp only [isLt] at h2
    simp only [wdl, codR, Int.pow_succ]
    omega
theorem alL_le {T : Nat → Int} {s i j : Nat} (h : alL T s i = true) (hj : j ≤ i) : alL T s j = true := (alL_iff j).mpr (fun x hx => (alL_iff i).mp h x (by omega))
theorem wrd_cod {T : Nat → Int} {s : Nat} : ∀ i, i ≤ 8 → alL T s i = true → wrd T s i = codR (wdl T s i)
  | 0, _, _ => rfl
  | i + 1, hi, h => by
    have h1 := alL_le (j := i) h (by omega)
    have ih := wrd_cod i (by omega) h1
    have b1 := codR_hi i h1
    have b0 := codR_0 _ (wdl_lt i h1)
    have b2 := (alL_iff (i + 1)).mp h i (by omega)
    simp only [isLt] at b2
    have b3 : (27 : Int) ^ i ≤ 27 ^ 7 := by
      match i, hi with
      | 0, _ => decide
      | 1, _ => decide
      | 2, _ => decide
      | 3, _ => decide
      | 4, _ => decide
      | 5, _ => decide
      | 6, _ => decide
      | 7, _ => decide
    have b4 : (27 : Int) ^ 7 = 10460353203 := by decide
    unfold wrd
    rw [if_pos (by omega), ih]
    simp only [wdl, codR]
    rw [wl_id (x := 27 * codR (wdl T s i)) (by omega) (by omega), wl_id (x := 27 * codR (wdl T s i) + T (s + i)) (by omega) (by omega), wl_id (by omega) (by omega)]
    omega
theorem wrd_8 {T : Nat → Int} {s : Nat} : ∀ i, 8 ≤ i → wrd T s i = wrd T s 8
  | 0, h => absurd h (by omega)
  | i + 1, h => by
    by_cases e : i + 1 = 8
    · rw [e]
    · have := wrd_8 (T := T) (s := s) i (by omega)
      rw [← this]
      conv => lhs; unfold wrd
      rw [if_neg (by omega)]
/-- a word is known by its number -/
theorem wrd_is {T : Nat → Int} {s i : Nat} {l : List Int} (h : alL T s i = true) (hl : ∀ c ∈ l, isLt c) (hn : l.length ≤ 7) : wrd T s i = codR l ↔ wdl T s i = l := by
  by_cases hi : i ≤ 8
  · rw [wrd_cod i hi h]
    exact ⟨fun e => codR_inj _ _ (wdl_lt i h) hl e, fun e => by rw [e]⟩
  · rw [wrd_8 i (by omega), wrd_cod 8 (by omega) (alL_le h (by omega))]
    constructor
    · intro e
      have := codR_inj _ _ (wdl_lt 8 (alL_le h (by omega))) hl e
      have h8 := wdl_len (T := T) (s := s) 8
      rw [this] at h8
      omega
    · intro e
      have h8 := wdl_len (T := T) (s := s) i
      rw [e] at h8
      omega
/-- the token behind p is this word (its letters backwards) -/
abbrev isW (T : Nat → Int) (L p : Nat) (l : List Int) : Prop := tkK T L p = 2 ∧ wdl T (tkB T L p) (tkR T L (tkB T L p) - tkB T L p) = l
abbrev wMem : List Int := [115, 114, 101, 98, 109, 101, 109]
abbrev wRan : List Int := [107, 110, 97, 114]
abbrev wAsk : List Int := [107, 115, 97]
abbrev wLea : List Int := [101, 118, 97, 101, 108]
abbrev wSus : List Int := [116, 99, 101, 112, 115, 117, 115]
abbrev wSen : List Int := [100, 110, 101, 115]
abbrev wLos : List Int := [101, 115, 111, 108]
abbrev wSet : List Int := [101, 108, 116, 116, 101, 115]
theorem tkK_2 {T : Nat → Int} {L p : Nat} (h : tkK T L p = 2) : ¬ (600 < L ∧ 600 ≤ tkB T L p) ∧ tkB T L p < L ∧ (isLt (T (tkB T L p)) ∨ isDg (T (tkB T L p))) ∧ alL T (tkB T L p) (tkR T L (tkB T L p) - tkB T L p) = true := by
  unfold tkK at h
  split at h
  · omega
  · next h1 =>
    split at h
    · omega
    · next h2 =>
      split at h
      · next h3 =>
        split at h
        · next h4 => exact ⟨h1, by omega, h3, h4⟩
        · split at h <;> omega
      · split at h <;> omega
theorem tkK_3 {T : Nat → Int} {L p : Nat} (h : tkK T L p = 3) : ¬ (600 < L ∧ 600 ≤ tkB T L p) ∧ tkB T L p < L ∧ (isLt (T (tkB T L p)) ∨ isDg (T (tkB T L p))) ∧ alD T (tkB T L p) (tkR T L (tkB T L p) - tkB T L p) = true ∧ tkR T L (tkB T L p) - tkB T L p ≤ 2 := by
  unfold tkK at h
  split at h
  · omega
  · next h1 =>
    split at h
    · omega
    · next h2 =>
      split at h
      · next h3 =>
        split at h
        · omega
        · split at h
          · next h4 => exact ⟨h1, by omega, h3, h4.1, h4.2⟩
          · omega
      · split at h <;> omega
theorem tkK_4 {T : Nat → Int} {L p : Nat} (h : tkK T L p = 4) : ¬ (600 < L ∧ 600 ≤ tkB T L p) ∧ tkB T L p < L ∧ ¬ (isLt (T (tkB T L p)) ∨ isDg (T (tkB T L p))) ∧ T (tkB T L p) = 59 := by
  unfold tkK at h
  split at h
  · omega
  · next h1 =>
    split at h
    · omega
    · next h2 =>
      split at h
      · next h3 =>
        split at h
        · omega
        · split at h <;> omega
      · next h3 =>
        split at h
        · next h4 => exact ⟨h1, by omega, h3, h4⟩
        · omega
theorem tkK_le {T : Nat → Int} {L p : Nat} : tkK T L p ≤ 4 := by
  unfold tkK
  repeat' split
  all_goals omega
theorem tkR_s {T : Nat → Int} {L s : Nat} (hs : s < L) (hc : isLt (T s) ∨ isDg (T s)) : s + 1 ≤ tkR T L s := by
  unfold tkR
  obtain ⟨r, hr⟩ : ∃ r, L - s = r + 1 := ⟨L - s - 1, by omega⟩
  rw [hr]
  unfold ru0
  rw [if_pos hc]
  exact (ru0_b r (s + 1)).1
theorem tkE_b {T : Nat → Int} {L p : Nat} (hp : p ≤ L) (h : 2 ≤ tkK T L p) : tkB T L p + 1 ≤ tkE T L p ∧ tkE T L p ≤ L ∧ tkB T L p < L ∧ tkS T L p = tkB T L p := by
  have h4 := tkK_le (T := T) (L := L) (p := p)
  have hb := tkB_b (T := T) hp
  have hS : ¬ (600 < L ∧ 600 ≤ tkB T L p) → tkS T L p = tkB T L p := fun h => if_neg h
  rcases (show tkK T L p = 2 ∨ tkK T L p = 3 ∨ tkK T L p = 4 by omega) with e | e | e
  · obtain ⟨q1, q2, q3, -⟩ := tkK_2 e
    have := tkR_s q2 q3
    have := tkR_b (T := T) hb.2
    unfold tkE
    rw [if_pos q3]
    exact ⟨by omega, by omega, q2, hS q1⟩
  · obtain ⟨q1, q2, q3, -⟩ := tkK_3 e
    have := tkR_s q2 q3
    have := tkR_b (T := T) hb.2
    unfold tkE
    rw [if_pos q3]
    exact ⟨by omega, by omega, q2, hS q1⟩
  · obtain ⟨q1, q2, q3, -⟩ := tkK_4 e
    unfold tkE
    rw [if_neg q3]
    exact ⟨by omega, by omega, q2, hS q1⟩
/-- a number behind a word or a number stands apart -/
theorem tk_gap {T : Nat → Int} {L p : Nat} (hp : p ≤ L) (h : tkK T L p = 2 ∨ tkK T L p = 3) (h2 : tkK T L (tkE T L p) = 3) : tkE T L p + 1 ≤ tkB T L (tkE T L p) := by
  have hE := tkE_b (T := T) (L := L) hp (by omega)
  have hb := tkB_b (T := T) hE.2.1
  have q3 : isLt (T (tkB T L p)) ∨ isDg (T (tkB T L p)) := by
    rcases h with h | h
    · exact (tkK_2 h).2.2.1
    · exact (tkK_3 h).2.2.1
  have eE : tkE T L p = tkR T L (tkB T L p) := if_pos q3
  obtain ⟨r1, r2, r3, -⟩ := tkK_3 h2
  rcases ru0_end (T := T) (L - tkB T L p) (tkB T L p) with e | e
  · have : tkR T L (tkB T L p) = L := by unfold tkR; omega
    omega
  · have e : ¬ (isLt (T (tkE T L p)) ∨ isDg (T (tkE T L p))) := by rw [eE]; exact e
    by_cases hh : tkB T L (tkE T L p) = tkE T L p
    · rw [hh] at r3; exact absurd r3 e
    · omega
theorem nmb_b {T : Nat → Int} {s i : Nat} (h : alD T s i = true) (hi : i ≤ 2) : 0 ≤ nmb T s i ∧ nmb T s i ≤ 99 ∧ nmb T s i = (if i = 0 then 0 else if i = 1 then T s - 48 else 10 * (T s - 48) + (T (s + 1) - 48)) := by
  have h' := (alD_iff i).mp h
  match i, hi with
  | 0, _ => simp [nmb]
  | 1, _ =>
    have a := h' 0 (by omega)
    simp only [isDg, Nat.add_zero] at a
    simp only [nmb, Nat.add_zero]
    rw [if_pos (by omega), wr_id (x := 10 * 0) (by omega) (by omega), wr_id (x := 10 * 0 + T s) (by omega) (by omega), wr_id (by omega) (by omega)]
    simp
    omega
  | 2, _ =>
    have a := h' 0 (by omega)
    have b := h' 1 (by omega)
    simp only [isDg, Nat.add_zero] at a b
    simp only [nmb, Nat.add_zero]
    rw [if_pos (by omega), if_pos (by omega), wr_id (x := 10 * 0) (by omega) (by omega), wr_id (x := 10 * 0 + T s) (by omega) (by omega), wr_id (x := 10 * 0 + T s - 48) (by omega) (by omega), wr_id (x := 10 * (10 * 0 + T s - 48)) (by omega) (by omega), wr_id (x := 10 * (10 * 0 + T s - 48) + T (s + 1)) (by omega) (by omega), wr_id (by omega) (by omega)]
    simp
    omega
theorem tkN_b {T : Nat → Int} {L p : Nat} (h : tkK T L p = 3) : 0 ≤ tkN T L p ∧ tkN T L p ≤ 99 := by
  obtain ⟨-, -, -, r4, r5⟩ := tkK_3 h
  have := nmb_b r4 r5
  exact ⟨this.1, this.2.1⟩
/-! what is read: a fault (kind, place) or what is told -/
abbrev ER (α : Type) : Type := (Nat × Nat) ⊕ α
/-- a number from lo to hi behind p -/
noncomputable def rdN (T : Nat → Int) (L p : Nat) (lo hi : Int) : ER (Nat × Nat) :=
  if tkK T L p = 3 then (if lo ≤ tkN T L p ∧ tkN T L p ≤ hi then .inr ((tkN T L p).toNat, tkE T L p) else .inl (2, tkS T L p)) else .inl (1, tkS T L p)
def rdS (T : Nat → Int) (L p : Nat) : ER Nat := if tkK T L p = 4 then .inr (tkE T L p) else .inl (1, tkS T L p)
noncomputable def rdM (T : Nat → Int) (L p : Nat) : ER (Nat × Nat) :=
  if isW T L p wMem then
    (match rdN T L (tkE T L p) 2 6 with
    | .inl e => .inl e
    | .inr (n, p1) => match rdS T L p1 with
      | .inl e => .inl e
      | .inr p2 => .inr (n, p2))
  else .inl (1, tkS T L p)
noncomputable def rdK (T : Nat → Int) (L n c p : Nat) : ER (Nat × Nat × Nat) :=
  if c = 20 then .inl (3, tkS T L p)
  else match rdN T L (tkE T L p) 0 ((n : Int) - 1) with
    | .inl e => .inl e
    | .inr (x, p1) => match rdN T L p1 0 9 with
      | .inl e => .inl e
      | .inr (v, p2) => match rdS T L p2 with
        | .inl e => .inl e
        | .inr p3 => .inr (x, v, p3)
noncomputable def rkL (T : Nat → Int) (L n : Nat) : Nat → Nat → (Nat → Int) → Nat → ER ((Nat → Int) × Nat)
  | 0, _, _, _ => .inl (0, 0)
  | f + 1, c, r, p => if isW T L p wRan then
      (match rdK T L n c p with
      | .inl e => .inl e
      | .inr (x, v, p1) => rkL T L n f (c + 1) (u1 r x (v : Int)) p1)
    else .inr (r, p)
/-- the kind of the act that the word behind p names; 6: none -/
def actK (T : Nat → Int) (L p : Nat) : Nat := if isW T L p wAsk then 0 else if isW T L p wLea then 1 else if isW T L p wSus then 2 else if isW T L p wSen then 3 else if isW T L p wLos then 4 else if isW T L p wSet then 5 else 6
/-- an act: its kind, its numbers, its place, what stands behind it -/
noncomputable def rdA (T : Nat → Int) (L p : Nat) : ER (Nat × Nat × Nat × Nat × Nat) :=
  if actK T L p = 6 then .inl (1, tkS T L p)
  else match rdN T L (tkE T L p) (if actK T L p = 5 then 1 else 0) 99 with
    | .inl e => .inl e
    | .inr (a, p1) =>
      if actK T L p = 3 ∨ actK T L p = 4 then
        (match rdN T L p1 0 99 with
        | .inl e => .inl e
        | .inr (b, p2) => match rdS T L p2 with
          | .inl e => .inl e
          | .inr p3 => .inr (actK T L p, a, b, tkS T L p2, p3))
      else match rdS T L p1 with
        | .inl e => .inl e
        | .inr p3 => .inr (actK T L p, a, 0, tkS T L p1, p3)
noncomputable def exA (T : Nat → Int) (L n : Nat) : Nat → Nat → Nat → NT → ER (Nat × NT)
  | 0, _, _, _ => .inl (0, 0)
  | f + 1, c, p, X => if tkK T L p = 0 then .inr (c, X) else
    match rdA T L p with
    | .inl e => .inl e
    | .inr (t, a, b, pl, p1) => if (actF n (X.1 5).toNat t a b X).1 < 0 then .inl (4, pl) else exA T L n f (c + 1) p1 (actF n (X.1 5).toNat t a b X).2
noncomputable def texF (T : Nat → Int) (L : Nat) : ER (Nat × NT) :=
  match rdM T L 0 with
  | .inl e => .inl e
  | .inr (n, p) => match rkL T L n 22 0 (fun _ => 0) p with
    | .inl e => .inl e
    | .inr (r, p1) => exA T L n 101 0 p1 (begN n r)
