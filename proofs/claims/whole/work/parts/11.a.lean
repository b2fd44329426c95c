/-! THE CLASS: a net's 292 objects and arrays as tables of numbers: counts A (0 size, 1 died, 2 made, 3 lost, 4 left, 5 count, 6 sentOn, 7 cameIn), members B (as the reference's rows; 50 has, 51 number), messages S by their slot (0 from, 1 to, 2 kind, 3 value, 4 extra, 30.. its pass), q: which slot lies in the mail at a place (46: taken) -/
def sa (e : Nat) : Nat := if e = 46 then 3 else 62 + 5 * e
theorem sa_b {e : Nat} (h : e < 47) : sa e + 4 < 292 ∧ (sa e = 3 ∧ e = 46 ∨ sa e = 62 + 5 * e ∧ e < 46) := by
  unfold sa
  split <;> omega
def bS (V : VH) (a n : Nat) (D : Nat → Nat → Int) : VH := fun c j => if a ≤ c ∧ c < a + n then D (c - a) j else V c j
theorem bS_i {V : VH} {a n i j : Nat} {D : Nat → Nat → Int} (h : i < n) : bS V a n D (a + i) j = D i j := by
  unfold bS
  rw [if_pos (by omega), show a + i - a = i by omega]
theorem bS_o {V : VH} {a n c j : Nat} {D : Nat → Nat → Int} (h : c < a ∨ a + n ≤ c) : bS V a n D c j = V c j := if_neg (by omega)
theorem bS_u {V : VH} {a n i j : Nat} {D D' : Nat → Nat → Int} {x : Int} (h : i < n) (hD : ∀ i' j', i' < n → D' i' j' = if i' = i ∧ j' = j then x else D i' j') : up (bS V a n D) (a + i) j x = bS V a n D' := by
  funext c k
  unfold up bS
  by_cases hc : a ≤ c ∧ c < a + n
  · rw [if_pos hc, if_pos hc, hD _ _ (by omega)]
    by_cases h2 : c = a + i ∧ k = j
    · rw [if_pos h2, if_pos ⟨by omega, h2.2⟩]
    · rw [if_neg h2, if_neg (by omega)]
  · rw [if_neg hc, if_neg hc, if_neg (by omega)]
theorem bS_e {V : VH} {a n : Nat} {D D' : Nat → Nat → Int} (h : ∀ i j, i < n → D i j = D' i j) : bS V a n D = bS V a n D' := by
  funext c k
  unfold bS
  by_cases hc : a ≤ c ∧ c < a + n
  · rw [if_pos hc, if_pos hc, h _ _ (by omega)]
  · rw [if_neg hc, if_neg hc]
def pic (I : Nat → Nat → Option Nat) (Z : Nat → Nat → Int) (b : Nat → Int) : Nat → Nat → Int := fun r j => (I r j).elim (Z r j) b
theorem pic_s {I : Nat → Nat → Option Nat} {Z : Nat → Nat → Int} {b : Nat → Int} {r j i : Nat} (h : I r j = some i) : pic I Z b r j = b i := by
  unfold pic
  rw [h]
  rfl
theorem pic_n {I : Nat → Nat → Option Nat} {Z : Nat → Nat → Int} {b : Nat → Int} {r j : Nat} (h : I r j = none) : pic I Z b r j = Z r j := by
  unfold pic
  rw [h]
  rfl
theorem pic_u {I : Nat → Nat → Option Nat} {Z : Nat → Nat → Int} {b : Nat → Int} {r j i : Nat} {x : Int} (inj : ∀ r j r' j' i, I r j = some i → I r' j' = some i → r' = r ∧ j' = j) (h : I r j = some i) (r' j' : Nat) : pic I Z (u1 b i x) r' j' = if r' = r ∧ j' = j then x else pic I Z b r' j' := by
  by_cases h2 : r' = r ∧ j' = j
  · rw [if_pos h2, h2.1, h2.2, pic_s h, u1_at]
  · rw [if_neg h2]
    cases hI : I r' j' with
    | none => rw [pic_n hI, pic_n hI]
    | some i' =>
      rw [pic_s hI, pic_s hI]
      refine u1_ne (fun e => h2 ?_)
      subst e
      exact inj _ _ _ _ _ h hI
def pI (r j : Nat) : Option Nat := if r = 0 then (if j = 3 then some 30 else if j = 4 then some 31 else none) else if r < 4 ∧ j < 6 then some (26 + 6 * r + j) else none
def pZ (p r j : Nat) : Int := if r = 0 ∧ j < 3 then ((p + 1 + j : Nat) : Int) else 0
def eI (r j : Nat) : Option Nat := if r = 0 then (if j = 5 then some 51 else if j = 6 then some 0 else if j = 7 then some 1 else if j = 8 then some 4 else if j = 9 then some 5 else if j = 10 then some 2 else if j = 11 then some 3 else if j = 12 then some 50 else none) else if r < 5 then (if j < 6 then some (6 * r + j) else none) else pI (r - 5) j
def eZ (m r j : Nat) : Int := if r = 0 then (if j < 5 then ((m + 1 + j : Nat) : Int) else 0) else if r < 5 then 0 else pZ (m + 5) (r - 5) j
def gI (r j : Nat) : Option Nat := if r = 0 then (if 1 ≤ j ∧ j < 6 then some (j - 1) else none) else pI (r - 1) j
def gZ (e r j : Nat) : Int := if r = 0 then (if j = 0 then ((e + 1 : Nat) : Int) else 0) else pZ (e + 1) (r - 1) j
theorem pI_lo {r j i : Nat} (h : pI r j = some i) : 30 ≤ i ∧ i < 50 ∧ r < 4 := by
  unfold pI at h
  grind (splits := 40)
theorem pI_inj : ∀ r j r' j' i, pI r j = some i → pI r' j' = some i → r' = r ∧ j' = j := by
  intro r j r' j' i h h'
  unfold pI at h h'
  grind (splits := 40)
theorem eI_inj : ∀ r j r' j' i, eI r j = some i → eI r' j' = some i → r' = r ∧ j' = j := by
  intro r j r' j' i h h'
  by_cases h5 : r < 5 <;> by_cases h5' : r' < 5
  · unfold eI at h h'
    grind (splits := 40)
  · have h' : pI (r' - 5) j' = some i := by unfold eI at h'; rw [if_neg (by omega), if_neg h5'] at h'; exact h'
    have := pI_lo h'
    unfold eI at h
    grind (splits := 40)
  · have h : pI (r - 5) j = some i := by unfold eI at h; rw [if_neg (by omega), if_neg h5] at h; exact h
    have := pI_lo h
    unfold eI at h'
    grind (splits := 40)
  · have h' : pI (r' - 5) j' = some i := by unfold eI at h'; rw [if_neg (by omega), if_neg h5'] at h'; exact h'
    have h : pI (r - 5) j = some i := by unfold eI at h; rw [if_neg (by omega), if_neg h5] at h; exact h
    have := pI_inj _ _ _ _ _ h h'
    omega
theorem gI_inj : ∀ r j r' j' i, gI r j = some i → gI r' j' = some i → r' = r ∧ j' = j := by
  intro r j r' j' i h h'
  by_cases h5 : r = 0 <;> by_cases h5' : r' = 0
  · unfold gI at h h'
    grind (splits := 40)
  · have h' : pI (r' - 1) j' = some i := by unfold gI at h'; rw [if_neg h5'] at h'; exact h'
    have := pI_lo h'
    unfold gI at h
    grind (splits := 40)
  · have h : pI (r - 1) j = some i := by unfold gI at h; rw [if_neg h5] at h; exact h
    have := pI_lo h
    unfold gI at h'
    grind (splits := 40)
  · have h' : pI (r' - 1) j' = some i := by unfold gI at h'; rw [if_neg h5'] at h'; exact h'
    have h : pI (r - 1) j = some i := by unfold gI at h; rw [if_neg h5] at h; exact h
    have := pI_inj _ _ _ _ _ h h'
    omega
def nfI (j : Nat) : Option Nat := if j = 3 then some 0 else if j = 4 then some 5 else if j = 5 then some 1 else if j = 6 then some 2 else if j = 7 then some 3 else if j = 8 then some 4 else if j = 9 then some 6 else if j = 10 then some 7 else none
def nC (o : Nat) (A : Nat → Int) (B S : Nat → Nat → Int) (q : Nat → Nat) (i j : Nat) : Int :=
  if i = 0 then (if j = 0 then ((o + 1 : Nat) : Int) else if j = 1 then ((o + 2 : Nat) : Int) else if j = 2 then ((o + sa (q 46) : Nat) : Int) else (nfI j).elim 0 A)
  else if i = 1 then (if j < 6 then ((o + (8 + 9 * j) : Nat) : Int) else 0)
  else if i = 2 then (if j < 46 then ((o + sa (q j) : Nat) : Int) else 0)
  else if i < 8 then pic gI (gZ (o + 3)) (S 46) (i - 3) j
  else if i < 62 then pic eI (eZ (o + (8 + 9 * ((i - 8) / 9)))) (B ((i - 8) / 9)) ((i - 8) % 9) j
  else pic gI (gZ (o + (62 + 5 * ((i - 62) / 5)))) (S ((i - 62) / 5)) ((i - 62) % 5) j
def nP (V : VH) (o : Nat) (A : Nat → Int) (B S : Nat → Nat → Int) (q : Nat → Nat) : VH := bS V o 292 (nC o A B S q)
section NP
variable {V : VH} {o m e j : Nat} {A : Nat → Int} {B S : Nat → Nat → Int} {q : Nat → Nat} {x : Int}
theorem nC_e {r : Nat} (hm : m < 6) (hr : r < 9) : nC o A B S q (8 + 9 * m + r) j = pic eI (eZ (o + (8 + 9 * m))) (B m) r j := by
  unfold nC
  rw [if_neg (by omega), if_neg (by omega), if_neg (by omega), if_neg (by omega), if_pos (by omega), show (8 + 9 * m + r - 8) / 9 = m by omega, show (8 + 9 * m + r - 8) % 9 = r by omega]
theorem nC_g {r : Nat} (he : e < 47) (hr : r < 5) : nC o A B S q (sa e + r) j = pic gI (gZ (o + sa e)) (S e) r j := by
  obtain ⟨h1, ⟨h2, h3⟩ | ⟨h2, h3⟩⟩ := sa_b he
  · unfold nC
    rw [h2, if_neg (by omega), if_neg (by omega), if_neg (by omega), if_pos (by omega), show 3 + r - 3 = r by omega, h3]
  · unfold nC
    rw [h2, if_neg (by omega), if_neg (by omega), if_neg (by omega), if_neg (by omega), if_neg (by omega), show (62 + 5 * e + r - 62) / 5 = e by omega, show (62 + 5 * e + r - 62) % 5 = r by omega]
theorem nP_e {r : Nat} (hm : m < 6) (hr : r < 9) : nP V o A B S q (o + (8 + 9 * m) + r) j = pic eI (eZ (o + (8 + 9 * m))) (B m) r j := by
  rw [show o + (8 + 9 * m) + r = o + (8 + 9 * m + r) by omega]
  exact (bS_i (by omega)).trans (nC_e hm hr)
theorem nP_g {r : Nat} (he : e < 47) (hr : r < 5) : nP V o A B S q (o + sa e + r) j = pic gI (gZ (o + sa e)) (S e) r j := by
  rw [show o + sa e + r = o + (sa e + r) by omega]
  exact (bS_i (by have := sa_b he; omega)).trans (nC_g he hr)
theorem nP_o {c : Nat} (h : c < o ∨ o + 292 ≤ c) : nP V o A B S q c j = V c j := bS_o h
theorem nP_0 : nP V o A B S q o j = nC o A B S q 0 j := bS_i (i := 0) (by omega)
/-- a place in a net: its own, a member's or a message's -/
theorem nP_cs {i : Nat} (hi : i < 292) : i < 3 ∨ (∃ m r, m < 6 ∧ r < 9 ∧ i = 8 + 9 * m + r) ∨ ∃ e r, e < 47 ∧ r < 5 ∧ i = sa e + r := by
  by_cases h3 : i < 3
  · exact Or.inl h3
  · by_cases h8 : i < 8
    · exact Or.inr (Or.inr ⟨46, i - 3, by omega, by omega, by simp [sa]; omega⟩)
    · by_cases h62 : i < 62
      · exact Or.inr (Or.inl ⟨(i - 8) / 9, (i - 8) % 9, by omega, by omega, by omega⟩)
      · refine Or.inr (Or.inr ⟨(i - 62) / 5, (i - 62) % 5, by omega, by omega, ?_⟩)
        unfold sa
        rw [if_neg (by omega)]
        omega
theorem nP_ue {r i : Nat} (hm : m < 6) (hr : r < 9) (h : eI r j = some i) : up (nP V o A B S q) (o + (8 + 9 * m) + r) j x = nP V o A (uR B m (u1 (B m) i x)) S q := by
  rw [show o + (8 + 9 * m) + r = o + (8 + 9 * m + r) by omega]
  refine bS_u (by omega) (fun i' j' hi' => ?_)
  rcases nP_cs hi' with h3 | ⟨m', r', hm', hr', rfl⟩ | ⟨e', r', he', hr', rfl⟩
  · rw [if_neg (by omega)]
    have : i' = 0 ∨ i' = 1 ∨ i' = 2 := by omega
    rcases this with rfl | rfl | rfl <;> rfl
  · rw [nC_e hm' hr', nC_e hm' hr']
    by_cases hmm : m' = m
    · subst hmm
      rw [uR_at, pic_u eI_inj h]
      by_cases h2 : r' = r ∧ j' = j
      · rw [if_pos h2, if_pos ⟨by omega, h2.2⟩]
      · rw [if_neg h2, if_neg (by omega)]
    · rw [uR_ne hmm, if_neg (by omega)]
  · rw [nC_g he' hr', nC_g he' hr', if_neg (by have := sa_b he'; omega)]
theorem nP_ug {r i : Nat} (he : e < 47) (hr : r < 5) (h : gI r j = some i) : up (nP V o A B S q) (o + sa e + r) j x = nP V o A B (uR S e (u1 (S e) i x)) q := by
  rw [show o + sa e + r = o + (sa e + r) by omega]
  have hb := sa_b he
  refine bS_u (by omega) (fun i' j' hi' => ?_)
  rcases nP_cs hi' with h3 | ⟨m', r', hm', hr', rfl⟩ | ⟨e', r', he', hr', rfl⟩
  · rw [if_neg (by omega)]
    have : i' = 0 ∨ i' = 1 ∨ i' = 2 := by omega
    rcases this with rfl | rfl | rfl <;> rfl
  · rw [nC_e hm' hr', nC_e hm' hr', if_neg (by omega)]
  · have hb' := sa_b he'
    rw [nC_g he' hr', nC_g he' hr']
    by_cases hmm : e' = e
    · subst hmm
      rw [uR_at, pic_u gI_inj h]
      by_cases h2 : r' = r ∧ j' = j
      · rw [if_pos h2, if_pos ⟨by omega, h2.2⟩]
      · rw [if_neg h2, if_neg (by omega)]
    · rw [uR_ne hmm, if_neg (by omega)]
theorem nfI_inj {j j' i : Nat} (h : nfI j = some i) (h' : nfI j' = some i) : j' = j := by
  unfold nfI at h h'
  grind (splits := 40)
theorem nP_un {i : Nat} (h : nfI j = some i) (hj : 3 ≤ j) : up (nP V o A B S q) o j x = nP V o (u1 A i x) B S q := by
  refine bS_u (a := o) (i := 0) (by omega) (fun i' j' hi' => ?_)
  rcases nP_cs hi' with h3 | ⟨m', r', hm', hr', rfl⟩ | ⟨e', r', he', hr', rfl⟩
  · have : i' = 0 ∨ i' = 1 ∨ i' = 2 := by omega
    rcases this with rfl | rfl | rfl
    · by_cases hj' : j' < 3
      · rw [if_neg (by omega)]
        have : j' = 0 ∨ j' = 1 ∨ j' = 2 := by omega
        rcases this with rfl | rfl | rfl <;> rfl
      · show (if j' = 0 then _ else if j' = 1 then _ else if j' = 2 then _ else (nfI j').elim 0 (u1 A i x)) = if 0 = 0 ∧ j' = j then x else (if j' = 0 then _ else if j' = 1 then _ else if j' = 2 then _ else (nfI j').elim 0 A)
        have a0 : ¬ j' = 0 := by omega
        have a1 : ¬ j' = 1 := by omega
        have a2 : ¬ j' = 2 := by omega
        simp only [a0, a1, a2, if_false, true_and]
        by_cases h2 : j' = j
        · rw [if_pos h2, h2, h]
          exact u1_at
        · rw [if_neg h2]
          cases hI : nfI j' with
          | none => rfl
          | some i' =>
            refine u1_ne (fun q => h2 ?_)
            subst q
            exact nfI_inj h hI
    · rw [if_neg (by omega)]; rfl
    · rw [if_neg (by omega)]; rfl
  · rw [nC_e hm' hr', nC_e hm' hr', if_neg (by omega)]
  · rw [nC_g he' hr', nC_g he' hr', if_neg (by have := sa_b he'; omega)]
theorem nP_ut : up (nP V o A B S q) o 2 ((o + sa e : Nat) : Int) = nP V o A B S (uf q 46 e) := by
  refine bS_u (a := o) (i := 0) (by omega) (fun i' j' hi' => ?_)
  rcases nP_cs hi' with h3 | ⟨m', r', hm', hr', rfl⟩ | ⟨e', r', he', hr', rfl⟩
  · have : i' = 0 ∨ i' = 1 ∨ i' = 2 := by omega
    rcases this with rfl | rfl | rfl
    · by_cases h2 : j' = 2
      · subst h2
        rw [if_pos ⟨rfl, rfl⟩]
        show ((o + sa (uf q 46 e 46) : Nat) : Int) = _
        rw [uf_at]
      · rw [if_neg (fun q => h2 q.2)]
        show (if j' = 0 then _ else if j' = 1 then _ else if j' = 2 then _ else _) = (if j' = 0 then _ else if j' = 1 then _ else if j' = 2 then _ else _)
        rw [if_neg h2, if_neg h2]
    · rw [if_neg (by omega)]; rfl
    · rw [if_neg (by omega)]
      show (if j' < 46 then ((o + sa (uf q 46 e j') : Nat) : Int) else 0) = (if j' < 46 then ((o + sa (q j') : Nat) : Int) else 0)
      by_cases h46 : j' < 46
      · rw [if_pos h46, if_pos h46, uf_ne (by omega)]
      · rw [if_neg h46, if_neg h46]
  · rw [nC_e hm' hr', nC_e hm' hr', if_neg (by omega)]
  · rw [nC_g he' hr', nC_g he' hr', if_neg (by have := sa_b he'; omega)]
theorem nP_um (hj : j < 46) : up (nP V o A B S q) (o + 2) j ((o + sa e : Nat) : Int) = nP V o A B S (uf q j e) := by
  refine bS_u (a := o) (i := 2) (by omega) (fun i' j' hi' => ?_)
  rcases nP_cs hi' with h3 | ⟨m', r', hm', hr', rfl⟩ | ⟨e', r', he', hr', rfl⟩
  · have : i' = 0 ∨ i' = 1 ∨ i' = 2 := by omega
    rcases this with rfl | rfl | rfl
    · rw [if_neg (by omega)]
      show (if j' = 0 then _ else if j' = 1 then _ else if j' = 2 then ((o + sa (uf q j e 46) : Nat) : Int) else _) = (if j' = 0 then _ else if j' = 1 then _ else if j' = 2 then _ else _)
      rw [uf_ne (by omega)]
    · rw [if_neg (by omega)]; rfl
    · show (if j' < 46 then ((o + sa (uf q j e j') : Nat) : Int) else 0) = if 2 = 2 ∧ j' = j then _ else (if j' < 46 then ((o + sa (q j') : Nat) : Int) else 0)
      by_cases h2 : j' = j
      · rw [if_pos (by omega), if_pos ⟨rfl, h2⟩, h2, uf_at]
      · rw [if_neg (c := 2 = 2 ∧ j' = j) (fun q => h2 q.2), uf_ne h2]
  · rw [nC_e hm' hr', nC_e hm' hr', if_neg (by omega)]
  · rw [nC_g he' hr', nC_g he' hr', if_neg (by have := sa_b he'; omega)]
/-- a pass in a net, taken out and put back -/
def pS (V : VH) (p : Nat) (b : Nat → Int) : VH := bS V p 4 (pic pI (pZ p) b)
theorem pe_i {r : Nat} {M : Nat} {b : Nat → Int} (hr : r < 4) : pic eI (eZ M) b (5 + r) j = pic pI (pZ (M + 5)) b r j := by
  have h1 : eI (5 + r) j = pI r j := by
    unfold eI
    rw [if_neg (by omega), if_neg (by omega), show 5 + r - 5 = r by omega]
  have h2 : eZ M (5 + r) j = pZ (M + 5) r j := by
    unfold eZ
    rw [if_neg (by omega), if_neg (by omega), show 5 + r - 5 = r by omega]
  unfold pic
  rw [h1, h2]
theorem pg_i {r : Nat} {M : Nat} {b : Nat → Int} : pic gI (gZ M) b (1 + r) j = pic pI (pZ (M + 1)) b r j := by
  have h1 : gI (1 + r) j = pI r j := by
    unfold gI
    rw [if_neg (by omega), show 1 + r - 1 = r by omega]
  have h2 : gZ M (1 + r) j = pZ (M + 1) r j := by
    unfold gZ
    rw [if_neg (by omega), show 1 + r - 1 = r by omega]
  unfold pic
  rw [h1, h2]
theorem pS_id {p : Nat} {b : Nat → Int} (h : ∀ r j, r < 4 → V (p + r) j = pic pI (pZ p) b r j) : pS V p b = V := by
  funext c j
  unfold pS bS
  by_cases hc : p ≤ c ∧ c < p + 4
  · rw [if_pos hc, ← h _ _ (by omega), show p + (c - p) = c by omega]
  · rw [if_neg hc]
theorem nP_pe (hm : m < 6) : pS (nP V o A B S q) (o + (8 + 9 * m) + 5) (B m) = nP V o A B S q :=
  pS_id (fun r j hr => by rw [show o + (8 + 9 * m) + 5 + r = o + (8 + 9 * m) + (5 + r) by omega, nP_e hm (by omega), pe_i hr])
theorem nP_pg (he : e < 47) : pS (nP V o A B S q) (o + sa e + 1) (S e) = nP V o A B S q :=
  pS_id (fun r j hr => by rw [show o + sa e + 1 + r = o + sa e + (1 + r) by omega, nP_g he (by omega), pg_i])
/-- a pass's numbers over a row -/
def pov (b' b : Nat → Int) : Nat → Int := fun i => if 30 ≤ i ∧ i < 50 then b' i else b i
theorem pic_pov {r M : Nat} {b b' : Nat → Int} : pic pI (pZ M) b' r j = pic pI (pZ M) (pov b' b) r j := by
  cases hI : pI r j with
  | none => rw [pic_n hI, pic_n hI]
  | some i =>
    have := pI_lo hI
    rw [pic_s hI, pic_s hI]
    exact (if_pos (by omega)).symm
theorem nP_qe (hm : m < 6) {b : Nat → Int} : pS (nP V o A B S q) (o + (8 + 9 * m) + 5) b = nP V o A (uR B m (pov b (B m))) S q := by
  funext c j'
  unfold pS
  by_cases hc : o + (8 + 9 * m) + 5 ≤ c ∧ c < o + (8 + 9 * m) + 5 + 4
  · obtain ⟨r, rfl⟩ : ∃ r, c = o + (8 + 9 * m) + 5 + r := ⟨c - (o + (8 + 9 * m) + 5), by omega⟩
    rw [bS_i (by omega), show o + (8 + 9 * m) + 5 + r = o + (8 + 9 * m) + (5 + r) by omega, nP_e hm (by omega), pe_i (by omega), uR_at]
    exact pic_pov
  · rw [bS_o (by omega)]
    by_cases hc2 : o ≤ c ∧ c < o + 292
    · obtain ⟨i, rfl⟩ : ∃ i, c = o + i := ⟨c - o, by omega⟩
      rcases nP_cs (show i < 292 by omega) with h3 | ⟨m', r', hm', hr', rfl⟩ | ⟨e', r', he', hr', rfl⟩
      · show bS _ _ _ _ _ _ = bS _ _ _ _ _ _
        rw [bS_i (by omega), bS_i (by omega)]
        have : i = 0 ∨ i = 1 ∨ i = 2 := by omega
        rcases this with rfl | rfl | rfl <;> rfl
      · rw [← Nat.add_assoc, nP_e hm' hr', nP_e hm' hr']
        by_cases hmm : m' = m
        · subst hmm
          have h9 : r' < 5 := by omega
          rw [uR_at]
          cases hI : eI r' j' with
          | none => rw [pic_n hI, pic_n hI]
          | some i =>
            rw [pic_s hI, pic_s hI]
            refine (if_neg ?_).symm
            unfold eI at hI
            grind (splits := 40)
        · rw [uR_ne hmm]
      · rw [← Nat.add_assoc, nP_g he' hr', nP_g he' hr']
    · rw [nP_o (by omega), nP_o (by omega)]
theorem nP_qg (he : e < 47) {b : Nat → Int} : pS (nP V o A B S q) (o + sa e + 1) b = nP V o A B (uR S e (pov b (S e))) q := by
  have hb := sa_b he
  funext c j'
  unfold pS
  by_cases hc : o + sa e + 1 ≤ c ∧ c < o + sa e + 1 + 4
  · obtain ⟨r, rfl⟩ : ∃ r, c = o + sa e + 1 + r := ⟨c - (o + sa e + 1), by omega⟩
    rw [bS_i (by omega), show o + sa e + 1 + r = o + sa e + (1 + r) by omega, nP_g he (by omega), pg_i, uR_at]
    exact pic_pov
  · rw [bS_o (by omega)]
    by_cases hc2 : o ≤ c ∧ c < o + 292
    · obtain ⟨i, rfl⟩ : ∃ i, c = o + i := ⟨c - o, by omega⟩
      rcases nP_cs (show i < 292 by omega) with h3 | ⟨m', r', hm', hr', rfl⟩ | ⟨e', r', he', hr', rfl⟩
      · show bS _ _ _ _ _ _ = bS _ _ _ _ _ _
        rw [bS_i (by omega), bS_i (by omega)]
        have : i = 0 ∨ i = 1 ∨ i = 2 := by omega
        rcases this with rfl | rfl | rfl <;> rfl
      · rw [← Nat.add_assoc, nP_e hm' hr', nP_e hm' hr']
      · have hb' := sa_b he'
        rw [← Nat.add_assoc, nP_g he' hr', nP_g he' hr']
        by_cases hmm : e' = e
        · subst hmm
          have h9 : r' = 0 := by omega
          subst h9
          rw [uR_at]
          cases hI : gI 0 j' with
          | none => rw [pic_n hI, pic_n hI]
          | some i =>
            rw [pic_s hI, pic_s hI]
            refine (if_neg ?_).symm
            unfold gI at hI
            grind (splits := 40)
        · rw [uR_ne hmm]
    · rw [nP_o (by omega), nP_o (by omega)]
theorem n_r0 : nP V o A B S q o 0 = ((o + 1 : Nat) : Int) := nP_0.trans rfl
theorem n_r1 : nP V o A B S q o 1 = ((o + 2 : Nat) : Int) := nP_0.trans rfl
theorem n_r2 : nP V o A B S q o 2 = ((o + sa (q 46) : Nat) : Int) := nP_0.trans rfl
theorem n_r3 : nP V o A B S q o 3 = A 0 := nP_0.trans rfl
theorem n_w3 : up (nP V o A B S q) o 3 x = nP V o (u1 A 0 x) B S q := nP_un rfl (by omega)
theorem n_r4 : nP V o A B S q o 4 = A 5 := nP_0.trans rfl
theorem n_w4 : up (nP V o A B S q) o 4 x = nP V o (u1 A 5 x) B S q := nP_un rfl (by omega)
theorem n_r5 : nP V o A B S q o 5 = A 1 := nP_0.trans rfl
theorem n_w5 : up (nP V o A B S q) o 5 x = nP V o (u1 A 1 x) B S q := nP_un rfl (by omega)
theorem n_r6 : nP V o A B S q o 6 = A 2 := nP_0.trans rfl
theorem n_w6 : up (nP V o A B S q) o 6 x = nP V o (u1 A 2 x) B S q := nP_un rfl (by omega)
theorem n_r7 : nP V o A B S q o 7 = A 3 := nP_0.trans rfl
theorem n_w7 : up (nP V o A B S q) o 7 x = nP V o (u1 A 3 x) B S q := nP_un rfl (by omega)
theorem n_r8 : nP V o A B S q o 8 = A 4 := nP_0.trans rfl
theorem n_w8 : up (nP V o A B S q) o 8 x = nP V o (u1 A 4 x) B S q := nP_un rfl (by omega)
theorem n_r9 : nP V o A B S q o 9 = A 6 := nP_0.trans rfl
theorem n_w9 : up (nP V o A B S q) o 9 x = nP V o (u1 A 6 x) B S q := nP_un rfl (by omega)
theorem n_r10 : nP V o A B S q o 10 = A 7 := nP_0.trans rfl
theorem n_w10 : up (nP V o A B S q) o 10 x = nP V o (u1 A 7 x) B S q := nP_un rfl (by omega)
theorem n_all (hj : j < 6) : nP V o A B S q (o + 1) j = ((o + (8 + 9 * j) : Nat) : Int) := (bS_i (i := 1) (by omega)).trans (if_pos hj)
theorem n_mail (hj : j < 46) : nP V o A B S q (o + 2) j = ((o + sa (q j) : Nat) : Int) := (bS_i (i := 2) (by omega)).trans (if_pos hj)
theorem n_m0 (hm : m < 6) : nP V o A B S q (o + (8 + 9 * m)) 0 = ((o + (8 + 9 * m) + 1 : Nat) : Int) := (nP_e (r := 0) hm (by omega)).trans rfl
theorem n_m1 (hm : m < 6) : nP V o A B S q (o + (8 + 9 * m)) 1 = ((o + (8 + 9 * m) + 2 : Nat) : Int) := (nP_e (r := 0) hm (by omega)).trans rfl
theorem n_m2 (hm : m < 6) : nP V o A B S q (o + (8 + 9 * m)) 2 = ((o + (8 + 9 * m) + 3 : Nat) : Int) := (nP_e (r := 0) hm (by omega)).trans rfl
theorem n_m3 (hm : m < 6) : nP V o A B S q (o + (8 + 9 * m)) 3 = ((o + (8 + 9 * m) + 4 : Nat) : Int) := (nP_e (r := 0) hm (by omega)).trans rfl
theorem n_m4 (hm : m < 6) : nP V o A B S q (o + (8 + 9 * m)) 4 = ((o + (8 + 9 * m) + 5 : Nat) : Int) := (nP_e (r := 0) hm (by omega)).trans rfl
theorem n_m5 (hm : m < 6) : nP V o A B S q (o + (8 + 9 * m)) 5 = B m 51 := (nP_e (r := 0) hm (by omega)).trans rfl
theorem n_u5 (hm : m < 6) : up (nP V o A B S q) (o + (8 + 9 * m)) 5 x = nP V o A (uR B m (u1 (B m) 51 x)) S q := nP_ue (r := 0) hm (by omega) rfl
theorem n_m6 (hm : m < 6) : nP V o A B S q (o + (8 + 9 * m)) 6 = B m 0 := (nP_e (r := 0) hm (by omega)).trans rfl
theorem n_u6 (hm : m < 6) : up (nP V o A B S q) (o + (8 + 9 * m)) 6 x = nP V o A (uR B m (u1 (B m) 0 x)) S q := nP_ue (r := 0) hm (by omega) rfl
theorem n_m7 (hm : m < 6) : nP V o A B S q (o + (8 + 9 * m)) 7 = B m 1 := (nP_e (r := 0) hm (by omega)).trans rfl
theorem n_u7 (hm : m < 6) : up (nP V o A B S q) (o + (8 + 9 * m)) 7 x = nP V o A (uR B m (u1 (B m) 1 x)) S q := nP_ue (r := 0) hm (by omega) rfl
theorem n_m8 (hm : m < 6) : nP V o A B S q (o + (8 + 9 * m)) 8 = B m 4 := (nP_e (r := 0) hm (by omega)).trans rfl
theorem n_u8 (hm : m < 6) : up (nP V o A B S q) (o + (8 + 9 * m)) 8 x = nP V o A (uR B m (u1 (B m) 4 x)) S q := nP_ue (r := 0) hm (by omega) rfl
theorem n_m9 (hm : m < 6) : nP V o A B S q (o + (8 + 9 * m)) 9 = B m 5 := (nP_e (r := 0) hm (by omega)).trans rfl
theorem n_u9 (hm : m < 6) : up (nP V o A B S q) (o + (8 + 9 * m)) 9 x = nP V o A (uR B m (u1 (B m) 5 x)) S q := nP_ue (r := 0) hm (by omega) rfl
theorem n_m10 (hm : m < 6) : nP V o A B S q (o + (8 + 9 * m)) 10 = B m 2 := (nP_e (r := 0) hm (by omega)).trans rfl
theorem n_u10 (hm : m < 6) : up (nP V o A B S q) (o + (8 + 9 * m)) 10 x = nP V o A (uR B m (u1 (B m) 2 x)) S q := nP_ue (r := 0) hm (by omega) rfl
theorem n_m11 (hm : m < 6) : nP V o A B S q (o + (8 + 9 * m)) 11 = B m 3 := (nP_e (r := 0) hm (by omega)).trans rfl
theorem n_u11 (hm : m < 6) : up (nP V o A B S q) (o + (8 + 9 * m)) 11 x = nP V o A (uR B m (u1 (B m) 3 x)) S q := nP_ue (r := 0) hm (by omega) rfl
theorem n_m12 (hm : m < 6) : nP V o A B S q (o + (8 + 9 * m)) 12 = B m 50 := (nP_e (r := 0) hm (by omega)).trans rfl
theorem n_u12 (hm : m < 6) : up (nP V o A B S q) (o + (8 + 9 * m)) 12 x = nP V o A (uR B m (u1 (B m) 50 x)) S q := nP_ue (r := 0) hm (by omega) rfl
theorem n_a1 (hm : m < 6) (hj : j < 6) : nP V o A B S q (o + (8 + 9 * m) + 1) j = B m (6 + j) := (nP_e (r := 1) hm (by omega)).trans (pic_s (by simp [eI, pI, hj]))
theorem n_b1 (hm : m < 6) (hj : j < 6) : up (nP V o A B S q) (o + (8 + 9 * m) + 1) j x = nP V o A (uR B m (u1 (B m) (6 + j) x)) S q := nP_ue (r := 1) hm (by omega) (by simp [eI, pI, hj])
theorem n_a2 (hm : m < 6) (hj : j < 6) : nP V o A B S q (o + (8 + 9 * m) + 2) j = B m (12 + j) := (nP_e (r := 2) hm (by omega)).trans (pic_s (by simp [eI, pI, hj]))
theorem n_b2 (hm : m < 6) (hj : j < 6) : up (nP V o A B S q) (o + (8 + 9 * m) + 2) j x = nP V o A (uR B m (u1 (B m) (12 + j) x)) S q := nP_ue (r := 2) hm (by omega) (by simp [eI, pI, hj])
theorem n_a3 (hm : m < 6) (hj : j < 6) : nP V o A B S q (o + (8 + 9 * m) + 3) j = B m (18 + j) := (nP_e (r := 3) hm (by omega)).trans (pic_s (by simp [eI, pI, hj]))
theorem n_b3 (hm : m < 6) (hj : j < 6) : up (nP V o A B S q) (o + (8 + 9 * m) + 3) j x = nP V o A (uR B m (u1 (B m) (18 + j) x)) S q := nP_ue (r := 3) hm (by omega) (by simp [eI, pI, hj])
theorem n_a4 (hm : m < 6) (hj : j < 6) : nP V o A B S q (o + (8 + 9 * m) + 4) j = B m (24 + j) := (nP_e (r := 4) hm (by omega)).trans (pic_s (by simp [eI, pI, hj]))
theorem n_b4 (hm : m < 6) (hj : j < 6) : up (nP V o A B S q) (o + (8 + 9 * m) + 4) j x = nP V o A (uR B m (u1 (B m) (24 + j) x)) S q := nP_ue (r := 4) hm (by omega) (by simp [eI, pI, hj])
theorem n_a6 (hm : m < 6) (hj : j < 6) : nP V o A B S q (o + (8 + 9 * m) + 6) j = B m (32 + j) := (nP_e (r := 6) hm (by omega)).trans (pic_s (by simp [eI, pI, hj]))
theorem n_b6 (hm : m < 6) (hj : j < 6) : up (nP V o A B S q) (o + (8 + 9 * m) + 6) j x = nP V o A (uR B m (u1 (B m) (32 + j) x)) S q := nP_ue (r := 6) hm (by omega) (by simp [eI, pI, hj])
theorem n_a7 (hm : m < 6) (hj : j < 6) : nP V o A B S q (o + (8 + 9 * m) + 7) j = B m (38 + j) := (nP_e (r := 7) hm (by omega)).trans (pic_s (by simp [eI, pI, hj]))
theorem n_b7 (hm : m < 6) (hj : j < 6) : up (nP V o A B S q) (o + (8 + 9 * m) + 7) j x = nP V o A (uR B m (u1 (B m) (38 + j) x)) S q := nP_ue (r := 7) hm (by omega) (by simp [eI, pI, hj])
theorem n_a8 (hm : m < 6) (hj : j < 6) : nP V o A B S q (o + (8 + 9 * m) + 8) j = B m (44 + j) := (nP_e (r := 8) hm (by omega)).trans (pic_s (by simp [eI, pI, hj]))
theorem n_b8 (hm : m < 6) (hj : j < 6) : up (nP V o A B S q) (o + (8 + 9 * m) + 8) j x = nP V o A (uR B m (u1 (B m) (44 + j) x)) S q := nP_ue (r := 8) hm (by omega) (by simp [eI, pI, hj])
theorem n_p0 (hm : m < 6) : nP V o A B S q (o + (8 + 9 * m) + 5) 0 = ((o + (8 + 9 * m) + 6 : Nat) : Int) := (nP_e (r := 5) hm (by omega)).trans rfl
theorem n_p1 (hm : m < 6) : nP V o A B S q (o + (8 + 9 * m) + 5) 1 = ((o + (8 + 9 * m) + 7 : Nat) : Int) := (nP_e (r := 5) hm (by omega)).trans rfl
theorem n_p2 (hm : m < 6) : nP V o A B S q (o + (8 + 9 * m) + 5) 2 = ((o + (8 + 9 * m) + 8 : Nat) : Int) := (nP_e (r := 5) hm (by omega)).trans rfl
theorem n_p3 (hm : m < 6) : nP V o A B S q (o + (8 + 9 * m) + 5) 3 = B m 30 := (nP_e (r := 5) hm (by omega)).trans rfl
theorem n_q3 (hm : m < 6) : up (nP V o A B S q) (o + (8 + 9 * m) + 5) 3 x = nP V o A (uR B m (u1 (B m) 30 x)) S q := nP_ue (r := 5) hm (by omega) rfl
theorem n_p4 (hm : m < 6) : nP V o A B S q (o + (8 + 9 * m) + 5) 4 = B m 31 := (nP_e (r := 5) hm (by omega)).trans rfl
theorem n_q4 (hm : m < 6) : up (nP V o A B S q) (o + (8 + 9 * m) + 5) 4 x = nP V o A (uR B m (u1 (B m) 31 x)) S q := nP_ue (r := 5) hm (by omega) rfl
theorem n_g0 (he : e < 47) : nP V o A B S q (o + sa e) 0 = ((o + sa e + 1 : Nat) : Int) := (nP_g (r := 0) he (by omega)).trans rfl
theorem n_g1 (he : e < 47) : nP V o A B S q (o + sa e) 1 = S e 0 := (nP_g (r := 0) he (by omega)).trans rfl
theorem n_h1 (he : e < 47) : up (nP V o A B S q) (o + sa e) 1 x = nP V o A B (uR S e (u1 (S e) 0 x)) q := nP_ug (r := 0) he (by omega) rfl
theorem n_g2 (he : e < 47) : nP V o A B S q (o + sa e) 2 = S e 1 := (nP_g (r := 0) he (by omega)).trans rfl
theorem n_h2 (he : e < 47) : up (nP V o A B S q) (o + sa e) 2 x = nP V o A B (uR S e (u1 (S e) 1 x)) q := nP_ug (r := 0) he (by omega) rfl
theorem n_g3 (he : e < 47) : nP V o A B S q (o + sa e) 3 = S e 2 := (nP_g (r := 0) he (by omega)).trans rfl
theorem n_h3 (he : e < 47) : up (nP V o A B S q) (o + sa e) 3 x = nP V o A B (uR S e (u1 (S e) 2 x)) q := nP_ug (r := 0) he (by omega) rfl
theorem n_g4 (he : e < 47) : nP V o A B S q (o + sa e) 4 = S e 3 := (nP_g (r := 0) he (by omega)).trans rfl
theorem n_h4 (he : e < 47) : up (nP V o A B S q) (o + sa e) 4 x = nP V o A B (uR S e (u1 (S e) 3 x)) q := nP_ug (r := 0) he (by omega) rfl
theorem n_g5 (he : e < 47) : nP V o A B S q (o + sa e) 5 = S e 4 := (nP_g (r := 0) he (by omega)).trans rfl
theorem n_h5 (he : e < 47) : up (nP V o A B S q) (o + sa e) 5 x = nP V o A B (uR S e (u1 (S e) 4 x)) q := nP_ug (r := 0) he (by omega) rfl
theorem n_k0 (he : e < 47) : nP V o A B S q (o + sa e + 1) 0 = ((o + sa e + 2 : Nat) : Int) := (nP_g (r := 1) he (by omega)).trans rfl
theorem n_k1 (he : e < 47) : nP V o A B S q (o + sa e + 1) 1 = ((o + sa e + 3 : Nat) : Int) := (nP_g (r := 1) he (by omega)).trans rfl
theorem n_k2 (he : e < 47) : nP V o A B S q (o + sa e + 1) 2 = ((o + sa e + 4 : Nat) : Int) := (nP_g (r := 1) he (by omega)).trans rfl
theorem n_k3 (he : e < 47) : nP V o A B S q (o + sa e + 1) 3 = S e 30 := (nP_g (r := 1) he (by omega)).trans rfl
theorem n_k4 (he : e < 47) : nP V o A B S q (o + sa e + 1) 4 = S e 31 := (nP_g (r := 1) he (by omega)).trans rfl
theorem n_l2 (he : e < 47) (hj : j < 6) : nP V o A B S q (o + sa e + 2) j = S e (32 + j) := (nP_g (r := 2) he (by omega)).trans (pic_s (by simp [gI, pI, hj]))
theorem n_l3 (he : e < 47) (hj : j < 6) : nP V o A B S q (o + sa e + 3) j = S e (38 + j) := (nP_g (r := 3) he (by omega)).trans (pic_s (by simp [gI, pI, hj]))
theorem n_l4 (he : e < 47) (hj : j < 6) : nP V o A B S q (o + sa e + 4) j = S e (44 + j) := (nP_g (r := 4) he (by omega)).trans (pic_s (by simp [gI, pI, hj]))
end NP
/-- kinds and lengths of a net -/
def NK (Γ : GM) (o : Nat) : Prop :=
  (Γ.1 o = 4 ∧ Γ.1 (o + 1) = 13 ∧ Γ.1 (o + 2) = 14) ∧ ((Γ.2.1 (o + 1) : Int) = 6 ∧ (Γ.2.1 (o + 2) : Int) = 46) ∧
  ((∀ m, m < 6 → Γ.1 (o + (8 + 9 * m)) = 2) ∧ (∀ m, m < 6 → Γ.1 (o + (8 + 9 * m) + 1) = 10) ∧ (∀ m, m < 6 → Γ.1 (o + (8 + 9 * m) + 2) = 10) ∧ (∀ m, m < 6 → Γ.1 (o + (8 + 9 * m) + 3) = 10) ∧ (∀ m, m < 6 → Γ.1 (o + (8 + 9 * m) + 4) = 10) ∧ (∀ m, m < 6 → Γ.1 (o + (8 + 9 * m) + 5) = 5) ∧ (∀ m, m < 6 → Γ.1 (o + (8 + 9 * m) + 6) = 10) ∧ (∀ m, m < 6 → Γ.1 (o + (8 + 9 * m) + 7) = 10) ∧ (∀ m, m < 6 → Γ.1 (o + (8 + 9 * m) + 8) = 10)) ∧
  ((∀ m, m < 6 → (Γ.2.1 (o + (8 + 9 * m) + 1) : Int) = 6) ∧ (∀ m, m < 6 → (Γ.2.1 (o + (8 + 9 * m) + 2) : Int) = 6) ∧ (∀ m, m < 6 → (Γ.2.1 (o + (8 + 9 * m) + 3) : Int) = 6) ∧ (∀ m, m < 6 → (Γ.2.1 (o + (8 + 9 * m) + 4) : Int) = 6) ∧ (∀ m, m < 6 → (Γ.2.1 (o + (8 + 9 * m) + 6) : Int) = 6) ∧ (∀ m, m < 6 → (Γ.2.1 (o + (8 + 9 * m) + 7) : Int) = 6) ∧ (∀ m, m < 6 → (Γ.2.1 (o + (8 + 9 * m) + 8) : Int) = 6)) ∧
  ((∀ e, e < 47 → Γ.1 (o + sa e) = 3) ∧ (∀ e, e < 47 → Γ.1 (o + sa e + 1) = 5) ∧ (∀ e, e < 47 → Γ.1 (o + sa e + 2) = 10) ∧ (∀ e, e < 47 → Γ.1 (o + sa e + 3) = 10) ∧ (∀ e, e < 47 → Γ.1 (o + sa e + 4) = 10)) ∧
  ((∀ e, e < 47 → (Γ.2.1 (o + sa e + 2) : Int) = 6) ∧ (∀ e, e < 47 → (Γ.2.1 (o + sa e + 3) : Int) = 6) ∧ (∀ e, e < 47 → (Γ.2.1 (o + sa e + 4) : Int) = 6))
theorem nat_s {k : Nat} : (k : Int) + 1 = ((k + 1 : Nat) : Int) := rfl
theorem iltT {x y : Int} (h : x < y) : (x < y) = True := eq_true h
theorem iltF {x y : Int} (h : ¬ x < y) : (x < y) = False := eq_false h
theorem ileT {x y : Int} (h : x ≤ y) : (x ≤ y) = True := eq_true h
theorem ieqT {x y : Int} (h : x = y) : (x = y) = True := eq_true h
theorem ieqF {x y : Int} (h : ¬ x = y) : (x = y) = False := eq_false h
