/-! THE HEAP at the law's entry -/
def ffd (K : Nat → Nat) (t : Nat) : Option Nat := (List.range 8).find? (fun k => t == K k + 1)
def gG (b L : Nat) (K : Nat → Nat) (z : Nat) : GM := (fun t => if t = b + 1 then 16 else if (ffd K t).isSome then 20 else 0, fun t => if t = b + 1 then L else sln.getD ((ffd K t).getD 0) 0, z)
def gV (b : Nat) (K : Nat → Nat) (xs : Nat → Int32) : VH := fun t j => if t = b + 1 then (xs j).toInt else ((sby.getD ((ffd K t).getD 0) []).getD j 0).toInt
theorem ffd_some {K : Nat → Nat} {t k : Nat} (h : ffd K t = some k) : k < 8 ∧ t = K k + 1 := by
  have h1 := List.find?_some h
  exact ⟨List.mem_range.mp (List.mem_of_find?_eq_some h), by simpa using h1⟩
theorem ffd_at {K : Nat → Nat} (hinj : ∀ i j : Nat, i < 8 → j < 8 → K i = K j → i = j) {k : Nat} (hk : k < 8) : ffd K (K k + 1) = some k := by
  cases h : ffd K (K k + 1) with
  | none =>
    have := List.find?_eq_none.mp h k (List.mem_range.mpr hk)
    simp at this
  | some i =>
    obtain ⟨h1, h2⟩ := ffd_some h
    rw [hinj i k h1 hk (by omega)]
section HE
variable {w : WP} {s : State} {b L : Nat} {xs : Nat → Int32}
theorem w0_RH (hz : tw_Z w = s.heap.size) (hB : tw_B w = b) (x1 : s.heap[b]? = some (tw_S w)) (x2 : (tw_S w).vm ≠ .unknown) (x3 : (tw_S w).slots.size = L) (x4 : ∀ j : Nat, j < L → (tw_S w).slots[j]? = some (.int (xs j))) (hL : L ≤ 3072) (hS : SU w s s.heap) : RH w (gG b L (tw_K w) s.heap.size) (gV b (tw_K w) xs) s.heap := by
  have hb : b < s.heap.size := (Array.getElem?_eq_some_iff.mp x1).1
  refine ⟨rfl, by omega, fun t ht => ?_⟩
  by_cases e : t = b + 1
  · subst e
    have g1 : (gG b L (tw_K w) s.heap.size).1 (b + 1) = 16 := if_pos rfl
    have g2 : (gG b L (tw_K w) s.heap.size).2.1 (b + 1) = L := if_pos rfl
    refine ⟨by omega, show b + 1 ≤ s.heap.size by omega, Or.inr (Or.inr (Or.inl ⟨g1, by rw [hB], by omega, by rw [g2]; omega, x1, x2, by rw [g2]; exact x3, fun j hj => ?_⟩))⟩
    rw [g2] at hj
    have v : gV b (tw_K w) xs (b + 1) j = (xs j).toInt := if_pos rfl
    rw [v, Int32.ofInt_toInt]
    exact ⟨x4 j hj, t32_ok _⟩
  · have h1 : (gG b L (tw_K w) s.heap.size).1 t = if (ffd (tw_K w) t).isSome then 20 else 0 := if_neg e
    cases hf : ffd (tw_K w) t with
    | none => exact absurd (by rw [h1, hf]; rfl) ht
    | some k =>
      obtain ⟨k1, k2⟩ := ffd_some hf
      obtain ⟨cell, hc, -⟩ := (hS.1.1 k k1).1
      have hk : tw_K w k < s.heap.size := (Array.getElem?_eq_some_iff.mp hc).1
      refine ⟨by omega, show t ≤ s.heap.size by omega, Or.inr (Or.inr (Or.inr ⟨by rw [h1, hf]; rfl, by omega, k, k1, k2, ?_, fun j hj => ?_⟩))⟩
      · show (if t = b + 1 then L else sln.getD ((ffd (tw_K w) t).getD 0) 0) = _
        rw [if_neg e, hf]
        rfl
      · show (if t = b + 1 then (xs j).toInt else ((sby.getD ((ffd (tw_K w) t).getD 0) []).getD j 0).toInt) = _
        rw [if_neg e, hf]
        rfl
theorem w0_str (x1 : s.heap[b]? = some (tw_S w)) (x3 : (tw_S w).slots.size = L) (x4 : ∀ j : Nat, j < L → (tw_S w).slots[j]? = some (.int (xs j))) (hS : SU w s s.heap) : strA w (gG b L (tw_K w) s.heap.size) (gV b (tw_K w) xs) (s.heap.size + 1) := by
  have hne : ∀ k, k < 8 → tw_K w k ≠ b := fun k hk h => by
    obtain ⟨cf, kk, i, f, cell, f1, f2, f3, f4, f5, f6⟩ := (hS.1.1 k hk).2.2.1
    rw [h, x1] at f3
    cases f3
    have : f.slot < L := by rw [← x3]; exact (Array.getElem?_eq_some_iff.mp f5).1
    rw [x4 _ this] at f5
    cases f5
  have hstr : ∀ (k : Nat) (l : List Int), k < 8 → sln.getD k 0 = l.length → (∀ j, j < l.length → ((sby.getD k []).getD j 0).toInt = l.getD (l.length - 1 - j) 0) → strI (gG b L (tw_K w) s.heap.size) (gV b (tw_K w) xs) (sad w k) l := fun k l hk h1 h2 => by
    have e : ¬ tw_K w k + 1 = b + 1 := by have := hne k hk; omega
    have hf := ffd_at hS.1.2 hk
    refine ⟨?_, ?_, fun j hj => ?_⟩
    · show (if tw_K w k + 1 = b + 1 then 16 else if (ffd (tw_K w) (tw_K w k + 1)).isSome then 20 else 0) = 20
      rw [if_neg e, hf]
      rfl
    · show (if tw_K w k + 1 = b + 1 then L else sln.getD ((ffd (tw_K w) (tw_K w k + 1)).getD 0) 0) = _
      rw [if_neg e, hf]
      exact h1
    · show (if tw_K w k + 1 = b + 1 then (xs j).toInt else ((sby.getD ((ffd (tw_K w) (tw_K w k + 1)).getD 0) []).getD j 0).toInt) = _
      rw [if_neg e, hf]
      exact h2 j hj
  refine ⟨fun k hk => ?_, hstr 0 _ (by omega) rfl (by decide), hstr 1 _ (by omega) rfl (by decide), hstr 2 _ (by omega) rfl (by decide), hstr 3 _ (by omega) rfl (by decide), hstr 4 _ (by omega) rfl (by decide), hstr 5 _ (by omega) rfl (by decide), hstr 6 _ (by omega) rfl (by decide), hstr 7 _ (by omega) rfl (by decide)⟩
  obtain ⟨cell, hc, -⟩ := (hS.1.1 k hk).1
  have := (Array.getElem?_eq_some_iff.mp hc).1
  show tw_K w k + 1 < s.heap.size + 1
  omega
end HE
