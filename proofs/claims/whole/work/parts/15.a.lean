/-! THE WORLD at the law's entry -/
theorem ins_in : ∀ c, c < 9 → Cond.instantiable (rnm c) (nf c) ∈ lw_tbl := by decide +kernel
theorem nsl_in : ∀ q ∈ nsl, q ∈ lw_tbl := by decide +kernel
theorem dcl_in : ∀ q ∈ dcl, Cond.declares q ∈ lw_tbl := by decide +kernel
def stk : List Nat := [59, 78, 93, 95, 97, 99, 101, 103]
theorem sok_in : ∀ q ∈ sok, Cond.stringRef RX5 q.1 (stx.getD q.2 "") ∈ lw_tbl ∧ q.2 < 8 ∧ stk.getD q.2 0 = q.1 := by decide +kernel
section W0
variable {s : State} {b : Nat} {args : Array Value}
theorem w0_cls (hts : ∀ q ∈ lw_tbl, q.before args s = true) : ∃ (C : Nat → ClassId) (I : Nat → Nat → Nat), ∀ (c : Nat) (q : vw_C), vwCl[c]? = some q → u_Kn s q.1 q.2.1 q.2.2 (C c) (I c) := by
  have lk : ∀ q ∈ lw_g, q.before args s = true := fun q hq => hts q (List.mem_filter.mp hq).1
  have h : ∀ c : Nat, ∃ f : ClassId × (Nat → Nat), ∀ q, vwCl[c]? = some q → u_Kn s q.1 q.2.1 q.2.2 f.1 f.2 := by
    intro c
    by_cases hc : c < 9
    · obtain ⟨C, T, N, c1, c2, c3, c4, -⟩ := cf_ok c hc
      obtain ⟨cC, iS, hk⟩ := u_known (n := nf c) lk c4 (by rw [c2]; exact hts _ (ins_in c hc))
      exact ⟨(cC, iS), fun q hq => by rw [c1] at hq; cases hq; exact hk⟩
    · exact ⟨((0 : Nat), fun _ => 0), fun q hq => by
        rw [List.getElem?_eq_none (show vwCl.length ≤ c from by have : vwCl.length = 9 := rfl; omega)] at hq
        cases hq⟩
  obtain ⟨f, hf⟩ := Classical.axiomOfChoice h
  exact ⟨fun c => (f c).1, fun c => (f c).2, hf⟩
theorem w0_arr (hts : ∀ q ∈ lw_tbl, q.before args s = true) : ∃ A : Nat → ClassId, ∀ (k : Nat) (q : ClassId × FieldType), ([(A 10, .int), (A 11, .byte), (A 12, .long), (A 13, .object RX1), (A 14, .object RX2), (A 15, .object RX3)] : List (ClassId × FieldType))[k]? = some q → ArrOfT s q.1 q.2 ∧ va_RA s q.1 q.2 := by
  obtain ⟨a, ka, ca, a1, a2, a3⟩ := Cond.arrayClass_spec (hts (.arrayClass .int) (by decide +kernel))
  obtain ⟨b, kb, cb, b1, b2, b3⟩ := Cond.arrayClass_spec (hts (.arrayClass .byte) (by decide +kernel))
  obtain ⟨c, kc, cc, c1, c2, c3⟩ := Cond.arrayClass_spec (hts (.arrayClass .long) (by decide +kernel))
  obtain ⟨cd, d, kd, d1, -, d2, d3, d4⟩ := Cond.arrayOver_spec (hts (.arrayOver (.object RX1)) (by decide +kernel))
  obtain ⟨ce, e, ke, e1, -, e2, e3, e4⟩ := Cond.arrayOver_spec (hts (.arrayOver (.object RX2)) (by decide +kernel))
  obtain ⟨cf, f, kf, f1, -, f2, f3, f4⟩ := Cond.arrayOver_spec (hts (.arrayOver (.object RX3)) (by decide +kernel))
  refine ⟨fun k => if k = 10 then a else if k = 11 then b else if k = 12 then c else if k = 13 then d else if k = 14 then e else f, fun k q hk => ?_⟩
  match k, hk with
  | 0, hk => cases hk; exact ⟨fun N z => ⟨(fun k h => by cases h), ka, a2, ca, a3⟩, a1⟩
  | 1, hk => cases hk; exact ⟨fun N z => ⟨(fun k h => by cases h), kb, b2, cb, b3⟩, b1⟩
  | 2, hk => cases hk; exact ⟨fun N z => ⟨(fun k h => by cases h), kc, c2, cc, c3⟩, c1⟩
  | 3, hk => cases hk; exact ⟨fun N z => ⟨(fun k h => by cases h), kd, d2, cd, d3⟩, kd, cd, d2, d3, d1, d4⟩
  | 4, hk => cases hk; exact ⟨fun N z => ⟨(fun k h => by cases h), ke, e2, ce, e3⟩, ke, ce, e2, e3, e1, e4⟩
  | 5, hk => cases hk; exact ⟨fun N z => ⟨(fun k h => by cases h), kf, f2, cf, f3⟩, kf, cf, f2, f3, f1, f4⟩
  | k + 6, hk => simp at hk
theorem w0 (l : Launch) (hst : l.stackTraces = false) (hts : ∀ q ∈ lw_tbl, q.before args s = true) (hgv : (Jvm.Cond.and given_1 narrow_1).before args s = true) {scr : Cell} (hof : s.isArrayOf scr .int) : ∃ w : WP, tw_L w = l ∧ tw_Z w = s.heap.size ∧ tw_S w = scr ∧ tw_B w = b ∧ KU w s ∧ SU w s s.heap := by
  obtain ⟨C, I, hC⟩ := w0_cls hts
  obtain ⟨A, hA⟩ := w0_arr hts
  have hs := flat_of_before _ hgv
  have nA : ∀ a : Nat, a < s.heap.size → ¬ s.heap.size ≤ a := fun a h => by omega
  obtain ⟨K, Vv, hK, hKe⟩ := vk_Sof (N := 8) (tm := fun i => Term.string RX5 (stk.getD i 0)) (len := sln) (byt := sby) (A := fun q => s.heap.size ≤ q) (by decide +kernel)
    (fun i hi => hs _ ((by decide +kernel : ∀ i, i < 8 → Cond.exactly (.string RX5 (stk.getD i 0)) "java/lang/String" ∈ _) i hi))
    (fun i hi => hs _ ((by decide +kernel : ∀ i, i < 8 → Cond.eq (.field (.string RX5 (stk.getD i 0)) "java/lang/String" "coder" "B") (.int 0) ∈ _) i hi))
    (fun i hi => hs _ ((by decide +kernel : ∀ i, i < 8 → Cond.arrayOf (.field (.string RX5 (stk.getD i 0)) "java/lang/String" "value" "[B") .byte ∈ _) i hi))
    (fun i hi => hs _ ((by decide +kernel : ∀ i, i < 8 → Cond.eq (.length (.field (.string RX5 (stk.getD i 0)) "java/lang/String" "value" "[B")) (.int (Int32.ofNat (sln.getD i 0))) ∈ _) i hi))
    (fun i hi j hj => hs _ ((by decide +kernel : ∀ i, i < 8 → ∀ j, j < sln.getD i 0 → Cond.eq (.elem (.field (.string RX5 (stk.getD i 0)) "java/lang/String" "value" "[B") (.int (Int32.ofNat j))) (.int ((sby.getD i []).getD j 0)) ∈ _) i hi j hj))
    (fun i j hi hj hij => (Nat.lt_or_ge i j).elim (fun h => Or.inl (hs _ ((by decide +kernel : ∀ i, i < 8 → ∀ j, j < 8 → i < j → Cond.not (Cond.eq (.string RX5 (stk.getD i 0)) (.string RX5 (stk.getD j 0))) ∈ _) i hi j hj h))) (fun h => Or.inr (hs _ ((by decide +kernel : ∀ i, i < 8 → ∀ j, j < 8 → i < j → Cond.not (Cond.eq (.string RX5 (stk.getD i 0)) (.string RX5 (stk.getD j 0))) ∈ _) j hj i hi (by omega)))))
    nA
  refine ⟨(l, C, I, A, s.heap.size, scr, b, K, Vv), rfl, rfl, rfl, rfl, ⟨⟨hC, hA⟩, fun q hq => ?_, ⟨va_AO.of (hts (.arrayOver (.object RX1)) (by decide +kernel)), va_AO.of (hts (.arrayOver (.object RX2)) (by decide +kernel)), va_AO.of (hts (.arrayOver (.object RX3)) (by decide +kernel))⟩, fun q hq => ?_, hof⟩, hK, hst, ⟨va_Zof (hts _ (by decide +kernel)) (hts _ (by decide +kernel)) (va_eqi (hs _ (by decide +kernel))) nA, va_Zqof (hts _ (by decide +kernel)) (hts _ (by decide +kernel)) (hs _ (by decide +kernel)) nA⟩, vx_Zqof (hts _ (by decide +kernel)) (hts _ (by decide +kernel)) (hs _ (by decide +kernel)) nA, vx_Zqof (hts _ (by decide +kernel)) (hts _ (by decide +kernel)) (hs _ (by decide +kernel)) nA, fun x hx => va_Nw.of rfl (hts _ (dcl_in x hx))⟩
  · have h := hts _ (nsl_in q hq)
    obtain ⟨z, -, rfl⟩ := List.mem_map.mp hq
    exact va_Nw.of rfl h
  · obtain ⟨h1, h2, h3⟩ := sok_in q hq
    have h4 := hKe q.2 h2
    rw [h3] at h4
    exact vk_R.of (hts _ h1) h4
end W0
