/-! THE CLASS: its invariant -/
abbrev TBL : Type := (Nat → Int) × (Nat → Nat → Int) × (Nat → Nat → Int) × (Nat → Nat)
/-- the heap holds the net t at u -/
def pN (V : VH) (u : Nat) (t : TBL) : Prop := ∀ i j, i < 292 → V (u + i) j = nC u t.1 t.2.1 t.2.2.1 t.2.2.2 i j
def ut (f : Nat → TBL) (u : Nat) (t : TBL) : Nat → TBL := fun v => if v = u then t else f v
theorem ut_at {f : Nat → TBL} {u : Nat} {t : TBL} : ut f u t u = t := if_pos rfl
theorem ut_ne {f : Nat → TBL} {u v : Nat} {t : TBL} (h : v ≠ u) : ut f u t v = f v := if_neg h
theorem pN.eq {V : VH} {u : Nat} {t : TBL} (h : pN V u t) : nP V u t.1 t.2.1 t.2.2.1 t.2.2.2 = V := (bS_eq (fun i j hi => h i j hi) (fun _ _ _ => rfl)).symm
theorem pN.new {V : VH} {u : Nat} {A : Nat → Int} {B S : Nat → Nat → Int} {q : Nat → Nat} : pN (nP V u A B S q) u (A, B, S, q) := fun _ _ hi => bS_i hi
theorem pN.fr {V V' : VH} {u : Nat} {t : TBL} (h : pN V u t) (hV : ∀ c j, u ≤ c → c < u + 292 → V' c j = V c j) : pN V' u t := fun i j hi => (hV _ _ (by omega) (by omega)).trans (h i j hi)
/-- the nets: slot 0 the net, 1 the paper, 2 + i the history's i-th -/
def LY (Γ : GM) (V : VH) (x Z : Nat) (ad : Nat → Nat) (tb : Nat → TBL) (hh : Nat) : Prop :=
  (∀ u, u < 2 + hh → NK Γ (ad u) ∧ QP (tb u).2.2.2 ∧ pN V (ad u) (tb u) ∧ (x + 11 ≤ ad u ∧ ad u + 292 ≤ x + 595 ∨ Z < ad u) ∧ ad u + 292 ≤ Γ.2.2 + 1) ∧ (∀ u v, u < 2 + hh → v < 2 + hh → u ≠ v → ad u + 292 ≤ ad v ∨ ad v + 292 ≤ ad u)
section LY
variable {Γ Γ' : GM} {V V' : VH} {x Z hh u : Nat} {ad : Nat → Nat} {tb : Nat → TBL}
theorem LY.fr (h : LY Γ V x Z ad tb hh) (hV : ∀ c j, (x + 11 ≤ c ∧ c < x + 595) ∨ Z < c → V' c j = V c j) : LY Γ V' x Z ad tb hh := by
  refine ⟨fun u hu => ?_, h.2⟩
  obtain ⟨a, b, c, e, f⟩ := h.1 u hu
  exact ⟨a, b, c.fr (fun c j h1 h2 => hV c j (by omega)), e, f⟩
theorem LY.set (h : LY Γ V x Z ad tb hh) (hu : u < 2 + hh) {A : Nat → Int} {B S : Nat → Nat → Int} {q : Nat → Nat} (hq : QP q) : LY Γ (nP V (ad u) A B S q) x Z ad (ut tb u (A, B, S, q)) hh := by
  refine ⟨fun v hv => ?_, h.2⟩
  obtain ⟨a, b, c, e, f⟩ := h.1 v hv
  by_cases hvu : v = u
  · subst hvu
    rw [ut_at]
    exact ⟨a, hq, pN.new, e, f⟩
  · rw [ut_ne hvu]
    have := h.2 v u hv hu hvu
    exact ⟨a, b, c.fr (fun c j h1 h2 => nP_o (by omega)), e, f⟩
theorem LY.perm (h : LY Γ V x Z ad tb hh) (σ : Nat → Nat) (h1 : ∀ u, u < 2 + hh → σ u < 2 + hh) (h2 : ∀ u v, u < 2 + hh → v < 2 + hh → σ u = σ v → u = v) : LY Γ V x Z (fun u => ad (σ u)) (fun u => tb (σ u)) hh :=
  ⟨fun u hu => h.1 (σ u) (h1 u hu), fun u v hu hv huv => h.2 (σ u) (σ v) (h1 u hu) (h1 v hv) (fun e => huv (h2 u v hu hv e))⟩
theorem NK.ext {o n : Nat} (h : NK Γ o) (hx : GX Γ Γ' n) (ho : o + 292 ≤ Γ.2.2 + 1) : NK Γ' o := by
  have e1 : ∀ i, i < 292 → Γ'.1 (o + i) = Γ.1 (o + i) := fun i hi => (hx.2 _ (by omega)).1
  have e2 : ∀ i, i < 292 → Γ'.2.1 (o + i) = Γ.2.1 (o + i) := fun i hi => (hx.2 _ (by omega)).2
  have s : ∀ e, e < 47 → sa e + 4 < 292 := fun e he => (sa_b he).1
  obtain ⟨⟨a0, a1, a2⟩, ⟨b1, b2⟩, ⟨c0, c1, c2, c3, c4, c5, c6, c7, c8⟩, ⟨d1, d2, d3, d4, d6, d7, d8⟩, ⟨e0, e3, e4, e5, e6⟩, f2, f3, f4⟩ := h
  refine ⟨⟨(e1 0 (by omega)).trans a0, (e1 1 (by omega)).trans a1, (e1 2 (by omega)).trans a2⟩, ⟨by rw [e2 1 (by omega)]; exact b1, by rw [e2 2 (by omega)]; exact b2⟩, ⟨fun m hm => ?_, fun m hm => ?_, fun m hm => ?_, fun m hm => ?_, fun m hm => ?_, fun m hm => ?_, fun m hm => ?_, fun m hm => ?_, fun m hm => ?_⟩, ⟨fun m hm => ?_, fun m hm => ?_, fun m hm => ?_, fun m hm => ?_, fun m hm => ?_, fun m hm => ?_, fun m hm => ?_⟩, ⟨fun e he => ?_, fun e he => ?_, fun e he => ?_, fun e he => ?_, fun e he => ?_⟩, fun e he => ?_, fun e he => ?_, fun e he => ?_⟩
  · exact (e1 (8 + 9 * m) (by omega)).trans (c0 m hm)
  · exact (e1 (8 + 9 * m + 1) (by omega)).trans (c1 m hm)
  · exact (e1 (8 + 9 * m + 2) (by omega)).trans (c2 m hm)
  · exact (e1 (8 + 9 * m + 3) (by omega)).trans (c3 m hm)
  · exact (e1 (8 + 9 * m + 4) (by omega)).trans (c4 m hm)
  · exact (e1 (8 + 9 * m + 5) (by omega)).trans (c5 m hm)
  · exact (e1 (8 + 9 * m + 6) (by omega)).trans (c6 m hm)
  · exact (e1 (8 + 9 * m + 7) (by omega)).trans (c7 m hm)
  · exact (e1 (8 + 9 * m + 8) (by omega)).trans (c8 m hm)
  · rw [show o + (8 + 9 * m) + 1 = o + (8 + 9 * m + 1) by omega, e2 _ (by omega)]; exact d1 m hm
  · rw [show o + (8 + 9 * m) + 2 = o + (8 + 9 * m + 2) by omega, e2 _ (by omega)]; exact d2 m hm
  · rw [show o + (8 + 9 * m) + 3 = o + (8 + 9 * m + 3) by omega, e2 _ (by omega)]; exact d3 m hm
  · rw [show o + (8 + 9 * m) + 4 = o + (8 + 9 * m + 4) by omega, e2 _ (by omega)]; exact d4 m hm
  · rw [show o + (8 + 9 * m) + 6 = o + (8 + 9 * m + 6) by omega, e2 _ (by omega)]; exact d6 m hm
  · rw [show o + (8 + 9 * m) + 7 = o + (8 + 9 * m + 7) by omega, e2 _ (by omega)]; exact d7 m hm
  · rw [show o + (8 + 9 * m) + 8 = o + (8 + 9 * m + 8) by omega, e2 _ (by omega)]; exact d8 m hm
  · exact (e1 (sa e) (by have := s e he; omega)).trans (e0 e he)
  · exact (e1 (sa e + 1) (by have := s e he; omega)).trans (e3 e he)
  · exact (e1 (sa e + 2) (by have := s e he; omega)).trans (e4 e he)
  · exact (e1 (sa e + 3) (by have := s e he; omega)).trans (e5 e he)
  · exact (e1 (sa e + 4) (by have := s e he; omega)).trans (e6 e he)
  · rw [show o + sa e + 2 = o + (sa e + 2) by omega, e2 _ (by have := s e he; omega)]; exact f2 e he
  · rw [show o + sa e + 3 = o + (sa e + 3) by omega, e2 _ (by have := s e he; omega)]; exact f3 e he
  · rw [show o + sa e + 4 = o + (sa e + 4) by omega, e2 _ (by have := s e he; omega)]; exact f4 e he
/-- one net more, at the end -/
theorem LY.ext (h : LY Γ V x Z ad tb hh) {n o : Nat} (hx : GX Γ Γ' n) (hN : NK Γ' o) (ho : Γ.2.2 < o) (hZ : Z ≤ Γ.2.2) (ho2 : o + 292 ≤ Γ'.2.2 + 1) {A : Nat → Int} {B S : Nat → Nat → Int} {q : Nat → Nat} (hq : QP q) : LY Γ' (nP V o A B S q) x Z (uf ad (2 + hh) o) (ut tb (2 + hh) (A, B, S, q)) (hh + 1) := by
  have hx1 := hx.1
  refine ⟨fun v hv => ?_, fun u v hu hv huv => ?_⟩
  · by_cases hvu : v = 2 + hh
    · subst hvu
      rw [ut_at, uf_at]
      exact ⟨hN, hq, pN.new, Or.inr (by omega), ho2⟩
    · rw [ut_ne hvu, uf_ne hvu]
      obtain ⟨a, b, c, e, f⟩ := h.1 v (by omega)
      exact ⟨a.ext hx f, b, c.fr (fun c j h1 h2 => nP_o (by omega)), e, by omega⟩
  · by_cases hu2 : u = 2 + hh
    · subst hu2
      rw [uf_at, uf_ne (fun e => huv e.symm)]
      have := (h.1 v (by omega)).2.2.2.2
      right
      omega
    · rw [uf_ne hu2]
      by_cases hv2 : v = 2 + hh
      · subst hv2
        rw [uf_at]
        have := (h.1 u (by omega)).2.2.2.2
        left
        omega
      · rw [uf_ne hv2]
        exact h.2 u v (by omega) (by omega) huv
end LY
/-- the object's own fields, its history -/
def CX (Γ : GM) (V : VH) (x : Nat) (ad : Nat → Nat) (fk : Int) (c hh : Nat) : Prop :=
  (Γ.1 x = 8 ∧ Γ.1 (x + 9) = 1 ∧ Γ.1 (x + 10) = 15 ∧ (Γ.2.1 (x + 10) : Int) = 10) ∧
  (V x 0 = ((x + 1 : Nat) : Int) ∧ V x 1 = ((x + 3 : Nat) : Int) ∧ V x 2 = ((x + 9 : Nat) : Int) ∧ V x 3 = ((ad 0 : Nat) : Int) ∧ V x 4 = ((ad 1 : Nat) : Int) ∧ V x 5 = fk) ∧
  (V (x + 9) 0 = ((x + 10 : Nat) : Int) ∧ V (x + 9) 1 = (c : Int) ∧ ∀ j, j < 10 → V (x + 10) j = if j < hh then ((ad (2 + j) : Nat) : Int) else 0)
def CT (Γ : GM) (V : VH) (x L : Nat) (T : Nat → Int) : Prop := TK Γ (x + 1) ∧ L ≤ 640 ∧ ∃ (kd st sp v : Int) (T' : Nat → Int), (∀ j, V (x + 1) j = tpF (x + 1) (L : Int) kd st sp v j) ∧ (∀ j, V (x + 2) j = T' j) ∧ TB L T' T
def CC (Γ : GM) (V : VH) (x : Nat) : Prop := SK Γ (x + 3) ∧ ∃ (m a fk fp : Int) (R K F G P : Nat → Int), (∀ j, V (x + 3) j = scF (x + 3) m a fk fp j) ∧ (∀ j, V (x + 4) j = R j) ∧ (∀ j, V (x + 5) j = K j) ∧ (∀ j, V (x + 6) j = F j) ∧ (∀ j, V (x + 7) j = G j) ∧ (∀ j, V (x + 8) j = P j)
/-- what the object means -/
def CM (tb : Nat → TBL) (n k W : Nat) (X : NT) (c : Nat) (Y : Nat → NT) : Prop :=
  (GJ n k W X ∧ RW n X.2.1 ∧ RN n W (tb 0).1 (tb 0).2.1 (tb 0).2.2.1 (tb 0).2.2.2 X) ∧ ∀ i, i < c → ∃ n' k', GJ n' k' W (Y i) ∧ RW n' (Y i).2.1 ∧ RN n' W (tb (2 + i)).1 (tb (2 + i)).2.1 (tb (2 + i)).2.2.1 (tb (2 + i)).2.2.2 (Y i)
def CI (w : WP) (Γ : GM) (V : VH) (x Z L : Nat) (T : Nat → Int) (fk : Int) (n k W : Nat) (X : NT) (c : Nat) (Y : Nat → NT) : Prop :=
  (x + 595 ≤ Z + 1 ∧ Z ≤ Γ.2.2 ∧ 9 ≤ W) ∧ strA w Γ V x ∧ CT Γ V x L T ∧ CC Γ V x ∧ ∃ (ad : Nat → Nat) (tb : Nat → TBL) (hh : Nat), c ≤ hh ∧ hh ≤ 10 ∧ CX Γ V x ad fk c hh ∧ LY Γ V x Z ad tb hh ∧ CM tb n k W X c Y
/-- nothing but the object's own cells has changed -/
def FR (x Z : Nat) (V V' : VH) : Prop := ∀ c j, ¬ ((x ≤ c ∧ c < x + 595) ∨ Z < c) → V' c j = V c j
theorem FR.tr {x Z : Nat} {V V' V'' : VH} (h : FR x Z V V') (h' : FR x Z V' V'') : FR x Z V V'' := fun c j hc => (h' c j hc).trans (h c j hc)
theorem FR.rf {x Z : Nat} {V : VH} : FR x Z V V := fun _ _ _ => rfl
theorem FR.up {x Z : Nat} {V : VH} {a k : Nat} {y : Int} (ha : x ≤ a ∧ a < x + 595) : FR x Z V (up V a k y) := fun c j hc => up_ne (by omega)
theorem FR.net {Γ : GM} {V : VH} {x Z hh u : Nat} {ad : Nat → Nat} {tb : Nat → TBL} (h : LY Γ V x Z ad tb hh) (hu : u < 2 + hh) {A : Nat → Int} {B S : Nat → Nat → Int} {q : Nat → Nat} : FR x Z V (nP V (ad u) A B S q) := fun c j hc => by
  have := (h.1 u hu).2.2.2.1
  exact nP_o (by omega)
