/-! THE LAW: class and reference side by side -/
def MI (Γ : GM) (V : VH) (M L : Nat) (T : Nat → Int) (fk : Int) (X : NT) (c : Nat) (Y : Nat → NT) : Prop :=
  ∃ (F K S H : Nat → Int), ML Γ M F ∧ (∀ j, V M j = F j) ∧ (∀ j, V (M + 1) j = T j) ∧ (∀ j, V (M + 2) j = fl X.1 X.2.1 X.2.2 j) ∧ (∀ j, V (M + 3) j = K j) ∧ (∀ j, V (M + 4) j = S j) ∧ (∀ j, V (M + 5) j = H j) ∧ F 2 = (L : Int) ∧ F 8 = fk ∧ F 14 = (c : Int) ∧ SN c S Y
theorem mS_id {V : VH} {M : Nat} {F T N K S H : Nat → Int} (h0 : ∀ j, V M j = F j) (h1 : ∀ j, V (M + 1) j = T j) (h2 : ∀ j, V (M + 2) j = N j) (h3 : ∀ j, V (M + 3) j = K j) (h4 : ∀ j, V (M + 4) j = S j) (h5 : ∀ j, V (M + 5) j = H j) : mS V M F T N K S H = V := by
  funext c j
  unfold mS
  by_cases a0 : c = M
  · rw [if_pos a0, a0, h0]
  · rw [if_neg a0]
    by_cases a1 : c = M + 1
    · rw [if_pos a1, a1, h1]
    · rw [if_neg a1]
      by_cases a2 : c = M + 2
      · rw [if_pos a2, a2, h2]
      · rw [if_neg a2]
        by_cases a3 : c = M + 3
        · rw [if_pos a3, a3, h3]
        · rw [if_neg a3]
          by_cases a4 : c = M + 4
          · rw [if_pos a4, a4, h4]
          · rw [if_neg a4]
            by_cases a5 : c = M + 5
            · rw [if_pos a5, a5, h5]
            · rw [if_neg a5]
theorem MI.new {Γ : GM} {V : VH} {M L c : Nat} {F T K S H : Nat → Int} {fk : Int} {X : NT} {Y : Nat → NT} (hM : ML Γ M F) (h2 : F 2 = (L : Int)) (h8 : F 8 = fk) (h14 : F 14 = (c : Int)) (hS : SN c S Y) : MI Γ (mS V M F T (fl X.1 X.2.1 X.2.2) K S H) M L T fk X c Y := ⟨F, K, S, H, hM, fun _ => mS_0, fun _ => mS_1, fun _ => mS_2, fun _ => mS_3, fun _ => mS_4, fun _ => mS_5, h2, h8, h14, hS⟩
theorem MI.fr {Γ : GM} {V V' : VH} {M L c : Nat} {T : Nat → Int} {fk : Int} {X : NT} {Y : Nat → NT} (h : MI Γ V M L T fk X c Y) (hV : ∀ b j, M ≤ b → b < M + 6 → V' b j = V b j) : MI Γ V' M L T fk X c Y := by
  obtain ⟨F, K, S, H, hM, a0, a1, a2, a3, a4, a5, r⟩ := h
  exact ⟨F, K, S, H, hM, fun j => (hV _ _ (by omega) (by omega)).trans (a0 j), fun j => (hV _ _ (by omega) (by omega)).trans (a1 j), fun j => (hV _ _ (by omega) (by omega)).trans (a2 j), fun j => (hV _ _ (by omega) (by omega)).trans (a3 j), fun j => (hV _ _ (by omega) (by omega)).trans (a4 j), fun j => (hV _ _ (by omega) (by omega)).trans (a5 j), r⟩
theorem MI.gx {Γ Γ' : GM} {V : VH} {M L c nn : Nat} {T : Nat → Int} {fk : Int} {X : NT} {Y : Nat → NT} (h : MI Γ V M L T fk X c Y) (hx : GX Γ Γ' nn) (hm : M + 5 ≤ Γ.2.2) : MI Γ' V M L T fk X c Y := by
  obtain ⟨F, K, S, H, ⟨⟨g0, g1, g2, g3, g4, g5⟩, ⟨l1, l2, l3, l4, l5⟩, p⟩, r⟩ := h
  exact ⟨F, K, S, H, ⟨⟨(hx.2 _ (by omega)).1.trans g0, (hx.2 _ (by omega)).1.trans g1, (hx.2 _ (by omega)).1.trans g2, (hx.2 _ (by omega)).1.trans g3, (hx.2 _ (by omega)).1.trans g4, (hx.2 _ (by omega)).1.trans g5⟩, ⟨by rw [(hx.2 _ (by omega)).2]; exact l1, by rw [(hx.2 _ (by omega)).2]; exact l2, by rw [(hx.2 _ (by omega)).2]; exact l3, by rw [(hx.2 _ (by omega)).2]; exact l4, by rw [(hx.2 _ (by omega)).2]; exact l5⟩, p⟩, r⟩
theorem LY.gx {Γ Γ' : GM} {V : VH} {x Z hh nn : Nat} {ad : Nat → Nat} {tb : Nat → TBL} (h : LY Γ V x Z ad tb hh) (hx : GX Γ Γ' nn) : LY Γ' V x Z ad tb hh := by
  refine ⟨fun u hu => ?_, h.2⟩
  obtain ⟨a, b, c, e, f⟩ := h.1 u hu
  exact ⟨a.ext hx f, b, c, e, by rw [hx.1]; omega⟩
section LW
variable {w : WP} {d : Nat} {Γ Γ' : GM} {V V' : VH} {Q : QT} {x Z L n k W W' c nn : Nat} {T : Nat → Int} {fk : Int} {X : NT} {Y : Nat → NT}
theorem CI.gx (hC : CI w Γ V x Z L T fk n k W X c Y) (hx : GX Γ Γ' nn) : CI w Γ' V x Z L T fk n k W X c Y := by
  obtain ⟨⟨c1, c2, c3⟩, h2, h3, h4, ad, tb, hh, h5, h6, ⟨⟨g8, g1, g15, g10⟩, r⟩, h8, h9⟩ := hC
  exact ⟨⟨c1, by rw [hx.1]; omega, c3⟩, h2.gx hx (by omega), h3.gx hx (by omega), h4.gx hx (by omega), ad, tb, hh, h5, h6, ⟨⟨(hx.2 _ (by omega)).1.trans g8, (hx.2 _ (by omega)).1.trans g1, (hx.2 _ (by omega)).1.trans g15, by rw [(hx.2 _ (by omega)).2]; exact g10⟩, r⟩, h8.gx hx, h9⟩
theorem CI.mono (hC : CI w Γ V x Z L T fk n k W X c Y) (h : W ≤ W') (h2 : W' ≤ 1000000000) : CI w Γ V x Z L T fk n k W' X c Y := by
  obtain ⟨⟨c1, c2, c3⟩, h2', h3, h4, ad, tb, hh, h5, h6, h7, h8, ⟨a, b, e⟩, f⟩ := hC
  exact ⟨⟨c1, c2, by omega⟩, h2', h3, h4, ad, tb, hh, h5, h6, h7, h8, ⟨a.mono h h2, b, e.mono h⟩, fun i hi => by
    obtain ⟨n', k', a, b, e⟩ := f i hi
    exact ⟨n', k', a.mono h h2, b, e.mono h⟩⟩
theorem CI.c10 (hC : CI w Γ V x Z L T fk n k W X c Y) : c ≤ 10 := by
  obtain ⟨-, -, -, -, ad, tb, hh, h5, h6, -⟩ := hC
  omega
theorem CI.ln (hC : CI w Γ V x Z L T fk n k W X c Y) : L ≤ 640 := hC.2.2.1.2.1
theorem CI.g (hC : CI w Γ V x Z L T fk n k W X c Y) : GJ n k W X := by
  obtain ⟨-, -, -, -, ad, tb, hh, -, -, -, -, cm⟩ := hC
  exact cm.1.1
end LW
theorem tG_wid {w : WP} {d n pc : Nat} {ls : LT} {st : List TV} {Γ : GM} {V : VH} {uc us uc' us' : Nat} {Q : QT} (h : tG w d n pc ls st Γ V uc' us' Q) (h1 : uc ≤ uc') (h2 : us ≤ us') (h3 : uc' ≤ m_c n) (h4 : us' ≤ m_s n) : tG w d n pc ls st Γ V uc us Q := by
  intro p e s m args below meth c H locs lsr hX hL hst hR hS hu hv
  exact W.widen h1 h2 (h p e s m args below meth c H locs lsr hX hL hst hR hS h3 h4)
/-- all that holds between two calls: the script at bb, the class at x, the reference at M, the row for an answer behind it -/
def JI (w : WP) (Γ : GM) (V : VH) (bb Ls x M W : Nat) : Prop :=
  ∃ (L : Nat) (T : Nat → Int) (fk : Int) (n k : Nat) (X : NT) (c : Nat) (Y : Nat → NT), CI w Γ V x (M + 6) L T fk n k W X c Y ∧ MI Γ V M L T fk X c Y ∧ (Γ.1 bb = 16 ∧ Γ.2.1 bb = Ls) ∧ (Γ.1 (M + 6) = 12 ∧ Γ.2.1 (M + 6) = 1) ∧ bb < x ∧ x + 595 = M
section LW
variable {w : WP} {d : Nat} {Γ Γ' : GM} {V V' : VH} {Q : QT} {bb Ls x M W W' nn : Nat}
theorem JI.mono (h : JI w Γ V bb Ls x M W) (h1 : W ≤ W') (h2 : W' ≤ 1000000000) : JI w Γ V bb Ls x M W' := by
  obtain ⟨L, T, fk, n, k, X, c, Y, a, r⟩ := h
  exact ⟨L, T, fk, n, k, X, c, Y, a.mono h1 h2, r⟩
end LW
