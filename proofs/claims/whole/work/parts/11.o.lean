/-! the ROWs hold no number below 0 -/
def RW (n : Nat) (B : Nat → Nat → Int) : Prop := ∀ i, i < n → ∀ j, j < 6 → 0 ≤ B i (18 + j)
section GI
variable {n k W m p a : Nat} {X : NT} {h c : Int}
theorem RW.row {B : Nat → Nat → Int} {b : Nat → Int} (v : RW n B) (hb : ∀ j, j < 6 → 0 ≤ b (18 + j)) : RW n (uR B m b) := by
  intro i hi j hj
  by_cases him : i = m
  · subst him
    rw [uR_at]
    exact hb j hj
  · rw [uR_ne him]
    exact v i hi j hj
theorem RW.hand (v : RW n X.2.1) (hI : rowI n W (X.2.1 m)) (hm : m < n) : RW n (handF n m X h c).2.1.2.1 := by
  unfold handF
  split
  · exact v.row (fun j hj => by rw [hnd2_lo (by omega)]; exact v m hm j hj)
  · refine v.row (fun j hj => ?_)
    unfold zrow hnd5
    rw [if_neg (by omega)]
    unfold rowR
    rw [if_pos (by omega), show 18 + j + 14 = 32 + j by omega, wtR_lo (by omega), outR_lo (by omega), hnd2_lo (by omega)]
    exact (hI.2.2.2.2.2.2.2.2.1 j hj).1
theorem RW.asked (v : RW n X.2.1) (hI : rowI n W (X.2.1 m)) (hm : m < n) (hn6 : n ≤ 6) (ha : a < 6) {r : Nat → Int} (hr3 : 0 ≤ r 3 ∧ r 3 ≤ W) (hr4 : 0 ≤ r 4 ∧ r 4 ≤ 9) : RW n (askedF n m a r X h c).2.1.2.1 := by
  have v1 : RW n (uR X.2.1 m (askR a r (X.2.1 m))) := v.row (fun j hj => by rw [askR_lo (by omega) (by omega)]; exact v m hm j hj)
  unfold askedF
  split
  · exact RW.hand (W := W) (X := (X.1, uR X.2.1 m (askR a r (X.2.1 m)), X.2.2)) v1 (by show rowI n W (uR X.2.1 m _ m); rw [uR_at]; exact askR_I hI hn6 ha hr3 hr4) hm
  · exact v1
theorem RW.passed (v : RW n X.2.1) (hI : rowI n W (X.2.1 m)) (hm : m < n) (hn6 : n ≤ 6) {r : Nat → Int} (hr : (1 ≤ r 5 ∧ r 5 ≤ W) ∧ (∀ j, j < 6 → 0 ≤ r (7 + j) ∧ r (7 + j) ≤ W) ∧ ∃ L, QI n W (pb r) L) : RW n (passedF n m r X h c).2.1.2.1 := by
  have e : ∀ j, j < 6 → 0 ≤ pasS m r (X.2.1 m) (18 + j) := fun j hj => by
    rw [pasS_at (by omega), if_pos (by omega), show 18 + j - 11 = 7 + j by omega]
    split
    · exact hI.1.1
    · exact (hr.2.1 j hj).1
  have v1 : RW n (uR X.2.1 m (pasS m r (X.2.1 m))) := v.row e
  unfold passedF
  split
  · exact v
  · split
    · exact v.row (fun j hj => by rw [comR_lo (by omega)]; exact e j hj)
    · split
      · exact RW.hand (W := W) (X := (dieA X.1 (X.2.1 m), uR X.2.1 m (pasS m r (X.2.1 m)), X.2.2)) v1 (by show rowI n W (uR X.2.1 m _ m); rw [uR_at]; exact pasS_I (by omega) hI hr hn6) hm
      · exact v1
theorem RW.doubted (v : RW n X.2.1) (hm : m < n) {e : Int} : RW n (doubtedF m a e X h c).2.1.2.1 := by
  unfold doubtedF sndF
  split
  · exact v.row (fun j hj => by rw [dou2_lo (by omega) (by omega)]; exact v m hm j hj)
  · split
    · refine v.row (fun j hj => ?_)
      rw [drpR_lo (by omega)]
      unfold losD
      split
      · unfold zrow
        rw [if_neg (by omega), u1_ne (by omega)]
        exact v m hm j hj
      · rw [u1_ne (by omega)]
        exact v m hm j hj
    · exact v
theorem RW.voted (v : RW n X.2.1) (hI : rowI n W (X.2.1 m)) (hV : VT n W X.2.1) (ha : a < n) (hn6 : n ≤ 6) {e y : Int} (hy : 0 ≤ y) (hm : m < n) : RW n (votedF n m a e y X h c).2.1.2.1 := by
  unfold votedF
  split
  · exact v
  · split
    · exact v.row (fun j hj => by rw [votR_lo (by omega)]; exact v m hm j hj)
    · refine v.row (fun j hj => ?_)
      rw [mad_at (by omega), if_neg (by omega), if_neg (by omega), if_pos (by omega)]
      split
      · rw [votR_lo (by omega)]
        exact hI.1.1
      · rw [show 18 + j + 6 = 24 + j by omega]
        by_cases hja : j = a
        · subst hja
          unfold votR
          rw [u1_at]
          exact hy
        · rw [votR_lo (by omega)]
          exact (hV m hm j hj).1.1
theorem RW.deliver (g : GJ n k W X) (v : RW n X.2.1) (hp : p < k) : RW n (delF n p X).2.1.2.1 := by
  obtain ⟨g, vv⟩ := g
  have hn6 := g.A.2.2.2.1
  obtain ⟨⟨a, m, ha, hm, ham, e0, e1⟩, m2, m3, m4, m5, m6⟩ := g.1.2.2.2.2.2.2.1 p hp
  have hI := g.row hm
  have vt : RW n (tkF p X).2.1 := v
  have hIt : rowI n W ((tkF p X).2.1 m) := hI
  have vvt : VT n W (tkF p X).2.1 := vv
  show RW n (delF1 n (X.2.2 p) (tkF p X)).2.1.2.1
  unfold delF1
  rw [e0, e1, Int.toNat_natCast, Int.toNat_natCast]
  by_cases h0 : X.2.2 p 2 = 0
  · rw [if_pos h0]
    exact RW.asked vt hIt hm hn6 (by omega) m3 ⟨m4.1, m5 h0⟩
  · rw [if_neg h0]
    by_cases h1 : X.2.2 p 2 = 1
    · rw [if_pos h1]
      obtain ⟨q1, -, -, q2, q3⟩ := m6 h1
      exact RW.passed vt hIt hm hn6 ⟨q1, q2, q3⟩
    · rw [if_neg h1]
      by_cases h2 : X.2.2 p 2 = 2
      · rw [if_pos h2]
        exact RW.doubted vt hm
      · rw [if_neg h2]
        by_cases h3 : X.2.2 p 2 = 3
        · rw [if_pos h3]
          dsimp only
          split
          · exact vt.row (fun j hj => by rw [drpR_lo (by omega)]; exact vt m hm j hj)
          · exact vt
        · rw [if_neg h3]
          exact RW.voted vt hIt vvt ha hn6 m4.1 hm
theorem RW.lev (g : GJ n k W X) (v : RW n X.2.1) (hm : m < n) : RW n (levF n m X h c).2.1.2.1 := by
  have hn6 := g.1.A.2.2.2.1
  have hI := g.1.row hm
  have v1 : RW n (uR X.2.1 m (levR m (X.2.1 m))) := v.row (fun j hj => by rw [levR_at (by omega), if_neg (by omega), if_neg (by omega), if_neg (by omega)]; exact v m hm j hj)
  unfold levF
  split
  · exact RW.hand (W := W) (X := (u1 X.1 4 (X.1 4 + 1), uR X.2.1 m (levR m (X.2.1 m)), X.2.2)) v1 (by show rowI n W (uR X.2.1 m _ m); rw [uR_at]; exact levR_I hI hm hn6) hm
  · exact v1
theorem RW.ask (v : RW n X.2.1) (hm : m < n) (hn6 : n ≤ 6) : RW n (askF n m X h c).2.1.2.1 := by
  unfold askF
  split
  · exact v
  · split
    · exact v
    · split
      · exact v.row (fun j hj => by rw [comR_lo (by omega), u1_ne (by omega)]; exact v m hm j hj)
      · exact v.row (fun j hj => by rw [u1_ne (by omega), u1_ne (by omega)]; exact v m hm j hj)
theorem RW.sus (v : RW n X.2.1) (hm : m < n) : RW n (susF n m X h c).2.1.2.1 := by
  unfold susF
  split
  · exact v
  · split
    · exact v
    · exact v.row (fun j hj => by rw [u1_ne (by omega), drpR_lo (by omega), u1_ne (by omega)]; exact v m hm j hj)
theorem RW.lvs (g : GJ n k W X) (v : RW n X.2.1) (hW : W + 12 ≤ 1000000000) : ∀ i, i ≤ n → RW n (lvF n i X).2.1
  | 0, _ => v
  | i + 1, hi => by
    obtain ⟨k', g'⟩ := g.lvs hW i (by omega)
    have ih := RW.lvs g v hW i (by omega)
    unfold lvF
    split
    · exact RW.lev g' ih (by omega)
    · exact ih
theorem RW.once (g : GJ n k W X) (v : RW n X.2.1) (hW : W + 14 ≤ 1000000000) : RW n (onceF n X).2.1.2.1 := by
  obtain ⟨k', g'⟩ := g.lvs (by omega) n (Nat.le_refl _)
  have v' := RW.lvs g v (by omega) n (Nat.le_refl _)
  unfold onceF
  split
  · exact v'
  · have h5 := g'.1.A.2.1
    exact RW.deliver (p := 0) g' v' (by omega)
theorem RW.set : ∀ t {k W : Nat} {X : NT}, GJ n k W X → RW n X.2.1 → W + 14 * t ≤ 1000000000 → RW n (setF n t X).2.2.1
  | 0, k, W, X, g, v, _ => v
  | t + 1, k, W, X, g, v, hW => by
    obtain ⟨k', g'⟩ := g.once (by omega)
    have v' := RW.once g v (by omega)
    unfold setF
    split
    · exact v'
    · exact RW.set t g' v' (by omega)
theorem RW.act (g : GJ n k W X) (v : RW n X.2.1) {t x y : Int} (h5 : t = 0 ∨ t = 1 ∨ t = 2 ∨ t = 3 ∨ t = 4 ∨ x ≤ 99) (hW : W + 1400 ≤ 1000000000) : RW n (actF n k t x y X).2.2.1 := by
  have hn6 := g.1.A.2.2.2.1
  have hf := fst_b (C := X.2.2) (a := x) (b := y) k 0
  unfold actF
  split
  · split
    · exact RW.ask v (by omega) hn6
    · exact v
  · split
    · split
      · exact RW.lev g v (by omega)
      · exact v
    · split
      · split
        · exact RW.sus v (by omega)
        · exact v
      · split
        · split
          · exact v
          · exact RW.deliver g v (by omega)
        · split
          · split
            · exact v
            · exact v
          · exact RW.set x.toNat g v (by omega)
theorem RW.beg {r : Nat → Int} : RW n (begN n r).2.1 := by
  intro i hi j hj
  rw [begN_row hi, if_neg (by omega), if_neg (by omega), if_neg (by omega)]
  omega
end GI
section RD
variable {T : Nat → Int} {L p : Nat}
theorem RW.exA {n : Nat} : ∀ f {c p k W : Nat} {X : NT} {c' : Nat} {X' : NT}, p ≤ L → GJ n k W X → RW n X.2.1 → 9 ≤ W → W + 1400 * f ≤ 1000000000 → exA T L n f c p X = .inr (c', X') → RW n X'.2.1
  | 0, c, p, k, W, X, c', X', _, _, _, _, _, h => by simp [_root_.Jvm.Pilot.CTravelTokenLaw_law_r2981_4ac43a.exA] at h
  | f + 1, c, p, k, W, X, c', X', hp, g, v, h9, hW, h => by
    unfold _root_.Jvm.Pilot.CTravelTokenLaw_law_r2981_4ac43a.exA at h
    split at h
    · cases h
      exact v
    · cases h1 : rdA T L p with
      | inl e => rw [h1] at h; cases h
      | inr u =>
        obtain ⟨t, a, b, pl, p1⟩ := u
        rw [h1] at h
        dsimp only at h
        have ok := rdA_ok hp h1
        have hk : (X.1 5).toNat = k := by rw [g.1.A.2.1, Int.toNat_natCast]
        rw [hk] at h
        split at h
        · cases h
        · have ha : (a : Int) ≤ 99 := Int.ofNat_le.mpr ok.2.1
          have hW1 : W + 1400 ≤ 1000000000 := Nat.le_trans (Nat.add_le_add_left (by rw [Nat.mul_add]; exact Nat.le_add_left _ _) _) hW
          obtain ⟨k', g'⟩ := g.act (t := t) (x := a) (y := b) (Or.inr (Or.inr (Or.inr (Or.inr (Or.inr ha))))) h9 hW1
          exact RW.exA f (by omega) g' (RW.act g v (Or.inr (Or.inr (Or.inr (Or.inr (Or.inr ha))))) hW1) (by omega) (by omega) h
/-- a text that is good: how many members, the net -/
theorem texF_ok {c : Nat} {X : NT} (h : texF T L = .inr (c, X)) : ∃ n k, GJ n k 150000 X ∧ RW n X.2.1 := by
  unfold texF at h
  cases h1 : rdM T L 0 with
  | inl e => rw [h1] at h; cases h
  | inr v =>
    obtain ⟨n, p⟩ := v
    rw [h1] at h
    dsimp only at h
    have ok := rdM_ok (Nat.zero_le _) h1
    cases h2 : rkL T L n 22 0 (fun _ => 0) p with
    | inl e => rw [h2] at h; cases h
    | inr v =>
      obtain ⟨r, p1⟩ := v
      rw [h2] at h
      dsimp only at h
      have ok2 := rkL_ok 22 ok.2.2.2.1 (fun j _ => by omega) h2
      obtain ⟨k', g⟩ := exA_GJ 101 ok2.2.2 (GJ.beg ok.1 ok.2.1 ok2.1) (by omega) (by omega) h
      exact ⟨n, k', ⟨g.1.mono (by omega) (by omega), g.2.mono (by omega)⟩, RW.exA 101 ok2.2.2 (GJ.beg ok.1 ok.2.1 ok2.1) RW.beg (by omega) (by omega) h⟩
end RD
