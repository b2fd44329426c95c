/-! loops; rows of the reference's object -/
def u1 (f : Nat → Int) (i : Nat) (x : Int) : Nat → Int := fun j => if j = i then x else f j
def uF (f : Nat → Int) (i : Nat) (x : Int) : Nat → Int := fun j => if j = i then x else f j
theorem u1_at {f : Nat → Int} {i : Nat} {x : Int} : u1 f i x i = x := if_pos rfl
theorem u1_ne {f : Nat → Int} {i j : Nat} {x : Int} (h : j ≠ i) : u1 f i x j = f j := if_neg h
/-- the object at M and its five arrays: fields F, tape T, now N, kept K, snaps S, hand H; all else as in V -/
def mS (V : VH) (M : Nat) (F T N K S H : Nat → Int) : VH := fun b j => if b = M then F j else if b = M + 1 then T j else if b = M + 2 then N j else if b = M + 3 then K j else if b = M + 4 then S j else if b = M + 5 then H j else V b j
section MS
variable {V : VH} {M : Nat} {F T N K S H : Nat → Int} {i j : Nat} {x : Int}
theorem mS_0 : mS V M F T N K S H M j = F j := by simp [mS]
theorem mS_1 : mS V M F T N K S H (M + 1) j = T j := by simp [mS]
theorem mS_2 : mS V M F T N K S H (M + 2) j = N j := by simp [mS]
theorem mS_3 : mS V M F T N K S H (M + 3) j = K j := by simp [mS]
theorem mS_4 : mS V M F T N K S H (M + 4) j = S j := by simp [mS]
theorem mS_5 : mS V M F T N K S H (M + 5) j = H j := by simp [mS]
theorem mS_o {b : Nat} (h : b < M ∨ M + 5 < b) : mS V M F T N K S H b j = V b j := by
  unfold mS
  rw [if_neg (by omega), if_neg (by omega), if_neg (by omega), if_neg (by omega), if_neg (by omega), if_neg (by omega)]
theorem mS_u0 : up (mS V M F T N K S H) M i x = mS V M (uF F i x) T N K S H := by
  funext b j
  by_cases hb : b = M <;> by_cases hj : j = i <;> simp [up, mS, uF, hb, hj]
theorem mS_u1 : up (mS V M F T N K S H) (M + 1) i x = mS V M F (u1 T i x) N K S H := by
  funext b j
  by_cases hb : b = M + 1 <;> by_cases hj : j = i <;> simp [up, mS, u1, hb, hj]
theorem mS_u2 : up (mS V M F T N K S H) (M + 2) i x = mS V M F T (u1 N i x) K S H := by
  funext b j
  by_cases hb : b = M + 2 <;> by_cases hj : j = i <;> simp [up, mS, u1, hb, hj]
theorem mS_u3 : up (mS V M F T N K S H) (M + 3) i x = mS V M F T N (u1 K i x) S H := by
  funext b j
  by_cases hb : b = M + 3 <;> by_cases hj : j = i <;> simp [up, mS, u1, hb, hj]
theorem mS_u4 : up (mS V M F T N K S H) (M + 4) i x = mS V M F T N K (u1 S i x) H := by
  funext b j
  by_cases hb : b = M + 4 <;> by_cases hj : j = i <;> simp [up, mS, u1, hb, hj]
theorem mS_u5 : up (mS V M F T N K S H) (M + 5) i x = mS V M F T N K S (u1 H i x) := by
  funext b j
  by_cases hb : b = M + 5 <;> by_cases hj : j = i <;> simp [up, mS, u1, hb, hj]
end MS
/-- kinds, lengths and pointers of the reference's object -/
def ML (Γ : GM) (M : Nat) (F : Nat → Int) : Prop :=
  (Γ.1 M = 9 ∧ Γ.1 (M + 1) = 10 ∧ Γ.1 (M + 2) = 10 ∧ Γ.1 (M + 3) = 10 ∧ Γ.1 (M + 4) = 10 ∧ Γ.1 (M + 5) = 10) ∧
  ((Γ.2.1 (M + 1) : Int) = 640 ∧ (Γ.2.1 (M + 2) : Int) = 2226 ∧ (Γ.2.1 (M + 3) : Int) = 2226 ∧ (Γ.2.1 (M + 4) : Int) = 22260 ∧ (Γ.2.1 (M + 5) : Int) = 30) ∧
  (F 1 = ((M + 1 : Nat) : Int) ∧ F 11 = ((M + 2 : Nat) : Int) ∧ F 12 = ((M + 3 : Nat) : Int) ∧ F 13 = ((M + 4 : Nat) : Int) ∧ F 17 = ((M + 5 : Nat) : Int))
theorem ML.uF {Γ : GM} {M i : Nat} {F : Nat → Int} {x : Int} (h : ML Γ M F) (hi : i ≠ 1 ∧ i ≠ 11 ∧ i ≠ 12 ∧ i ≠ 13 ∧ i ≠ 17) : ML Γ M (uF F i x) := by
  obtain ⟨h1, h2, h3, h4, h5, h6, h7⟩ := h
  refine ⟨h1, h2, ?_, ?_, ?_, ?_, ?_⟩ <;> (unfold _root_.Jvm.Pilot.CTravelTokenLaw_law_r2981_4ac43a.uF; rw [if_neg (by omega)]; assumption)
theorem tG_loop {w : WP} {d n pc : Nat} {Γ : GM} {uc us : Nat} {Q : QT} (L : Nat → LT) (R : Nat → VH → Prop) (hi : Nat)
    (step : ∀ k V, k < hi → R k V → (∀ V', R (k + 1) V' → tG w d n pc (L (k + 1)) [] Γ V' uc us Q) → tG w d n pc (L k) [] Γ V uc us Q) (fin : ∀ V, R hi V → tG w d n pc (L hi) [] Γ V uc us Q) :
    ∀ k V, k ≤ hi → R k V → tG w d n pc (L k) [] Γ V uc us Q := by
  intro k V hk hR
  obtain ⟨m, hm⟩ : ∃ m, k + m = hi := ⟨hi - k, by omega⟩
  induction m generalizing k V with
  | zero =>
    have : k = hi := by omega
    subst this
    exact fin V hR
  | succ m ih => exact step k V (by omega) hR (fun V' h' => ih (k + 1) V' (by omega) h' (by omega))
theorem sn_eq {k x : Nat} (h : 426 + 30 * k + x < 2147483647) : sn_ (k : Int) (x : Int) = ((426 + 30 * k + x : Nat) : Int) := by
  unfold sn_
  rw [wr_id (x := 30 * (k : Int)) (by omega) (by omega), wr_id (x := 426 + 30 * (k : Int)) (by omega) (by omega), wr_id (by omega) (by omega)]
  omega
theorem at_eq {m x : Nat} (h : 6 + 70 * m + x < 2147483647) : at_ (m : Int) (x : Int) = ((6 + 70 * m + x : Nat) : Int) := by
  unfold at_
  rw [wr_id (x := 70 * (m : Int)) (by omega) (by omega), wr_id (x := 6 + 70 * (m : Int)) (by omega) (by omega), wr_id (by omega) (by omega)]
  omega
theorem wr_s {k : Nat} (h : k < 2147483647) : wr ((k : Int) + 1) = ((k + 1 : Nat) : Int) := by
  rw [wr_id (by omega) (by omega)]
  omega
/-! the net as three tables: counts A, members B, messages C; and as one row of numbers -/
abbrev NT : Type := (Nat → Int) × (Nat → Nat → Int) × (Nat → Nat → Int)
def u2 (f : Nat → Nat → Int) (a b : Nat) (x : Int) : Nat → Nat → Int := fun i j => if i = a ∧ j = b then x else f i j
def uR (f : Nat → Nat → Int) (a : Nat) (r : Nat → Int) : Nat → Nat → Int := fun i => if i = a then r else f i
def fl (A : Nat → Int) (B C : Nat → Nat → Int) : Nat → Int := fun j => if j < 6 then A j else if j < 426 then B ((j - 6) / 70) ((j - 6) % 70) else if j < 2226 then C ((j - 426) / 30) ((j - 426) % 30) else 0
section FL
variable {A : Nat → Int} {B C : Nat → Nat → Int} {x : Int}
theorem fl_a {j : Nat} (h : j < 6) : fl A B C j = A j := if_pos h
theorem fl_b {m k : Nat} (hm : m < 6) (hk : k < 70) : fl A B C (6 + 70 * m + k) = B m k := by
  unfold fl
  rw [if_neg (by omega), if_pos (by omega), show (6 + 70 * m + k - 6) / 70 = m by omega, show (6 + 70 * m + k - 6) % 70 = k by omega]
theorem fl_c {m k : Nat} (hm : m < 60) (hk : k < 30) : fl A B C (426 + 30 * m + k) = C m k := by
  unfold fl
  rw [if_neg (by omega), if_neg (by omega), if_pos (by omega), show (426 + 30 * m + k - 426) / 30 = m by omega, show (426 + 30 * m + k - 426) % 30 = k by omega]
theorem fl_ua {j : Nat} (h : j < 6) : u1 (fl A B C) j x = fl (u1 A j x) B C := by
  funext i
  by_cases hi : i = j
  · subst hi
    rw [u1_at, fl_a h, u1_at]
  · rw [u1_ne hi]
    unfold fl
    by_cases h6 : i < 6
    · rw [if_pos h6, if_pos h6, u1_ne hi]
    · rw [if_neg h6, if_neg h6]
theorem fl_ub {m k : Nat} (hm : m < 6) (hk : k < 70) : u1 (fl A B C) (6 + 70 * m + k) x = fl A (u2 B m k x) C := by
  funext i
  by_cases hi : i = 6 + 70 * m + k
  · subst hi
    rw [u1_at, fl_b hm hk]
    simp [u2]
  · rw [u1_ne hi]
    unfold fl
    by_cases h6 : i < 6
    · rw [if_pos h6, if_pos h6]
    · by_cases h7 : i < 426
      · rw [if_neg h6, if_neg h6, if_pos h7, if_pos h7]
        unfold u2
        rw [if_neg (by omega)]
      · rw [if_neg h6, if_neg h6, if_neg h7, if_neg h7]
theorem fl_uc {m k : Nat} (hm : m < 60) (hk : k < 30) : u1 (fl A B C) (426 + 30 * m + k) x = fl A B (u2 C m k x) := by
  funext i
  by_cases hi : i = 426 + 30 * m + k
  · subst hi
    rw [u1_at, fl_c hm hk]
    simp [u2]
  · rw [u1_ne hi]
    unfold fl
    by_cases h6 : i < 6
    · rw [if_pos h6, if_pos h6]
    · by_cases h7 : i < 426
      · rw [if_neg h6, if_neg h6, if_pos h7, if_pos h7]
      · by_cases h8 : i < 2226
        · rw [if_neg h6, if_neg h6, if_neg h7, if_neg h7, if_pos h8, if_pos h8]
          unfold u2
          rw [if_neg (by omega)]
        · rw [if_neg h6, if_neg h6, if_neg h7, if_neg h7, if_neg h8, if_neg h8]
theorem at_e {m : Nat} {v : Int} (hm : m < 6) (h0 : 0 ≤ v) (h1 : v < 70) : at_ (m : Int) v = ((6 + 70 * m + v.toNat : Nat) : Int) := by
  have := at_eq (m := m) (x := v.toNat) (by omega)
  rw [show ((v.toNat : Nat) : Int) = v by omega] at this
  exact this
theorem sn_e {m : Nat} {v : Int} (hm : m < 60) (h0 : 0 ≤ v) (h1 : v < 30) : sn_ (m : Int) v = ((426 + 30 * m + v.toNat : Nat) : Int) := by
  have := sn_eq (k := m) (x := v.toNat) (by omega)
  rw [show ((v.toNat : Nat) : Int) = v by omega] at this
  exact this
theorem at_0 {m : Nat} {v : Int} (hm : m < 6) (h0 : 0 ≤ v) (h1 : v < 70) : (0 ≤ at_ (m : Int) v) = True := by rw [at_e hm h0 h1]; exact eq_true (by omega)
theorem at_9 {m : Nat} {v : Int} (hm : m < 6) (h0 : 0 ≤ v) (h1 : v < 70) : (at_ (m : Int) v < (2226 : Int)) = True := by rw [at_e hm h0 h1]; exact eq_true (by omega)
theorem sn_0 {m : Nat} {v : Int} (hm : m < 60) (h0 : 0 ≤ v) (h1 : v < 30) : (0 ≤ sn_ (m : Int) v) = True := by rw [sn_e hm h0 h1]; exact eq_true (by omega)
theorem sn_9 {m : Nat} {v : Int} (hm : m < 60) (h0 : 0 ≤ v) (h1 : v < 30) : (sn_ (m : Int) v < (2226 : Int)) = True := by rw [sn_e hm h0 h1]; exact eq_true (by omega)
theorem fl_at {m : Nat} {v : Int} (hm : m < 6) (h0 : 0 ≤ v) (h1 : v < 70) : fl A B C (at_ (m : Int) v).toNat = B m v.toNat := by
  rw [at_e hm h0 h1, Int.toNat_natCast]
  exact fl_b hm (by omega)
theorem fl_sn {m : Nat} {v : Int} (hm : m < 60) (h0 : 0 ≤ v) (h1 : v < 30) : fl A B C (sn_ (m : Int) v).toNat = C m v.toNat := by
  rw [sn_e hm h0 h1, Int.toNat_natCast]
  exact fl_c hm (by omega)
theorem fl_uat {m : Nat} {v : Int} (hm : m < 6) (h0 : 0 ≤ v) (h1 : v < 70) : u1 (fl A B C) (at_ (m : Int) v).toNat x = fl A (u2 B m v.toNat x) C := by
  rw [at_e hm h0 h1, Int.toNat_natCast]
  exact fl_ub hm (by omega)
theorem fl_usn {m : Nat} {v : Int} (hm : m < 60) (h0 : 0 ≤ v) (h1 : v < 30) : u1 (fl A B C) (sn_ (m : Int) v).toNat x = fl A B (u2 C m v.toNat x) := by
  rw [sn_e hm h0 h1, Int.toNat_natCast]
  exact fl_uc hm (by omega)
theorem u2_at {f : Nat → Nat → Int} {a b : Nat} {x : Int} : u2 f a b x a b = x := by simp [u2]
theorem u2_ne {f : Nat → Nat → Int} {a b i j : Nat} {x : Int} (h : i ≠ a ∨ j ≠ b) : u2 f a b x i j = f i j := by
  unfold u2
  rw [if_neg (by omega)]
end FL
theorem tn_2 {x : Nat} : (2 + (x : Int)).toNat = 2 + x := by omega
theorem tn_5 {x : Nat} : (5 + (x : Int)).toNat = 5 + x := by omega
theorem tn_6 {x : Nat} : (6 + (x : Int)).toNat = 6 + x := by omega
theorem tn_8 {x : Nat} : (8 + (x : Int)).toNat = 8 + x := by omega
theorem tn_12 {x : Nat} : (12 + (x : Int)).toNat = 12 + x := by omega
theorem tn_14 {x : Nat} : (14 + (x : Int)).toNat = 14 + x := by omega
theorem tn_18 {x : Nat} : (18 + (x : Int)).toNat = 18 + x := by omega
theorem tn_24 {x : Nat} : (24 + (x : Int)).toNat = 24 + x := by omega
theorem tn_30 {x : Nat} : (30 + (x : Int)).toNat = 30 + x := by omega
theorem tn_32 {x : Nat} : (32 + (x : Int)).toNat = 32 + x := by omega
theorem tn_38 {x : Nat} : (38 + (x : Int)).toNat = 38 + x := by omega
theorem tn_44 {x : Nat} : (44 + (x : Int)).toNat = 44 + x := by omega
theorem wn_1 {x : Nat} (h : x < 100) : wr (1 + (x : Int)) = ((1 + x : Nat) : Int) := by
  rw [wr_id (by omega) (by omega)]
  omega
theorem wn_2 {x : Nat} (h : x < 100) : wr (2 + (x : Int)) = ((2 + x : Nat) : Int) := by
  rw [wr_id (by omega) (by omega)]
  omega
theorem wn_5 {x : Nat} (h : x < 100) : wr (5 + (x : Int)) = ((5 + x : Nat) : Int) := by
  rw [wr_id (by omega) (by omega)]
  omega
theorem wn_6 {x : Nat} (h : x < 100) : wr (6 + (x : Int)) = ((6 + x : Nat) : Int) := by
  rw [wr_id (by omega) (by omega)]
  omega
theorem wn_8 {x : Nat} (h : x < 100) : wr (8 + (x : Int)) = ((8 + x : Nat) : Int) := by
  rw [wr_id (by omega) (by omega)]
  omega
theorem wn_12 {x : Nat} (h : x < 100) : wr (12 + (x : Int)) = ((12 + x : Nat) : Int) := by
  rw [wr_id (by omega) (by omega)]
  omega
theorem wn_14 {x : Nat} (h : x < 100) : wr (14 + (x : Int)) = ((14 + x : Nat) : Int) := by
  rw [wr_id (by omega) (by omega)]
  omega
theorem wn_18 {x : Nat} (h : x < 100) : wr (18 + (x : Int)) = ((18 + x : Nat) : Int) := by
  rw [wr_id (by omega) (by omega)]
  omega
theorem wn_24 {x : Nat} (h : x < 100) : wr (24 + (x : Int)) = ((24 + x : Nat) : Int) := by
  rw [wr_id (by omega) (by omega)]
  omega
theorem wn_30 {x : Nat} (h : x < 100) : wr (30 + (x : Int)) = ((30 + x : Nat) : Int) := by
  rw [wr_id (by omega) (by omega)]
  omega
theorem wn_32 {x : Nat} (h : x < 100) : wr (32 + (x : Int)) = ((32 + x : Nat) : Int) := by
  rw [wr_id (by omega) (by omega)]
  omega
theorem wn_38 {x : Nat} (h : x < 100) : wr (38 + (x : Int)) = ((38 + x : Nat) : Int) := by
  rw [wr_id (by omega) (by omega)]
  omega
theorem wn_44 {x : Nat} (h : x < 100) : wr (44 + (x : Int)) = ((44 + x : Nat) : Int) := by
  rw [wr_id (by omega) (by omega)]
  omega
