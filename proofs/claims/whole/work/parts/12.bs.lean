/-! strings: length and charAt of a constant -/
section ST
variable {w : WP} {d : Nat} {Γ : GM} {V : VH} {Q : QT}
theorem k_strLen (hd : 4 ≤ d) {t : Nat} (h : Γ.1 t = 20) (hq : Q (some (.inl (Γ.2.1 t : Int))) Γ V) : tC w d nStr_length [.inr (.inl t)] Γ V Q := by
  sorry
theorem k_charAt (hd : 4 ≤ d) {t i : Nat} (h : Γ.1 t = 20) (hi : i < Γ.2.1 t) (hq : Q (some (.inl (V t i))) Γ V) : tC w d nStr_charAt [.inr (.inl t), .inl (i : Int)] Γ V Q := by
  sorry
end ST
