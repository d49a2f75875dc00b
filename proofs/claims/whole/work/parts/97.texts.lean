/-! CALLS: book, deeds, named -/
section
variable {bk dr H P n : Nat} {X : Mm}
theorem s_book (h : Tp bk dr H P X) (hn : 24000 ≤ n) : ∃ r X1 X2 bk2 dr2 H2 P2, fX11_book n 1 X = some (r, X1) ∧ fX12_book n 366 X1 = some (r, X2) ∧ Tp bk2 dr2 H2 P2 X2 := by
  sorry
theorem s_deeds (h : Tp bk dr H P X) (hn : 24000 ≤ n) : ∃ r X1 X2, fX11_deeds n 1 X = some (r, X1) ∧ fX12_deeds n 366 X1 = some (r, X2) ∧ Tp bk dr H P X2 := by
  sorry
theorem s_named (h : Tp bk dr H P X) (hn : 24000 ≤ n) (v1 : Int32) : ∃ r X1 X2, fX11_named n 1 v1 X = some (r, X1) ∧ fX12_named n 366 v1 X1 = some (r, X2) ∧ Tp bk dr H P X2 := by
  sorry
end
