/-! DEEDS BY CALL: the seven -/
section
variable {bk dr H P n : Nat} {X : Mm}
theorem s_trade (h : Tp bk dr H P X) (hn : 24000 ≤ n) (v1 v2 v3 v4 v5 v6 : Int32) : ∃ r X1 X2, fX11_trade n 1 v1 v2 v3 v4 v5 v6 X = some (r, X1) ∧ fX12_trade n 366 v1 v2 v3 v4 v5 v6 X1 = some (r, X2) ∧ Tp bk dr H P X2 := by
  have z10 : ¬ (10 : Int32) = 0 := by decide
  have z1000 : ¬ (1000 : Int32) = 0 := by decide
  have hY : Tp bk dr H P (sI (sI (sI (sI (sI (sI (sI (sI (sI (sI (sI (sI (sI X 15 0 (4)) 15 1 v3) 15 7 (-1)) 15 8 0) 15 9 1) 15 10 0) 15 11 0) 15 12 (-1)) 15 2 v1) 15 3 v2) 15 4 v4) 15 5 v5) 15 6 v6) := h.at15 (((((((((((((h.1.sI _ _ _).sI _ _ _).sI _ _ _).sI _ _ _).sI _ _ _).sI _ _ _).sI _ _ _).sI _ _ _).sI _ _ _).sI _ _ _).sI _ _ _).sI _ _ _).sI _ _ _) (fun c k hc => by rw [mI_sI, if_neg (by omega), mI_sI, if_neg (by omega), mI_sI, if_neg (by omega), mI_sI, if_neg (by omega), mI_sI, if_neg (by omega), mI_sI, if_neg (by omega), mI_sI, if_neg (by omega), mI_sI, if_neg (by omega), mI_sI, if_neg (by omega), mI_sI, if_neg (by omega), mI_sI, if_neg (by omega), mI_sI, if_neg (by omega), mI_sI, if_neg (by omega)]) (by rw [mJ_sI, mJ_sI, mJ_sI, mJ_sI, mJ_sI, mJ_sI, mJ_sI, mJ_sI, mJ_sI, mJ_sI, mJ_sI, mJ_sI, mJ_sI])
  have e0 : fX11_trade n 1 v1 v2 v3 v4 v5 v6 X = fX11_doDeed n 1 (sI (sI (sI (sI (sI (sI (sI (sI (sI (sI (sI (sI (sI X 15 0 (4)) 15 1 v3) 15 7 (-1)) 15 8 0) 15 9 1) 15 10 0) 15 11 0) 15 12 (-1)) 15 2 v1) 15 3 v2) 15 4 v4) 15 5 v5) 15 6 v6) := by
    simp only [fX11_trade, bd, h.1.1, h.1.2.1, h.1.2.2, li_T, li_L, li_R, nm, fX2_begin, fX2_setWhen, fX2_setRatio, fX2_setPrices, mT_sI, mR_sI, mL_sI, ne_eq, Nat.reduceEqDiff, reduceCtorEq, and_false, false_and, and_true, true_and, and_self, not_false_eq_true, not_true_eq_false, ↓reduceIte, z10, z1000]
    exact bd_ret _
  generalize hgY : (sI (sI (sI (sI (sI (sI (sI (sI (sI (sI (sI (sI (sI X 15 0 (4)) 15 1 v3) 15 7 (-1)) 15 8 0) 15 9 1) 15 10 0) 15 11 0) 15 12 (-1)) 15 2 v1) 15 3 v2) 15 4 v4) 15 5 v5) 15 6 v6) = Y at hY e0
  have d0 : mI Y 15 0 = (4) := by rw [← hgY]; simp only [mI_sI, Nat.reduceEqDiff, and_false, and_true, and_self, ↓reduceIte]
  have d1 : mI Y 15 1 = v3 := by rw [← hgY]; simp only [mI_sI, Nat.reduceEqDiff, and_false, and_true, and_self, ↓reduceIte]
  have d2 : mI Y 15 2 = v1 := by rw [← hgY]; simp only [mI_sI, Nat.reduceEqDiff, and_false, and_true, and_self, ↓reduceIte]
  have d3 : mI Y 15 3 = v2 := by rw [← hgY]; simp only [mI_sI, Nat.reduceEqDiff, and_false, and_true, and_self, ↓reduceIte]
  have d4 : mI Y 15 4 = v4 := by rw [← hgY]; simp only [mI_sI, Nat.reduceEqDiff, and_false, and_true, and_self, ↓reduceIte]
  have d5 : mI Y 15 5 = v5 := by rw [← hgY]; simp only [mI_sI, Nat.reduceEqDiff, and_false, and_true, and_self, ↓reduceIte]
  have d6 : mI Y 15 6 = v6 := by rw [← hgY]; simp only [mI_sI, Nat.reduceEqDiff, and_false, and_true, and_self, ↓reduceIte]
  have d7 : mI Y 15 7 = (-1) := by rw [← hgY]; simp only [mI_sI, Nat.reduceEqDiff, and_false, and_true, and_self, ↓reduceIte]
  have d8 : mI Y 15 8 = 0 := by rw [← hgY]; simp only [mI_sI, Nat.reduceEqDiff, and_false, and_true, and_self, ↓reduceIte]
  have d9 : mI Y 15 9 = 1 := by rw [← hgY]; simp only [mI_sI, Nat.reduceEqDiff, and_false, and_true, and_self, ↓reduceIte]
  have d10 : mI Y 15 10 = 0 := by rw [← hgY]; simp only [mI_sI, Nat.reduceEqDiff, and_false, and_true, and_self, ↓reduceIte]
  have d11 : mI Y 15 11 = 0 := by rw [← hgY]; simp only [mI_sI, Nat.reduceEqDiff, and_false, and_true, and_self, ↓reduceIte]
  have d12 : mI Y 15 12 = (-1) := by rw [← hgY]; simp only [mI_sI, Nat.reduceEqDiff, and_false, and_true, and_self, ↓reduceIte]
  obtain ⟨r, X1, g, r', Z, e1, hS, e2, e3, hSZ, c⟩ := s_deed (n := n) hY rfl hn (DS.trade (n := n) d0)
  simp only [d2, d3, d1, d4, d5, d6] at e3
  rcases c with ⟨rfl, rfl, tZ⟩ | ⟨hr, w', f', rfl, hZ, sr, X2, e4, hS2, j2, t2⟩
  · refine ⟨_, X1, Z, e0.trans e1, ?_, tZ⟩
    simp only [fX12_trade, fX12_done, fX12_done_L9, z10, z1000, hS.1, hS.2.1, hS.2.2, li_T, li_L, li_R, nm, bd, mT_sI, mR_sI, mL_sI, mT_wJ, mR_wJ, mL_wJ, ne_eq, Nat.reduceEqDiff, reduceCtorEq, and_false, false_and, and_true, true_and, and_self, not_false_eq_true, not_true_eq_false, ↓reduceIte, e2, e3, hSZ.1]
  · refine ⟨r, X1, X2, e0.trans e1, ?_, t2⟩
    simp only [fX12_trade, fX12_done, fX12_done_L9, z10, z1000, hS.1, hS.2.1, hS.2.2, li_T, li_L, li_R, nm, bd, mT_sI, mR_sI, mL_sI, mT_wJ, mR_wJ, mL_wJ, ne_eq, Nat.reduceEqDiff, reduceCtorEq, and_false, false_and, and_true, true_and, and_self, not_false_eq_true, not_true_eq_false, ↓reduceIte, e2, e3, hSZ.1, hr, e4]
theorem s_money (h : Tp bk dr H P X) (hn : 24000 ≤ n) (v1 v2 v3 v4 v5 : Int32) : ∃ r X1 X2, fX11_money n 1 v1 v2 v3 v4 v5 X = some (r, X1) ∧ fX12_money n 366 v1 v2 v3 v4 v5 X1 = some (r, X2) ∧ Tp bk dr H P X2 := by
  have z10 : ¬ (10 : Int32) = 0 := by decide
  have z1000 : ¬ (1000 : Int32) = 0 := by decide
  have hY : Tp bk dr H P (sI (sI (sI (sI (sI (sI (sI (sI (sI (sI (sI (sI X 15 0 (0)) 15 1 v1) 15 7 (-1)) 15 8 0) 15 9 1) 15 10 0) 15 11 0) 15 12 (-1)) 15 10 v2) 15 13 v3) 15 14 v4) 15 15 v5) := h.at15 ((((((((((((h.1.sI _ _ _).sI _ _ _).sI _ _ _).sI _ _ _).sI _ _ _).sI _ _ _).sI _ _ _).sI _ _ _).sI _ _ _).sI _ _ _).sI _ _ _).sI _ _ _) (fun c k hc => by rw [mI_sI, if_neg (by omega), mI_sI, if_neg (by omega), mI_sI, if_neg (by omega), mI_sI, if_neg (by omega), mI_sI, if_neg (by omega), mI_sI, if_neg (by omega), mI_sI, if_neg (by omega), mI_sI, if_neg (by omega), mI_sI, if_neg (by omega), mI_sI, if_neg (by omega), mI_sI, if_neg (by omega), mI_sI, if_neg (by omega)]) (by rw [mJ_sI, mJ_sI, mJ_sI, mJ_sI, mJ_sI, mJ_sI, mJ_sI, mJ_sI, mJ_sI, mJ_sI, mJ_sI, mJ_sI])
  have e0 : fX11_money n 1 v1 v2 v3 v4 v5 X = fX11_doDeed n 1 (sI (sI (sI (sI (sI (sI (sI (sI (sI (sI (sI (sI X 15 0 (0)) 15 1 v1) 15 7 (-1)) 15 8 0) 15 9 1) 15 10 0) 15 11 0) 15 12 (-1)) 15 10 v2) 15 13 v3) 15 14 v4) 15 15 v5) := by
    simp only [fX11_money, bd, h.1.1, h.1.2.1, h.1.2.2, li_T, li_L, li_R, nm, fX2_begin, fX2_setWhen, fX2_setRatio, fX2_setPrices, mT_sI, mR_sI, mL_sI, ne_eq, Nat.reduceEqDiff, reduceCtorEq, and_false, false_and, and_true, true_and, and_self, not_false_eq_true, not_true_eq_false, ↓reduceIte, z10, z1000]
    exact bd_ret _
  generalize hgY : (sI (sI (sI (sI (sI (sI (sI (sI (sI (sI (sI (sI X 15 0 (0)) 15 1 v1) 15 7 (-1)) 15 8 0) 15 9 1) 15 10 0) 15 11 0) 15 12 (-1)) 15 10 v2) 15 13 v3) 15 14 v4) 15 15 v5) = Y at hY e0
  have d0 : mI Y 15 0 = (0) := by rw [← hgY]; simp only [mI_sI, Nat.reduceEqDiff, and_false, and_true, and_self, ↓reduceIte]
  have d1 : mI Y 15 1 = v1 := by rw [← hgY]; simp only [mI_sI, Nat.reduceEqDiff, and_false, and_true, and_self, ↓reduceIte]
  have d7 : mI Y 15 7 = (-1) := by rw [← hgY]; simp only [mI_sI, Nat.reduceEqDiff, and_false, and_true, and_self, ↓reduceIte]
  have d8 : mI Y 15 8 = 0 := by rw [← hgY]; simp only [mI_sI, Nat.reduceEqDiff, and_false, and_true, and_self, ↓reduceIte]
  have d9 : mI Y 15 9 = 1 := by rw [← hgY]; simp only [mI_sI, Nat.reduceEqDiff, and_false, and_true, and_self, ↓reduceIte]
  have d10 : mI Y 15 10 = v2 := by rw [← hgY]; simp only [mI_sI, Nat.reduceEqDiff, and_false, and_true, and_self, ↓reduceIte]
  have d11 : mI Y 15 11 = 0 := by rw [← hgY]; simp only [mI_sI, Nat.reduceEqDiff, and_false, and_true, and_self, ↓reduceIte]
  have d12 : mI Y 15 12 = (-1) := by rw [← hgY]; simp only [mI_sI, Nat.reduceEqDiff, and_false, and_true, and_self, ↓reduceIte]
  have d13 : mI Y 15 13 = v3 := by rw [← hgY]; simp only [mI_sI, Nat.reduceEqDiff, and_false, and_true, and_self, ↓reduceIte]
  have d14 : mI Y 15 14 = v4 := by rw [← hgY]; simp only [mI_sI, Nat.reduceEqDiff, and_false, and_true, and_self, ↓reduceIte]
  have d15 : mI Y 15 15 = v5 := by rw [← hgY]; simp only [mI_sI, Nat.reduceEqDiff, and_false, and_true, and_self, ↓reduceIte]
  obtain ⟨r, X1, g, r', Z, e1, hS, e2, e3, hSZ, c⟩ := s_deed (n := n) hY rfl hn (DS.pays (n := n) (by omega) d0 d8 d9 d11)
  simp only [d1, d10, d13, d14, d15] at e3
  rcases c with ⟨rfl, rfl, tZ⟩ | ⟨hr, w', f', rfl, hZ, sr, X2, e4, hS2, j2, t2⟩
  · refine ⟨_, X1, Z, e0.trans e1, ?_, tZ⟩
    simp only [fX12_money, fX12_done, fX12_done_L9, z10, z1000, hS.1, hS.2.1, hS.2.2, li_T, li_L, li_R, nm, bd, mT_sI, mR_sI, mL_sI, mT_wJ, mR_wJ, mL_wJ, ne_eq, Nat.reduceEqDiff, reduceCtorEq, and_false, false_and, and_true, true_and, and_self, not_false_eq_true, not_true_eq_false, ↓reduceIte, e2, e3, hSZ.1]
  · refine ⟨r, X1, X2, e0.trans e1, ?_, t2⟩
    simp only [fX12_money, fX12_done, fX12_done_L9, z10, z1000, hS.1, hS.2.1, hS.2.2, li_T, li_L, li_R, nm, bd, mT_sI, mR_sI, mL_sI, mT_wJ, mR_wJ, mL_wJ, ne_eq, Nat.reduceEqDiff, reduceCtorEq, and_false, false_and, and_true, true_and, and_self, not_false_eq_true, not_true_eq_false, ↓reduceIte, e2, e3, hSZ.1, hr, e4]
theorem s_gift (h : Tp bk dr H P X) (hn : 24000 ≤ n) (v1 v2 v3 v4 v5 v6 : Int32) : ∃ r X1 X2, fX11_gift n 1 v1 v2 v3 v4 v5 v6 X = some (r, X1) ∧ fX12_gift n 366 v1 v2 v3 v4 v5 v6 X1 = some (r, X2) ∧ Tp bk dr H P X2 := by
  have z10 : ¬ (10 : Int32) = 0 := by decide
  have z1000 : ¬ (1000 : Int32) = 0 := by decide
  have hY : Tp bk dr H P (sI (sI (sI (sI (sI (sI (sI (sI (sI (sI (sI (sI (sI (sI X 15 0 (1)) 15 1 v1) 15 7 (-1)) 15 8 0) 15 9 1) 15 10 0) 15 11 0) 15 12 (-1)) 15 8 (v2 / 10)) 15 9 (v2 - v2 / 10 * 10)) 15 11 v3) 15 13 v4) 15 14 v5) 15 15 v6) := h.at15 ((((((((((((((h.1.sI _ _ _).sI _ _ _).sI _ _ _).sI _ _ _).sI _ _ _).sI _ _ _).sI _ _ _).sI _ _ _).sI _ _ _).sI _ _ _).sI _ _ _).sI _ _ _).sI _ _ _).sI _ _ _) (fun c k hc => by rw [mI_sI, if_neg (by omega), mI_sI, if_neg (by omega), mI_sI, if_neg (by omega), mI_sI, if_neg (by omega), mI_sI, if_neg (by omega), mI_sI, if_neg (by omega), mI_sI, if_neg (by omega), mI_sI, if_neg (by omega), mI_sI, if_neg (by omega), mI_sI, if_neg (by omega), mI_sI, if_neg (by omega), mI_sI, if_neg (by omega), mI_sI, if_neg (by omega), mI_sI, if_neg (by omega)]) (by rw [mJ_sI, mJ_sI, mJ_sI, mJ_sI, mJ_sI, mJ_sI, mJ_sI, mJ_sI, mJ_sI, mJ_sI, mJ_sI, mJ_sI, mJ_sI, mJ_sI])
  have e0 : fX11_gift n 1 v1 v2 v3 v4 v5 v6 X = fX11_doDeed n 1 (sI (sI (sI (sI (sI (sI (sI (sI (sI (sI (sI (sI (sI (sI X 15 0 (1)) 15 1 v1) 15 7 (-1)) 15 8 0) 15 9 1) 15 10 0) 15 11 0) 15 12 (-1)) 15 8 (v2 / 10)) 15 9 (v2 - v2 / 10 * 10)) 15 11 v3) 15 13 v4) 15 14 v5) 15 15 v6) := by
    simp only [fX11_gift, bd, h.1.1, h.1.2.1, h.1.2.2, li_T, li_L, li_R, nm, fX2_begin, fX2_setWhen, fX2_setRatio, fX2_setPrices, mT_sI, mR_sI, mL_sI, ne_eq, Nat.reduceEqDiff, reduceCtorEq, and_false, false_and, and_true, true_and, and_self, not_false_eq_true, not_true_eq_false, ↓reduceIte, z10, z1000]
    exact bd_ret _
  generalize hgY : (sI (sI (sI (sI (sI (sI (sI (sI (sI (sI (sI (sI (sI (sI X 15 0 (1)) 15 1 v1) 15 7 (-1)) 15 8 0) 15 9 1) 15 10 0) 15 11 0) 15 12 (-1)) 15 8 (v2 / 10)) 15 9 (v2 - v2 / 10 * 10)) 15 11 v3) 15 13 v4) 15 14 v5) 15 15 v6) = Y at hY e0
  have d0 : mI Y 15 0 = (1) := by rw [← hgY]; simp only [mI_sI, Nat.reduceEqDiff, and_false, and_true, and_self, ↓reduceIte]
  have d1 : mI Y 15 1 = v1 := by rw [← hgY]; simp only [mI_sI, Nat.reduceEqDiff, and_false, and_true, and_self, ↓reduceIte]
  have d7 : mI Y 15 7 = (-1) := by rw [← hgY]; simp only [mI_sI, Nat.reduceEqDiff, and_false, and_true, and_self, ↓reduceIte]
  have d8 : mI Y 15 8 = (v2 / 10) := by rw [← hgY]; simp only [mI_sI, Nat.reduceEqDiff, and_false, and_true, and_self, ↓reduceIte]
  have d9 : mI Y 15 9 = (v2 - v2 / 10 * 10) := by rw [← hgY]; simp only [mI_sI, Nat.reduceEqDiff, and_false, and_true, and_self, ↓reduceIte]
  have d10 : mI Y 15 10 = 0 := by rw [← hgY]; simp only [mI_sI, Nat.reduceEqDiff, and_false, and_true, and_self, ↓reduceIte]
  have d11 : mI Y 15 11 = v3 := by rw [← hgY]; simp only [mI_sI, Nat.reduceEqDiff, and_false, and_true, and_self, ↓reduceIte]
  have d12 : mI Y 15 12 = (-1) := by rw [← hgY]; simp only [mI_sI, Nat.reduceEqDiff, and_false, and_true, and_self, ↓reduceIte]
  have d13 : mI Y 15 13 = v4 := by rw [← hgY]; simp only [mI_sI, Nat.reduceEqDiff, and_false, and_true, and_self, ↓reduceIte]
  have d14 : mI Y 15 14 = v5 := by rw [← hgY]; simp only [mI_sI, Nat.reduceEqDiff, and_false, and_true, and_self, ↓reduceIte]
  have d15 : mI Y 15 15 = v6 := by rw [← hgY]; simp only [mI_sI, Nat.reduceEqDiff, and_false, and_true, and_self, ↓reduceIte]
  obtain ⟨r, X1, g, r', Z, e1, hS, e2, e3, hSZ, c⟩ := s_deed (n := n) hY rfl hn (DS.gives (n := n) (by omega) d0 d10)
  simp only [d1, d8, d9, d11, d13, d14, d15] at e3
  rcases c with ⟨rfl, rfl, tZ⟩ | ⟨hr, w', f', rfl, hZ, sr, X2, e4, hS2, j2, t2⟩
  · refine ⟨_, X1, Z, e0.trans e1, ?_, tZ⟩
    simp only [fX12_gift, fX12_done, fX12_done_L9, z10, z1000, hS.1, hS.2.1, hS.2.2, li_T, li_L, li_R, nm, bd, mT_sI, mR_sI, mL_sI, mT_wJ, mR_wJ, mL_wJ, ne_eq, Nat.reduceEqDiff, reduceCtorEq, and_false, false_and, and_true, true_and, and_self, not_false_eq_true, not_true_eq_false, ↓reduceIte, e2, e3, hSZ.1]
  · refine ⟨r, X1, X2, e0.trans e1, ?_, t2⟩
    simp only [fX12_gift, fX12_done, fX12_done_L9, z10, z1000, hS.1, hS.2.1, hS.2.2, li_T, li_L, li_R, nm, bd, mT_sI, mR_sI, mL_sI, mT_wJ, mR_wJ, mL_wJ, ne_eq, Nat.reduceEqDiff, reduceCtorEq, and_false, false_and, and_true, true_and, and_self, not_false_eq_true, not_true_eq_false, ↓reduceIte, e2, e3, hSZ.1, hr, e4]
theorem s_rights (h : Tp bk dr H P X) (hn : 24000 ≤ n) (v1 v2 v3 v4 v5 v6 v7 : Int32) : ∃ r X1 X2, fX11_rights n 1 v1 v2 v3 v4 v5 v6 v7 X = some (r, X1) ∧ fX12_rights n 366 v1 v2 v3 v4 v5 v6 v7 X1 = some (r, X2) ∧ Tp bk dr H P X2 := by
  have z10 : ¬ (10 : Int32) = 0 := by decide
  have z1000 : ¬ (1000 : Int32) = 0 := by decide
  have hY : Tp bk dr H P (sI (sI (sI (sI (sI (sI (sI (sI (sI (sI (sI (sI (sI (sI (sI (sI X 15 0 (2)) 15 1 v1) 15 7 (-1)) 15 8 0) 15 9 1) 15 10 0) 15 11 0) 15 12 (-1)) 15 8 (v2 / 10)) 15 9 (v2 - v2 / 10 * 10)) 15 10 (v3 / 1000)) 15 11 (v3 - v3 / 1000 * 1000)) 15 12 v4) 15 13 v5) 15 14 v6) 15 15 v7) := h.at15 ((((((((((((((((h.1.sI _ _ _).sI _ _ _).sI _ _ _).sI _ _ _).sI _ _ _).sI _ _ _).sI _ _ _).sI _ _ _).sI _ _ _).sI _ _ _).sI _ _ _).sI _ _ _).sI _ _ _).sI _ _ _).sI _ _ _).sI _ _ _) (fun c k hc => by rw [mI_sI, if_neg (by omega), mI_sI, if_neg (by omega), mI_sI, if_neg (by omega), mI_sI, if_neg (by omega), mI_sI, if_neg (by omega), mI_sI, if_neg (by omega), mI_sI, if_neg (by omega), mI_sI, if_neg (by omega), mI_sI, if_neg (by omega), mI_sI, if_neg (by omega), mI_sI, if_neg (by omega), mI_sI, if_neg (by omega), mI_sI, if_neg (by omega), mI_sI, if_neg (by omega), mI_sI, if_neg (by omega), mI_sI, if_neg (by omega)]) (by rw [mJ_sI, mJ_sI, mJ_sI, mJ_sI, mJ_sI, mJ_sI, mJ_sI, mJ_sI, mJ_sI, mJ_sI, mJ_sI, mJ_sI, mJ_sI, mJ_sI, mJ_sI, mJ_sI])
  have e0 : fX11_rights n 1 v1 v2 v3 v4 v5 v6 v7 X = fX11_doDeed n 1 (sI (sI (sI (sI (sI (sI (sI (sI (sI (sI (sI (sI (sI (sI (sI (sI X 15 0 (2)) 15 1 v1) 15 7 (-1)) 15 8 0) 15 9 1) 15 10 0) 15 11 0) 15 12 (-1)) 15 8 (v2 / 10)) 15 9 (v2 - v2 / 10 * 10)) 15 10 (v3 / 1000)) 15 11 (v3 - v3 / 1000 * 1000)) 15 12 v4) 15 13 v5) 15 14 v6) 15 15 v7) := by
    simp only [fX11_rights, bd, h.1.1, h.1.2.1, h.1.2.2, li_T, li_L, li_R, nm, fX2_begin, fX2_setWhen, fX2_setRatio, fX2_setPrices, mT_sI, mR_sI, mL_sI, ne_eq, Nat.reduceEqDiff, reduceCtorEq, and_false, false_and, and_true, true_and, and_self, not_false_eq_true, not_true_eq_false, ↓reduceIte, z10, z1000]
    exact bd_ret _
  generalize hgY : (sI (sI (sI (sI (sI (sI (sI (sI (sI (sI (sI (sI (sI (sI (sI (sI X 15 0 (2)) 15 1 v1) 15 7 (-1)) 15 8 0) 15 9 1) 15 10 0) 15 11 0) 15 12 (-1)) 15 8 (v2 / 10)) 15 9 (v2 - v2 / 10 * 10)) 15 10 (v3 / 1000)) 15 11 (v3 - v3 / 1000 * 1000)) 15 12 v4) 15 13 v5) 15 14 v6) 15 15 v7) = Y at hY e0
  have d0 : mI Y 15 0 = (2) := by rw [← hgY]; simp only [mI_sI, Nat.reduceEqDiff, and_false, and_true, and_self, ↓reduceIte]
  have d1 : mI Y 15 1 = v1 := by rw [← hgY]; simp only [mI_sI, Nat.reduceEqDiff, and_false, and_true, and_self, ↓reduceIte]
  have d7 : mI Y 15 7 = (-1) := by rw [← hgY]; simp only [mI_sI, Nat.reduceEqDiff, and_false, and_true, and_self, ↓reduceIte]
  have d8 : mI Y 15 8 = (v2 / 10) := by rw [← hgY]; simp only [mI_sI, Nat.reduceEqDiff, and_false, and_true, and_self, ↓reduceIte]
  have d9 : mI Y 15 9 = (v2 - v2 / 10 * 10) := by rw [← hgY]; simp only [mI_sI, Nat.reduceEqDiff, and_false, and_true, and_self, ↓reduceIte]
  have d10 : mI Y 15 10 = (v3 / 1000) := by rw [← hgY]; simp only [mI_sI, Nat.reduceEqDiff, and_false, and_true, and_self, ↓reduceIte]
  have d11 : mI Y 15 11 = (v3 - v3 / 1000 * 1000) := by rw [← hgY]; simp only [mI_sI, Nat.reduceEqDiff, and_false, and_true, and_self, ↓reduceIte]
  have d12 : mI Y 15 12 = v4 := by rw [← hgY]; simp only [mI_sI, Nat.reduceEqDiff, and_false, and_true, and_self, ↓reduceIte]
  have d13 : mI Y 15 13 = v5 := by rw [← hgY]; simp only [mI_sI, Nat.reduceEqDiff, and_false, and_true, and_self, ↓reduceIte]
  have d14 : mI Y 15 14 = v6 := by rw [← hgY]; simp only [mI_sI, Nat.reduceEqDiff, and_false, and_true, and_self, ↓reduceIte]
  have d15 : mI Y 15 15 = v7 := by rw [← hgY]; simp only [mI_sI, Nat.reduceEqDiff, and_false, and_true, and_self, ↓reduceIte]
  obtain ⟨r, X1, g, r', Z, e1, hS, e2, e3, hSZ, c⟩ := s_deed (n := n) hY rfl hn (DS.offers (n := n) (by omega) d0)
  simp only [d1, d8, d9, d10, d11, d12, d13, d14, d15] at e3
  rcases c with ⟨rfl, rfl, tZ⟩ | ⟨hr, w', f', rfl, hZ, sr, X2, e4, hS2, j2, t2⟩
  · refine ⟨_, X1, Z, e0.trans e1, ?_, tZ⟩
    simp only [fX12_rights, fX12_done, fX12_done_L9, z10, z1000, hS.1, hS.2.1, hS.2.2, li_T, li_L, li_R, nm, bd, mT_sI, mR_sI, mL_sI, mT_wJ, mR_wJ, mL_wJ, ne_eq, Nat.reduceEqDiff, reduceCtorEq, and_false, false_and, and_true, true_and, and_self, not_false_eq_true, not_true_eq_false, ↓reduceIte, e2, e3, hSZ.1]
  · refine ⟨r, X1, X2, e0.trans e1, ?_, t2⟩
    simp only [fX12_rights, fX12_done, fX12_done_L9, z10, z1000, hS.1, hS.2.1, hS.2.2, li_T, li_L, li_R, nm, bd, mT_sI, mR_sI, mL_sI, mT_wJ, mR_wJ, mL_wJ, ne_eq, Nat.reduceEqDiff, reduceCtorEq, and_false, false_and, and_true, true_and, and_self, not_false_eq_true, not_true_eq_false, ↓reduceIte, e2, e3, hSZ.1, hr, e4]
theorem s_turn (h : Tp bk dr H P X) (hn : 24000 ≤ n) (v1 v2 v3 v4 v5 : Int32) : ∃ r X1 X2, fX11_turn n 1 v1 v2 v3 v4 v5 X = some (r, X1) ∧ fX12_turn n 366 v1 v2 v3 v4 v5 X1 = some (r, X2) ∧ Tp bk dr H P X2 := by
  have z10 : ¬ (10 : Int32) = 0 := by decide
  have z1000 : ¬ (1000 : Int32) = 0 := by decide
  have hY : Tp bk dr H P (sI (sI (sI (sI (sI (sI (sI (sI (sI (sI (sI (sI (sI (sI (sI (sI X 15 0 (3)) 15 1 v1) 15 7 (-1)) 15 8 0) 15 9 1) 15 10 0) 15 11 0) 15 12 (-1)) 15 7 v2) 15 8 (v3 / 10)) 15 9 (v3 - v3 / 10 * 10)) 15 10 (v4 / 1000)) 15 11 (v4 - v4 / 1000 * 1000)) 15 13 v5) 15 14 v5) 15 15 v5) := h.at15 ((((((((((((((((h.1.sI _ _ _).sI _ _ _).sI _ _ _).sI _ _ _).sI _ _ _).sI _ _ _).sI _ _ _).sI _ _ _).sI _ _ _).sI _ _ _).sI _ _ _).sI _ _ _).sI _ _ _).sI _ _ _).sI _ _ _).sI _ _ _) (fun c k hc => by rw [mI_sI, if_neg (by omega), mI_sI, if_neg (by omega), mI_sI, if_neg (by omega), mI_sI, if_neg (by omega), mI_sI, if_neg (by omega), mI_sI, if_neg (by omega), mI_sI, if_neg (by omega), mI_sI, if_neg (by omega), mI_sI, if_neg (by omega), mI_sI, if_neg (by omega), mI_sI, if_neg (by omega), mI_sI, if_neg (by omega), mI_sI, if_neg (by omega), mI_sI, if_neg (by omega), mI_sI, if_neg (by omega), mI_sI, if_neg (by omega)]) (by rw [mJ_sI, mJ_sI, mJ_sI, mJ_sI, mJ_sI, mJ_sI, mJ_sI, mJ_sI, mJ_sI, mJ_sI, mJ_sI, mJ_sI, mJ_sI, mJ_sI, mJ_sI, mJ_sI])
  have e0 : fX11_turn n 1 v1 v2 v3 v4 v5 X = fX11_doDeed n 1 (sI (sI (sI (sI (sI (sI (sI (sI (sI (sI (sI (sI (sI (sI (sI (sI X 15 0 (3)) 15 1 v1) 15 7 (-1)) 15 8 0) 15 9 1) 15 10 0) 15 11 0) 15 12 (-1)) 15 7 v2) 15 8 (v3 / 10)) 15 9 (v3 - v3 / 10 * 10)) 15 10 (v4 / 1000)) 15 11 (v4 - v4 / 1000 * 1000)) 15 13 v5) 15 14 v5) 15 15 v5) := by
    simp only [fX11_turn, bd, h.1.1, h.1.2.1, h.1.2.2, li_T, li_L, li_R, nm, fX2_begin, fX2_setWhen, fX2_setRatio, fX2_setPrices, mT_sI, mR_sI, mL_sI, ne_eq, Nat.reduceEqDiff, reduceCtorEq, and_false, false_and, and_true, true_and, and_self, not_false_eq_true, not_true_eq_false, ↓reduceIte, z10, z1000]
    exact bd_ret _
  generalize hgY : (sI (sI (sI (sI (sI (sI (sI (sI (sI (sI (sI (sI (sI (sI (sI (sI X 15 0 (3)) 15 1 v1) 15 7 (-1)) 15 8 0) 15 9 1) 15 10 0) 15 11 0) 15 12 (-1)) 15 7 v2) 15 8 (v3 / 10)) 15 9 (v3 - v3 / 10 * 10)) 15 10 (v4 / 1000)) 15 11 (v4 - v4 / 1000 * 1000)) 15 13 v5) 15 14 v5) 15 15 v5) = Y at hY e0
  have d0 : mI Y 15 0 = (3) := by rw [← hgY]; simp only [mI_sI, Nat.reduceEqDiff, and_false, and_true, and_self, ↓reduceIte]
  have d1 : mI Y 15 1 = v1 := by rw [← hgY]; simp only [mI_sI, Nat.reduceEqDiff, and_false, and_true, and_self, ↓reduceIte]
  have d7 : mI Y 15 7 = v2 := by rw [← hgY]; simp only [mI_sI, Nat.reduceEqDiff, and_false, and_true, and_self, ↓reduceIte]
  have d8 : mI Y 15 8 = (v3 / 10) := by rw [← hgY]; simp only [mI_sI, Nat.reduceEqDiff, and_false, and_true, and_self, ↓reduceIte]
  have d9 : mI Y 15 9 = (v3 - v3 / 10 * 10) := by rw [← hgY]; simp only [mI_sI, Nat.reduceEqDiff, and_false, and_true, and_self, ↓reduceIte]
  have d10 : mI Y 15 10 = (v4 / 1000) := by rw [← hgY]; simp only [mI_sI, Nat.reduceEqDiff, and_false, and_true, and_self, ↓reduceIte]
  have d11 : mI Y 15 11 = (v4 - v4 / 1000 * 1000) := by rw [← hgY]; simp only [mI_sI, Nat.reduceEqDiff, and_false, and_true, and_self, ↓reduceIte]
  have d12 : mI Y 15 12 = (-1) := by rw [← hgY]; simp only [mI_sI, Nat.reduceEqDiff, and_false, and_true, and_self, ↓reduceIte]
  have d13 : mI Y 15 13 = v5 := by rw [← hgY]; simp only [mI_sI, Nat.reduceEqDiff, and_false, and_true, and_self, ↓reduceIte]
  have d14 : mI Y 15 14 = v5 := by rw [← hgY]; simp only [mI_sI, Nat.reduceEqDiff, and_false, and_true, and_self, ↓reduceIte]
  have d15 : mI Y 15 15 = v5 := by rw [← hgY]; simp only [mI_sI, Nat.reduceEqDiff, and_false, and_true, and_self, ↓reduceIte]
  obtain ⟨r, X1, g, r', Z, e1, hS, e2, e3, hSZ, c⟩ := s_deed (n := n) hY rfl hn (DS.turns (n := n) (by omega) d0 (d13.trans d14.symm) (d15.trans d14.symm))
  simp only [d1, d7, d8, d9, d10, d11, d14] at e3
  rcases c with ⟨rfl, rfl, tZ⟩ | ⟨hr, w', f', rfl, hZ, sr, X2, e4, hS2, j2, t2⟩
  · refine ⟨_, X1, Z, e0.trans e1, ?_, tZ⟩
    simp only [fX12_turn, fX12_done, fX12_done_L9, z10, z1000, hS.1, hS.2.1, hS.2.2, li_T, li_L, li_R, nm, bd, mT_sI, mR_sI, mL_sI, mT_wJ, mR_wJ, mL_wJ, ne_eq, Nat.reduceEqDiff, reduceCtorEq, and_false, false_and, and_true, true_and, and_self, not_false_eq_true, not_true_eq_false, ↓reduceIte, e2, e3, hSZ.1]
  · refine ⟨r, X1, X2, e0.trans e1, ?_, t2⟩
    simp only [fX12_turn, fX12_done, fX12_done_L9, z10, z1000, hS.1, hS.2.1, hS.2.2, li_T, li_L, li_R, nm, bd, mT_sI, mR_sI, mL_sI, mT_wJ, mR_wJ, mL_wJ, ne_eq, Nat.reduceEqDiff, reduceCtorEq, and_false, false_and, and_true, true_and, and_self, not_false_eq_true, not_true_eq_false, ↓reduceIte, e2, e3, hSZ.1, hr, e4]
theorem s_choose (h : Tp bk dr H P X) (hn : 24000 ≤ n) (v1 v2 v3 v4 : Int32) : ∃ r X1 X2, fX11_choose n 1 v1 v2 v3 v4 X = some (r, X1) ∧ fX12_choose n 366 v1 v2 v3 v4 X1 = some (r, X2) ∧ Tp bk dr H P X2 := by
  have z10 : ¬ (10 : Int32) = 0 := by decide
  have z1000 : ¬ (1000 : Int32) = 0 := by decide
  have hY : Tp bk dr H P (sI (sI (sI (sI (sI (sI (sI (sI (sI (sI (sI (sI X 15 0 (5)) 15 1 (-1)) 15 7 (-1)) 15 8 0) 15 9 1) 15 10 0) 15 11 0) 15 12 (-1)) 15 16 v1) 15 2 v2) 15 17 v3) 15 18 v4) := h.at15 ((((((((((((h.1.sI _ _ _).sI _ _ _).sI _ _ _).sI _ _ _).sI _ _ _).sI _ _ _).sI _ _ _).sI _ _ _).sI _ _ _).sI _ _ _).sI _ _ _).sI _ _ _) (fun c k hc => by rw [mI_sI, if_neg (by omega), mI_sI, if_neg (by omega), mI_sI, if_neg (by omega), mI_sI, if_neg (by omega), mI_sI, if_neg (by omega), mI_sI, if_neg (by omega), mI_sI, if_neg (by omega), mI_sI, if_neg (by omega), mI_sI, if_neg (by omega), mI_sI, if_neg (by omega), mI_sI, if_neg (by omega), mI_sI, if_neg (by omega)]) (by rw [mJ_sI, mJ_sI, mJ_sI, mJ_sI, mJ_sI, mJ_sI, mJ_sI, mJ_sI, mJ_sI, mJ_sI, mJ_sI, mJ_sI])
  have e0 : fX11_choose n 1 v1 v2 v3 v4 X = bd (fX11_doDeed n 1 (sI (sI (sI (sI (sI (sI (sI (sI (sI (sI (sI (sI X 15 0 (5)) 15 1 (-1)) 15 7 (-1)) 15 8 0) 15 9 1) 15 10 0) 15 11 0) 15 12 (-1)) 15 16 v1) 15 2 v2) 15 17 v3) 15 18 v4)) fun w Y => if w = -1 then some (0, Y) else some (1, Y) := by
    simp only [fX11_choose, bd, h.1.1, h.1.2.1, h.1.2.2, li_T, li_L, li_R, nm, fX2_begin, fX2_setWhen, fX2_setRatio, fX2_setPrices, mT_sI, mR_sI, mL_sI, ne_eq, Nat.reduceEqDiff, reduceCtorEq, and_false, false_and, and_true, true_and, and_self, not_false_eq_true, not_true_eq_false, ↓reduceIte, z10, z1000]
  generalize hgY : (sI (sI (sI (sI (sI (sI (sI (sI (sI (sI (sI (sI X 15 0 (5)) 15 1 (-1)) 15 7 (-1)) 15 8 0) 15 9 1) 15 10 0) 15 11 0) 15 12 (-1)) 15 16 v1) 15 2 v2) 15 17 v3) 15 18 v4) = Y at hY e0
  have d0 : mI Y 15 0 = (5) := by rw [← hgY]; simp only [mI_sI, Nat.reduceEqDiff, and_false, and_true, and_self, ↓reduceIte]
  have d1 : mI Y 15 1 = (-1) := by rw [← hgY]; simp only [mI_sI, Nat.reduceEqDiff, and_false, and_true, and_self, ↓reduceIte]
  have d2 : mI Y 15 2 = v2 := by rw [← hgY]; simp only [mI_sI, Nat.reduceEqDiff, and_false, and_true, and_self, ↓reduceIte]
  have d7 : mI Y 15 7 = (-1) := by rw [← hgY]; simp only [mI_sI, Nat.reduceEqDiff, and_false, and_true, and_self, ↓reduceIte]
  have d8 : mI Y 15 8 = 0 := by rw [← hgY]; simp only [mI_sI, Nat.reduceEqDiff, and_false, and_true, and_self, ↓reduceIte]
  have d9 : mI Y 15 9 = 1 := by rw [← hgY]; simp only [mI_sI, Nat.reduceEqDiff, and_false, and_true, and_self, ↓reduceIte]
  have d10 : mI Y 15 10 = 0 := by rw [← hgY]; simp only [mI_sI, Nat.reduceEqDiff, and_false, and_true, and_self, ↓reduceIte]
  have d11 : mI Y 15 11 = 0 := by rw [← hgY]; simp only [mI_sI, Nat.reduceEqDiff, and_false, and_true, and_self, ↓reduceIte]
  have d12 : mI Y 15 12 = (-1) := by rw [← hgY]; simp only [mI_sI, Nat.reduceEqDiff, and_false, and_true, and_self, ↓reduceIte]
  have d16 : mI Y 15 16 = v1 := by rw [← hgY]; simp only [mI_sI, Nat.reduceEqDiff, and_false, and_true, and_self, ↓reduceIte]
  have d17 : mI Y 15 17 = v3 := by rw [← hgY]; simp only [mI_sI, Nat.reduceEqDiff, and_false, and_true, and_self, ↓reduceIte]
  have d18 : mI Y 15 18 = v4 := by rw [← hgY]; simp only [mI_sI, Nat.reduceEqDiff, and_false, and_true, and_self, ↓reduceIte]
  obtain ⟨r, X1, g, r', Z, e1, hS, e2, e3, hSZ, c⟩ := s_deed (n := n) hY rfl hn (DS.choose (n := n) d0)
  simp only [d16, d2, d17, d18] at e3
  rcases c with ⟨rfl, rfl, tZ⟩ | ⟨hr, w', f', rfl, hZ, sr, X2, e4, hS2, j2, t2⟩
  · refine ⟨0, X1, Z, by rw [e0, e1]; rfl, ?_, tZ⟩
    simp only [fX12_choose, fX12_choose_L39, hS.1, hS.2.1, hS.2.2, li_T, li_L, li_R, nm, bd, mT_sI, mR_sI, mL_sI, mT_wJ, mR_wJ, mL_wJ, ne_eq, Nat.reduceEqDiff, reduceCtorEq, and_false, false_and, and_true, true_and, and_self, not_false_eq_true, not_true_eq_false, ↓reduceIte, e2, e3, hSZ.1, true_or]
  · refine ⟨1, X1, X2, by rw [e0, e1]; exact if_neg hr, ?_, t2⟩
    simp only [fX12_choose, fX12_choose_L39, hS.1, hS.2.1, hS.2.2, li_T, li_L, li_R, nm, bd, mT_sI, mR_sI, mL_sI, mT_wJ, mR_wJ, mL_wJ, ne_eq, Nat.reduceEqDiff, reduceCtorEq, and_false, false_and, and_true, true_and, and_self, not_false_eq_true, not_true_eq_false, ↓reduceIte, e2, e3, hSZ.1, b1, e4, or_true]
theorem s_days (h : Tp bk dr H P X) (hn : 24000 ≤ n) (v1 : Int32) : ∃ r X1 X2, fX11_days n 1 v1 X = some (r, X1) ∧ fX12_days n 366 v1 X1 = some (r, X2) ∧ Tp bk dr H P X2 := by
  have z10 : ¬ (10 : Int32) = 0 := by decide
  have z1000 : ¬ (1000 : Int32) = 0 := by decide
  have hY : Tp bk dr H P (sI (sI (sI (sI (sI (sI (sI (sI (sI X 15 0 (6)) 15 1 (-1)) 15 7 (-1)) 15 8 0) 15 9 1) 15 10 0) 15 11 0) 15 12 (-1)) 15 19 v1) := h.at15 (((((((((h.1.sI _ _ _).sI _ _ _).sI _ _ _).sI _ _ _).sI _ _ _).sI _ _ _).sI _ _ _).sI _ _ _).sI _ _ _) (fun c k hc => by rw [mI_sI, if_neg (by omega), mI_sI, if_neg (by omega), mI_sI, if_neg (by omega), mI_sI, if_neg (by omega), mI_sI, if_neg (by omega), mI_sI, if_neg (by omega), mI_sI, if_neg (by omega), mI_sI, if_neg (by omega), mI_sI, if_neg (by omega)]) (by rw [mJ_sI, mJ_sI, mJ_sI, mJ_sI, mJ_sI, mJ_sI, mJ_sI, mJ_sI, mJ_sI])
  have e0 : fX11_days n 1 v1 X = fX11_doDeed n 1 (sI (sI (sI (sI (sI (sI (sI (sI (sI X 15 0 (6)) 15 1 (-1)) 15 7 (-1)) 15 8 0) 15 9 1) 15 10 0) 15 11 0) 15 12 (-1)) 15 19 v1) := by
    simp only [fX11_days, bd, h.1.1, h.1.2.1, h.1.2.2, li_T, li_L, li_R, nm, fX2_begin, fX2_setWhen, fX2_setRatio, fX2_setPrices, mT_sI, mR_sI, mL_sI, ne_eq, Nat.reduceEqDiff, reduceCtorEq, and_false, false_and, and_true, true_and, and_self, not_false_eq_true, not_true_eq_false, ↓reduceIte, z10, z1000]
    exact bd_ret _
  generalize hgY : (sI (sI (sI (sI (sI (sI (sI (sI (sI X 15 0 (6)) 15 1 (-1)) 15 7 (-1)) 15 8 0) 15 9 1) 15 10 0) 15 11 0) 15 12 (-1)) 15 19 v1) = Y at hY e0
  have d0 : mI Y 15 0 = (6) := by rw [← hgY]; simp only [mI_sI, Nat.reduceEqDiff, and_false, and_true, and_self, ↓reduceIte]
  have d1 : mI Y 15 1 = (-1) := by rw [← hgY]; simp only [mI_sI, Nat.reduceEqDiff, and_false, and_true, and_self, ↓reduceIte]
  have d7 : mI Y 15 7 = (-1) := by rw [← hgY]; simp only [mI_sI, Nat.reduceEqDiff, and_false, and_true, and_self, ↓reduceIte]
  have d8 : mI Y 15 8 = 0 := by rw [← hgY]; simp only [mI_sI, Nat.reduceEqDiff, and_false, and_true, and_self, ↓reduceIte]
  have d9 : mI Y 15 9 = 1 := by rw [← hgY]; simp only [mI_sI, Nat.reduceEqDiff, and_false, and_true, and_self, ↓reduceIte]
  have d10 : mI Y 15 10 = 0 := by rw [← hgY]; simp only [mI_sI, Nat.reduceEqDiff, and_false, and_true, and_self, ↓reduceIte]
  have d11 : mI Y 15 11 = 0 := by rw [← hgY]; simp only [mI_sI, Nat.reduceEqDiff, and_false, and_true, and_self, ↓reduceIte]
  have d12 : mI Y 15 12 = (-1) := by rw [← hgY]; simp only [mI_sI, Nat.reduceEqDiff, and_false, and_true, and_self, ↓reduceIte]
  have d19 : mI Y 15 19 = v1 := by rw [← hgY]; simp only [mI_sI, Nat.reduceEqDiff, and_false, and_true, and_self, ↓reduceIte]
  obtain ⟨r, X1, g, r', Z, e1, hS, e2, e3, hSZ, c⟩ := s_deed (n := n) hY rfl hn (DS.days (n := n) (by omega) d0)
  simp only [d19] at e3
  rcases c with ⟨rfl, rfl, tZ⟩ | ⟨hr, w', f', ⟨rfl, hw⟩, hZ, sr, X2, e4, hS2, j2, t2⟩
  · refine ⟨_, X1, Z, e0.trans e1, ?_, tZ⟩
    simp only [fX12_days, hS.1, hS.2.1, hS.2.2, li_T, li_L, li_R, nm, bd, mT_sI, mR_sI, mL_sI, mT_wJ, mR_wJ, mL_wJ, ne_eq, Nat.reduceEqDiff, reduceCtorEq, and_false, false_and, and_true, true_and, and_self, not_false_eq_true, not_true_eq_false, ↓reduceIte, e2, e3, hSZ.1]
  · refine ⟨r, X1, X2, e0.trans e1, ?_, t2⟩
    have tod : fX12_today 366 X2 = some (r, X2) := by
      obtain ⟨T, G, R, -⟩ := sr
      have := m_today hS2 R
      rw [← j2, wJ_self, ← hw] at this
      exact this
    simp only [fX12_days, hS.1, hS.2.1, hS.2.2, li_T, li_L, li_R, nm, bd, mT_sI, mR_sI, mL_sI, mT_wJ, mR_wJ, mL_wJ, ne_eq, Nat.reduceEqDiff, reduceCtorEq, and_false, false_and, and_true, true_and, and_self, not_false_eq_true, not_true_eq_false, ↓reduceIte, e2, e3, hSZ.1, b1, e4, hS2.1, tod]
end
