/-! undo -/
section
variable {bk dr H P n : Nat} {X : Mm}
theorem sl_R {i : Nat} (h : i < 7) : sh_R bk dr 60 i = sl i ∧ sl i ≠ 0 := by
  rcases (by omega : i = 0 ∨ i = 1 ∨ i = 2 ∨ i = 3 ∨ i = 4 ∨ i = 5 ∨ i = 6) with rfl | rfl | rfl | rfl | rfl | rfl | rfl <;> exact ⟨rfl, by decide⟩
theorem c_takeLatest (h : Shp bk dr X) {nx c : Nat} (h1 : nx < 7) (hc : c < 6) (h2 : mI X 59 1 = nI nx) (h3 : mI X 59 2 = nI (c + 1)) : fX4_takeLatest 59 X = some (sl ((nx + 6) % 7), sI (sI X 59 1 (nI ((nx + 6) % 7))) 59 2 (nI c)) := by
  have m1 : nI (c + 1) - 1 = nI c := nI_pred c
  by_cases h0 : nx = 0
  · subst h0
    have e : nI 0 = (0 : Int32) := rfl
    have m : (6 : Int32) = nI 6 := rfl
    have k1 : (nI 6).toNatClampNeg = 6 := nI_clamp (by decide)
    have k2 := inL_nI (j := 6) (n := 7) (by decide) (by decide)
    have r := sl_R (bk := bk) (dr := dr) (i := 6) (by decide)
    rw [show (0 + 6) % 7 = 6 from rfl]
    simp only [fX4_takeLatest, fX4_takeLatest_L19, h.1, h.2.1, h.2.2, li_T, li_L, li_R, nm, bd, q_b, ne_eq, Nat.reduceEqDiff, reduceCtorEq, and_false, false_and, and_true, true_and, and_self, not_false_eq_true, not_true_eq_false, ↓reduceIte, h2, e, mT_sI, mR_sI, mL_sI, mI_sI, h3, m1, m, k1, k2.1, k2.2, r.1, r.2]
  · obtain ⟨y, rfl⟩ : ∃ y, nx = y + 1 := ⟨nx - 1, by omega⟩
    have e : ¬ nI (y + 1) = (0 : Int32) := nI_ne0 (by omega) (by omega)
    have m2 : nI (y + 1) - 1 = nI y := nI_pred y
    have k1 : (nI y).toNatClampNeg = y := nI_clamp (by omega)
    have k2 := inL_nI (j := y) (n := 7) (by omega) (by decide)
    have r := sl_R (bk := bk) (dr := dr) (i := y) (by omega)
    rw [show (y + 1 + 6) % 7 = y by omega]
    simp only [fX4_takeLatest, fX4_takeLatest_L19, h.1, h.2.1, h.2.2, li_T, li_L, li_R, nm, bd, q_b, ne_eq, Nat.reduceEqDiff, reduceCtorEq, and_false, false_and, and_true, true_and, and_self, not_false_eq_true, not_true_eq_false, ↓reduceIte, h2, e, mT_sI, mR_sI, mL_sI, mI_sI, h3, m1, m2, k1, k2.1, k2.2, r.1, r.2]
theorem s_undo (h : Tp bk dr H P X) (hn : 24000 ≤ n) : ∃ r X1 X2, fX11_undo 1 X = some (r, X1) ∧ fX12_undo n 366 X1 = some (r, X2) ∧ Tp bk dr H P X2 := by
  have hT := h
  obtain ⟨h1, h2, h3, h4, h5, h6, h7, ⟨nx, c, g1, g2, g3, g4, g5, g6⟩, -, -, -, -, -⟩ := h
  have h := h1
  by_cases c0 : c = 0
  · subst c0
    have e : nI 0 = (0 : Int32) := rfl
    refine ⟨-1, X, sI X 366 0 0, ?_, ?_, hT.told 0⟩
    · simp only [fX11_undo, h.1, h.2.1, h.2.2, li_T, li_L, li_R, nm, bd, q_b, ne_eq, Nat.reduceEqDiff, reduceCtorEq, and_false, false_and, and_true, true_and, and_self, not_false_eq_true, not_true_eq_false, ↓reduceIte, g4, e]
    · simp only [fX12_undo, h.1, h.2.1, h.2.2, li_T, li_L, li_R, nm, bd, q_b, ne_eq, Nat.reduceEqDiff, reduceCtorEq, and_false, false_and, and_true, true_and, and_self, not_false_eq_true, not_true_eq_false, ↓reduceIte, mT_sI, mI_sI, g5, e]
  · obtain ⟨y, rfl⟩ : ∃ y, c = y + 1 := ⟨c - 1, by omega⟩
    have tl := c_takeLatest h1 g1 (by omega) g3 g4
    have ne0 : ¬ nI (y + 1) = (0 : Int32) := nI_ne0 (by omega) (by omega)
    have i7 : (nx + 6) % 7 < 7 := by omega
    have hs := sl_St i7
    have hYs : Shp bk dr (sI (sI X 59 1 (nI ((nx + 6) % 7))) 59 2 (nI y)) := (h1.sI _ _ _).sI _ _ _
    have yI : ∀ a k, a ≠ 59 → mI (sI (sI X 59 1 (nI ((nx + 6) % 7))) 59 2 (nI y)) a k = mI X a k := fun a k ha => by rw [mI_sI, if_neg (by omega), mI_sI, if_neg (by omega)]
    have y1 : mI (sI (sI X 59 1 (nI ((nx + 6) % 7))) 59 2 (nI y)) 59 1 = nI ((nx + 6) % 7) := by rw [mI_sI, if_neg (by omega), mI_sI, if_pos ⟨rfl, rfl⟩]
    have y2 : mI (sI (sI X 59 1 (nI ((nx + 6) % 7))) 59 2 (nI y)) 59 2 = nI y := by rw [mI_sI, if_pos ⟨rfl, rfl⟩]
    have yJ : mJ (sI (sI X 59 1 (nI ((nx + 6) % 7))) 59 2 (nI y)) = mJ X := by rw [mJ_sI, mJ_sI]
    have g7 := g6 y (by omega)
    rw [show (nx + 7 - (y + 1) + y) % 7 = (nx + 6) % 7 by omega] at g7
    have g7' : SR H P (fun k => mJ X 370 (4604 * y + k)) (gW (sl ((nx + 6) % 7)) X) := g7
    have slot : ∀ j, j < y → ((nx + 6) % 7 + 7 - y + j) % 7 = (nx + 7 - (y + 1) + j) % 7 := fun j hj => by omega
    generalize sI (sI X 59 1 (nI ((nx + 6) % 7))) 59 2 (nI y) = Y at *
    generalize (nx + 6) % 7 = i at *
    have hlo : sl i = 61 + 43 * i := rfl
    have cp := c_copy (s := sl i) (t := 16) (u := gW 16 Y) hYs hs St.now (by omega)
    rw [pW_gW] at cp
    have hw : Weq (gW (sl i) Y) (gW 16 (pW 16 (N_cp (gW (sl i) Y) (gW 16 Y)) Y)) := (N_cp_eq (gW (sl i) Y) (gW 16 Y)).symm.trans Weq.pW
    have zI : ∀ a k, (a < 16 ∨ 16 + 42 < a) → mI (pW 16 (N_cp (gW (sl i) Y) (gW 16 Y)) Y) a k = mI Y a k := fun a k ha => mI_pWo a k ha
    have zJ : ∀ a k, (a < 16 ∨ 16 + 42 < a) → mJ (pW 16 (N_cp (gW (sl i) Y) (gW 16 Y)) Y) a k = mJ Y a k := fun a k ha => mJ_pWo a k ha
    have hZs : Shp bk dr (pW 16 (N_cp (gW (sl i) Y) (gW 16 Y)) Y) := hYs.pW
    generalize pW 16 (N_cp (gW (sl i) Y) (gW 16 Y)) Y = Z at *
    have hRs : Shp bk dr (sI (sI Z 366 0 0) 366 5 (nI y)) := (hZs.sI _ _ _).sI _ _ _
    have z5 : mI Z 366 5 = nI (y + 1) := by rw [zI _ _ (by omega), yI _ _ (by omega)]; exact g5
    have L370 : sh_L 370 = 27624 := by decide
    obtain ⟨g, e2, gk, -⟩ := r_copies hRs (a := 370) (b := 367) (by omega) (by omega) (by decide) (p := 4604 * y) (q := 0) (n := n) (by rw [L370]; omega) (by decide) (by omega)
    have m2 : (4604 : Int32) * nI y = nI (4604 * y) := pk_mul 4604 y
    have mp : nI (y + 1) - 1 = nI y := nI_pred y
    rw [nI_0] at e2
    refine ⟨nI y, Z, wJ (sI (sI Z 366 0 0) 366 5 (nI y)) 367 g, ?_, ?_, ?_⟩
    · simp only [fX11_undo, h.1, h.2.1, h.2.2, li_T, li_L, li_R, nm, bd, q_b, ne_eq, Nat.reduceEqDiff, reduceCtorEq, and_false, false_and, and_true, true_and, and_self, not_false_eq_true, not_true_eq_false, ↓reduceIte, (st_T 16 St.now).1, g4, ne0, tl, hYs.1, hYs.2.1, hYs.2.2, cp, hZs.1, hZs.2.1, hZs.2.2, zI 59 2 (by omega), y2]
    · simp only [fX12_undo, h.1, h.2.1, h.2.2, li_T, li_L, li_R, nm, bd, q_b, ne_eq, Nat.reduceEqDiff, reduceCtorEq, and_false, false_and, and_true, true_and, and_self, not_false_eq_true, not_true_eq_false, ↓reduceIte, hZs.1, hZs.2.1, hZs.2.2, mT_sI, mR_sI, mL_sI, mI_sI, z5, ne0, mp, m2, e2, mT_wJ, mI_wJ]
    · have rI : ∀ a k, a ≠ 366 → mI (wJ (sI (sI Z 366 0 0) 366 5 (nI y)) 367 g) a k = mI Z a k := fun a k ha => by rw [mI_wJ, mI_sI, if_neg (by omega), mI_sI, if_neg (by omega)]
      have rI2 : ∀ k, k ≠ 0 → k ≠ 5 → mI (wJ (sI (sI Z 366 0 0) 366 5 (nI y)) 367 g) 366 k = mI Z 366 k := fun k h0 h5 => by rw [mI_wJ, mI_sI, if_neg (by omega), mI_sI, if_neg (by omega)]
      have rJ : ∀ a, a ≠ 367 → mJ (wJ (sI (sI Z 366 0 0) 366 5 (nI y)) 367 g) a = mJ Z a := fun a ha => by rw [mJ_wJo ha, mJ_sI, mJ_sI]
      have r7 : mJ (wJ (sI (sI Z 366 0 0) 366 5 (nI y)) 367 g) 367 = g := by rw [mJ_wJ]
      have r5 : mI (wJ (sI (sI Z 366 0 0) 366 5 (nI y)) 367 g) 366 5 = nI y := by rw [mI_wJ, mI_sI, if_pos ⟨rfl, rfl⟩]
      have hW : Shp bk dr (wJ (sI (sI Z 366 0 0) 366 5 (nI y)) 367 g) := hRs.wJ _ _
      have gk' : ∀ p, p < 4604 → g p = mJ X 370 (4604 * y + p) := fun p hp => by
        have z := gk p hp
        rw [Nat.zero_add, mJ_sI, mJ_sI, zJ _ _ (by omega), yJ] at z
        exact z
      generalize wJ (sI (sI Z 366 0 0) 366 5 (nI y)) 367 g = V at *
      refine hT.upd hW (fun a k hrl ha hb => ?_) (fun a ha k => ?_) ?_ ⟨i, y, i7, by omega, ?_, ?_, r5, fun j hj => ?_⟩
      · by_cases q : a = 366
        · subst q
          by_cases q0 : k = 0
          · unfold rlI at hrl; omega
          · rw [rI2 k q0 (by omega), zI _ _ (by omega), yI _ _ (by omega)]
        · rw [rI a k q, zI _ _ (by omega), yI _ _ (by omega)]
      · rw [rJ a (by omega), zJ _ _ (by omega), yJ]
      · rw [r7]
        refine g7'.weq ((Weq.of (s := sl i) (s' := sl i) (Y := Y) (fun a k ha => yI _ _ (by omega)) (fun a k ha => by rw [yJ])).trans (hw.trans (Weq.of (fun a k ha => rI _ _ (by omega)) (fun a k ha => by rw [rJ _ (by omega)])))) gk'
      · rw [rI _ _ (by omega), zI _ _ (by omega)]; exact y1
      · rw [rI _ _ (by omega), zI _ _ (by omega)]; exact y2
      · rw [slot j hj]
        have gj := g6 j (by omega)
        have lt : (nx + 7 - (y + 1) + j) % 7 < 7 := by omega
        generalize (nx + 7 - (y + 1) + j) % 7 = m at *
        exact gj.weq (Weq.of (s := 61 + 43 * m) (s' := 61 + 43 * m) (fun a k ha => by rw [rI _ _ (by omega), zI _ _ (by omega), yI _ _ (by omega)]) (fun a k ha => by rw [rJ _ (by omega), zJ _ _ (by omega), yJ])) (fun p _ => by rw [rJ _ (by omega), zJ _ _ (by omega), yJ])
end
