/-! QUERIES: has, purse, told, issued, fault, end, out -/
theorem n16_T : sh_T 16 = 8 ∧ sh_T 17 = 15 ∧ sh_T 18 = 15 ∧ sh_T 19 = 10 ∧ sh_T 20 = 14 ∧ sh_T 21 = 14 ∧ sh_T 22 = 14 ∧ sh_T 23 = 15 ∧ sh_T 24 = 15 ∧ sh_T 25 = 14 ∧ sh_T 26 = 14 ∧ sh_T 27 = 14 ∧ sh_T 28 = 14 ∧ sh_T 29 = 3 ∧ sh_T 30 = 14 ∧ sh_T 31 = 14 ∧ sh_T 32 = 14 ∧ sh_T 33 = 14 ∧ sh_T 34 = 14 ∧ sh_T 35 = 14 ∧ sh_T 36 = 14 ∧ sh_T 37 = 14 ∧ sh_T 38 = 14 ∧ sh_T 39 = 14 ∧ sh_T 40 = 14 ∧ sh_T 41 = 14 ∧ sh_T 42 = 14 ∧ sh_T 43 = 14 ∧ sh_T 44 = 15 ∧ sh_T 45 = 15 ∧ sh_T 46 = 6 ∧ sh_T 47 = 15 ∧ sh_T 48 = 15 ∧ sh_T 49 = 15 ∧ sh_T 50 = 15 ∧ sh_T 51 = 15 ∧ sh_T 52 = 15 ∧ sh_T 53 = 1 ∧ sh_T 54 = 14 ∧ sh_T 55 = 14 ∧ sh_T 56 = 15 ∧ sh_T 57 = 14 ∧ sh_T 58 = 14 := by decide +kernel
theorem n16_L : sh_L 17 = 50 ∧ sh_L 18 = 10 ∧ sh_L 20 = 60 ∧ sh_L 21 = 60 ∧ sh_L 22 = 60 ∧ sh_L 23 = 60 ∧ sh_L 24 = 60 ∧ sh_L 25 = 60 ∧ sh_L 26 = 60 ∧ sh_L 27 = 60 ∧ sh_L 28 = 60 ∧ sh_L 30 = 8 ∧ sh_L 31 = 8 ∧ sh_L 32 = 8 ∧ sh_L 33 = 8 ∧ sh_L 34 = 8 ∧ sh_L 35 = 8 ∧ sh_L 36 = 8 ∧ sh_L 37 = 8 ∧ sh_L 38 = 8 ∧ sh_L 39 = 8 ∧ sh_L 40 = 8 ∧ sh_L 41 = 8 ∧ sh_L 42 = 8 ∧ sh_L 43 = 8 ∧ sh_L 44 = 8 ∧ sh_L 45 = 8 ∧ sh_L 47 = 80 ∧ sh_L 48 = 80 ∧ sh_L 49 = 80 ∧ sh_L 50 = 80 ∧ sh_L 51 = 80 ∧ sh_L 52 = 80 ∧ sh_L 54 = 480 ∧ sh_L 55 = 480 ∧ sh_L 56 = 480 ∧ sh_L 57 = 480 ∧ sh_L 58 = 480 := by decide +kernel
theorem n16_R (bk dr : Nat) : sh_R bk dr 16 0 = 17 ∧ sh_R bk dr 16 1 = 18 ∧ sh_R bk dr 16 2 = 19 ∧ sh_R bk dr 16 3 = 29 ∧ sh_R bk dr 16 4 = 46 ∧ sh_R bk dr 16 5 = 53 ∧ sh_R bk dr 19 0 = 20 ∧ sh_R bk dr 19 1 = 21 ∧ sh_R bk dr 19 2 = 22 ∧ sh_R bk dr 19 3 = 23 ∧ sh_R bk dr 19 4 = 24 ∧ sh_R bk dr 19 5 = 25 ∧ sh_R bk dr 19 6 = 26 ∧ sh_R bk dr 19 7 = 27 ∧ sh_R bk dr 19 8 = 28 ∧ sh_R bk dr 29 0 = 30 ∧ sh_R bk dr 29 1 = 31 ∧ sh_R bk dr 29 2 = 32 ∧ sh_R bk dr 29 3 = 33 ∧ sh_R bk dr 29 4 = 34 ∧ sh_R bk dr 29 5 = 35 ∧ sh_R bk dr 29 6 = 36 ∧ sh_R bk dr 29 7 = 37 ∧ sh_R bk dr 29 8 = 38 ∧ sh_R bk dr 29 9 = 39 ∧ sh_R bk dr 29 10 = 40 ∧ sh_R bk dr 29 11 = 41 ∧ sh_R bk dr 29 12 = 42 ∧ sh_R bk dr 29 13 = 43 ∧ sh_R bk dr 29 14 = 44 ∧ sh_R bk dr 29 15 = 45 ∧ sh_R bk dr 46 0 = 47 ∧ sh_R bk dr 46 1 = 48 ∧ sh_R bk dr 46 2 = 49 ∧ sh_R bk dr 46 3 = 50 ∧ sh_R bk dr 46 4 = 51 ∧ sh_R bk dr 46 5 = 52 ∧ sh_R bk dr 53 0 = 54 ∧ sh_R bk dr 53 1 = 55 ∧ sh_R bk dr 53 2 = 56 ∧ sh_R bk dr 53 3 = 57 ∧ sh_R bk dr 53 4 = 58 := by
  refine ⟨?_, ?_, ?_, ?_, ?_, ?_, ?_, ?_, ?_, ?_, ?_, ?_, ?_, ?_, ?_, ?_, ?_, ?_, ?_, ?_, ?_, ?_, ?_, ?_, ?_, ?_, ?_, ?_, ?_, ?_, ?_, ?_, ?_, ?_, ?_, ?_, ?_, ?_, ?_, ?_, ?_, ?_⟩ <;> rfl
section
variable {bk dr H P n T G : Nat} {X : Mm}
theorem q_isH (h : Shp bk dr X) (hw : mI X 16 6 = nI H) (v : Int32) : fX8_isHolder 16 v X = some (bo (0 ≤ v ∧ v < nI H), X) := by
  have z := c_isHolder (w := gW 16 X) h St.now v
  rw [pW_gW, show (gW 16 X).1 0 6 = nI H from hw] at z
  exact z
theorem q_isP (h : Shp bk dr X) (hw : mI X 16 7 = nI P) (v : Int32) : fX8_isPaper 16 v X = some (bo (0 ≤ v ∧ v < nI P), X) := by
  have z := c_isPaper (w := gW 16 X) h St.now v
  rw [pW_gW, show (gW 16 X).1 0 7 = nI P from hw] at z
  exact z
theorem q_isT (h : Shp bk dr X) (hw : mI X 19 9 = nI T) (v : Int32) : fX10_isThere 19 v X = some (bo (0 ≤ v ∧ v < nI T), X) := by
  have z := c_isTrade (w := gW 16 X) h St.now v
  rw [pW_gW, show (gW 16 X).1 3 9 = nI T from hw] at z
  exact z
theorem q_isE (h : Shp bk dr X) (hw : mI X 29 16 = nI G) (v : Int32) : fX3_isThere 29 v X = some (bo (0 ≤ v ∧ v < nI G), X) := by
  have z := c_isEvent (w := gW 16 X) h St.now v
  rw [pW_gW, show (gW 16 X).1 13 16 = nI G from hw] at z
  exact z
/-- the reference's side of it, behind 'told' -/
theorem p_isH (h : Shp bk dr X) (hH : mI X 366 6 = nI H) (hH10 : H ≤ 10) (v : Int32) : fX12_isHolder 366 v X = some (bo (0 ≤ v ∧ v < nI H), X) := by
  have z := m_isHolder (f := mJ X 367) h hH hH10 v
  rw [wJ_self] at z
  exact z
theorem p_isP (h : Shp bk dr X) (hP : mI X 366 7 = nI P) (hP5 : P ≤ 5) (v : Int32) : fX12_isPaper 366 v X = some (bo (0 ≤ v ∧ v < nI P), X) := by
  have z := m_isPaper (f := mJ X 367) h hP hP5 v
  rw [wJ_self] at z
  exact z
theorem p_isT {w : Wt} (h : Shp bk dr X) (R : Rl T G (mJ X 367) w) (hT : w.1 3 9 = nI T) (v : Int32) : fX12_isTrade 366 v X = some (bo (0 ≤ v ∧ v < nI T), X) := by
  have z := m_isTrade h R hT v
  rw [wJ_self] at z
  exact z
theorem p_isE {w : Wt} (h : Shp bk dr X) (R : Rl T G (mJ X 367) w) (hG : w.1 13 16 = nI G) (v : Int32) : fX12_isEvent 366 v X = some (bo (0 ≤ v ∧ v < nI G), X) := by
  have z := m_isEvent h R hG v
  rw [wJ_self] at z
  exact z
theorem p_sh {w : Wt} (h : Shp bk dr X) (R : Rl T G (mJ X 367) w) {a p : Int32} (ha : inL a 10) (hp : inL p 5) : fX12_sharesOf 366 a.toInt64 p.toInt64 X = some (w.2 1 (ix a p), X) := by
  have z := m_sharesOf h R ha hp
  rw [wJ_self] at z
  exact z
theorem q_sh (h : Shp bk dr X) {a p : Int32} (ha : inL a 10) (hp : inL p 5) : fX8_sharesOf 16 a p X = some ((gW 16 X).2 1 (ix a p), X) := by
  have z := c_sharesOf (w := gW 16 X) h St.now (inL_ix ha hp)
  rw [pW_gW] at z
  exact z
theorem s_has (h : Tp bk dr H P X) (v1 v2 : Int32) : ∃ r X1 X2, fX11_has 1 v1 v2 X = some (r, X1) ∧ fX12_has 366 v1 v2 X1 = some (r, X2) ∧ Tp bk dr H P X2 := by
  have hT := h
  obtain ⟨h1, h2, h3, h4, h5, h6, ⟨T, G, R, iv, iw⟩, -, -, -, -, -, -⟩ := h
  have h := h1
  have hs := h1.sI 366 0 0
  have w6 : mI X 16 6 = nI H := iv.1.2.2.2.2.1
  have w7 : mI X 16 7 = nI P := iw.1
  have R' : Rl T G (mJ (sI X 366 0 0) 367) (gW 16 X) := R
  have y6 : mI (sI X 366 0 0) 366 6 = nI H := by rw [mI_sI, if_neg (by omega)]; exact h5
  have y7 : mI (sI X 366 0 0) 366 7 = nI P := by rw [mI_sI, if_neg (by omega)]; exact h6
  by_cases g1 : 0 ≤ v1 ∧ v1 < nI H
  · by_cases g2 : 0 ≤ v2 ∧ v2 < nI P
    · have ha : inL v1 10 := inL_le g1 (by omega) h3
      have hp : inL v2 5 := inL_le g2 (by omega) h4
      refine ⟨(gW 16 X).2 1 (ix v1 v2), X, sI X 366 0 0, ?_, ?_, hT.told 0⟩
      · simp only [fX11_has, h.1, h.2.1, h.2.2, li_T, li_L, li_R, nm, bd, q_b, ne_eq, Nat.reduceEqDiff, reduceCtorEq, and_false, false_and, and_true, true_and, and_self, not_false_eq_true, not_true_eq_false, ↓reduceIte, n16_T, n16_L, n16_R, q_isH h w6, q_isP h w7, bo_t g1, bo_t g2, b1, q_sh h ha hp]
      · simp only [fX12_has, h.1, h.2.1, h.2.2, li_T, li_L, li_R, nm, bd, q_b, ne_eq, Nat.reduceEqDiff, reduceCtorEq, and_false, false_and, and_true, true_and, and_self, not_false_eq_true, not_true_eq_false, ↓reduceIte, n16_T, n16_L, n16_R, mT_sI, p_isH hs y6 h3, p_isP hs y7 h4, bo_t g1, bo_t g2, b1, p_sh hs R' ha hp]
    · refine ⟨-1, X, sI X 366 0 0, ?_, ?_, hT.told 0⟩
      · simp only [fX11_has, fX11_has_L34, h.1, h.2.1, h.2.2, li_T, li_L, li_R, nm, bd, q_b, ne_eq, Nat.reduceEqDiff, reduceCtorEq, and_false, false_and, and_true, true_and, and_self, not_false_eq_true, not_true_eq_false, ↓reduceIte, n16_T, n16_L, n16_R, q_isH h w6, q_isP h w7, bo_t g1, bo_f g2, b1]
      · simp only [fX12_has, fX12_has_L32, h.1, h.2.1, h.2.2, li_T, li_L, li_R, nm, bd, q_b, ne_eq, Nat.reduceEqDiff, reduceCtorEq, and_false, false_and, and_true, true_and, and_self, not_false_eq_true, not_true_eq_false, ↓reduceIte, n16_T, n16_L, n16_R, mT_sI, p_isH hs y6 h3, p_isP hs y7 h4, bo_t g1, bo_f g2, b1]
  · refine ⟨-1, X, sI X 366 0 0, ?_, ?_, hT.told 0⟩
    · simp only [fX11_has, fX11_has_L34, h.1, h.2.1, h.2.2, li_T, li_L, li_R, nm, bd, q_b, ne_eq, Nat.reduceEqDiff, reduceCtorEq, and_false, false_and, and_true, true_and, and_self, not_false_eq_true, not_true_eq_false, ↓reduceIte, n16_T, n16_L, n16_R, q_isH h w6, bo_f g1]
    · simp only [fX12_has, fX12_has_L32, h.1, h.2.1, h.2.2, li_T, li_L, li_R, nm, bd, q_b, ne_eq, Nat.reduceEqDiff, reduceCtorEq, and_false, false_and, and_true, true_and, and_self, not_false_eq_true, not_true_eq_false, ↓reduceIte, n16_T, n16_L, n16_R, mT_sI, p_isH hs y6 h3, bo_f g1]
theorem s_purse (h : Tp bk dr H P X) (v1 : Int32) : ∃ r X1 X2, fX11_purse 1 v1 X = some (r, X1) ∧ fX12_purse 366 v1 X1 = some (r, X2) ∧ Tp bk dr H P X2 := by
  have hT := h
  obtain ⟨h1, h2, h3, h4, h5, h6, ⟨T, G, R, iv, iw⟩, -, -, -, -, -, -⟩ := h
  have h := h1
  have hs := h1.sI 366 0 0
  have w6 : mI X 16 6 = nI H := iv.1.2.2.2.2.1
  have y6 : mI (sI X 366 0 0) 366 6 = nI H := by rw [mI_sI, if_neg (by omega)]; exact h5
  by_cases g1 : 0 ≤ v1 ∧ v1 < nI H
  · obtain ⟨i, hi, ei⟩ := nI_ex g1 (by omega)
    have i1 : (nI i).toNatClampNeg = i := nI_clamp (by omega)
    have i2 := inL_nI (j := i) (n := 10) (by omega) (by decide)
    have e50 : (50 : Int32) + nI i = nI (50 + i) := nI_add 50 i
    have k1 : (nI (50 + i)).toNatClampNeg = 50 + i := nI_clamp (by omega)
    have k2 := inL_nI (j := 50 + i) (n := 4604) (by omega) (by decide)
    have rd : mJ X 367 (50 + i) = mJ X 18 i := R.pu (by omega)
    rw [ei] at g1
    refine ⟨mJ X 18 i, X, sI X 366 0 0, ?_, ?_, hT.told 0⟩
    · simp only [fX11_purse, h.1, h.2.1, h.2.2, li_T, li_L, li_R, nm, bd, q_b, ne_eq, Nat.reduceEqDiff, reduceCtorEq, and_false, false_and, and_true, true_and, and_self, not_false_eq_true, not_true_eq_false, ↓reduceIte, n16_T, n16_L, n16_R, ei, q_isH h w6, bo_t g1, b1, i1, i2.1, i2.2]
    · simp only [fX12_purse, h.1, h.2.1, h.2.2, li_T, li_L, li_R, nm, bd, q_b, ne_eq, Nat.reduceEqDiff, reduceCtorEq, and_false, false_and, and_true, true_and, and_self, not_false_eq_true, not_true_eq_false, ↓reduceIte, n16_T, n16_L, n16_R, ei, mT_sI, mR_sI, mL_sI, mJ_sI, p_isH hs y6 h3, bo_t g1, b1, e50, k1, k2.1, k2.2, rd]
  · refine ⟨-9223372036854775808, X, sI X 366 0 0, ?_, ?_, hT.told 0⟩
    · simp only [fX11_purse, h.1, h.2.1, h.2.2, li_T, li_L, li_R, nm, bd, q_b, ne_eq, Nat.reduceEqDiff, reduceCtorEq, and_false, false_and, and_true, true_and, and_self, not_false_eq_true, not_true_eq_false, ↓reduceIte, n16_T, n16_L, n16_R, q_isH h w6, bo_f g1]
    · simp only [fX12_purse, h.1, h.2.1, h.2.2, li_T, li_L, li_R, nm, bd, q_b, ne_eq, Nat.reduceEqDiff, reduceCtorEq, and_false, false_and, and_true, true_and, and_self, not_false_eq_true, not_true_eq_false, ↓reduceIte, n16_T, n16_L, n16_R, mT_sI, p_isH hs y6 h3, bo_f g1]
theorem s_fault (h : Tp bk dr H P X) (v1 : Int32) : ∃ r X1 X2, fX11_fault 1 v1 X = some (r, X1) ∧ fX12_fault 366 v1 X1 = some (r, X2) ∧ Tp bk dr H P X2 := by
  have hT := h
  obtain ⟨h1, h2, h3, h4, h5, h6, -, -, -, -, ⟨f1, f2⟩, -, -⟩ := h
  have h := h1
  by_cases g0 : v1 = 0
  · refine ⟨mI X 2 6, X, sI X 366 0 0, ?_, ?_, hT.told 0⟩
    · simp only [fX11_fault, h.1, h.2.1, h.2.2, li_T, li_L, li_R, nm, bd, q_b, ne_eq, Nat.reduceEqDiff, reduceCtorEq, and_false, false_and, and_true, true_and, and_self, not_false_eq_true, not_true_eq_false, ↓reduceIte, n16_T, n16_L, n16_R, g0]
    · simp only [fX12_fault, h.1, h.2.1, h.2.2, li_T, li_L, li_R, nm, bd, q_b, ne_eq, Nat.reduceEqDiff, reduceCtorEq, and_false, false_and, and_true, true_and, and_self, not_false_eq_true, not_true_eq_false, ↓reduceIte, n16_T, n16_L, n16_R, mT_sI, mI_sI, g0, f1]
  · by_cases g1 : v1 = 1
    · refine ⟨mI X 2 7, X, sI X 366 0 0, ?_, ?_, hT.told 0⟩
      · simp only [fX11_fault, h.1, h.2.1, h.2.2, li_T, li_L, li_R, nm, bd, q_b, ne_eq, Nat.reduceEqDiff, reduceCtorEq, and_false, false_and, and_true, true_and, and_self, not_false_eq_true, not_true_eq_false, ↓reduceIte, n16_T, n16_L, n16_R, g1, b1]
      · simp only [fX12_fault, h.1, h.2.1, h.2.2, li_T, li_L, li_R, nm, bd, q_b, ne_eq, Nat.reduceEqDiff, reduceCtorEq, and_false, false_and, and_true, true_and, and_self, not_false_eq_true, not_true_eq_false, ↓reduceIte, n16_T, n16_L, n16_R, mT_sI, mI_sI, g1, b1, f2]
    · refine ⟨-1, X, sI X 366 0 0, ?_, ?_, hT.told 0⟩
      · simp only [fX11_fault, h.1, h.2.1, h.2.2, li_T, li_L, li_R, nm, bd, q_b, ne_eq, Nat.reduceEqDiff, reduceCtorEq, and_false, false_and, and_true, true_and, and_self, not_false_eq_true, not_true_eq_false, ↓reduceIte, n16_T, n16_L, n16_R, g0, g1]
      · simp only [fX12_fault, h.1, h.2.1, h.2.2, li_T, li_L, li_R, nm, bd, q_b, ne_eq, Nat.reduceEqDiff, reduceCtorEq, and_false, false_and, and_true, true_and, and_self, not_false_eq_true, not_true_eq_false, ↓reduceIte, n16_T, n16_L, n16_R, mT_sI, g0, g1]
theorem s_out (h : Tp bk dr H P X) (v1 : Int32) : ∃ r X1 X2, fX11_out 1 v1 X = some (r, X1) ∧ fX12_out 366 v1 X1 = some (r, X2) ∧ Tp bk dr H P X2 := by
  have hT := h
  obtain ⟨h1, h2, h3, h4, h5, h6, -, -, -, -, -, ⟨L, s1, s2, s3, s4⟩, -⟩ := h
  have h := h1
  by_cases g1 : 0 ≤ v1 ∧ v1 < nI L
  · obtain ⟨i, hi, ei⟩ := nI_ex g1 (by omega)
    have i1 : (nI i).toNatClampNeg = i := nI_clamp (by omega)
    have i2 := inL_nI (j := i) (n := 300) (by omega) (by decide)
    have i3 := inL_nI (j := i) (n := 400) (by omega) (by decide)
    rw [ei] at g1
    have n0 : ¬ nI i < 0 := i32_nlt.mpr g1.1
    have n1 : ¬ nI L ≤ nI i := i32_nle.mpr g1.2
    refine ⟨mI X 363 i, X, sI X 366 0 0, ?_, ?_, hT.told 0⟩
    · simp only [fX11_out, h.1, h.2.1, h.2.2, li_T, li_L, li_R, nm, bd, q_b, ne_eq, Nat.reduceEqDiff, reduceCtorEq, and_false, false_and, and_true, true_and, and_self, not_false_eq_true, not_true_eq_false, ↓reduceIte, n16_T, n16_L, n16_R, ei, n0, s2, n1, i1, i2.1, i2.2]
    · simp only [fX12_out, h.1, h.2.1, h.2.2, li_T, li_L, li_R, nm, bd, q_b, ne_eq, Nat.reduceEqDiff, reduceCtorEq, and_false, false_and, and_true, true_and, and_self, not_false_eq_true, not_true_eq_false, ↓reduceIte, n16_T, n16_L, n16_R, ei, mT_sI, mR_sI, mL_sI, mI_sI, s3, r_inn (v := nI i) (n := L) (by omega), bo_t g1, b1, i1, i3.1, i3.2, s4 i hi]
  · refine ⟨-1, X, sI X 366 0 0, ?_, ?_, hT.told 0⟩
    · by_cases n0 : v1 < 0
      · simp only [fX11_out, fX11_out_L27, h.1, h.2.1, h.2.2, li_T, li_L, li_R, nm, bd, q_b, ne_eq, Nat.reduceEqDiff, reduceCtorEq, and_false, false_and, and_true, true_and, and_self, not_false_eq_true, not_true_eq_false, ↓reduceIte, n16_T, n16_L, n16_R, n0]
      · have n1 : nI L ≤ v1 := i32_nlt.mp fun z => g1 ⟨i32_nlt.mp n0, z⟩
        simp only [fX11_out, fX11_out_L27, h.1, h.2.1, h.2.2, li_T, li_L, li_R, nm, bd, q_b, ne_eq, Nat.reduceEqDiff, reduceCtorEq, and_false, false_and, and_true, true_and, and_self, not_false_eq_true, not_true_eq_false, ↓reduceIte, n16_T, n16_L, n16_R, n0, s2, n1]
    · simp only [fX12_out, h.1, h.2.1, h.2.2, li_T, li_L, li_R, nm, bd, q_b, ne_eq, Nat.reduceEqDiff, reduceCtorEq, and_false, false_and, and_true, true_and, and_self, not_false_eq_true, not_true_eq_false, ↓reduceIte, n16_T, n16_L, n16_R, mT_sI, mI_sI, s3, r_inn (v := v1) (n := L) (by omega), bo_f g1]
end
