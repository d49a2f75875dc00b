/-! QUERIES: told, issued, end, look (but what is counted) -/
section
variable {bk dr H P n : Nat} {X : Mm}
/-- THE TAPE's length is another -/
theorem Tp.len {Y : Mm} (h : Tp bk dr H P X) (hS : Shp bk dr Y) (hI : ∀ c k, ¬ (c = 2 ∧ k = 1) → ¬ (c = 366 ∧ (k = 0 ∨ k = 12)) → mI Y c k = mI X c k) (hJ : mJ Y = mJ X) (hL : ∃ L, L ≤ 700 ∧ mI Y 2 1 = nI L ∧ mI Y 366 12 = nI L) : Tp bk dr H P Y := by
  obtain ⟨h1, h2, h3, h4, h5, h6, h7, ⟨nx, c, g1, g2, g3, g4, g5, g6⟩, ⟨n1, n2, ⟨nh, n3⟩, ⟨np, n4⟩⟩, ⟨L, t1, t2, t3, t4⟩, ⟨f1, f2⟩, ⟨M, s1, s2, s3, s4⟩, l⟩ := h
  obtain ⟨L', l1, l2, l3⟩ := hL
  have hb : bk = 7 ∨ bk = 11 := by rcases h2 with z | z <;> omega
  refine ⟨hS, h2, h3, h4, by rw [hI _ _ (by omega) (by omega)]; exact h5, by rw [hI _ _ (by omega) (by omega)]; exact h6, ?_, ⟨nx, c, g1, g2, by rw [hI _ _ (by omega) (by omega)]; exact g3, by rw [hI _ _ (by omega) (by omega)]; exact g4, by rw [hI _ _ (by omega) (by omega)]; exact g5, fun j hj => ?_⟩, ⟨by rw [hI _ _ (by omega) (by omega)]; exact n1, by rw [hI _ _ (by omega) (by omega)]; exact n2, ⟨nh, fun i hi => ?_⟩, ⟨np, fun i hi => ?_⟩⟩, ⟨L', l1, l2, l3, fun i hi => ?_⟩, ⟨?_, ?_⟩, ⟨M, s1, by rw [hI _ _ (by omega) (by omega)]; exact s2, by rw [hI _ _ (by omega) (by omega)]; exact s3, fun i hi => ?_⟩, fun i hi => ?_⟩
  · exact h7.weq (Weq.of (fun a k ha => hI _ _ (by omega) (by omega)) (fun a k ha => by rw [hJ])) (fun p _ => by rw [hJ])
  · have lt : (nx + 7 - c + j) % 7 < 7 := by omega
    have g := g6 j hj
    generalize (nx + 7 - c + j) % 7 = m at *
    exact g.weq (Weq.of (s := 61 + 43 * m) (s' := 61 + 43 * m) (fun a k ha => hI _ _ (by omega) (by omega)) (fun a k ha => by rw [hJ])) (fun p _ => by rw [hJ])
  · rw [hI _ _ (by omega) (by omega), hJ]; exact n3 i hi
  · rw [hI _ _ (by omega) (by omega), hJ]; exact n4 i hi
  · rw [hI _ _ (by omega) (by omega), hI _ _ (by omega) (by omega)]; exact t4 i hi
  · rw [hI _ _ (by omega) (by omega), hI _ _ (by omega) (by omega)]; exact f1
  · rw [hI _ _ (by omega) (by omega), hI _ _ (by omega) (by omega)]; exact f2
  · rw [hI _ _ (by omega) (by omega), hI _ _ (by omega) (by omega)]; exact s4 i hi
  · rw [hI _ _ (by omega) (by omega)]; exact l i hi
theorem s_told (h : Tp bk dr H P X) (v1 v2 : Int32) : ∃ r X1 X2, fX11_told 1 v1 v2 X = some (r, X1) ∧ fX12_told 366 v1 v2 X1 = some (r, X2) ∧ Tp bk dr H P X2 := by
  have hT := h
  obtain ⟨h1, h2, h3, h4, h5, h6, ⟨T, G, R, iv, iw⟩, -, -, -, -, -, -⟩ := h
  have h := h1
  have hs := h1.sI 366 0 0
  have w9 : mI X 19 9 = nI T := iv.1.1
  have R' : Rl T G (mJ (sI X 366 0 0) 367) (gW 16 X) := R
  have hT6 := R.1
  by_cases g1 : 0 ≤ v1 ∧ v1 < nI T
  · obtain ⟨t, ht, et⟩ := nI_ex g1 (by omega)
    have t6 : t < 60 := by omega
    have t1 : (nI t).toNatClampNeg = t := nI_clamp (by omega)
    have t2 := inL_nI (j := t) (n := 60) t6 (by decide)
    rw [et] at g1
    have rd0 : mJ X 367 (aT t 0) = (mI X 20 t).toInt64 := R.t0 ht
    have rd1 : mJ X 367 (aT t 1) = (mI X 21 t).toInt64 := R.t1 ht
    have rd2 : mJ X 367 (aT t 2) = (mI X 22 t).toInt64 := R.t2 ht
    have rd3 : mJ X 367 (aT t 3) = mJ X 23 t := R.t3 ht
    have rd4 : mJ X 367 (aT t 4) = mJ X 24 t := R.t4 ht
    have rd5 : mJ X 367 (aT t 5) = (mI X 25 t).toInt64 := R.t5 ht
    have rd6 : mJ X 367 (aT t 6) = (mI X 26 t).toInt64 := R.t6 ht
    have rd7 : mJ X 367 (aT t 7) = (mI X 27 t).toInt64 := R.t7 ht
    have rd8 : mJ X 367 (aT t 8) = (mI X 28 t).toInt64 := R.t8 ht
    by_cases g2 : 0 ≤ v2 ∧ v2 ≤ 8
    · have i9 := inL_cc (v := v2) (l := 0) (n := 8) (m := 9) g2 (by decide) (by decide) (by decide)
      obtain ⟨k, hk, ek⟩ := inL_of i9 (by decide)
      rw [ek] at g2
      rcases (by omega : k = 0 ∨ k = 1 ∨ k = 2 ∨ k = 3 ∨ k = 4 ∨ k = 5 ∨ k = 6 ∨ k = 7 ∨ k = 8) with rfl | rfl | rfl | rfl | rfl | rfl | rfl | rfl | rfl
      · have ek2 : v2 = 0 := ek
        have g3 : (0 : Int32) ≤ 0 ∧ (0 : Int32) ≤ 8 := by decide
        refine ⟨(mI X 20 t).toInt64, X, sI X 366 0 0, ?_, ?_, hT.told 0⟩
        · simp only [fX11_told, fX10_partOf, h.1, h.2.1, h.2.2, li_T, li_L, li_R, nm, bd, q_b, ne_eq, Nat.reduceEqDiff, reduceCtorEq, and_false, false_and, and_true, true_and, and_self, not_false_eq_true, not_true_eq_false, ↓reduceIte, n16_T, n16_L, n16_R, et, ek2, q_isT h w9, bo_t g1, b1, t1, t2.1, t2.2]
        · simp only [fX12_told, h.1, h.2.1, h.2.2, li_T, li_L, li_R, nm, bd, q_b, ne_eq, Nat.reduceEqDiff, reduceCtorEq, and_false, false_and, and_true, true_and, and_self, not_false_eq_true, not_true_eq_false, ↓reduceIte, n16_T, n16_L, n16_R, et, ek2, mT_sI, mR_sI, mL_sI, mJ_sI, p_isT hs R' iv.1.1, bo_t g1, b1, r_inb (0) 0 8 (lo := 0) (hi := 8) (by decide) (by decide), bo_t g3, r_at0, bT1 t6, bT2 t6, bT3 t6, Nat.reduceLT, rd0]
      · have ek2 : v2 = 1 := ek
        have g3 : (0 : Int32) ≤ 1 ∧ (1 : Int32) ≤ 8 := by decide
        have z0 : ¬ (1 : Int32) = 0 := by decide
        refine ⟨(mI X 21 t).toInt64, X, sI X 366 0 0, ?_, ?_, hT.told 0⟩
        · simp only [fX11_told, fX10_partOf, h.1, h.2.1, h.2.2, li_T, li_L, li_R, nm, bd, q_b, ne_eq, Nat.reduceEqDiff, reduceCtorEq, and_false, false_and, and_true, true_and, and_self, not_false_eq_true, not_true_eq_false, ↓reduceIte, n16_T, n16_L, n16_R, et, ek2, q_isT h w9, bo_t g1, b1, t1, t2.1, t2.2, z0]
        · simp only [fX12_told, h.1, h.2.1, h.2.2, li_T, li_L, li_R, nm, bd, q_b, ne_eq, Nat.reduceEqDiff, reduceCtorEq, and_false, false_and, and_true, true_and, and_self, not_false_eq_true, not_true_eq_false, ↓reduceIte, n16_T, n16_L, n16_R, et, ek2, mT_sI, mR_sI, mL_sI, mJ_sI, p_isT hs R' iv.1.1, bo_t g1, b1, r_inb (1) 0 8 (lo := 0) (hi := 8) (by decide) (by decide), bo_t g3, r_at1, bT1 t6, bT2 t6, bT3 t6, Nat.reduceLT, rd1]
      · have ek2 : v2 = 2 := ek
        have g3 : (0 : Int32) ≤ 2 ∧ (2 : Int32) ≤ 8 := by decide
        have z0 : ¬ (2 : Int32) = 0 := by decide
        have z1 : ¬ (2 : Int32) = 1 := by decide
        refine ⟨(mI X 22 t).toInt64, X, sI X 366 0 0, ?_, ?_, hT.told 0⟩
        · simp only [fX11_told, fX10_partOf, h.1, h.2.1, h.2.2, li_T, li_L, li_R, nm, bd, q_b, ne_eq, Nat.reduceEqDiff, reduceCtorEq, and_false, false_and, and_true, true_and, and_self, not_false_eq_true, not_true_eq_false, ↓reduceIte, n16_T, n16_L, n16_R, et, ek2, q_isT h w9, bo_t g1, b1, t1, t2.1, t2.2, z0, z1]
        · simp only [fX12_told, h.1, h.2.1, h.2.2, li_T, li_L, li_R, nm, bd, q_b, ne_eq, Nat.reduceEqDiff, reduceCtorEq, and_false, false_and, and_true, true_and, and_self, not_false_eq_true, not_true_eq_false, ↓reduceIte, n16_T, n16_L, n16_R, et, ek2, mT_sI, mR_sI, mL_sI, mJ_sI, p_isT hs R' iv.1.1, bo_t g1, b1, r_inb (2) 0 8 (lo := 0) (hi := 8) (by decide) (by decide), bo_t g3, r_at2, bT1 t6, bT2 t6, bT3 t6, Nat.reduceLT, rd2]
      · have ek2 : v2 = 3 := ek
        have g3 : (0 : Int32) ≤ 3 ∧ (3 : Int32) ≤ 8 := by decide
        have z0 : ¬ (3 : Int32) = 0 := by decide
        have z1 : ¬ (3 : Int32) = 1 := by decide
        have z2 : ¬ (3 : Int32) = 2 := by decide
        refine ⟨mJ X 23 t, X, sI X 366 0 0, ?_, ?_, hT.told 0⟩
        · simp only [fX11_told, fX10_partOf, h.1, h.2.1, h.2.2, li_T, li_L, li_R, nm, bd, q_b, ne_eq, Nat.reduceEqDiff, reduceCtorEq, and_false, false_and, and_true, true_and, and_self, not_false_eq_true, not_true_eq_false, ↓reduceIte, n16_T, n16_L, n16_R, et, ek2, q_isT h w9, bo_t g1, b1, t1, t2.1, t2.2, z0, z1, z2]
        · simp only [fX12_told, h.1, h.2.1, h.2.2, li_T, li_L, li_R, nm, bd, q_b, ne_eq, Nat.reduceEqDiff, reduceCtorEq, and_false, false_and, and_true, true_and, and_self, not_false_eq_true, not_true_eq_false, ↓reduceIte, n16_T, n16_L, n16_R, et, ek2, mT_sI, mR_sI, mL_sI, mJ_sI, p_isT hs R' iv.1.1, bo_t g1, b1, r_inb (3) 0 8 (lo := 0) (hi := 8) (by decide) (by decide), bo_t g3, r_at3, bT1 t6, bT2 t6, bT3 t6, Nat.reduceLT, rd3]
      · have ek2 : v2 = 4 := ek
        have g3 : (0 : Int32) ≤ 4 ∧ (4 : Int32) ≤ 8 := by decide
        have z0 : ¬ (4 : Int32) = 0 := by decide
        have z1 : ¬ (4 : Int32) = 1 := by decide
        have z2 : ¬ (4 : Int32) = 2 := by decide
        have z3 : ¬ (4 : Int32) = 3 := by decide
        refine ⟨mJ X 24 t, X, sI X 366 0 0, ?_, ?_, hT.told 0⟩
        · simp only [fX11_told, fX10_partOf, h.1, h.2.1, h.2.2, li_T, li_L, li_R, nm, bd, q_b, ne_eq, Nat.reduceEqDiff, reduceCtorEq, and_false, false_and, and_true, true_and, and_self, not_false_eq_true, not_true_eq_false, ↓reduceIte, n16_T, n16_L, n16_R, et, ek2, q_isT h w9, bo_t g1, b1, t1, t2.1, t2.2, z0, z1, z2, z3]
        · simp only [fX12_told, h.1, h.2.1, h.2.2, li_T, li_L, li_R, nm, bd, q_b, ne_eq, Nat.reduceEqDiff, reduceCtorEq, and_false, false_and, and_true, true_and, and_self, not_false_eq_true, not_true_eq_false, ↓reduceIte, n16_T, n16_L, n16_R, et, ek2, mT_sI, mR_sI, mL_sI, mJ_sI, p_isT hs R' iv.1.1, bo_t g1, b1, r_inb (4) 0 8 (lo := 0) (hi := 8) (by decide) (by decide), bo_t g3, r_at4, bT1 t6, bT2 t6, bT3 t6, Nat.reduceLT, rd4]
      · have ek2 : v2 = 5 := ek
        have g3 : (0 : Int32) ≤ 5 ∧ (5 : Int32) ≤ 8 := by decide
        have z0 : ¬ (5 : Int32) = 0 := by decide
        have z1 : ¬ (5 : Int32) = 1 := by decide
        have z2 : ¬ (5 : Int32) = 2 := by decide
        have z3 : ¬ (5 : Int32) = 3 := by decide
        have z4 : ¬ (5 : Int32) = 4 := by decide
        refine ⟨(mI X 25 t).toInt64, X, sI X 366 0 0, ?_, ?_, hT.told 0⟩
        · simp only [fX11_told, fX10_partOf, h.1, h.2.1, h.2.2, li_T, li_L, li_R, nm, bd, q_b, ne_eq, Nat.reduceEqDiff, reduceCtorEq, and_false, false_and, and_true, true_and, and_self, not_false_eq_true, not_true_eq_false, ↓reduceIte, n16_T, n16_L, n16_R, et, ek2, q_isT h w9, bo_t g1, b1, t1, t2.1, t2.2, z0, z1, z2, z3, z4]
        · simp only [fX12_told, h.1, h.2.1, h.2.2, li_T, li_L, li_R, nm, bd, q_b, ne_eq, Nat.reduceEqDiff, reduceCtorEq, and_false, false_and, and_true, true_and, and_self, not_false_eq_true, not_true_eq_false, ↓reduceIte, n16_T, n16_L, n16_R, et, ek2, mT_sI, mR_sI, mL_sI, mJ_sI, p_isT hs R' iv.1.1, bo_t g1, b1, r_inb (5) 0 8 (lo := 0) (hi := 8) (by decide) (by decide), bo_t g3, r_at5, bT1 t6, bT2 t6, bT3 t6, Nat.reduceLT, rd5]
      · have ek2 : v2 = 6 := ek
        have g3 : (0 : Int32) ≤ 6 ∧ (6 : Int32) ≤ 8 := by decide
        have z0 : ¬ (6 : Int32) = 0 := by decide
        have z1 : ¬ (6 : Int32) = 1 := by decide
        have z2 : ¬ (6 : Int32) = 2 := by decide
        have z3 : ¬ (6 : Int32) = 3 := by decide
        have z4 : ¬ (6 : Int32) = 4 := by decide
        have z5 : ¬ (6 : Int32) = 5 := by decide
        refine ⟨(mI X 26 t).toInt64, X, sI X 366 0 0, ?_, ?_, hT.told 0⟩
        · simp only [fX11_told, fX10_partOf, h.1, h.2.1, h.2.2, li_T, li_L, li_R, nm, bd, q_b, ne_eq, Nat.reduceEqDiff, reduceCtorEq, and_false, false_and, and_true, true_and, and_self, not_false_eq_true, not_true_eq_false, ↓reduceIte, n16_T, n16_L, n16_R, et, ek2, q_isT h w9, bo_t g1, b1, t1, t2.1, t2.2, z0, z1, z2, z3, z4, z5]
        · simp only [fX12_told, h.1, h.2.1, h.2.2, li_T, li_L, li_R, nm, bd, q_b, ne_eq, Nat.reduceEqDiff, reduceCtorEq, and_false, false_and, and_true, true_and, and_self, not_false_eq_true, not_true_eq_false, ↓reduceIte, n16_T, n16_L, n16_R, et, ek2, mT_sI, mR_sI, mL_sI, mJ_sI, p_isT hs R' iv.1.1, bo_t g1, b1, r_inb (6) 0 8 (lo := 0) (hi := 8) (by decide) (by decide), bo_t g3, r_at6, bT1 t6, bT2 t6, bT3 t6, Nat.reduceLT, rd6]
      · have ek2 : v2 = 7 := ek
        have g3 : (0 : Int32) ≤ 7 ∧ (7 : Int32) ≤ 8 := by decide
        have z0 : ¬ (7 : Int32) = 0 := by decide
        have z1 : ¬ (7 : Int32) = 1 := by decide
        have z2 : ¬ (7 : Int32) = 2 := by decide
        have z3 : ¬ (7 : Int32) = 3 := by decide
        have z4 : ¬ (7 : Int32) = 4 := by decide
        have z5 : ¬ (7 : Int32) = 5 := by decide
        have z6 : ¬ (7 : Int32) = 6 := by decide
        refine ⟨(mI X 27 t).toInt64, X, sI X 366 0 0, ?_, ?_, hT.told 0⟩
        · simp only [fX11_told, fX10_partOf, h.1, h.2.1, h.2.2, li_T, li_L, li_R, nm, bd, q_b, ne_eq, Nat.reduceEqDiff, reduceCtorEq, and_false, false_and, and_true, true_and, and_self, not_false_eq_true, not_true_eq_false, ↓reduceIte, n16_T, n16_L, n16_R, et, ek2, q_isT h w9, bo_t g1, b1, t1, t2.1, t2.2, z0, z1, z2, z3, z4, z5, z6]
        · simp only [fX12_told, h.1, h.2.1, h.2.2, li_T, li_L, li_R, nm, bd, q_b, ne_eq, Nat.reduceEqDiff, reduceCtorEq, and_false, false_and, and_true, true_and, and_self, not_false_eq_true, not_true_eq_false, ↓reduceIte, n16_T, n16_L, n16_R, et, ek2, mT_sI, mR_sI, mL_sI, mJ_sI, p_isT hs R' iv.1.1, bo_t g1, b1, r_inb (7) 0 8 (lo := 0) (hi := 8) (by decide) (by decide), bo_t g3, r_at7, bT1 t6, bT2 t6, bT3 t6, Nat.reduceLT, rd7]
      · have ek2 : v2 = 8 := ek
        have g3 : (0 : Int32) ≤ 8 ∧ (8 : Int32) ≤ 8 := by decide
        have z0 : ¬ (8 : Int32) = 0 := by decide
        have z1 : ¬ (8 : Int32) = 1 := by decide
        have z2 : ¬ (8 : Int32) = 2 := by decide
        have z3 : ¬ (8 : Int32) = 3 := by decide
        have z4 : ¬ (8 : Int32) = 4 := by decide
        have z5 : ¬ (8 : Int32) = 5 := by decide
        have z6 : ¬ (8 : Int32) = 6 := by decide
        have z7 : ¬ (8 : Int32) = 7 := by decide
        refine ⟨(mI X 28 t).toInt64, X, sI X 366 0 0, ?_, ?_, hT.told 0⟩
        · simp only [fX11_told, fX10_partOf, h.1, h.2.1, h.2.2, li_T, li_L, li_R, nm, bd, q_b, ne_eq, Nat.reduceEqDiff, reduceCtorEq, and_false, false_and, and_true, true_and, and_self, not_false_eq_true, not_true_eq_false, ↓reduceIte, n16_T, n16_L, n16_R, et, ek2, q_isT h w9, bo_t g1, b1, t1, t2.1, t2.2, z0, z1, z2, z3, z4, z5, z6, z7]
        · simp only [fX12_told, h.1, h.2.1, h.2.2, li_T, li_L, li_R, nm, bd, q_b, ne_eq, Nat.reduceEqDiff, reduceCtorEq, and_false, false_and, and_true, true_and, and_self, not_false_eq_true, not_true_eq_false, ↓reduceIte, n16_T, n16_L, n16_R, et, ek2, mT_sI, mR_sI, mL_sI, mJ_sI, p_isT hs R' iv.1.1, bo_t g1, b1, r_inb (8) 0 8 (lo := 0) (hi := 8) (by decide) (by decide), bo_t g3, r_at8, bT1 t6, bT2 t6, bT3 t6, Nat.reduceLT, rd8]
    · refine ⟨-9223372036854775808, X, sI X 366 0 0, ?_, ?_, hT.told 0⟩
      · have z0 : ¬ v2 = 0 := fun z => g2 (by rw [z]; decide)
        have z1 : ¬ v2 = 1 := fun z => g2 (by rw [z]; decide)
        have z2 : ¬ v2 = 2 := fun z => g2 (by rw [z]; decide)
        have z3 : ¬ v2 = 3 := fun z => g2 (by rw [z]; decide)
        have z4 : ¬ v2 = 4 := fun z => g2 (by rw [z]; decide)
        have z5 : ¬ v2 = 5 := fun z => g2 (by rw [z]; decide)
        have z6 : ¬ v2 = 6 := fun z => g2 (by rw [z]; decide)
        have z7 : ¬ v2 = 7 := fun z => g2 (by rw [z]; decide)
        have z8 : ¬ v2 = 8 := fun z => g2 (by rw [z]; decide)
        simp only [fX11_told, fX10_partOf, h.1, h.2.1, h.2.2, li_T, li_L, li_R, nm, bd, q_b, ne_eq, Nat.reduceEqDiff, reduceCtorEq, and_false, false_and, and_true, true_and, and_self, not_false_eq_true, not_true_eq_false, ↓reduceIte, n16_T, n16_L, n16_R, et, q_isT h w9, bo_t g1, b1, z0, z1, z2, z3, z4, z5, z6, z7, z8]
      · simp only [fX12_told, fX12_told_L40, h.1, h.2.1, h.2.2, li_T, li_L, li_R, nm, bd, q_b, ne_eq, Nat.reduceEqDiff, reduceCtorEq, and_false, false_and, and_true, true_and, and_self, not_false_eq_true, not_true_eq_false, ↓reduceIte, n16_T, n16_L, n16_R, et, mT_sI, p_isT hs R' iv.1.1, bo_t g1, b1, r_inb v2 0 8 (lo := 0) (hi := 8) (by decide) (by decide), bo_f g2]
  · refine ⟨-9223372036854775808, X, sI X 366 0 0, ?_, ?_, hT.told 0⟩
    · simp only [fX11_told, h.1, h.2.1, h.2.2, li_T, li_L, li_R, nm, bd, q_b, ne_eq, Nat.reduceEqDiff, reduceCtorEq, and_false, false_and, and_true, true_and, and_self, not_false_eq_true, not_true_eq_false, ↓reduceIte, n16_T, n16_L, n16_R, q_isT h w9, bo_f g1]
    · simp only [fX12_told, fX12_told_L40, h.1, h.2.1, h.2.2, li_T, li_L, li_R, nm, bd, q_b, ne_eq, Nat.reduceEqDiff, reduceCtorEq, and_false, false_and, and_true, true_and, and_self, not_false_eq_true, not_true_eq_false, ↓reduceIte, n16_T, n16_L, n16_R, mT_sI, p_isT hs R' iv.1.1, bo_f g1]
theorem s_issued (h : Tp bk dr H P X) (v1 v2 : Int32) : ∃ r X1 X2, fX11_issued 1 v1 v2 X = some (r, X1) ∧ fX12_issued 366 v1 v2 X1 = some (r, X2) ∧ Tp bk dr H P X2 := by
  have hT := h
  obtain ⟨h1, h2, h3, h4, h5, h6, ⟨T, G, R, iv, iw⟩, -, -, -, -, -, -⟩ := h
  have h := h1
  have hs := h1.sI 366 0 0
  have wG : mI X 29 16 = nI G := iv.1.2.2.1
  have R' : Rl T G (mJ (sI X 366 0 0) 367) (gW 16 X) := R
  have hG8 := R.2.1
  by_cases g1 : 0 ≤ v1 ∧ v1 < nI G
  · obtain ⟨e, he, ee⟩ := nI_ex g1 (by omega)
    have e8 : e < 8 := by omega
    have e1 : (nI e).toNatClampNeg = e := nI_clamp (by omega)
    have e2 := inL_nI (j := e) (n := 8) e8 (by decide)
    rw [ee] at g1
    have rd0 : mJ X 367 (aE e 13) = mJ X 44 e := R.e13 he
    have rd1 : mJ X 367 (aE e 14) = mJ X 45 e := R.e14 he
    have a0 : (13 : Int32) + 0 = 13 := by decide
    have a1 : (13 : Int32) + 1 = 14 := by decide
    by_cases g2 : v2 = 0
    · subst g2
      refine ⟨mJ X 44 e, X, sI X 366 0 0, ?_, ?_, hT.told 0⟩
      · simp only [fX11_issued, h.1, h.2.1, h.2.2, li_T, li_L, li_R, nm, bd, q_b, ne_eq, Nat.reduceEqDiff, reduceCtorEq, and_false, false_and, and_true, true_and, and_self, not_false_eq_true, not_true_eq_false, ↓reduceIte, n16_T, n16_L, n16_R, ee, q_isE h wG, bo_t g1, b1, e1, e2.1, e2.2]
      · simp only [fX12_issued, h.1, h.2.1, h.2.2, li_T, li_L, li_R, nm, bd, q_b, ne_eq, Nat.reduceEqDiff, reduceCtorEq, and_false, false_and, and_true, true_and, and_self, not_false_eq_true, not_true_eq_false, ↓reduceIte, n16_T, n16_L, n16_R, ee, mT_sI, mR_sI, mL_sI, mJ_sI, p_isE hs R' iv.1.2.2.1, bo_t g1, b1, r_inb 0 0 1 (lo := 0) (hi := 1) (by decide) (by decide), bo_t (show (0 : Int32) ≤ 0 ∧ (0 : Int32) ≤ 1 by decide), a0, r_of13, bE1 e8, bE2 e8, bE3 e8, Nat.reduceLT, rd0]
    · by_cases g3 : v2 = 1
      · subst g3
        refine ⟨mJ X 45 e, X, sI X 366 0 0, ?_, ?_, hT.told 0⟩
        · simp only [fX11_issued, h.1, h.2.1, h.2.2, li_T, li_L, li_R, nm, bd, q_b, ne_eq, Nat.reduceEqDiff, reduceCtorEq, and_false, false_and, and_true, true_and, and_self, not_false_eq_true, not_true_eq_false, ↓reduceIte, n16_T, n16_L, n16_R, ee, q_isE h wG, bo_t g1, b1, e1, e2.1, e2.2]
        · simp only [fX12_issued, h.1, h.2.1, h.2.2, li_T, li_L, li_R, nm, bd, q_b, ne_eq, Nat.reduceEqDiff, reduceCtorEq, and_false, false_and, and_true, true_and, and_self, not_false_eq_true, not_true_eq_false, ↓reduceIte, n16_T, n16_L, n16_R, ee, mT_sI, mR_sI, mL_sI, mJ_sI, p_isE hs R' iv.1.2.2.1, bo_t g1, b1, r_inb 1 0 1 (lo := 0) (hi := 1) (by decide) (by decide), bo_t (show (0 : Int32) ≤ 1 ∧ (1 : Int32) ≤ 1 by decide), a1, r_of14, bE1 e8, bE2 e8, bE3 e8, Nat.reduceLT, rd1]
      · have g4 : ¬ (0 ≤ v2 ∧ v2 ≤ 1) := fun z => by
          have i2 := inL_cc (v := v2) (l := 0) (n := 1) (m := 2) z (by decide) (by decide) (by decide)
          obtain ⟨k, hk, ek⟩ := inL_of i2 (by decide)
          rcases (by omega : k = 0 ∨ k = 1) with rfl | rfl
          · exact g2 ek
          · exact g3 ek
        refine ⟨-9223372036854775808, X, sI X 366 0 0, ?_, ?_, hT.told 0⟩
        · simp only [fX11_issued, h.1, h.2.1, h.2.2, li_T, li_L, li_R, nm, bd, q_b, ne_eq, Nat.reduceEqDiff, reduceCtorEq, and_false, false_and, and_true, true_and, and_self, not_false_eq_true, not_true_eq_false, ↓reduceIte, n16_T, n16_L, n16_R, ee, q_isE h wG, bo_t g1, b1, g2, g3]
        · simp only [fX12_issued, fX12_issued_L41, h.1, h.2.1, h.2.2, li_T, li_L, li_R, nm, bd, q_b, ne_eq, Nat.reduceEqDiff, reduceCtorEq, and_false, false_and, and_true, true_and, and_self, not_false_eq_true, not_true_eq_false, ↓reduceIte, n16_T, n16_L, n16_R, ee, mT_sI, p_isE hs R' iv.1.2.2.1, bo_t g1, b1, r_inb v2 0 1 (lo := 0) (hi := 1) (by decide) (by decide), bo_f g4]
  · refine ⟨-9223372036854775808, X, sI X 366 0 0, ?_, ?_, hT.told 0⟩
    · simp only [fX11_issued, h.1, h.2.1, h.2.2, li_T, li_L, li_R, nm, bd, q_b, ne_eq, Nat.reduceEqDiff, reduceCtorEq, and_false, false_and, and_true, true_and, and_self, not_false_eq_true, not_true_eq_false, ↓reduceIte, n16_T, n16_L, n16_R, q_isE h wG, bo_f g1]
    · simp only [fX12_issued, fX12_issued_L41, h.1, h.2.1, h.2.2, li_T, li_L, li_R, nm, bd, q_b, ne_eq, Nat.reduceEqDiff, reduceCtorEq, and_false, false_and, and_true, true_and, and_self, not_false_eq_true, not_true_eq_false, ↓reduceIte, n16_T, n16_L, n16_R, mT_sI, p_isE hs R' iv.1.2.2.1, bo_f g1]
theorem s_end (h : Tp bk dr H P X) (v1 : Int32) : ∃ r X1 X2, fX11_end 1 v1 X = some (r, X1) ∧ fX12_end 366 v1 X1 = some (r, X2) ∧ Tp bk dr H P X2 := by
  have hT := h
  obtain ⟨h1, h2, h3, h4, h5, h6, h7, h8, h9, ⟨L, t1, t2, t3, t4⟩, h10, h11, h12⟩ := h
  have h := h1
  have z12 : (0 : Int64) = (0 : Int32).toInt64 := by decide
  by_cases g1 : 0 ≤ v1 ∧ v1 ≤ nI L
  · have n0 : ¬ v1 < 0 := i32_nlt.mpr g1.1
    obtain ⟨i, hi, ei⟩ := inL_of (inL_cc (v := v1) (l := 0) (n := L) (m := L + 1) g1 (by decide) (by omega) (by omega)) (by omega)
    refine ⟨1, sI X 2 1 v1, sI (sI (sI X 2 1 v1) 366 0 0) 366 12 v1, ?_, ?_, ?_⟩
    · simp only [fX11_end, h.1, h.2.1, h.2.2, li_T, li_L, li_R, nm, bd, q_b, ne_eq, Nat.reduceEqDiff, reduceCtorEq, and_false, false_and, and_true, true_and, and_self, not_false_eq_true, not_true_eq_false, ↓reduceIte, n16_T, n16_L, n16_R, n0, t2, g1.2]
    · have c12 : mI (sI (sI X 2 1 v1) 366 0 0) 366 12 = nI L := by rw [mI_sI, if_neg (by omega), mI_sI, if_neg (by omega)]; exact t3
      simp only [fX12_end, h.1, h.2.1, h.2.2, li_T, li_L, li_R, nm, bd, q_b, ne_eq, Nat.reduceEqDiff, reduceCtorEq, and_false, false_and, and_true, true_and, and_self, not_false_eq_true, not_true_eq_false, ↓reduceIte, n16_T, n16_L, n16_R, mT_sI, c12, r_inb v1 0 (nI L) (lo := 0) (hi := (nI L).toInt64) (by decide) rfl, bo_t g1, b1]
    · have rI : ∀ a k, ¬ (a = 2 ∧ k = 1) → ¬ (a = 366 ∧ (k = 0 ∨ k = 12)) → mI (sI (sI (sI X 2 1 v1) 366 0 0) 366 12 v1) a k = mI X a k := fun a k q1 q2 => by rw [mI_sI, if_neg (by omega), mI_sI, if_neg (by omega), mI_sI, if_neg (by omega)]
      have rJ : mJ (sI (sI (sI X 2 1 v1) 366 0 0) 366 12 v1) = mJ X := by rw [mJ_sI, mJ_sI, mJ_sI]
      have r1 : mI (sI (sI (sI X 2 1 v1) 366 0 0) 366 12 v1) 2 1 = nI i := by rw [mI_sI, if_neg (by omega), mI_sI, if_neg (by omega), mI_sI, if_pos ⟨rfl, rfl⟩]; exact ei
      have r2 : mI (sI (sI (sI X 2 1 v1) 366 0 0) 366 12 v1) 366 12 = nI i := by rw [mI_sI, if_pos ⟨rfl, rfl⟩]; exact ei
      have hY : Shp bk dr (sI (sI (sI X 2 1 v1) 366 0 0) 366 12 v1) := ((h1.sI _ _ _).sI _ _ _).sI _ _ _
      generalize sI (sI (sI X 2 1 v1) 366 0 0) 366 12 v1 = Y at *
      exact Tp.len hT hY (fun c k q1 q2 => rI c k q1 q2) rJ ⟨i, by omega, r1, r2⟩
  · refine ⟨0, X, sI X 366 0 0, ?_, ?_, hT.told 0⟩
    · by_cases n0 : v1 < 0
      · simp only [fX11_end, fX11_end_L15, h.1, h.2.1, h.2.2, li_T, li_L, li_R, nm, bd, q_b, ne_eq, Nat.reduceEqDiff, reduceCtorEq, and_false, false_and, and_true, true_and, and_self, not_false_eq_true, not_true_eq_false, ↓reduceIte, n16_T, n16_L, n16_R, n0]
      · have n1 : ¬ v1 ≤ nI L := fun z => g1 ⟨i32_nlt.mp n0, z⟩
        simp only [fX11_end, fX11_end_L15, h.1, h.2.1, h.2.2, li_T, li_L, li_R, nm, bd, q_b, ne_eq, Nat.reduceEqDiff, reduceCtorEq, and_false, false_and, and_true, true_and, and_self, not_false_eq_true, not_true_eq_false, ↓reduceIte, n16_T, n16_L, n16_R, n0, t2, n1]
    · have c12 : mI (sI X 366 0 0) 366 12 = nI L := by rw [mI_sI, if_neg (by omega)]; exact t3
      simp only [fX12_end, h.1, h.2.1, h.2.2, li_T, li_L, li_R, nm, bd, q_b, ne_eq, Nat.reduceEqDiff, reduceCtorEq, and_false, false_and, and_true, true_and, and_self, not_false_eq_true, not_true_eq_false, ↓reduceIte, n16_T, n16_L, n16_R, mT_sI, c12, r_inb v1 0 (nI L) (lo := 0) (hi := (nI L).toInt64) (by decide) rfl, bo_f g1]
end
