/-! QUERIES: claim, wants -/
section
variable {bk dr s H P n T G : Nat} {X : Mm} {f : Nat → Int64} {w : Wt}
theorem q_sf (h : Shp bk dr X) {e : Nat} (he : e < 8) (v : Int64) : fX3_sharesFor 29 (nI e) v X = some (N_sf e v (gW 16 X), X) := by
  have z := c_sharesFor (w := gW 16 X) (v := v) h St.now he
  rw [pW_gW] at z
  exact z
theorem q_mf (h : Shp bk dr X) {e : Nat} (he : e < 8) (v : Int64) : fX3_moneyFor 29 (nI e) v X = some (N_mf e v (gW 16 X), X) := by
  have z := c_moneyFor (w := gW 16 X) (v := v) h St.now he
  rw [pW_gW] at z
  exact z
theorem p_wo (h : Shp bk dr X) (R : Rl T G (mJ X 367) w) {e : Nat} (he : e < G) (hb : 1 ≤ w.1 18 e) (v : Int64) : fX12_wholeOf 366 (nI e) v X = some (N_sf e v w, X) := by
  have z := m_wholeOf h R he hb v
  rw [wJ_self] at z
  exact z
theorem p_mo (h : Shp bk dr X) (R : Rl T G (mJ X 367) w) {e : Nat} (he : e < G) (hb : 1 ≤ w.1 18 e) (hk : ¬ w.1 14 e = 2) (v : Int64) : fX12_moneyOf 366 (nI e) v X = some (N_mf e v w, X) := by
  have z := m_moneyOf h R he hb hk v
  rw [wJ_self] at z
  exact z
theorem p_tm (h : Shp bk dr X) (R : Rl T G (mJ X 367) w) : fX12_tradeMany 366 X = some (w.1 3 9, X) := by
  have z := m_tm h R
  rw [wJ_self] at z
  exact z
theorem p_em (h : Shp bk dr X) (R : Rl T G (mJ X 367) w) : fX12_eventMany 366 X = some (w.1 13 16, X) := by
  have z := m_em h R
  rw [wJ_self] at z
  exact z
theorem p_today (h : Shp bk dr X) (R : Rl T G (mJ X 367) w) : fX12_today 366 X = some (w.1 0 8, X) := by
  have z := m_today h R
  rw [wJ_self] at z
  exact z
theorem s_claim (h : Tp bk dr H P X) (v1 v2 v3 : Int32) : ∃ r X1 X2, fX11_claim 1 v1 v2 v3 X = some (r, X1) ∧ fX12_claim 366 v1 v2 v3 X1 = some (r, X2) ∧ Tp bk dr H P X2 := by
  have hT := h
  obtain ⟨h1, h2, h3, h4, h5, h6, ⟨T, G, R, iv, iw⟩, -, -, -, -, -, -⟩ := h
  have h := h1
  have hs := h1.sI 366 0 0
  have wG : mI X 29 16 = nI G := iv.1.2.2.1
  have w6 : mI X 16 6 = nI H := iv.1.2.2.2.2.1
  have w7 : mI X 16 7 = nI P := iw.1
  have y6 : mI (sI X 366 0 0) 366 6 = nI H := by rw [mI_sI, if_neg (by omega)]; exact h5
  have y7 : mI (sI X 366 0 0) 366 7 = nI P := by rw [mI_sI, if_neg (by omega)]; exact h6
  have R' : Rl T G (mJ (sI X 366 0 0) 367) (gW 16 X) := R
  have hG8 := R.2.1
  by_cases g1 : 0 ≤ v1 ∧ v1 < nI G
  · obtain ⟨e, he, ee⟩ := nI_ex g1 (by omega)
    have e8 : e < 8 := by omega
    have e1 : (nI e).toNatClampNeg = e := nI_clamp (by omega)
    have e2 := inL_nI (j := e) (n := 8) e8 (by decide)
    rw [ee] at g1
    have hc := iv.cnt he
    have ev := iv.2 e he
    have c6 : mI X 42 e = nI (Cn (gW 16 X) e) := hc.1
    have rc : mJ X 367 (aE e 6) = (nI (Cn (gW 16 X) e)).toInt64 := (R.e6 he).trans (congrArg Int32.toInt64 hc.1)
    by_cases g2 : 0 ≤ v2 ∧ v2 < nI (Cn (gW 16 X) e)
    · obtain ⟨i, hi, ei⟩ := nI_ex g2 (by omega)
      have i6 : i < 60 := by omega
      have k1 : (nI (60 * e + i)).toNatClampNeg = 60 * e + i := nI_clamp (by omega)
      have k2 := inL_nI (j := 60 * e + i) (n := 480) (by omega) (by decide)
      rw [ei] at g2
      have n0 : ¬ nI i < 0 := i32_nlt.mpr g2.1
      have n1 : ¬ nI (Cn (gW 16 X) e) ≤ nI i := i32_nle.mpr g2.2
      have rd0 : mJ X 367 (aC e i 0) = (mI X 54 (60 * e + i)).toInt64 := R.c0 he hi i6
      have rd1 : mJ X 367 (aC e i 1) = (mI X 55 (60 * e + i)).toInt64 := R.c1 he hi i6
      have rd2 : mJ X 367 (aC e i 2) = mJ X 56 (60 * e + i) := R.c2 he hi i6
      have rd3 : mJ X 367 (aC e i 3) = (mI X 57 (60 * e + i)).toInt64 := R.c3 he hi i6
      have rd4 : mJ X 367 (aC e i 4) = (mI X 58 (60 * e + i)).toInt64 := R.c4 he hi i6
      by_cases g3 : 0 ≤ v3 ∧ v3 ≤ 4
      · have i9 := inL_cc (v := v3) (l := 0) (n := 4) (m := 5) g3 (by decide) (by decide) (by decide)
        obtain ⟨k, hk, ek⟩ := inL_of i9 (by decide)
        rcases (by omega : k = 0 ∨ k = 1 ∨ k = 2 ∨ k = 3 ∨ k = 4) with rfl | rfl | rfl | rfl | rfl
        · have ek2 : v3 = 0 := ek
          have g4 : (0 : Int32) ≤ 0 ∧ (0 : Int32) ≤ 4 := by decide
          refine ⟨(mI X 54 (60 * e + i)).toInt64, X, sI X 366 0 0, ?_, ?_, hT.told 0⟩
          · simp only [fX11_claim, fX8_isClaim, fX8_claimPart, h.1, h.2.1, h.2.2, li_T, li_L, li_R, nm, bd, q_b, ne_eq, Nat.reduceEqDiff, reduceCtorEq, and_false, false_and, and_true, true_and, and_self, not_false_eq_true, not_true_eq_false, ↓reduceIte, n16_T, n16_L, n16_R, ee, ei, q_isE h wG, bo_t g1, b1, n0, e1, e2.1, e2.2, c6, n1, fX1_at, at60, k1, k2.1, k2.2, ek2]
          · simp only [fX12_claim, h.1, h.2.1, h.2.2, li_T, li_L, li_R, nm, bd, q_b, ne_eq, Nat.reduceEqDiff, reduceCtorEq, and_false, false_and, and_true, true_and, and_self, not_false_eq_true, not_true_eq_false, ↓reduceIte, n16_T, n16_L, n16_R, ee, ei, mT_sI, mR_sI, mL_sI, mJ_sI, p_isE hs R' iv.1.2.2.1, bo_t g1, b1, r_of6, bE1 e8, bE2 e8, bE3 e8, Nat.reduceLT, rc, r_inn (v := nI i) (n := Cn (gW 16 X) e) (by omega), bo_t g2, r_oC2, bC1 e8 i6, bC2 e8 i6, bC3 e8 i6, rd2, ek2, r_inb (0) 0 4 (lo := 0) (hi := 4) (by decide) (by decide), bo_t g4, r_oC0, rd0]
        · have ek2 : v3 = 1 := ek
          have g4 : (0 : Int32) ≤ 1 ∧ (1 : Int32) ≤ 4 := by decide
          have z0 : ¬ (1 : Int32) = 0 := by decide
          refine ⟨(mI X 55 (60 * e + i)).toInt64, X, sI X 366 0 0, ?_, ?_, hT.told 0⟩
          · simp only [fX11_claim, fX8_isClaim, fX8_claimPart, h.1, h.2.1, h.2.2, li_T, li_L, li_R, nm, bd, q_b, ne_eq, Nat.reduceEqDiff, reduceCtorEq, and_false, false_and, and_true, true_and, and_self, not_false_eq_true, not_true_eq_false, ↓reduceIte, n16_T, n16_L, n16_R, ee, ei, q_isE h wG, bo_t g1, b1, n0, e1, e2.1, e2.2, c6, n1, fX1_at, at60, k1, k2.1, k2.2, ek2, z0]
          · simp only [fX12_claim, h.1, h.2.1, h.2.2, li_T, li_L, li_R, nm, bd, q_b, ne_eq, Nat.reduceEqDiff, reduceCtorEq, and_false, false_and, and_true, true_and, and_self, not_false_eq_true, not_true_eq_false, ↓reduceIte, n16_T, n16_L, n16_R, ee, ei, mT_sI, mR_sI, mL_sI, mJ_sI, p_isE hs R' iv.1.2.2.1, bo_t g1, b1, r_of6, bE1 e8, bE2 e8, bE3 e8, Nat.reduceLT, rc, r_inn (v := nI i) (n := Cn (gW 16 X) e) (by omega), bo_t g2, r_oC2, bC1 e8 i6, bC2 e8 i6, bC3 e8 i6, rd2, ek2, r_inb (1) 0 4 (lo := 0) (hi := 4) (by decide) (by decide), bo_t g4, r_oC1, rd1]
        · have ek2 : v3 = 2 := ek
          have g4 : (0 : Int32) ≤ 2 ∧ (2 : Int32) ≤ 4 := by decide
          have z0 : ¬ (2 : Int32) = 0 := by decide
          have z1 : ¬ (2 : Int32) = 1 := by decide
          refine ⟨mJ X 56 (60 * e + i), X, sI X 366 0 0, ?_, ?_, hT.told 0⟩
          · simp only [fX11_claim, fX8_isClaim, fX8_claimPart, h.1, h.2.1, h.2.2, li_T, li_L, li_R, nm, bd, q_b, ne_eq, Nat.reduceEqDiff, reduceCtorEq, and_false, false_and, and_true, true_and, and_self, not_false_eq_true, not_true_eq_false, ↓reduceIte, n16_T, n16_L, n16_R, ee, ei, q_isE h wG, bo_t g1, b1, n0, e1, e2.1, e2.2, c6, n1, fX1_at, at60, k1, k2.1, k2.2, ek2, z0, z1]
          · simp only [fX12_claim, h.1, h.2.1, h.2.2, li_T, li_L, li_R, nm, bd, q_b, ne_eq, Nat.reduceEqDiff, reduceCtorEq, and_false, false_and, and_true, true_and, and_self, not_false_eq_true, not_true_eq_false, ↓reduceIte, n16_T, n16_L, n16_R, ee, ei, mT_sI, mR_sI, mL_sI, mJ_sI, p_isE hs R' iv.1.2.2.1, bo_t g1, b1, r_of6, bE1 e8, bE2 e8, bE3 e8, Nat.reduceLT, rc, r_inn (v := nI i) (n := Cn (gW 16 X) e) (by omega), bo_t g2, r_oC2, bC1 e8 i6, bC2 e8 i6, bC3 e8 i6, rd2, ek2, r_inb (2) 0 4 (lo := 0) (hi := 4) (by decide) (by decide), bo_t g4, r_oC2, rd2]
        · have ek2 : v3 = 3 := ek
          have g4 : (0 : Int32) ≤ 3 ∧ (3 : Int32) ≤ 4 := by decide
          have z0 : ¬ (3 : Int32) = 0 := by decide
          have z1 : ¬ (3 : Int32) = 1 := by decide
          have z2 : ¬ (3 : Int32) = 2 := by decide
          refine ⟨(mI X 57 (60 * e + i)).toInt64, X, sI X 366 0 0, ?_, ?_, hT.told 0⟩
          · simp only [fX11_claim, fX8_isClaim, fX8_claimPart, h.1, h.2.1, h.2.2, li_T, li_L, li_R, nm, bd, q_b, ne_eq, Nat.reduceEqDiff, reduceCtorEq, and_false, false_and, and_true, true_and, and_self, not_false_eq_true, not_true_eq_false, ↓reduceIte, n16_T, n16_L, n16_R, ee, ei, q_isE h wG, bo_t g1, b1, n0, e1, e2.1, e2.2, c6, n1, fX1_at, at60, k1, k2.1, k2.2, ek2, z0, z1, z2]
          · simp only [fX12_claim, h.1, h.2.1, h.2.2, li_T, li_L, li_R, nm, bd, q_b, ne_eq, Nat.reduceEqDiff, reduceCtorEq, and_false, false_and, and_true, true_and, and_self, not_false_eq_true, not_true_eq_false, ↓reduceIte, n16_T, n16_L, n16_R, ee, ei, mT_sI, mR_sI, mL_sI, mJ_sI, p_isE hs R' iv.1.2.2.1, bo_t g1, b1, r_of6, bE1 e8, bE2 e8, bE3 e8, Nat.reduceLT, rc, r_inn (v := nI i) (n := Cn (gW 16 X) e) (by omega), bo_t g2, r_oC2, bC1 e8 i6, bC2 e8 i6, bC3 e8 i6, rd2, ek2, r_inb (3) 0 4 (lo := 0) (hi := 4) (by decide) (by decide), bo_t g4, r_oC3, rd3]
        · have ek2 : v3 = 4 := ek
          have g4 : (0 : Int32) ≤ 4 ∧ (4 : Int32) ≤ 4 := by decide
          have z0 : ¬ (4 : Int32) = 0 := by decide
          have z1 : ¬ (4 : Int32) = 1 := by decide
          have z2 : ¬ (4 : Int32) = 2 := by decide
          have z3 : ¬ (4 : Int32) = 3 := by decide
          refine ⟨(mI X 58 (60 * e + i)).toInt64, X, sI X 366 0 0, ?_, ?_, hT.told 0⟩
          · simp only [fX11_claim, fX8_isClaim, fX8_claimPart, h.1, h.2.1, h.2.2, li_T, li_L, li_R, nm, bd, q_b, ne_eq, Nat.reduceEqDiff, reduceCtorEq, and_false, false_and, and_true, true_and, and_self, not_false_eq_true, not_true_eq_false, ↓reduceIte, n16_T, n16_L, n16_R, ee, ei, q_isE h wG, bo_t g1, b1, n0, e1, e2.1, e2.2, c6, n1, fX1_at, at60, k1, k2.1, k2.2, ek2, z0, z1, z2, z3]
          · simp only [fX12_claim, h.1, h.2.1, h.2.2, li_T, li_L, li_R, nm, bd, q_b, ne_eq, Nat.reduceEqDiff, reduceCtorEq, and_false, false_and, and_true, true_and, and_self, not_false_eq_true, not_true_eq_false, ↓reduceIte, n16_T, n16_L, n16_R, ee, ei, mT_sI, mR_sI, mL_sI, mJ_sI, p_isE hs R' iv.1.2.2.1, bo_t g1, b1, r_of6, bE1 e8, bE2 e8, bE3 e8, Nat.reduceLT, rc, r_inn (v := nI i) (n := Cn (gW 16 X) e) (by omega), bo_t g2, r_oC2, bC1 e8 i6, bC2 e8 i6, bC3 e8 i6, rd2, ek2, r_inb (4) 0 4 (lo := 0) (hi := 4) (by decide) (by decide), bo_t g4, r_oC4, rd4]
      · have q : ∀ j : Nat, j < 5 → ¬ v3 = nI j := fun j hj z => g3 (by rw [z]; exact ⟨nI_pos' (by omega), (nI_leI (a := j) (b := 4) (by omega) (by omega)).mpr (by omega)⟩)
        have z0 : ¬ v3 = 0 := q 0 (by decide)
        have z1 : ¬ v3 = 1 := q 1 (by decide)
        have z2 : ¬ v3 = 2 := q 2 (by decide)
        have z3 : ¬ v3 = 3 := q 3 (by decide)
        have z4 : ¬ v3 = 4 := q 4 (by decide)
        by_cases q5 : v3 = 5
        · subst q5
          refine ⟨N_sf e (mJ X 56 (60 * e + i)) (gW 16 X), X, sI X 366 0 0, ?_, ?_, hT.told 0⟩
          · simp only [fX11_claim, fX8_isClaim, fX8_claimPart, h.1, h.2.1, h.2.2, li_T, li_L, li_R, nm, bd, q_b, ne_eq, Nat.reduceEqDiff, reduceCtorEq, and_false, false_and, and_true, true_and, and_self, not_false_eq_true, not_true_eq_false, ↓reduceIte, n16_T, n16_L, n16_R, ee, ei, q_isE h wG, bo_t g1, b1, n0, e1, e2.1, e2.2, c6, n1, fX1_at, at60, k1, k2.1, k2.2, z0, z1, z2, z3, z4, q_sf h e8]
          · simp only [fX12_claim, h.1, h.2.1, h.2.2, li_T, li_L, li_R, nm, bd, q_b, ne_eq, Nat.reduceEqDiff, reduceCtorEq, and_false, false_and, and_true, true_and, and_self, not_false_eq_true, not_true_eq_false, ↓reduceIte, n16_T, n16_L, n16_R, ee, ei, mT_sI, mR_sI, mL_sI, mJ_sI, p_isE hs R' iv.1.2.2.1, bo_t g1, b1, r_of6, bE1 e8, bE2 e8, bE3 e8, Nat.reduceLT, rc, r_inn (v := nI i) (n := Cn (gW 16 X) e) (by omega), bo_t g2, r_oC2, bC1 e8 i6, bC2 e8 i6, bC3 e8 i6, rd2, r_inb 5 0 4 (lo := 0) (hi := 4) (by decide) (by decide), bo_f g3, p_wo hs R' he ev.1]
        · by_cases q6 : v3 = 6
          · subst q6
            refine ⟨N_mf e (mJ X 56 (60 * e + i)) (gW 16 X), X, sI X 366 0 0, ?_, ?_, hT.told 0⟩
            · simp only [fX11_claim, fX8_isClaim, fX8_claimPart, h.1, h.2.1, h.2.2, li_T, li_L, li_R, nm, bd, q_b, ne_eq, Nat.reduceEqDiff, reduceCtorEq, and_false, false_and, and_true, true_and, and_self, not_false_eq_true, not_true_eq_false, ↓reduceIte, n16_T, n16_L, n16_R, ee, ei, q_isE h wG, bo_t g1, b1, n0, e1, e2.1, e2.2, c6, n1, fX1_at, at60, k1, k2.1, k2.2, z0, z1, z2, z3, z4, q5, q_mf h e8]
            · have k0 : mJ X 367 (aE e 0) = ((gW 16 X).1 14 e).toInt64 := R.e0 he
              simp only [fX12_claim, h.1, h.2.1, h.2.2, li_T, li_L, li_R, nm, bd, q_b, ne_eq, Nat.reduceEqDiff, reduceCtorEq, and_false, false_and, and_true, true_and, and_self, not_false_eq_true, not_true_eq_false, ↓reduceIte, n16_T, n16_L, n16_R, ee, ei, mT_sI, mR_sI, mL_sI, mJ_sI, p_isE hs R' iv.1.2.2.1, bo_t g1, b1, r_of6, bE1 e8, bE2 e8, bE3 e8, Nat.reduceLT, rc, r_inn (v := nI i) (n := Cn (gW 16 X) e) (by omega), bo_t g2, r_oC2, bC1 e8 i6, bC2 e8 i6, bC3 e8 i6, rd2, r_inb 6 0 4 (lo := 0) (hi := 4) (by decide) (by decide), bo_f g3, q5, r_of0, k0, cv_eq, wd_2]
              by_cases kk : (gW 16 X).1 14 e = 2
              · have m0 : N_mf e (mJ X 56 (60 * e + i)) (gW 16 X) = 0 := by unfold N_mf; rw [if_pos kk]
                rw [m0, if_pos kk]
              · rw [if_neg kk, p_mo hs R' he ev.1 kk]
          · refine ⟨-1, X, sI X 366 0 0, ?_, ?_, hT.told 0⟩
            · simp only [fX11_claim, fX8_isClaim, fX8_claimPart, h.1, h.2.1, h.2.2, li_T, li_L, li_R, nm, bd, q_b, ne_eq, Nat.reduceEqDiff, reduceCtorEq, and_false, false_and, and_true, true_and, and_self, not_false_eq_true, not_true_eq_false, ↓reduceIte, n16_T, n16_L, n16_R, ee, ei, q_isE h wG, bo_t g1, b1, n0, e1, e2.1, e2.2, c6, n1, fX1_at, at60, k1, k2.1, k2.2, z0, z1, z2, z3, z4, q5, q6]
            · simp only [fX12_claim, h.1, h.2.1, h.2.2, li_T, li_L, li_R, nm, bd, q_b, ne_eq, Nat.reduceEqDiff, reduceCtorEq, and_false, false_and, and_true, true_and, and_self, not_false_eq_true, not_true_eq_false, ↓reduceIte, n16_T, n16_L, n16_R, ee, ei, mT_sI, mR_sI, mL_sI, mJ_sI, p_isE hs R' iv.1.2.2.1, bo_t g1, b1, r_of6, bE1 e8, bE2 e8, bE3 e8, Nat.reduceLT, rc, r_inn (v := nI i) (n := Cn (gW 16 X) e) (by omega), bo_t g2, r_oC2, bC1 e8 i6, bC2 e8 i6, bC3 e8 i6, rd2, r_inb v3 0 4 (lo := 0) (hi := 4) (by decide) (by decide), bo_f g3, q5, q6]
    · refine ⟨-1, X, sI X 366 0 0, ?_, ?_, hT.told 0⟩
      · by_cases n0 : v2 < 0
        · simp only [fX11_claim, fX8_isClaim, fX8_isClaim_L32, h.1, h.2.1, h.2.2, li_T, li_L, li_R, nm, bd, q_b, ne_eq, Nat.reduceEqDiff, reduceCtorEq, and_false, false_and, and_true, true_and, and_self, not_false_eq_true, not_true_eq_false, ↓reduceIte, n16_T, n16_L, n16_R, ee, q_isE h wG, bo_t g1, b1, n0]
        · have n1 : nI (Cn (gW 16 X) e) ≤ v2 := i32_nlt.mp fun z => g2 ⟨i32_nlt.mp n0, z⟩
          simp only [fX11_claim, fX8_isClaim, fX8_isClaim_L32, h.1, h.2.1, h.2.2, li_T, li_L, li_R, nm, bd, q_b, ne_eq, Nat.reduceEqDiff, reduceCtorEq, and_false, false_and, and_true, true_and, and_self, not_false_eq_true, not_true_eq_false, ↓reduceIte, n16_T, n16_L, n16_R, ee, q_isE h wG, bo_t g1, b1, n0, e1, e2.1, e2.2, c6, n1]
      · simp only [fX12_claim, fX12_claim_L37, h.1, h.2.1, h.2.2, li_T, li_L, li_R, nm, bd, q_b, ne_eq, Nat.reduceEqDiff, reduceCtorEq, and_false, false_and, and_true, true_and, and_self, not_false_eq_true, not_true_eq_false, ↓reduceIte, n16_T, n16_L, n16_R, ee, mT_sI, mR_sI, mL_sI, mJ_sI, p_isE hs R' iv.1.2.2.1, bo_t g1, b1, r_of6, bE1 e8, bE2 e8, bE3 e8, Nat.reduceLT, rc, r_inn (v := v2) (n := Cn (gW 16 X) e) (by omega), bo_f g2]
  · refine ⟨-1, X, sI X 366 0 0, ?_, ?_, hT.told 0⟩
    · simp only [fX11_claim, fX8_isClaim, fX8_isClaim_L32, h.1, h.2.1, h.2.2, li_T, li_L, li_R, nm, bd, q_b, ne_eq, Nat.reduceEqDiff, reduceCtorEq, and_false, false_and, and_true, true_and, and_self, not_false_eq_true, not_true_eq_false, ↓reduceIte, n16_T, n16_L, n16_R, q_isE h wG, bo_f g1]
    · simp only [fX12_claim, fX12_claim_L37, h.1, h.2.1, h.2.2, li_T, li_L, li_R, nm, bd, q_b, ne_eq, Nat.reduceEqDiff, reduceCtorEq, and_false, false_and, and_true, true_and, and_self, not_false_eq_true, not_true_eq_false, ↓reduceIte, n16_T, n16_L, n16_R, mT_sI, p_isE hs R' iv.1.2.2.1, bo_f g1]
/-- SHARES that a HOLDER is to sell of a PAPER -/
def sO1 (a p : Int32) (w : Wt) (t : Nat) (v : Int64) : Int64 := if w.1 11 t = 0 then if w.1 5 t = a then if w.1 6 t = p then v + w.2 7 t else v else v else v
theorem sO_sh (a p : Int32) (w : Wt) (x : Int64) : ∀ (m i : Nat) (v : Int64), nf (sO1 a p w) m i (v - x) = nf (sO1 a p w) m i v - x := by
  intro m
  induction m with
  | zero => intro i v; rfl
  | succ m ih =>
    intro i v
    have st : sO1 a p w i (v - x) = sO1 a p w i v - x := by
      unfold sO1
      split
      · split
        · split
          · exact i64_sa _ _ _
          · rfl
        · rfl
      · rfl
    rw [nf, nf, st]
    exact ih _ _
theorem c_open (h : Shp bk dr X) (hs : St s) (hT : w.1 3 9 = nI T) (hT6 : T ≤ 60) (hn : 64 ≤ n) (a p : Int32) : fX10_openSharesFrom n (s + 3) a p (pW s w X) = some (nf (sO1 a p w) T 0 0, pW s w X) := by
  have g := loop_ga (F := fun j i v => fX10_openSharesFrom_L5 n j (s + 3) a p v i (pW s w X)) (N := sO1 a p w) (I := fun _ _ => True) (out := fun v => some (v, pW s w X)) T
    (fun j i v hi _ => by
      have e3 : ¬ nI T ≤ nI i := nI_ge hi (by omega)
      have q1 : (nI i).toNatClampNeg = i := nI_clamp (by omega)
      have q2 := inL_nI (j := i) (n := 60) (by omega) (by decide)
      rw [fX10_openSharesFrom_L5]
      simp only [h.1, h.2.1, h.2.2, st_T s hs, st_L s hs, st_R hs, mT_pW, mL_pW, mR_pW, mI_pW, mJ_pW, mI_pW0, mJ_pW0, sI_pW, sJ_pW, sI_pW0, nm, bd, q_b, ne_eq, Nat.add_eq_zero_iff, Nat.reduceEqDiff, Nat.reduceLeDiff, Nat.reduceAdd, and_false, false_and, and_true, true_and, and_self, not_false_eq_true, not_true_eq_false, reduceCtorEq, ↓reduceIte, hT, e3, q1, q2.1, q2.2]
      by_cases g1 : w.1 11 i = 0
      · by_cases g2 : w.1 5 i = a
        · by_cases g3 : w.1 6 i = p
          · simp only [g1, g2, g3, ↓reduceIte, fX10_openSharesFrom_L56, nm, nI_1, sO1]
          · simp only [g1, g2, g3, ↓reduceIte, fX10_openSharesFrom_L56, nm, nI_1, sO1]
        · simp only [g1, g2, ↓reduceIte, fX10_openSharesFrom_L56, nm, nI_1, sO1]
      · simp only [g1, ↓reduceIte, fX10_openSharesFrom_L56, nm, nI_1, sO1])
    (fun _ _ _ _ => trivial)
    (fun j v _ => by
      have e3 : nI T ≤ nI T := nI_le (Nat.le_refl _) (by omega)
      rw [fX10_openSharesFrom_L5]
      simp only [h.1, h.2.1, h.2.2, st_T s hs, st_L s hs, st_R hs, mT_pW, mL_pW, mR_pW, mI_pW, mJ_pW, mI_pW0, mJ_pW0, sI_pW, sJ_pW, sI_pW0, nm, bd, q_b, ne_eq, Nat.add_eq_zero_iff, Nat.reduceEqDiff, Nat.reduceLeDiff, Nat.reduceAdd, and_false, false_and, and_true, true_and, and_self, not_false_eq_true, not_true_eq_false, reduceCtorEq, ↓reduceIte, hT, e3]) T 0 0 n (by omega) (by omega) trivial
  exact g.1
theorem m_open (h : Shp bk dr X) (R : Rl T G f w) (hT : w.1 3 9 = nI T) (hn : 64 ≤ n) (a p : Int32) (x : Int64) : fX12_wants_L38 n n 366 a p x 0 (wJ X 367 f) = some (if nf (sO1 a p w) T 0 x ≤ 0 then 0 else nf (sO1 a p w) T 0 x, wJ X 367 f) := by
  have hT6 := R.1
  have g := loop_ga (F := fun j i v => fX12_wants_L38 n j 366 a p v i (wJ X 367 f)) (N := sO1 a p w) (I := fun _ _ => True) (out := fun v => some (if v ≤ 0 then 0 else v, wJ X 367 f)) T
    (fun j t v ht _ => by
      have t6 : t < 60 := by omega
      have e3 : ¬ nI T ≤ nI t := nI_ge ht (by omega)
      rw [fX12_wants_L38]
      simp only [h.1, h.2.1, h.2.2, li_T, li_L, li_R, nm, bd, q_b, ne_eq, Nat.reduceEqDiff, reduceCtorEq, and_false, false_and, and_true, true_and, and_self, not_false_eq_true, not_true_eq_false, ↓reduceIte, mT_wJ, mL_wJ, mR_wJ, mI_wJ, mJ_wJ, sJ_wJ, Nat.reduceLT, l60.1, l60.2.1, l60.2.2, l61.1, l61.2.1, l61.2.2, l62.1, l62.2.1, l62.2.2, m_tm h R, hT, e3, r_at7, bT1 t6, bT2 t6, bT3 t6, R.t7 ht, cv_eq, wd_0]
      by_cases g1 : w.1 11 t = 0
      · by_cases g2 : w.1 5 t = a
        · by_cases g3 : w.1 6 t = p
          · simp only [g1, g2, g3, ↓reduceIte, h.1, h.2.1, h.2.2, li_T, li_L, li_R, nm, bd, q_b, ne_eq, Nat.reduceEqDiff, reduceCtorEq, and_false, false_and, and_true, true_and, and_self, not_false_eq_true, not_true_eq_false, ↓reduceIte, mT_wJ, mL_wJ, mR_wJ, mI_wJ, mJ_wJ, sJ_wJ, Nat.reduceLT, l60.1, l60.2.1, l60.2.2, l61.1, l61.2.1, l61.2.2, l62.1, l62.2.1, l62.2.2, r_at1, r_at2, r_at3, bT1 t6, bT2 t6, bT3 t6, R.t1 ht, R.t2 ht, R.t3 ht, cv_eq, wd_eq, fX12_wants_L116, nI_1, sO1]
          · simp only [g1, g2, g3, ↓reduceIte, h.1, h.2.1, h.2.2, li_T, li_L, li_R, nm, bd, q_b, ne_eq, Nat.reduceEqDiff, reduceCtorEq, and_false, false_and, and_true, true_and, and_self, not_false_eq_true, not_true_eq_false, ↓reduceIte, mT_wJ, mL_wJ, mR_wJ, mI_wJ, mJ_wJ, sJ_wJ, Nat.reduceLT, l60.1, l60.2.1, l60.2.2, l61.1, l61.2.1, l61.2.2, l62.1, l62.2.1, l62.2.2, r_at1, r_at2, bT1 t6, bT2 t6, bT3 t6, R.t1 ht, R.t2 ht, cv_eq, wd_eq, fX12_wants_L116, nI_1, sO1]
        · simp only [g1, g2, ↓reduceIte, h.1, h.2.1, h.2.2, li_T, li_L, li_R, nm, bd, q_b, ne_eq, Nat.reduceEqDiff, reduceCtorEq, and_false, false_and, and_true, true_and, and_self, not_false_eq_true, not_true_eq_false, ↓reduceIte, mT_wJ, mL_wJ, mR_wJ, mI_wJ, mJ_wJ, sJ_wJ, Nat.reduceLT, l60.1, l60.2.1, l60.2.2, l61.1, l61.2.1, l61.2.2, l62.1, l62.2.1, l62.2.2, r_at1, bT1 t6, bT2 t6, bT3 t6, R.t1 ht, cv_eq, wd_eq, fX12_wants_L116, nI_1, sO1]
      · simp only [g1, ↓reduceIte, fX12_wants_L116, nm, nI_1, sO1])
    (fun _ _ _ _ => trivial)
    (fun j v _ => by
      have e3 : nI T ≤ nI T := nI_le (Nat.le_refl _) (by omega)
      rw [fX12_wants_L38]
      simp only [h.1, h.2.1, h.2.2, li_T, li_L, li_R, nm, bd, q_b, ne_eq, Nat.reduceEqDiff, reduceCtorEq, and_false, false_and, and_true, true_and, and_self, not_false_eq_true, not_true_eq_false, ↓reduceIte, mT_wJ, mL_wJ, mR_wJ, mI_wJ, mJ_wJ, sJ_wJ, Nat.reduceLT, l60.1, l60.2.1, l60.2.2, l61.1, l61.2.1, l61.2.2, l62.1, l62.2.1, l62.2.2, m_tm h R, hT, e3, cv_le]
      by_cases g1 : v ≤ 0
      · simp only [g1, ↓reduceIte]
      · simp only [g1, ↓reduceIte]) T 0 x n (by omega) (by omega) trivial
  exact g.1
theorem s_wants (h : Tp bk dr H P X) (hn : 24000 ≤ n) (v1 v2 : Int32) : ∃ r X1 X2, fX11_wants n 1 v1 v2 X = some (r, X1) ∧ fX12_wants n 366 v1 v2 X1 = some (r, X2) ∧ Tp bk dr H P X2 := by
  have hT := h
  obtain ⟨h1, h2, h3, h4, h5, h6, ⟨T, G, R, iv, iw⟩, -, -, -, -, -, -⟩ := h
  have h := h1
  have hs := h1.sI 366 0 0
  have wG : mI X 29 16 = nI G := iv.1.2.2.1
  have w6 : mI X 16 6 = nI H := iv.1.2.2.2.2.1
  have w7 : mI X 16 7 = nI P := iw.1
  have y6 : mI (sI X 366 0 0) 366 6 = nI H := by rw [mI_sI, if_neg (by omega)]; exact h5
  have y7 : mI (sI X 366 0 0) 366 7 = nI P := by rw [mI_sI, if_neg (by omega)]; exact h6
  have R' : Rl T G (mJ (sI X 366 0 0) 367) (gW 16 X) := R
  have hG8 := R.2.1
  by_cases g1 : 0 ≤ v1 ∧ v1 < nI H
  · by_cases g2 : 0 ≤ v2 ∧ v2 < nI P
    · have ha : inL v1 10 := inL_le g1 (by omega) h3
      have hp : inL v2 5 := inL_le g2 (by omega) h4
      have op := c_open (w := gW 16 X) (n := n) h St.now iv.1.1 R.1 (by omega) v1 v2
      rw [pW_gW] at op
      have op' : fX10_openSharesFrom n 19 v1 v2 X = some (nf (sO1 v1 v2 (gW 16 X)) T 0 0, X) := op
      have mo := m_open (n := n) hs R' iv.1.1 (by omega) v1 v2 (-((gW 16 X).2 1 (ix v1 v2)))
      rw [wJ_self] at mo
      have sh := sO_sh v1 v2 (gW 16 X) ((gW 16 X).2 1 (ix v1 v2)) T 0 0
      rw [Int64.zero_sub] at sh
      rw [sh] at mo
      generalize nf (sO1 v1 v2 (gW 16 X)) T 0 0 = q at op' mo
      refine ⟨if q - (gW 16 X).2 1 (ix v1 v2) < 0 then 0 else q - (gW 16 X).2 1 (ix v1 v2), X, sI X 366 0 0, ?_, ?_, hT.told 0⟩
      · simp only [fX11_wants, h.1, h.2.1, h.2.2, li_T, li_L, li_R, nm, bd, q_b, ne_eq, Nat.reduceEqDiff, reduceCtorEq, and_false, false_and, and_true, true_and, and_self, not_false_eq_true, not_true_eq_false, ↓reduceIte, n16_T, n16_L, n16_R, q_isH h w6, q_isP h w7, bo_t g1, bo_t g2, b1, q_sh h ha hp, op']
      · simp only [fX12_wants, h.1, h.2.1, h.2.2, li_T, li_L, li_R, nm, bd, q_b, ne_eq, Nat.reduceEqDiff, reduceCtorEq, and_false, false_and, and_true, true_and, and_self, not_false_eq_true, not_true_eq_false, ↓reduceIte, n16_T, n16_L, n16_R, mT_sI, p_isH hs y6 h3, p_isP hs y7 h4, bo_t g1, bo_t g2, b1, p_sh hs R' ha hp, mo]
        have mx : ∀ y : Int64, (if y ≤ 0 then 0 else y) = (if y < 0 then 0 else y) := fun y => by
          by_cases z : y < 0
          · rw [if_pos z, if_pos (Int64.le_of_lt z)]
          · rw [if_neg z]
            by_cases z2 : y ≤ 0
            · rw [if_pos z2]
              refine (i64_anti z2 ?_).symm
              rw [Int64.lt_iff_toInt_lt] at z
              rw [Int64.le_iff_toInt_le]
              omega
            · rw [if_neg z2]
        rw [mx]
    · refine ⟨-1, X, sI X 366 0 0, ?_, ?_, hT.told 0⟩
      · simp only [fX11_wants, fX11_wants_L22, h.1, h.2.1, h.2.2, li_T, li_L, li_R, nm, bd, q_b, ne_eq, Nat.reduceEqDiff, reduceCtorEq, and_false, false_and, and_true, true_and, and_self, not_false_eq_true, not_true_eq_false, ↓reduceIte, n16_T, n16_L, n16_R, q_isH h w6, q_isP h w7, bo_t g1, bo_f g2, b1]
      · simp only [fX12_wants, fX12_wants_L21, h.1, h.2.1, h.2.2, li_T, li_L, li_R, nm, bd, q_b, ne_eq, Nat.reduceEqDiff, reduceCtorEq, and_false, false_and, and_true, true_and, and_self, not_false_eq_true, not_true_eq_false, ↓reduceIte, n16_T, n16_L, n16_R, mT_sI, p_isH hs y6 h3, p_isP hs y7 h4, bo_t g1, bo_f g2, b1]
  · refine ⟨-1, X, sI X 366 0 0, ?_, ?_, hT.told 0⟩
    · simp only [fX11_wants, fX11_wants_L22, h.1, h.2.1, h.2.2, li_T, li_L, li_R, nm, bd, q_b, ne_eq, Nat.reduceEqDiff, reduceCtorEq, and_false, false_and, and_true, true_and, and_self, not_false_eq_true, not_true_eq_false, ↓reduceIte, n16_T, n16_L, n16_R, q_isH h w6, bo_f g1]
    · simp only [fX12_wants, fX12_wants_L21, h.1, h.2.1, h.2.2, li_T, li_L, li_R, nm, bd, q_b, ne_eq, Nat.reduceEqDiff, reduceCtorEq, and_false, false_and, and_true, true_and, and_self, not_false_eq_true, not_true_eq_false, ↓reduceIte, n16_T, n16_L, n16_R, mT_sI, p_isH hs y6 h3, bo_f g1]
end
