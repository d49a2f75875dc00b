/-! QUERIES: purseAhead, worst, carries -/
section
variable {bk dr s H P n T G : Nat} {X : Mm} {f : Nat → Int64} {w : Wt}
theorem s_purseAhead (h : Tp bk dr H P X) (hn : 24000 ≤ n) (v1 v3 : Int32) : ∃ r X1 X2, fX11_purseAhead n 1 v1 v3 X = some (r, X1) ∧ fX12_purseAhead n 366 v1 v3 X1 = some (r, X2) ∧ Tp bk dr H P X2 := by
  have hT := h
  obtain ⟨nx, g1, g3, hsp⟩ := q_spare hT
  obtain ⟨h1, h2, h3, h4, h5, h6, ⟨T, G, R, iv, iw⟩, -, -, -, -, -, -⟩ := h
  have h := h1
  have hs := h1.sI 366 0 0
  have w6 : mI X 16 6 = nI H := iv.1.2.2.2.2.1
  have y6 : mI (sI X 366 0 0) 366 6 = nI H := by rw [mI_sI, if_neg (by omega)]; exact h5
  by_cases q1 : 0 ≤ v1 ∧ v1 < nI H
  · by_cases q3 : 0 ≤ v3 ∧ v3 ≤ 99
    · obtain ⟨i, hi, ei⟩ := nI_ex q1 (by omega)
      have i1 : (nI i).toNatClampNeg = i := nI_clamp (by omega)
      have i2 := inL_nI (j := i) (n := 10) (by omega) (by decide)
      have e50 : (50 : Int32) + nI i = nI (50 + i) := nI_add 50 i
      have k1 : (nI (50 + i)).toNatClampNeg = 50 + i := nI_clamp (by omega)
      have k2 := inL_nI (j := 50 + i) (n := 4604) (by omega) (by decide)
      obtain ⟨v, hv, ev⟩ := inL_of (inL_cc (v := v3) (l := 0) (n := 99) (m := 100) q3 (by decide) (by decide) (by decide)) (by decide)
      have wq : Weq (gW 16 X) (N_cp (gW 16 X) (gW (sl nx) X)) := (N_cp_eq _ _).symm
      have ivc := iv.weq wq
      have iwc := iw.weq wq R.1 R.2.1 (fun e he => (iv.cnt he).2)
      obtain ⟨d, d9, hd⟩ := iwc.2.2.1
      have sa := c_stateAhead (n := n) h g1 g3 ivc.1 hd d9 (v := v) (by omega) (by omega)
      have hslT := sl_St g1
      have Rc : Rl T G (mJ X 367) (N_cp (gW 16 X) (gW (sl nx) X)) := R.weq wq (fun _ _ => rfl)
      generalize hu : nf (fun _ => N_day T G H) (min v (999 - d)) 0 (N_cp (gW 16 X) (gW (sl nx) X)) = u at sa
      have hlo : sl nx = 61 + 43 * nx := rfl
      have t1 := hsp u
      have cs : mJ (pW (sl nx) u X) (sl nx + 2) i = u.2 2 i := mJ_pW 2 i (by omega)
      have c1 : ∀ a k, (a < sl nx ∨ sl nx + 42 < a) → mI (pW (sl nx) u X) a k = mI X a k := fun a k ha => mI_pWo a k ha
      have c2 : mJ (pW (sl nx) u X) 367 = mJ X 367 := mJ_pWor 367 (by omega)
      have hX1 : Shp bk dr (pW (sl nx) u X) := h1.pW
      have sr1 : sh_R bk dr (sl nx) 1 = sl nx + 2 := (st_R hslT).2.1
      have st0 : sh_T (sl nx) = 8 := (st_T _ hslT).1
      have st2 : sh_T (sl nx + 2) = 15 := (st_T _ hslT).2.2.1
      have sl2 : sh_L (sl nx + 2) = 10 := (st_L _ hslT).2.1
      have ne2 : sl nx + 2 ≠ 0 := by omega
      have class_ : fX11_purseAhead n 1 v1 v3 X = some (u.2 2 i, pW (sl nx) u X) := by
        rw [ev] at q3 ⊢
        rw [ei] at q1 ⊢
        simp only [fX11_purseAhead, h.1, h.2.1, h.2.2, li_T, li_L, li_R, nm, bd, q_b, ne_eq, Nat.reduceEqDiff, reduceCtorEq, and_false, false_and, and_true, true_and, and_self, not_false_eq_true, not_true_eq_false, ↓reduceIte, n16_T, n16_L, n16_R, q_isH h w6, q_isAhead, bo_t q1, bo_t q3, b1, sa, hX1.1, hX1.2.1, hX1.2.2, st0, sr1, ne2, st2, sl2, i1, i2.1, i2.2, cs]
      generalize pW (sl nx) u X = X1 at *
      have hs1 := hX1.sI 366 0 0
      have z6 : mI (sI X1 366 0 0) 366 6 = nI H := by rw [mI_sI, if_neg (by omega), c1 _ _ (by omega)]; exact h5
      obtain ⟨ga, e1, a1⟩ := m_aside (n := n) hX1 hn
      have hM := hs1.wJ 369 ga
      have RM : Rl T G (mJ (wJ (sI X1 366 0 0) 369 ga) 367) (N_cp (gW 16 X) (gW (sl nx) X)) := by
        rw [mJ_wJo (by decide), mJ_sI, c2]
        exact Rc
      have M6 : mI (wJ (sI X1 366 0 0) 369 ga) 366 6 = nI H := by rw [mI_wJ]; exact z6
      obtain ⟨_, Y, e2, f', rfl, Rf⟩ := m_goesAhead (n := n) hM RM M6 ivc hd d9 (v := v) (by omega) (by omega)
      rw [wJ_self] at e2
      rw [hu] at Rf
      have hM2 := hM.wJ 367 f'
      have rd : f' (50 + i) = u.2 2 i := Rf.pu (by omega)
      obtain ⟨g2, e3, a3⟩ := m_back (n := n) hM2 hn
      refine ⟨u.2 2 i, X1, wJ (wJ (wJ (sI X1 366 0 0) 369 ga) 367 f') 367 g2, class_, ?_, t1.back (fun k hk => ?_)⟩
      · rw [ev] at q3 ⊢
        rw [ei] at q1 ⊢
        simp only [fX12_purseAhead, h.1, h.2.1, h.2.2, li_T, li_L, li_R, nm, bd, q_b, ne_eq, Nat.reduceEqDiff, reduceCtorEq, and_false, false_and, and_true, true_and, and_self, not_false_eq_true, not_true_eq_false, ↓reduceIte, n16_T, n16_L, n16_R, hX1.1, hX1.2.1, hX1.2.2, mT_sI, mR_sI, mL_sI, mT_wJ, mR_wJ, mL_wJ, p_isH hs1 z6 h3, p_canGo hs1, bo_t q1, bo_t q3, b1, e1, e2, e50, k1, k2.1, k2.2, mJ_wJ, rd, e3]
      · rw [a3 k hk, mJ_wJo (by decide), mJ_wJ, a1 k hk]
    · refine ⟨-9223372036854775808, X, sI X 366 0 0, ?_, ?_, hT.told 0⟩
      · simp only [fX11_purseAhead, fX11_purseAhead_L18, h.1, h.2.1, h.2.2, li_T, li_L, li_R, nm, bd, q_b, ne_eq, Nat.reduceEqDiff, reduceCtorEq, and_false, false_and, and_true, true_and, and_self, not_false_eq_true, not_true_eq_false, ↓reduceIte, n16_T, n16_L, n16_R, q_isH h w6, q_isAhead, bo_t q1, bo_f q3, b1]
      · simp only [fX12_purseAhead, fX12_purseAhead_L21, h.1, h.2.1, h.2.2, li_T, li_L, li_R, nm, bd, q_b, ne_eq, Nat.reduceEqDiff, reduceCtorEq, and_false, false_and, and_true, true_and, and_self, not_false_eq_true, not_true_eq_false, ↓reduceIte, n16_T, n16_L, n16_R, mT_sI, p_isH hs y6 h3, p_canGo hs, bo_t q1, bo_f q3, b1]
  · refine ⟨-9223372036854775808, X, sI X 366 0 0, ?_, ?_, hT.told 0⟩
    · simp only [fX11_purseAhead, fX11_purseAhead_L18, h.1, h.2.1, h.2.2, li_T, li_L, li_R, nm, bd, q_b, ne_eq, Nat.reduceEqDiff, reduceCtorEq, and_false, false_and, and_true, true_and, and_self, not_false_eq_true, not_true_eq_false, ↓reduceIte, n16_T, n16_L, n16_R, q_isH h w6, bo_f q1]
    · simp only [fX12_purseAhead, fX12_purseAhead_L21, h.1, h.2.1, h.2.2, li_T, li_L, li_R, nm, bd, q_b, ne_eq, Nat.reduceEqDiff, reduceCtorEq, and_false, false_and, and_true, true_and, and_self, not_false_eq_true, not_true_eq_false, ↓reduceIte, n16_T, n16_L, n16_R, mT_sI, p_isH hs y6 h3, bo_f q1]
end
