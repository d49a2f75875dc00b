/-! QUERIES: waits -/
noncomputable def wtN (T G H t : Nat) : Nat → Nat → Wt → Nat × Wt
| 0, i, a => (i, a)
| m + 1, i, a => if a.1 11 t = 0 then wtN T G H t m (i + 1) (N_day T G H a) else (i, a)
theorem wtN_stop {T G H t : Nat} {a : Wt} (h : ¬ a.1 11 t = 0) (m i : Nat) : wtN T G H t m i a = (i, a) := by
  cases m with
  | zero => rfl
  | succ m => rw [wtN, if_neg h]
section
variable {bk dr s H P n T G : Nat} {X : Mm} {f : Nat → Int64} {w : Wt}
theorem c_waitL (h : Shp bk dr X) (hs : St s) {t d : Nat} (ht : t < 60) (d9 : d ≤ 999) (hn : 1200 ≤ n) : ∀ (m i : Nat) (a : Wt) (j : Nat), i + m = min 99 (999 - d) → m < j → Iv T G H a → a.1 0 8 = nI (d + i) → a.1 11 t = 0 →
    fX11_waits_L42 n j (nI t) s (nI (i + 1)) (pW s a X) = some (if (wtN T G H t m i a).2.1 11 t = 0 then -1 else nI (wtN T G H t m i a).1, pW s (wtN T G H t m i a).2 X) := by
  have t1 : (nI t).toNatClampNeg = t := nI_clamp (by omega)
  have t2 := inL_nI (j := t) (n := 60) (by omega) (by decide)
  intro m
  induction m with
  | zero =>
    intro i a j hi hj iv hd h0
    obtain ⟨j, rfl⟩ : ∃ k, j = k + 1 := ⟨j - 1, by omega⟩
    rw [fX11_waits_L42, wtN]
    by_cases z : i = 99
    · have e : (99 : Int32) < nI (i + 1) := nI_lt (a := 99) (b := i + 1) (by omega) (by omega)
      simp only [e, h0, ↓reduceIte, fX11_waits_L84]
    · have e : ¬ (99 : Int32) < nI (i + 1) := nI_nlt (b := i + 1) (a := 99) (by omega) (by omega)
      have e2 : (999 : Int32) ≤ nI (d + i) := nI_le (a := 999) (by omega) (by omega)
      simp only [h.1, h.2.1, h.2.2, st_T s hs, st_L s hs, st_R hs, mT_pW, mL_pW, mR_pW, mI_pW, mJ_pW, mI_pW0, mJ_pW0, sI_pW, sJ_pW, sI_pW0, nm, bd, q_b, ne_eq, Nat.add_eq_zero_iff, Nat.reduceEqDiff, Nat.reduceLeDiff, Nat.reduceAdd, and_false, false_and, and_true, true_and, and_self, not_false_eq_true, not_true_eq_false, reduceCtorEq, ↓reduceIte, hd, e, e2, h0, fX11_waits_L84]
  | succ m ih =>
    intro i a j hi hj iv hd h0
    obtain ⟨j, rfl⟩ : ∃ k, j = k + 1 := ⟨j - 1, by omega⟩
    have e : ¬ (99 : Int32) < nI (i + 1) := nI_nlt (b := i + 1) (a := 99) (by omega) (by omega)
    have e2 : ¬ (999 : Int32) ≤ nI (d + i) := nI_ge (a := d + i) (b := 999) (by omega) (by decide)
    have pd : fX8_passDays n s (1 : Int32) (pW s a X) = some ((N_day T G H a).1 0 8, pW s (N_day T G H a) X) := (c_passDays (X := X) h hs iv.1 (n := n) (m := 1) (by omega) (by omega) (by omega)).1
    have hd' : (N_day T G H a).1 0 8 = nI (d + (i + 1)) := by
      rw [N_day_fr.2, hd, nI_1]
      rfl
    have iv' := iv.nday h
    rw [fX11_waits_L42, wtN, if_pos h0]
    by_cases z : (N_day T G H a).1 11 t = 0
    · simp only [h.1, h.2.1, h.2.2, st_T s hs, st_L s hs, st_R hs, mT_pW, mL_pW, mR_pW, mI_pW, mJ_pW, mI_pW0, mJ_pW0, sI_pW, sJ_pW, sI_pW0, nm, bd, q_b, ne_eq, Nat.add_eq_zero_iff, Nat.reduceEqDiff, Nat.reduceLeDiff, Nat.reduceAdd, and_false, false_and, and_true, true_and, and_self, not_false_eq_true, not_true_eq_false, reduceCtorEq, ↓reduceIte, hd, e, e2, pd, t1, t2.1, t2.2, z, nI_1]
      exact ih (i + 1) _ j (by omega) (by omega) iv' hd' z
    · rw [wtN_stop z]
      simp only [h.1, h.2.1, h.2.2, st_T s hs, st_L s hs, st_R hs, mT_pW, mL_pW, mR_pW, mI_pW, mJ_pW, mI_pW0, mJ_pW0, sI_pW, sJ_pW, sI_pW0, nm, bd, q_b, ne_eq, Nat.add_eq_zero_iff, Nat.reduceEqDiff, Nat.reduceLeDiff, Nat.reduceAdd, and_false, false_and, and_true, true_and, and_self, not_false_eq_true, not_true_eq_false, reduceCtorEq, ↓reduceIte, hd, e, e2, pd, t1, t2.1, t2.2, z]
theorem m_waitL (h : Shp bk dr X) (hH : mI X 366 6 = nI H) {t d : Nat} (ht : t < T) (hT : T ≤ 60) (d9 : d ≤ 999) (hn : 1200 ≤ n) : ∀ (m i : Nat) (a : Wt) (j : Nat) (g : Nat → Int64), i + m = min 99 (999 - d) → m < j → Rl T G g a → Iv T G H a → a.1 0 8 = nI (d + i) →
    ∃ g', fX12_waits_L51 n j 366 (nI t) (nI i) (wJ X 367 g) = fX12_waits_L95 n 366 (nI t) (nI (wtN T G H t m i a).1) (wJ X 367 g') ∧ Rl T G g' (wtN T G H t m i a).2 := by
  have t6 : t < 60 := by omega
  intro m
  induction m with
  | zero =>
    intro i a j g hi hj Ra iv hd
    obtain ⟨j, rfl⟩ : ∃ k, j = k + 1 := ⟨j - 1, by omega⟩
    refine ⟨g, ?_, Ra⟩
    rw [fX12_waits_L51, wtN]
    by_cases z : i = 99
    · have e : (99 : Int32) ≤ nI i := nI_le (a := 99) (by omega) (by omega)
      simp only [e, ↓reduceIte]
    · have e : ¬ (99 : Int32) ≤ nI i := nI_ge (a := i) (b := 99) (by omega) (by omega)
      have e2 : (999 : Int32) ≤ nI (d + i) := nI_le (a := 999) (by omega) (by omega)
      simp only [h.1, h.2.1, h.2.2, li_T, li_L, li_R, nm, bd, q_b, ne_eq, Nat.reduceEqDiff, reduceCtorEq, and_false, false_and, and_true, true_and, and_self, not_false_eq_true, not_true_eq_false, ↓reduceIte, mT_wJ, mL_wJ, mR_wJ, mI_wJ, mJ_wJ, sJ_wJ, Nat.reduceLT, l60.1, l60.2.1, l60.2.2, l61.1, l61.2.1, l61.2.2, l62.1, l62.2.1, l62.2.2, m_today h Ra, hd, e, e2]
  | succ m ih =>
    intro i a j g hi hj Ra iv hd
    obtain ⟨j, rfl⟩ : ∃ k, j = k + 1 := ⟨j - 1, by omega⟩
    have e : ¬ (99 : Int32) ≤ nI i := nI_ge (a := i) (b := 99) (by omega) (by omega)
    have e2 : ¬ (999 : Int32) ≤ nI (d + i) := nI_ge (a := d + i) (b := 999) (by omega) (by decide)
    rw [fX12_waits_L51, wtN]
    by_cases z : a.1 11 t = 0
    · obtain ⟨_, Y, ey, ⟨g1, rfl, R1⟩, iv'⟩ := m_oneDay h Ra hH iv hd (by omega) (n := n) (by omega)
      have hd' : (N_day T G H a).1 0 8 = nI (d + (i + 1)) := by
        rw [N_day_fr.2, hd, nI_1]
        rfl
      obtain ⟨g', e4, R4⟩ := ih (i + 1) _ j g1 (by omega) (by omega) R1 iv' hd'
      refine ⟨g', ?_, ?_⟩
      · simp only [h.1, h.2.1, h.2.2, li_T, li_L, li_R, nm, bd, q_b, ne_eq, Nat.reduceEqDiff, reduceCtorEq, and_false, false_and, and_true, true_and, and_self, not_false_eq_true, not_true_eq_false, ↓reduceIte, mT_wJ, mL_wJ, mR_wJ, mI_wJ, mJ_wJ, sJ_wJ, Nat.reduceLT, l60.1, l60.2.1, l60.2.2, l61.1, l61.2.1, l61.2.2, l62.1, l62.2.1, l62.2.2, m_today h Ra, hd, e, e2, r_at7, bT1 t6, bT2 t6, bT3 t6, Nat.reduceLT, Ra.t7 ht, cv_eq, wd_0, z, ey, nI_1]
        exact e4
      · rw [if_pos z]
        exact R4
    · refine ⟨g, ?_, ?_⟩
      · simp only [h.1, h.2.1, h.2.2, li_T, li_L, li_R, nm, bd, q_b, ne_eq, Nat.reduceEqDiff, reduceCtorEq, and_false, false_and, and_true, true_and, and_self, not_false_eq_true, not_true_eq_false, ↓reduceIte, mT_wJ, mL_wJ, mR_wJ, mI_wJ, mJ_wJ, sJ_wJ, Nat.reduceLT, l60.1, l60.2.1, l60.2.2, l61.1, l61.2.1, l61.2.2, l62.1, l62.2.1, l62.2.2, m_today h Ra, hd, e, e2, r_at7, bT1 t6, bT2 t6, bT3 t6, Nat.reduceLT, Ra.t7 ht, cv_eq, wd_0, z]
      · rw [if_neg z]
        exact Ra
theorem s_waits (h : Tp bk dr H P X) (hn : 24000 ≤ n) (v1 : Int32) : ∃ r X1 X2, fX11_waits n 1 v1 X = some (r, X1) ∧ fX12_waits n 366 v1 X1 = some (r, X2) ∧ Tp bk dr H P X2 := by
  have hT := h
  obtain ⟨nx, g1, g3, hsp⟩ := q_spare hT
  obtain ⟨h1, h2, h3, h4, h5, h6, ⟨T, G, R, iv, iw⟩, -, -, -, -, -, -⟩ := h
  have h := h1
  have hs := h1.sI 366 0 0
  have w3 : mI X 19 9 = nI T := iv.1.1
  have T6 := R.1
  have y3 : Rl T G (mJ (sI X 366 0 0) 367) (gW 16 X) := by rw [mJ_sI]; exact R
  by_cases q1 : 0 ≤ v1 ∧ v1 < nI T
  · obtain ⟨t, ht, et⟩ := nI_ex q1 (by omega)
    subst et
    have t6 : t < 60 := by omega
    have t1 : (nI t).toNatClampNeg = t := nI_clamp (by omega)
    have t2 := inL_nI (j := t) (n := 60) (by omega) (by decide)
    have r7 : mJ X 367 (aT t 7) = (mI X 27 t).toInt64 := R.t7 ht
    by_cases z : mI X 27 t = 0
    · have wq : Weq (gW 16 X) (N_cp (gW 16 X) (gW (sl nx) X)) := (N_cp_eq _ _).symm
      have ivc := iv.weq wq
      have iwc := iw.weq wq R.1 R.2.1 (fun e he => (iv.cnt he).2)
      obtain ⟨d, d9, hd⟩ := iwc.2.2.1
      have sa : fX11_stateAhead n 1 0 X = some (sl nx, pW (sl nx) (N_cp (gW 16 X) (gW (sl nx) X)) X) := by
        have sa := c_stateAhead (n := n) h g1 g3 ivc.1 hd d9 (v := 0) (by omega) (by omega)
        rw [Nat.zero_min] at sa
        exact sa
      have hslT := sl_St g1
      have Rc : Rl T G (mJ X 367) (N_cp (gW 16 X) (gW (sl nx) X)) := R.weq wq (fun _ _ => rfl)
      have zc : (N_cp (gW 16 X) (gW (sl nx) X)).1 11 t = 0 := by
        rw [← wq.1 11 t (by unfold iR; omega)]
        exact z
      have cl := c_waitL (n := n) (T := T) (G := G) (H := H) h hslT t6 d9 (by omega) (min 99 (999 - d)) 0 _ n (by omega) (by omega) ivc hd zc
      generalize hc : N_cp (gW 16 X) (gW (sl nx) X) = c at *
      generalize hu : wtN T G H t (min 99 (999 - d)) 0 c = u at cl
      have hlo : sl nx = 61 + 43 * nx := rfl
      have tt := hsp u.2
      have c1 : ∀ a k, (a < sl nx ∨ sl nx + 42 < a) → mI (pW (sl nx) u.2 X) a k = mI X a k := fun a k ha => mI_pWo a k ha
      have c2 : mJ (pW (sl nx) u.2 X) 367 = mJ X 367 := mJ_pWor 367 (by omega)
      have hX1 : Shp bk dr (pW (sl nx) u.2 X) := h1.pW
      have class_ : fX11_waits n 1 (nI t) X = some (if u.2.1 11 t = 0 then -1 else nI u.1, pW (sl nx) u.2 X) := by
        simp only [fX11_waits, h.1, h.2.1, h.2.2, li_T, li_L, li_R, nm, bd, q_b, ne_eq, Nat.reduceEqDiff, reduceCtorEq, and_false, false_and, and_true, true_and, and_self, not_false_eq_true, not_true_eq_false, ↓reduceIte, n16_T, n16_L, n16_R, q_isT h w3, bo_t q1, b1, t1, t2.1, t2.2, z, sa]
        exact cl
      generalize pW (sl nx) u.2 X = X1 at *
      have hs1 := hX1.sI 366 0 0
      obtain ⟨ga, e1, a1⟩ := m_aside (n := n) hX1 hn
      have hM := hs1.wJ 369 ga
      have R1 : Rl T G (mJ (sI X1 366 0 0) 367) c := by rw [mJ_sI, c2]; exact Rc
      have RM : Rl T G (mJ (wJ (sI X1 366 0 0) 369 ga) 367) c := by
        rw [mJ_wJo (by decide)]
        exact R1
      have M6 : mI (wJ (sI X1 366 0 0) 369 ga) 366 6 = nI H := by rw [mI_wJ, mI_sI, if_neg (by omega), c1 _ _ (by omega)]; exact h5
      obtain ⟨f', e2, Rf⟩ := m_waitL (n := n) hM M6 ht T6 d9 (by omega) (min 99 (999 - d)) 0 _ n _ (by omega) (by omega) RM ivc hd
      rw [wJ_self, hu] at e2
      rw [hu] at Rf
      have e2' : fX12_waits_L51 n n 366 (nI t) 0 (wJ (sI X1 366 0 0) 369 ga) = _ := e2
      have hM2 := hM.wJ 367 f'
      obtain ⟨g2, e3, a3⟩ := m_back (n := n) hM2 hn
      have r7' : mJ X1 367 (aT t 7) = 0 := by rw [c2, r7, z]; rfl
      refine ⟨_, X1, wJ (wJ (wJ (sI X1 366 0 0) 369 ga) 367 f') 367 g2, class_, ?_, tt.back (fun k hk => ?_)⟩
      · have z0 : lg_cmp 0 0 = 0 := by decide
        simp only [fX12_waits, h.1, h.2.1, h.2.2, li_T, li_L, li_R, nm, bd, q_b, ne_eq, Nat.reduceEqDiff, reduceCtorEq, and_false, false_and, and_true, true_and, and_self, not_false_eq_true, not_true_eq_false, ↓reduceIte, n16_T, n16_L, n16_R, hX1.1, hX1.2.1, hX1.2.2, mT_sI, mR_sI, mL_sI, mJ_sI, p_isT hs1 R1 ivc.1.1, bo_t q1, b1, r_at7, bT1 t6, bT2 t6, bT3 t6, Nat.reduceLT, r7', z0, e1, e2']
        by_cases k : u.2.1 11 t = 0
        · simp only [fX12_waits_L95, h.1, h.2.1, h.2.2, li_T, li_L, li_R, nm, bd, q_b, ne_eq, Nat.reduceEqDiff, reduceCtorEq, and_false, false_and, and_true, true_and, and_self, not_false_eq_true, not_true_eq_false, ↓reduceIte, n16_T, n16_L, n16_R, hX1.1, hX1.2.1, hX1.2.2, mT_sI, mR_sI, mL_sI, mT_wJ, mR_wJ, mL_wJ, mJ_wJ, r_at7, bT1 t6, bT2 t6, bT3 t6, Nat.reduceLT, Rf.t7 ht, cv_eq, wd_0, k, fX12_waits_L117, e3]
        · simp only [fX12_waits_L95, h.1, h.2.1, h.2.2, li_T, li_L, li_R, nm, bd, q_b, ne_eq, Nat.reduceEqDiff, reduceCtorEq, and_false, false_and, and_true, true_and, and_self, not_false_eq_true, not_true_eq_false, ↓reduceIte, n16_T, n16_L, n16_R, hX1.1, hX1.2.1, hX1.2.2, mT_sI, mR_sI, mL_sI, mT_wJ, mR_wJ, mL_wJ, mJ_wJ, r_at7, bT1 t6, bT2 t6, bT3 t6, Nat.reduceLT, Rf.t7 ht, cv_eq, wd_0, k, b1, fX12_waits_L117, e3]
      · rw [a3 k hk, mJ_wJo (by decide), mJ_wJ, a1 k hk]
    · refine ⟨-1, X, sI X 366 0 0, ?_, ?_, hT.told 0⟩
      · simp only [fX11_waits, h.1, h.2.1, h.2.2, li_T, li_L, li_R, nm, bd, q_b, ne_eq, Nat.reduceEqDiff, reduceCtorEq, and_false, false_and, and_true, true_and, and_self, not_false_eq_true, not_true_eq_false, ↓reduceIte, n16_T, n16_L, n16_R, q_isT h w3, bo_t q1, b1, t1, t2.1, t2.2, z]
      · simp only [fX12_waits, h.1, h.2.1, h.2.2, li_T, li_L, li_R, nm, bd, q_b, ne_eq, Nat.reduceEqDiff, reduceCtorEq, and_false, false_and, and_true, true_and, and_self, not_false_eq_true, not_true_eq_false, ↓reduceIte, n16_T, n16_L, n16_R, mT_sI, mR_sI, mL_sI, mJ_sI, p_isT hs y3 iv.1.1, bo_t q1, b1, r_at7, bT1 t6, bT2 t6, bT3 t6, Nat.reduceLT, r7, cv_eq, wd_0, z]
  · refine ⟨-2, X, sI X 366 0 0, ?_, ?_, hT.told 0⟩
    · simp only [fX11_waits, h.1, h.2.1, h.2.2, li_T, li_L, li_R, nm, bd, q_b, ne_eq, Nat.reduceEqDiff, reduceCtorEq, and_false, false_and, and_true, true_and, and_self, not_false_eq_true, not_true_eq_false, ↓reduceIte, n16_T, n16_L, n16_R, q_isT h w3, bo_f q1]
    · simp only [fX12_waits, h.1, h.2.1, h.2.2, li_T, li_L, li_R, nm, bd, q_b, ne_eq, Nat.reduceEqDiff, reduceCtorEq, and_false, false_and, and_true, true_and, and_self, not_false_eq_true, not_true_eq_false, ↓reduceIte, n16_T, n16_L, n16_R, mT_sI, mR_sI, mL_sI, p_isT hs y3 iv.1.1, bo_f q1]
end
