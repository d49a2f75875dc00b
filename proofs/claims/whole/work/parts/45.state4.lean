/-! STATE: a PAPER is turned -/
def N_tt1 (e t : Nat) (w : Wt) : Wt := uJ (uI w 6 t (w.1 16 e)) 7 t (N_sf e (w.2 7 t) (uI w 6 t (w.1 16 e)))
def N_tt2 (e t : Nat) (w : Wt) : Wt := uJ (N_tt1 e t w) 8 t ((N_tt1 e t w).2 8 t - N_mf e (w.2 7 t) (N_tt1 e t w))
def N_tt (e t : Nat) (w : Wt) : Wt := if lg_cmp ((N_tt2 e t w).2 7 t) 0 = 0 then
  N_fin t 2 ((N_tt2 e t w).1 0 8) (N_mv ((N_tt2 e t w).1 4 t).toNatClampNeg ((N_tt2 e t w).1 5 t).toNatClampNeg ((N_tt2 e t w).2 8 t) (N_tt2 e t w)) else N_tt2 e t w
/-- e is behind the EVENT b on the same PAPER, and to come -/
def N_drop (b e : Nat) (w : Wt) : Wt := if (w.1 23 b < w.1 23 e ∨ (w.1 23 e = w.1 23 b ∧ ¬ nI e ≤ nI b)) ∧ w.1 15 e = w.1 15 b ∧ w.1 25 e = 0 then uI w 25 e 3 else w
theorem N_tt1_1 (e t : Nat) (w : Wt) (a k : Nat) : (N_tt1 e t w).1 a k = if a = 6 ∧ k = t then w.1 16 e else w.1 a k := by
  unfold N_tt1
  rw [uJ_1, uI_1]
theorem N_tt2_1 (e t : Nat) (w : Wt) (a k : Nat) : (N_tt2 e t w).1 a k = if a = 6 ∧ k = t then w.1 16 e else w.1 a k := by
  unfold N_tt2
  rw [uJ_1, N_tt1_1]
theorem N_fin_1 (t : Nat) (x y : Int32) (w : Wt) {a : Nat} (h1 : a ≠ 11) (h2 : a ≠ 12) (k : Nat) : (N_fin t x y w).1 a k = w.1 a k := by
  unfold N_fin
  rw [uI_1, if_neg (fun h => h2 h.1), uI_1, if_neg (fun h => h1 h.1)]
theorem N_tt_1 (e t : Nat) (w : Wt) {a : Nat} (h1 : a ≠ 11) (h2 : a ≠ 12) (k : Nat) : (N_tt e t w).1 a k = if a = 6 ∧ k = t then w.1 16 e else w.1 a k := by
  unfold N_tt
  split
  · rw [N_fin_1 _ _ _ _ h1 h2, N_mv_1, N_tt2_1]
  · rw [N_tt2_1]
section
variable {bk dr s : Nat} {w : Wt} {X : Mm}
theorem c_turnTrade (h : Shp bk dr X) (hs : St s) {e t : Nat} (he : e < 8) (ht : t < 60) (ok : okF w.1 t) : fX8_turnTrade s (nI e) (nI t) (pW s w X) = some ((), pW s (N_tt e t w) X) := by
  have e1 : (nI e).toNatClampNeg = e := nI_clamp (by omega)
  have e2 := inL_nI (j := e) (n := 8) he (by decide)
  have t1 : (nI t).toNatClampNeg = t := nI_clamp (by omega)
  have t2 := inL_nI (j := t) (n := 60) ht (by decide)
  have ha : inL ((N_tt2 e t w).1 4 t) 10 := by rw [N_tt2_1, if_neg (by omega)]; exact ok.1
  have hb : inL ((N_tt2 e t w).1 5 t) 10 := by rw [N_tt2_1, if_neg (by omega)]; exact ok.2.1
  have f1 : uJ (uI w 6 t (w.1 16 e)) 7 t (N_sf e (w.2 7 t) (uI w 6 t (w.1 16 e))) = N_tt1 e t w := rfl
  have f2 : uJ (N_tt1 e t w) 8 t ((N_tt1 e t w).2 8 t - N_mf e (w.2 7 t) (N_tt1 e t w)) = N_tt2 e t w := rfl
  simp only [fX8_turnTrade, h.1, h.2.1, h.2.2, st_T s hs, st_L s hs, st_R hs, mT_pW, mL_pW, mR_pW, mI_pW, mJ_pW, mI_pW0, mJ_pW0, sI_pW, sJ_pW, sI_pW0, nm, bd, q_b, ne_eq, Nat.add_eq_zero_iff, Nat.reduceEqDiff, Nat.reduceLeDiff, Nat.reduceAdd, and_false, false_and, and_true, true_and, and_self, not_false_eq_true, not_true_eq_false, reduceCtorEq, ↓reduceIte, e1, e2.1, e2.2, t1, t2.1, t2.2, c_sharesFor h hs he, c_moneyFor h hs he, f1, f2]
  by_cases h1 : lg_cmp ((N_tt2 e t w).2 7 t) 0 = 0
  · simp only [h1, ↓reduceIte, h.1, h.2.1, h.2.2, st_T s hs, st_L s hs, st_R hs, mT_pW, mL_pW, mR_pW, mI_pW, mJ_pW, mI_pW0, mJ_pW0, sI_pW, sJ_pW, sI_pW0, nm, bd, q_b, ne_eq, Nat.add_eq_zero_iff, Nat.reduceEqDiff, Nat.reduceLeDiff, Nat.reduceAdd, and_false, false_and, and_true, true_and, and_self, not_false_eq_true, not_true_eq_false, reduceCtorEq, ↓reduceIte, t1, t2.1, t2.2, c_moveMoney h hs ha hb, c_finish h hs t2, N_mv_1, N_tt]
  · simp only [h1, ↓reduceIte, N_tt]
theorem c_drop1 (h : Shp bk dr X) (hs : St s) {b i G : Nat} (hG : w.1 13 16 = nI G) (hG8 : G ≤ 8) (hb : b < G) (hi : i < G) (n j : Nat) : fX3_dropBehind_L2 n (j + 1) (s + 13) (nI b) (nI i) (pW s w X) = fX3_dropBehind_L2 n j (s + 13) (nI b) (nI (i + 1)) (pW s (N_drop b i w) X) := by
  have b1 : (nI b).toNatClampNeg = b := nI_clamp (by omega)
  have b2 := inL_nI (j := b) (n := 8) (by omega) (by decide)
  have i1 : (nI i).toNatClampNeg = i := nI_clamp (by omega)
  have i2 := inL_nI (j := i) (n := 8) (by omega) (by decide)
  have e3 : ¬ nI G ≤ nI i := nI_ge hi (by omega)
  have go : ∀ z : Int32, ∀ P : Prop, (z = 0 ↔ ¬ P) → (P ↔ (w.1 23 b < w.1 23 i ∨ (w.1 23 i = w.1 23 b ∧ ¬ nI i ≤ nI b))) → fX3_dropBehind_L50 n (fX3_dropBehind_L2 n j) (s + 13) (nI b) (nI i) z (pW s w X) = fX3_dropBehind_L2 n j (s + 13) (nI b) (nI (i + 1)) (pW s (N_drop b i w) X) := by
    intro z P hz hP
    simp only [fX3_dropBehind_L50, h.1, h.2.1, h.2.2, st_T s hs, st_L s hs, st_R hs, mT_pW, mL_pW, mR_pW, mI_pW, mJ_pW, mI_pW0, mJ_pW0, sI_pW, sJ_pW, sI_pW0, nm, bd, q_b, ne_eq, Nat.add_eq_zero_iff, Nat.reduceEqDiff, Nat.reduceLeDiff, Nat.reduceAdd, and_false, false_and, and_true, true_and, and_self, not_false_eq_true, not_true_eq_false, reduceCtorEq, ↓reduceIte, b1, b2.1, b2.2, i1, i2.1, i2.2]
    by_cases h1 : w.1 15 i = w.1 15 b
    · by_cases h2 : w.1 25 i = 0
      · by_cases h3 : z = 0
        · have h4 : ¬ (w.1 23 b < w.1 23 i ∨ (w.1 23 i = w.1 23 b ∧ ¬ nI i ≤ nI b)) := fun q => hz.mp h3 (hP.mpr q)
          simp only [h1, h2, h3, ↓reduceIte, fX3_dropBehind_L86, nm, nI_1, N_drop, h4, false_and]
        · have h4 : (w.1 23 b < w.1 23 i ∨ (w.1 23 i = w.1 23 b ∧ ¬ nI i ≤ nI b)) := hP.mp (Classical.byContradiction fun q => h3 (hz.mpr q))
          simp only [h1, h2, h3, ↓reduceIte, fX3_dropBehind_L86, nm, nI_1, N_drop, h4, and_self, sI_pW, Nat.reduceLeDiff, h.1, h.2.1, h.2.2, st_T s hs, st_L s hs, st_R hs, mT_pW, mL_pW, mR_pW, mI_pW, mJ_pW, mI_pW0, mJ_pW0, sI_pW, sJ_pW, sI_pW0, nm, bd, q_b, ne_eq, Nat.add_eq_zero_iff, Nat.reduceEqDiff, Nat.reduceLeDiff, Nat.reduceAdd, and_false, false_and, and_true, true_and, and_self, not_false_eq_true, not_true_eq_false, reduceCtorEq, ↓reduceIte, i1, i2.1, i2.2]
      · simp only [h1, h2, ↓reduceIte, fX3_dropBehind_L86, nm, nI_1, N_drop, and_false]
    · simp only [h1, ↓reduceIte, fX3_dropBehind_L86, nm, nI_1, N_drop, false_and, and_false]
  rw [fX3_dropBehind_L2]
  simp only [h.1, h.2.1, h.2.2, st_T s hs, st_L s hs, st_R hs, mT_pW, mL_pW, mR_pW, mI_pW, mJ_pW, mI_pW0, mJ_pW0, sI_pW, sJ_pW, sI_pW0, nm, bd, q_b, ne_eq, Nat.add_eq_zero_iff, Nat.reduceEqDiff, Nat.reduceLeDiff, Nat.reduceAdd, and_false, false_and, and_true, true_and, and_self, not_false_eq_true, not_true_eq_false, reduceCtorEq, ↓reduceIte, hG, b1, b2.1, b2.2, i1, i2.1, i2.2, e3, fX3_dropBehind_L45, fX3_dropBehind_L49]
  by_cases h1 : w.1 23 b < w.1 23 i
  · simp only [h1, ↓reduceIte]
    exact go 1 True (by decide) (by simp [h1])
  · simp only [h1, ↓reduceIte]
    by_cases h2 : w.1 23 i = w.1 23 b
    · simp only [h2, ↓reduceIte]
      by_cases h3 : nI i ≤ nI b
      · simp only [h3, ↓reduceIte]
        exact go 0 False (by decide) (by simp [h1, h3])
      · simp only [h3, ↓reduceIte]
        exact go 1 True (by decide) (by simp [h2, h3])
    · simp only [h2, ↓reduceIte]
      exact go 0 False (by decide) (by simp [h1, h2])
end
