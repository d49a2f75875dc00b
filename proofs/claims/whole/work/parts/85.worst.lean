/-! QUERIES: worst -/
/-- the HOLDER of the most SHARES -/
def wO (g : Nat → Int64) (i v : Nat) : Nat := if (lg_cmp (g i) (g v)) ≤ 0 then v else i
section
variable {bk dr s H P n T G : Nat} {X : Mm} {f : Nat → Int64} {w : Wt}
theorem c_worstOf (h : Shp bk dr X) (hs : St s) {e C : Nat} (he : e < 8) (hC : w.1 26 e = nI C) (hC6 : C ≤ 60) (hn : 64 ≤ n) (hH : w.1 0 6 = nI H) (hH1 : 1 ≤ H) (hH2 : H ≤ 60) : fX8_worstOf n s (nI e) (pW s w X) = some (nI (nf (wO (fun a => nf (sF1 e a w) C 0 0)) (H - 1) 1 0), pW s w X) := by
  have g := loop_ga (F := fun j i v => fX8_worstOf_L4 n j s (nI e) (nI v) i (pW s w X)) (N := wO (fun a => nf (sF1 e a w) C 0 0)) (I := fun _ _ => True) (out := fun v => some (nI v, pW s w X)) H
    (fun j i v hi _ => by
      have e3 : ¬ nI H ≤ nI i := nI_ge hi (by omega)
      rw [fX8_worstOf_L4]
      simp only [h.1, h.2.1, h.2.2, st_T s hs, st_L s hs, st_R hs, mT_pW, mL_pW, mR_pW, mI_pW, mJ_pW, mI_pW0, mJ_pW0, sI_pW, sJ_pW, sI_pW0, nm, bd, q_b, ne_eq, Nat.add_eq_zero_iff, Nat.reduceEqDiff, Nat.reduceLeDiff, Nat.reduceAdd, and_false, false_and, and_true, true_and, and_self, not_false_eq_true, not_true_eq_false, reduceCtorEq, ↓reduceIte, hH, e3, c_clFr h hs he hC hC6 hn]
      by_cases g1 : (lg_cmp (nf (sF1 e i w) C 0 0) (nf (sF1 e v w) C 0 0)) ≤ 0
      · simp only [g1, ↓reduceIte, fX8_worstOf_L30, nm, nI_1, wO]
      · simp only [g1, ↓reduceIte, fX8_worstOf_L30, nm, nI_1, wO])
    (fun _ _ _ _ => trivial)
    (fun j v _ => by
      have e3 : nI H ≤ nI H := nI_le (Nat.le_refl _) (by omega)
      rw [fX8_worstOf_L4]
      simp only [h.1, h.2.1, h.2.2, st_T s hs, st_L s hs, st_R hs, mT_pW, mL_pW, mR_pW, mI_pW, mJ_pW, mI_pW0, mJ_pW0, sI_pW, sJ_pW, sI_pW0, nm, bd, q_b, ne_eq, Nat.add_eq_zero_iff, Nat.reduceEqDiff, Nat.reduceLeDiff, Nat.reduceAdd, and_false, false_and, and_true, true_and, and_self, not_false_eq_true, not_true_eq_false, reduceCtorEq, ↓reduceIte, hH, e3]) (H - 1) 1 0 n (by omega) (by omega) trivial
  exact g.1
end
section
variable {bk dr s H P n T G : Nat} {X : Mm} {f : Nat → Int64} {w : Wt}
theorem m_worst3 (h : Shp bk dr X) (hH : mI X 366 6 = nI H) (hH1 : 1 ≤ H) (hH2 : H ≤ 10) (hn : 64 ≤ n) (v2 : Int32) : fX12_worst_L141 n n 366 v2 0 1 X = some (if v2 = 0 then (nI (nf (wO (mJ X 380)) (H - 1) 1 0)).toInt64 else mJ X 380 (nf (wO (mJ X 380)) (H - 1) 1 0), X) ∧ nf (wO (mJ X 380)) (H - 1) 1 0 < H := by
  have g := loop_ga (F := fun j i v => fX12_worst_L141 n j 366 v2 (nI v) i X) (N := wO (mJ X 380)) (I := fun _ v => v < H) (out := fun v => some (if v2 = 0 then (nI v).toInt64 else mJ X 380 v, X)) H
    (fun j i v hi hv => by
      have e3 : ¬ nI H ≤ nI i := nI_ge hi (by omega)
      have e1 : (nI i).toNatClampNeg = i := nI_clamp (by omega)
      have e2 := inL_nI (j := i) (n := 10) (by omega) (by decide)
      have e4 : (nI v).toNatClampNeg = v := nI_clamp (by omega)
      have e5 := inL_nI (j := v) (n := 10) (by omega) (by decide)
      rw [fX12_worst_L141]
      simp only [h.1, h.2.1, h.2.2, li_T, li_L, li_R, nm, bd, q_b, ne_eq, Nat.reduceEqDiff, reduceCtorEq, and_false, false_and, and_true, true_and, and_self, not_false_eq_true, not_true_eq_false, ↓reduceIte, hH, e3, e1, e2.1, e2.2, e4, e5.1, e5.2]
      by_cases g1 : (lg_cmp (mJ X 380 i) (mJ X 380 v)) ≤ 0
      · simp only [g1, ↓reduceIte, fX12_worst_L170, nm, nI_1, wO]
      · simp only [g1, ↓reduceIte, fX12_worst_L170, nm, nI_1, wO])
    (fun i v hi hv => by
      unfold wO
      by_cases g1 : (lg_cmp (mJ X 380 i) (mJ X 380 v)) ≤ 0
      · rw [if_pos g1]; exact hv
      · rw [if_neg g1]; exact hi)
    (fun j v hv => by
      have e3 : nI H ≤ nI H := nI_le (Nat.le_refl _) (by omega)
      have e4 : (nI v).toNatClampNeg = v := nI_clamp (by omega)
      have e5 := inL_nI (j := v) (n := 10) (by omega) (by decide)
      rw [fX12_worst_L141]
      by_cases g1 : v2 = 0
      · simp only [h.1, h.2.1, h.2.2, li_T, li_L, li_R, nm, bd, q_b, ne_eq, Nat.reduceEqDiff, reduceCtorEq, and_false, false_and, and_true, true_and, and_self, not_false_eq_true, not_true_eq_false, ↓reduceIte, hH, e3, g1]
      · simp only [h.1, h.2.1, h.2.2, li_T, li_L, li_R, nm, bd, q_b, ne_eq, Nat.reduceEqDiff, reduceCtorEq, and_false, false_and, and_true, true_and, and_self, not_false_eq_true, not_true_eq_false, ↓reduceIte, hH, e3, g1, e4, e5.1, e5.2]) (H - 1) 1 0 n (by omega) (by omega) (by omega)
  exact g
end
/-- SHARES of CLAIMS added to the row of the HOLDER that each is from -/
def N70 (e : Nat) (w : Wt) (i : Nat) (g : Nat → Int64) : Nat → Int64 := q_u1 g (w.1 38 (60 * e + i)).toNatClampNeg (g (w.1 38 (60 * e + i)).toNatClampNeg + w.2 40 (60 * e + i))
section
variable {bk dr s H P n T G : Nat} {X : Mm} {f : Nat → Int64} {w : Wt}
theorem m_worst1 (h : Shp bk dr X) (hH : mI X 366 6 = nI H) (hH2 : H ≤ 10) (hn : 64 ≤ n) (v1 v2 : Int32) (g : Nat → Int64) : fX12_worst_L47 n n 366 v1 v2 0 (wJ X 380 g) = fX12_worst_L70 n n 366 v1 v2 0 (wJ X 380 (nf (fun i (g : Nat → Int64) => q_u1 g i 0) H 0 g)) := by
  have z := loop_ga (F := fun j i (g : Nat → Int64) => fX12_worst_L47 n j 366 v1 v2 i (wJ X 380 g)) (N := fun i g => q_u1 g i 0) (I := fun _ _ => True) (out := fun g => fX12_worst_L70 n n 366 v1 v2 0 (wJ X 380 g)) H
    (fun j i g hi _ => by
      have e3 : ¬ nI H ≤ nI i := nI_ge hi (by omega)
      have e1 : (nI i).toNatClampNeg = i := nI_clamp (by omega)
      have e2 := inL_nI (j := i) (n := 10) (by omega) (by decide)
      rw [fX12_worst_L47]
      simp only [h.1, h.2.1, h.2.2, li_T, li_L, li_R, nm, bd, q_b, ne_eq, Nat.reduceEqDiff, reduceCtorEq, and_false, false_and, and_true, true_and, and_self, not_false_eq_true, not_true_eq_false, ↓reduceIte, mT_wJ, mL_wJ, mR_wJ, mI_wJ, mJ_wJ, sJ_wJ, Nat.reduceLT, l60.1, l60.2.1, l60.2.2, l61.1, l61.2.1, l61.2.2, l62.1, l62.2.1, l62.2.2, hH, e3, e1, e2.1, e2.2, nI_1])
    (fun _ _ _ _ => trivial)
    (fun j g _ => by
      have e3 : nI H ≤ nI H := nI_le (Nat.le_refl _) (by omega)
      rw [fX12_worst_L47]
      simp only [h.1, h.2.1, h.2.2, li_T, li_L, li_R, nm, bd, q_b, ne_eq, Nat.reduceEqDiff, reduceCtorEq, and_false, false_and, and_true, true_and, and_self, not_false_eq_true, not_true_eq_false, ↓reduceIte, mT_wJ, mL_wJ, mR_wJ, mI_wJ, mJ_wJ, sJ_wJ, Nat.reduceLT, l60.1, l60.2.1, l60.2.2, l61.1, l61.2.1, l61.2.2, l62.1, l62.2.1, l62.2.2, hH, e3]) H 0 g n (by omega) (by omega) trivial
  exact z.1
end
section
variable {bk dr s H P n T G : Nat} {X : Mm} {f : Nat → Int64} {w : Wt}
theorem m_worst2 (h : Shp bk dr X) (R : Rl T G (mJ X 367) w) {e C : Nat} (he : e < G) (hC : w.1 26 e = nI C) (hC6 : C ≤ 60) (hcl : ∀ i, i < C → ∃ a, a < 10 ∧ w.1 38 (60 * e + i) = nI a) (hn : 64 ≤ n) (v2 : Int32) (g : Nat → Int64) : fX12_worst_L70 n n 366 (nI e) v2 0 (wJ X 380 g) = fX12_worst_L141 n n 366 v2 0 1 (wJ X 380 (nf (N70 e w) C 0 g)) := by
  have e8 : e < 8 := by have := R.2.1; omega
  have hCn : Cn w e = C := by unfold Cn; rw [hC, nI_clamp (by omega)]
  have z := loop_ga (F := fun j i (g : Nat → Int64) => fX12_worst_L70 n j 366 (nI e) v2 i (wJ X 380 g)) (N := N70 e w) (I := fun _ _ => True) (out := fun g => fX12_worst_L141 n n 366 v2 0 1 (wJ X 380 g)) C
    (fun j k g hk _ => by
      have i6 : k < 60 := by omega
      have hk2 : k < Cn w e := by omega
      have e3 : ¬ nI C ≤ nI k := nI_ge hk (by omega)
      obtain ⟨a, ha, ea⟩ := hcl k hk
      have e1 : (nI a).toNatClampNeg = a := nI_clamp (by omega)
      have e2 := inL_nI (j := a) (n := 10) ha (by decide)
      rw [fX12_worst_L70]
      simp only [h.1, h.2.1, h.2.2, li_T, li_L, li_R, nm, bd, q_b, ne_eq, Nat.reduceEqDiff, reduceCtorEq, and_false, false_and, and_true, true_and, and_self, not_false_eq_true, not_true_eq_false, ↓reduceIte, mT_wJ, mL_wJ, mR_wJ, mI_wJ, mJ_wJ, sJ_wJ, Nat.reduceLT, l60.1, l60.2.1, l60.2.2, l61.1, l61.2.1, l61.2.2, l62.1, l62.2.1, l62.2.2, r_of6, r_oC0, r_oC1, r_oC2, r_oC3, r_oC4, bE1 e8, bE2 e8, bE3 e8, bC1 e8 i6, bC2 e8 i6, bC3 e8 i6, mJ_wJo (show 367 ≠ 380 by decide), R.e6 he, hC, cv_ge, wd_le, e3, R.c0 he hk2 i6, R.c2 he hk2 i6, wd_back, ea, e1, e2.1, e2.2, nI_1, N70])
    (fun _ _ _ _ => trivial)
    (fun j g _ => by
      have e3 : nI C ≤ nI C := nI_le (Nat.le_refl _) (by omega)
      rw [fX12_worst_L70]
      simp only [h.1, h.2.1, h.2.2, li_T, li_L, li_R, nm, bd, q_b, ne_eq, Nat.reduceEqDiff, reduceCtorEq, and_false, false_and, and_true, true_and, and_self, not_false_eq_true, not_true_eq_false, ↓reduceIte, mT_wJ, mL_wJ, mR_wJ, mI_wJ, mJ_wJ, sJ_wJ, Nat.reduceLT, l60.1, l60.2.1, l60.2.2, l61.1, l61.2.1, l61.2.2, l62.1, l62.2.1, l62.2.2, r_of6, bE1 e8, bE2 e8, bE3 e8, mJ_wJo (show 367 ≠ 380 by decide), R.e6 he, hC, cv_ge, wd_le, e3]) C 0 g n (by omega) (by omega) trivial
  exact z.1
end
