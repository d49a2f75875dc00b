/-! QUERIES: carries -/
def cW (q : Int32) (A B : Prop) : Prop := (q = 0 ∧ A ∧ B) ∨ (q = 1 ∧ A ∧ ¬ B) ∨ (¬ q = 0 ∧ ¬ q = 1 ∧ ¬ A ∧ B)
theorem cW_0 {q : Int32} {A B : Prop} (h : q = 0) : cW q A B ↔ A ∧ B :=
  ⟨fun z => by
    rcases z with z | z | z
    · exact z.2
    · exact absurd (h.symm.trans z.1) (by decide)
    · exact absurd h z.1, fun z => Or.inl ⟨h, z⟩⟩
theorem cW_1 {q : Int32} {A B : Prop} (h : q = 1) : cW q A B ↔ A ∧ ¬ B :=
  ⟨fun z => by
    rcases z with z | z | z
    · exact absurd (h.symm.trans z.1) (by decide)
    · exact z.2
    · exact absurd h z.2.1, fun z => Or.inr (Or.inl ⟨h, z⟩)⟩
theorem cW_2 {q : Int32} {A B : Prop} (h : ¬ q = 0) (g : ¬ q = 1) : cW q A B ↔ ¬ A ∧ B :=
  ⟨fun z => by
    rcases z with z | z | z
    · exact absurd z.1 h
    · exact absurd z.1 g
    · exact z.2.2, fun z => Or.inr (Or.inr ⟨h, g, z⟩)⟩
def cT (p q y u : Int32) (w : Wt) (e : Nat) : Prop := w.1 15 e = p ∧ w.1 25 e = 0 ∧ ¬ w.1 14 e = 3 ∧ cW q (y < w.1 22 e) (u ≤ w.1 23 e)
noncomputable def cS (p q y u : Int32) (w : Wt) (e : Nat) (v : Int32) : Int32 := by
  classical
  exact if cT p q y u w e then v ||| ((1 : Int32) <<< (nI e &&& 31)) else v
section
variable {bk dr s H P n T G : Nat} {X : Mm} {f : Nat → Int64} {w : Wt}
theorem q_L65 (q a b : Int32) {A B : Prop} (hA : a = 0 ↔ ¬ A) (hB : b = 0 ↔ ¬ B) : fX3_carriesTo_L65 q a b X = some (bo (cW q A B), X) := by
  unfold fX3_carriesTo_L65 fX3_carriesTo_L110 fX3_carriesTo_L126 fX3_carriesTo_L142
  by_cases q0 : q = 0
  · rw [if_pos q0, bo_congr (cW_0 q0)]
    by_cases a0 : a = 0
    · rw [if_pos a0, bo_f (fun z => hA.mp a0 z.1)]
    · rw [if_neg a0]
      by_cases b0 : b = 0
      · rw [if_pos b0, bo_f (fun z => hB.mp b0 z.2)]
      · rw [if_neg b0, bo_t ⟨Classical.byContradiction fun z => a0 (hA.mpr z), Classical.byContradiction fun z => b0 (hB.mpr z)⟩]
  · rw [if_neg q0]
    by_cases q1 : q = 1
    · rw [if_pos q1, bo_congr (cW_1 q1)]
      by_cases a0 : a = 0
      · rw [if_pos a0, bo_f (fun z => hA.mp a0 z.1)]
      · rw [if_neg a0]
        by_cases b0 : b = 0
        · rw [if_pos b0, bo_t ⟨Classical.byContradiction fun z => a0 (hA.mpr z), hB.mp b0⟩]
        · rw [if_neg b0, bo_f (fun z => b0 (hB.mpr z.2))]
    · rw [if_neg q1, bo_congr (cW_2 q0 q1)]
      by_cases a0 : a = 0
      · rw [if_pos a0]
        by_cases b0 : b = 0
        · rw [if_pos b0, bo_f (fun z => hB.mp b0 z.2)]
        · rw [if_neg b0, bo_t ⟨hA.mp a0, Classical.byContradiction fun z => b0 (hB.mpr z)⟩]
      · rw [if_neg a0, bo_f (fun z => a0 (hA.mpr z.1))]
theorem p_L174 (k : Nat → Int32 → Int32 → Int32 → Int32 → Int32 → Mm → Option (Int32 × Mm)) (r : Nat) (v1 v2 q v4 v5 a b : Int32) {A B : Prop} (hA : a = 0 ↔ ¬ A) (hB : b = 0 ↔ ¬ B) : fX12_carries_L174 n k r v1 v2 q v4 v5 a b X = fX12_carries_L236 n k r v1 v2 q v4 v5 (bo (cW q A B)) X := by
  unfold fX12_carries_L174 fX12_carries_L194 fX12_carries_L217 fX12_carries_L235
  by_cases q0 : q = 0
  · rw [if_pos q0, bo_congr (cW_0 q0)]
    by_cases a0 : a = 0
    · rw [if_pos a0, bo_f (fun z => hA.mp a0 z.1)]
    · rw [if_neg a0]
      by_cases b0 : b = 0
      · rw [if_pos b0, bo_f (fun z => hB.mp b0 z.2)]
      · rw [if_neg b0, bo_t ⟨Classical.byContradiction fun z => a0 (hA.mpr z), Classical.byContradiction fun z => b0 (hB.mpr z)⟩]
  · rw [if_neg q0]
    by_cases q1 : q = 1
    · rw [if_pos q1, bo_congr (cW_1 q1)]
      by_cases a0 : a = 0
      · rw [if_pos a0, bo_f (fun z => hA.mp a0 z.1)]
      · rw [if_neg a0]
        by_cases b0 : b = 0
        · rw [if_pos b0, bo_t ⟨Classical.byContradiction fun z => a0 (hA.mpr z), hB.mp b0⟩]
        · rw [if_neg b0, bo_f (fun z => b0 (hB.mpr z.2))]
    · rw [if_neg q1, bo_congr (cW_2 q0 q1)]
      by_cases a0 : a = 0
      · rw [if_pos a0]
        by_cases b0 : b = 0
        · rw [if_pos b0, bo_f (fun z => hB.mp b0 z.2)]
        · rw [if_neg b0, bo_t ⟨hA.mp a0, Classical.byContradiction fun z => b0 (hB.mpr z)⟩]
      · rw [if_neg a0, bo_f (fun z => a0 (hA.mpr z.1))]
theorem c_carriesTo (h : Shp bk dr X) (hs : St s) {e : Nat} (e8 : e < 8) (p q y u : Int32) : fX3_carriesTo (s + 13) (nI e) p q y u (pW s w X) = some (bo (cT p q y u w e), pW s w X) := by
  have e1 : (nI e).toNatClampNeg = e := nI_clamp (by omega)
  have e2 := inL_nI (j := e) (n := 8) e8 (by decide)
  have L47 : ∀ (z : Int32) (A : Prop), (z = 0 ↔ ¬ A) → fX3_carriesTo_L47 (s + 13) (nI e) q u z (pW s w X) = some (bo (cW q A (u ≤ w.1 23 e)), pW s w X) := fun z A hz => by
    simp only [fX3_carriesTo_L47, h.1, h.2.1, h.2.2, st_T s hs, st_L s hs, st_R hs, mT_pW, mL_pW, mR_pW, mI_pW, mJ_pW, mI_pW0, mJ_pW0, sI_pW, sJ_pW, sI_pW0, nm, bd, q_b, ne_eq, Nat.add_eq_zero_iff, Nat.reduceEqDiff, Nat.reduceLeDiff, Nat.reduceAdd, and_false, false_and, and_true, true_and, and_self, not_false_eq_true, not_true_eq_false, reduceCtorEq, ↓reduceIte, e1, e2.1, e2.2]
    by_cases g : w.1 23 e < u
    · rw [if_pos g]
      exact q_L65 q z 0 hz ⟨fun _ x => i32_nlt.mpr x g, fun _ => rfl⟩
    · rw [if_neg g]
      exact q_L65 q z 1 hz ⟨fun x => absurd x b1, fun x => absurd (i32_nlt.mp g) x⟩
  simp only [fX3_carriesTo, fX3_carriesTo_L29, h.1, h.2.1, h.2.2, st_T s hs, st_L s hs, st_R hs, mT_pW, mL_pW, mR_pW, mI_pW, mJ_pW, mI_pW0, mJ_pW0, sI_pW, sJ_pW, sI_pW0, nm, bd, q_b, ne_eq, Nat.add_eq_zero_iff, Nat.reduceEqDiff, Nat.reduceLeDiff, Nat.reduceAdd, and_false, false_and, and_true, true_and, and_self, not_false_eq_true, not_true_eq_false, reduceCtorEq, ↓reduceIte, e1, e2.1, e2.2]
  by_cases g1 : w.1 15 e = p
  · rw [if_pos g1]
    by_cases g2 : w.1 25 e = 0
    · rw [if_pos g2]
      by_cases g3 : w.1 14 e = 3
      · rw [if_pos g3, bo_f (fun z => z.2.2.1 g3)]
      · rw [if_neg g3]
        have fin : ∀ (z : Int32), (z = 0 ↔ ¬ (y < w.1 22 e)) → fX3_carriesTo_L47 (s + 13) (nI e) q u z (pW s w X) = some (bo (cT p q y u w e), pW s w X) := fun z hz => by
          rw [L47 z _ hz]
          rw [bo_congr (show cW q (y < w.1 22 e) (u ≤ w.1 23 e) ↔ cT p q y u w e from ⟨fun x => ⟨g1, g2, g3, x⟩, fun x => x.2.2.2⟩)]
        by_cases g4 : w.1 22 e ≤ y
        · rw [if_pos g4]
          exact fin 0 ⟨fun _ x => i32_nle.mpr x g4, fun _ => rfl⟩
        · rw [if_neg g4]
          exact fin 1 ⟨fun x => absurd x b1, fun x => absurd (i32_nle.mp g4) x⟩
    · rw [if_neg g2, bo_f (fun z => g2 z.2.1)]
  · rw [if_neg g1, bo_f (fun z => g1 z.1)]
theorem s_carries (h : Tp bk dr H P X) (hn : 24000 ≤ n) (v1 v2 v3 : Int32) : ∃ r X1 X2, fX11_carries n 1 v1 v2 v3 X = some (r, X1) ∧ fX12_carries n 366 v1 v2 v3 X1 = some (r, X2) ∧ Tp bk dr H P X2 := by
  have hT := h
  obtain ⟨h1, h2, h3, h4, h5, h6, ⟨T, G, R, iv, iw⟩, -, -, -, -, -, -⟩ := h
  have h := h1
  have hs := h1.sI 366 0 0
  have w7 : mI X 16 7 = nI P := iw.1
  have y7 : mI (sI X 366 0 0) 366 7 = nI P := by rw [mI_sI, if_neg (by omega)]; exact h6
  have R' : Rl T G (mJ (sI X 366 0 0) 367) (gW 16 X) := R
  have hG8 := R.2.1
  have wG : mI X 29 16 = nI G := iv.1.2.2.1
  obtain ⟨d, d9, hd⟩ := iw.2.2.1
  have hd' : mI X 16 8 = nI d := hd
  by_cases g1 : 0 ≤ v1 ∧ v1 < nI P
  · by_cases g2 : 1 ≤ v2 ∧ v2 ≤ 9
    · by_cases g3 : 0 ≤ v3 ∧ v3 ≤ 2
      · obtain ⟨v, hv, ev⟩ := inL_of (inL_cc (v := v2) (l := 1) (n := 9) (m := 10) g2 (by decide) (by decide) (by decide)) (by decide)
        have n21 : ¬ v2 < 1 := i32_nlt.mpr g2.1
        have n29 : ¬ 9 < v2 := i32_nlt.mpr g2.2
        have n30 : ¬ v3 < 0 := i32_nlt.mpr g3.1
        have du : nI d + v2 = nI (d + v) := by rw [ev, nI_add]
        have du64 : (nI d).toInt64 + v2.toInt64 = (nI (d + v)).toInt64 := by rw [ev, nI_l (by omega), nI_l (by omega), nI_l (by omega), lN_add]
        have cl := loop_ga (F := fun j i x => fX11_carries_L39 n j 1 v1 v2 v3 x i X) (N := cS v1 v3 (nI d) (nI (d + v)) (gW 16 X)) (I := fun _ _ => True) (out := fun x => some (x, X)) G
          (fun j e x he _ => by
            have e3 : ¬ nI G ≤ nI e := nI_ge he (by omega)
            have ct := c_carriesTo (w := gW 16 X) h St.now (e := e) (by omega) v1 v3 (nI d) (nI (d + v))
            rw [pW_gW] at ct
            have ct' : fX3_carriesTo 29 (nI e) v1 v3 (nI d) (nI (d + v)) X = _ := ct
            rw [fX11_carries_L39]
            simp only [h.1, h.2.1, h.2.2, li_T, li_L, li_R, nm, bd, q_b, ne_eq, Nat.reduceEqDiff, reduceCtorEq, and_false, false_and, and_true, true_and, and_self, not_false_eq_true, not_true_eq_false, ↓reduceIte, n16_T, n16_L, n16_R, wG, e3, hd', du, ct']
            unfold cS
            by_cases c : cT v1 v3 (nI d) (nI (d + v)) (gW 16 X) e
            · rw [bo_t c, if_neg b1, if_pos c]
              simp only [fX11_carries_L96, nm, nI_1]
            · rw [bo_f c, if_pos rfl, if_neg c]
              simp only [fX11_carries_L96, nm, nI_1])
          (fun _ _ _ _ => trivial)
          (fun j x _ => by
            have e3 : nI G ≤ nI G := nI_le (Nat.le_refl _) (by omega)
            rw [fX11_carries_L39]
            simp only [h.1, h.2.1, h.2.2, li_T, li_L, li_R, nm, bd, q_b, ne_eq, Nat.reduceEqDiff, reduceCtorEq, and_false, false_and, and_true, true_and, and_self, not_false_eq_true, not_true_eq_false, ↓reduceIte, n16_T, n16_L, n16_R, wG, e3]) G 0 0 n (by omega) (by omega) trivial
        have rl := loop_ga (F := fun j i x => fX12_carries_L47 n j 366 v1 v2 v3 x i (wJ (sI X 366 0 0) 367 (mJ (sI X 366 0 0) 367))) (N := cS v1 v3 (nI d) (nI (d + v)) (gW 16 X)) (I := fun _ _ => True) (out := fun x => some (x, wJ (sI X 366 0 0) 367 (mJ (sI X 366 0 0) 367))) G
          (fun j e x he _ => by
            have e8 : e < 8 := by omega
            have e3 : ¬ nI G ≤ nI e := nI_ge he (by omega)
            have h := hs
            rw [fX12_carries_L47]
            simp only [h.1, h.2.1, h.2.2, li_T, li_L, li_R, nm, bd, q_b, ne_eq, Nat.reduceEqDiff, reduceCtorEq, and_false, false_and, and_true, true_and, and_self, not_false_eq_true, not_true_eq_false, ↓reduceIte, mT_wJ, mL_wJ, mR_wJ, mI_wJ, mJ_wJ, sJ_wJ, Nat.reduceLT, l60.1, l60.2.1, l60.2.2, l61.1, l61.2.1, l61.2.2, l62.1, l62.2.1, l62.2.2, m_em h R', iv.1.2.2.1, e3, r_of1, bE1 e8, bE2 e8, bE3 e8, R'.e1 he, cv_eq, wd_eq]
            unfold cS
            by_cases c1 : (gW 16 X).1 15 e = v1
            · rw [if_pos c1]
              simp only [h.1, h.2.1, h.2.2, li_T, li_L, li_R, nm, bd, q_b, ne_eq, Nat.reduceEqDiff, reduceCtorEq, and_false, false_and, and_true, true_and, and_self, not_false_eq_true, not_true_eq_false, ↓reduceIte, mT_wJ, mL_wJ, mR_wJ, mI_wJ, mJ_wJ, sJ_wJ, Nat.reduceLT, l60.1, l60.2.1, l60.2.2, l61.1, l61.2.1, l61.2.2, l62.1, l62.2.1, l62.2.2, r_of5, bE1 e8, bE2 e8, bE3 e8, R'.e5 he, cv_eq, wd_0]
              by_cases c2 : (gW 16 X).1 25 e = 0
              · rw [if_pos c2]
                simp only [h.1, h.2.1, h.2.2, li_T, li_L, li_R, nm, bd, q_b, ne_eq, Nat.reduceEqDiff, reduceCtorEq, and_false, false_and, and_true, true_and, and_self, not_false_eq_true, not_true_eq_false, ↓reduceIte, mT_wJ, mL_wJ, mR_wJ, mI_wJ, mJ_wJ, sJ_wJ, Nat.reduceLT, l60.1, l60.2.1, l60.2.2, l61.1, l61.2.1, l61.2.2, l62.1, l62.2.1, l62.2.2, r_of0, bE1 e8, bE2 e8, bE3 e8, R'.e0 he, cv_eq, wd_3]
                by_cases c3 : (gW 16 X).1 14 e = 3
                · rw [if_pos c3, if_neg (fun z => z.2.2.1 c3)]
                  simp only [fX12_carries_L252, nm, nI_1]
                · rw [if_neg c3]
                  have L141 : ∀ (z : Int32), (z = 0 ↔ ¬ (nI d < (gW 16 X).1 22 e)) → fX12_carries_L141 n (fX12_carries_L47 n j) 366 v1 v2 v3 x (nI e) z (wJ (sI X 366 0 0) 367 (mJ (sI X 366 0 0) 367)) = fX12_carries_L47 n j 366 v1 v2 v3 (cS v1 v3 (nI d) (nI (d + v)) (gW 16 X) e x) (nI (e + 1)) (wJ (sI X 366 0 0) 367 (mJ (sI X 366 0 0) 367)) := fun z hz => by
                    have fin : ∀ (y : Int32), (y = 0 ↔ ¬ (nI (d + v) ≤ (gW 16 X).1 23 e)) → fX12_carries_L174 n (fX12_carries_L47 n j) 366 v1 v2 v3 x (nI e) z y (wJ (sI X 366 0 0) 367 (mJ (sI X 366 0 0) 367)) = fX12_carries_L47 n j 366 v1 v2 v3 (cS v1 v3 (nI d) (nI (d + v)) (gW 16 X) e x) (nI (e + 1)) (wJ (sI X 366 0 0) 367 (mJ (sI X 366 0 0) 367)) := fun y hy => by
                      rw [p_L174 _ _ _ _ _ _ _ _ _ hz hy]
                      unfold cS
                      by_cases c : cW v3 (nI d < (gW 16 X).1 22 e) (nI (d + v) ≤ (gW 16 X).1 23 e)
                      · rw [bo_t c, if_pos ⟨c1, c2, c3, c⟩]
                        simp only [fX12_carries_L236, fX12_carries_L252, b1, ↓reduceIte, nm, nI_1]
                      · rw [bo_f c, if_neg (fun x => c x.2.2.2)]
                        simp only [fX12_carries_L236, fX12_carries_L252, ↓reduceIte, nm, nI_1]
                    simp only [fX12_carries_L141, h.1, h.2.1, h.2.2, li_T, li_L, li_R, nm, bd, q_b, ne_eq, Nat.reduceEqDiff, reduceCtorEq, and_false, false_and, and_true, true_and, and_self, not_false_eq_true, not_true_eq_false, ↓reduceIte, mT_wJ, mL_wJ, mR_wJ, mI_wJ, mJ_wJ, sJ_wJ, Nat.reduceLT, l60.1, l60.2.1, l60.2.2, l61.1, l61.2.1, l61.2.2, l62.1, l62.2.1, l62.2.2, r_of3, bE1 e8, bE2 e8, bE3 e8, R'.e3 he, R'.m2, hd, du64, cv_gt, wd_lt]
                    by_cases g : (gW 16 X).1 23 e < nI (d + v)
                    · rw [if_pos g]
                      exact fin 0 ⟨fun _ x => i32_nlt.mpr x g, fun _ => rfl⟩
                    · rw [if_neg g]
                      exact fin 1 ⟨fun x => absurd x b1, fun x => absurd (i32_nlt.mp g) x⟩
                  unfold cS at L141
                  simp only [h.1, h.2.1, h.2.2, li_T, li_L, li_R, nm, bd, q_b, ne_eq, Nat.reduceEqDiff, reduceCtorEq, and_false, false_and, and_true, true_and, and_self, not_false_eq_true, not_true_eq_false, ↓reduceIte, mT_wJ, mL_wJ, mR_wJ, mI_wJ, mJ_wJ, sJ_wJ, Nat.reduceLT, l60.1, l60.2.1, l60.2.2, l61.1, l61.2.1, l61.2.2, l62.1, l62.2.1, l62.2.2, r_of2, bE1 e8, bE2 e8, bE3 e8, R'.e2 he, R'.m2, hd, cv_ge, wd_le]
                  by_cases g : (gW 16 X).1 22 e ≤ nI d
                  · rw [if_pos g]
                    exact L141 0 ⟨fun _ x => i32_nle.mpr x g, fun _ => rfl⟩
                  · rw [if_neg g]
                    exact L141 1 ⟨fun x => absurd x b1, fun x => absurd (i32_nle.mp g) x⟩
              · rw [if_neg c2, if_neg (fun z => c2 z.2.1)]
                simp only [fX12_carries_L252, nm, nI_1]
            · rw [if_neg c1, if_neg (fun z => c1 z.1)]
              simp only [fX12_carries_L252, nm, nI_1])
          (fun _ _ _ _ => trivial)
          (fun j x _ => by
            have h := hs
            have e3 : nI G ≤ nI G := nI_le (Nat.le_refl _) (by omega)
            rw [fX12_carries_L47]
            simp only [h.1, h.2.1, h.2.2, li_T, li_L, li_R, nm, bd, q_b, ne_eq, Nat.reduceEqDiff, reduceCtorEq, and_false, false_and, and_true, true_and, and_self, not_false_eq_true, not_true_eq_false, ↓reduceIte, mT_wJ, mL_wJ, mR_wJ, mI_wJ, mJ_wJ, sJ_wJ, Nat.reduceLT, l60.1, l60.2.1, l60.2.2, l61.1, l61.2.1, l61.2.2, l62.1, l62.2.1, l62.2.2, m_em h R', iv.1.2.2.1, e3]) G 0 0 n (by omega) (by omega) trivial
        have cl1 := cl.1
        have rl1 := rl.1
        simp only [wJ_self] at rl1
        rw [nI_0] at cl1 rl1
        refine ⟨nf (cS v1 v3 (nI d) (nI (d + v)) (gW 16 X)) G 0 0, X, sI X 366 0 0, ?_, ?_, hT.told 0⟩
        · simp only [fX11_carries, h.1, h.2.1, h.2.2, li_T, li_L, li_R, nm, bd, q_b, ne_eq, Nat.reduceEqDiff, reduceCtorEq, and_false, false_and, and_true, true_and, and_self, not_false_eq_true, not_true_eq_false, ↓reduceIte, n16_T, n16_L, n16_R, q_isP h w7, bo_t g1, b1, n21, n29, n30, g3.2, cl1]
        · simp only [fX12_carries, h.1, h.2.1, h.2.2, li_T, li_L, li_R, nm, bd, q_b, ne_eq, Nat.reduceEqDiff, reduceCtorEq, and_false, false_and, and_true, true_and, and_self, not_false_eq_true, not_true_eq_false, ↓reduceIte, n16_T, n16_L, n16_R, mT_sI, p_isP hs y7 h4, bo_t g1, b1, r_inb v2 1 9 (lo := 1) (hi := 9) (by decide) (by decide), bo_t g2, r_inb v3 0 2 (lo := 0) (hi := 2) (by decide) (by decide), bo_t g3, rl1]
      · have n21 : ¬ v2 < 1 := i32_nlt.mpr g2.1
        have n29 : ¬ 9 < v2 := i32_nlt.mpr g2.2
        refine ⟨-1, X, sI X 366 0 0, ?_, ?_, hT.told 0⟩
        · by_cases n30 : v3 < 0
          · simp only [fX11_carries, fX11_carries_L31, h.1, h.2.1, h.2.2, li_T, li_L, li_R, nm, bd, q_b, ne_eq, Nat.reduceEqDiff, reduceCtorEq, and_false, false_and, and_true, true_and, and_self, not_false_eq_true, not_true_eq_false, ↓reduceIte, n16_T, n16_L, n16_R, q_isP h w7, bo_t g1, b1, n21, n29, n30]
          · have n32 : ¬ v3 ≤ 2 := fun z => g3 ⟨i32_nlt.mp n30, z⟩
            simp only [fX11_carries, fX11_carries_L31, h.1, h.2.1, h.2.2, li_T, li_L, li_R, nm, bd, q_b, ne_eq, Nat.reduceEqDiff, reduceCtorEq, and_false, false_and, and_true, true_and, and_self, not_false_eq_true, not_true_eq_false, ↓reduceIte, n16_T, n16_L, n16_R, q_isP h w7, bo_t g1, b1, n21, n29, n30, n32]
        · simp only [fX12_carries, fX12_carries_L39, h.1, h.2.1, h.2.2, li_T, li_L, li_R, nm, bd, q_b, ne_eq, Nat.reduceEqDiff, reduceCtorEq, and_false, false_and, and_true, true_and, and_self, not_false_eq_true, not_true_eq_false, ↓reduceIte, n16_T, n16_L, n16_R, mT_sI, p_isP hs y7 h4, bo_t g1, b1, r_inb v2 1 9 (lo := 1) (hi := 9) (by decide) (by decide), bo_t g2, r_inb v3 0 2 (lo := 0) (hi := 2) (by decide) (by decide), bo_f g3]
    · refine ⟨-1, X, sI X 366 0 0, ?_, ?_, hT.told 0⟩
      · by_cases n21 : v2 < 1
        · simp only [fX11_carries, fX11_carries_L31, h.1, h.2.1, h.2.2, li_T, li_L, li_R, nm, bd, q_b, ne_eq, Nat.reduceEqDiff, reduceCtorEq, and_false, false_and, and_true, true_and, and_self, not_false_eq_true, not_true_eq_false, ↓reduceIte, n16_T, n16_L, n16_R, q_isP h w7, bo_t g1, b1, n21]
        · have n29 : 9 < v2 := i32_nle.mp fun z => g2 ⟨i32_nlt.mp n21, z⟩
          simp only [fX11_carries, fX11_carries_L31, h.1, h.2.1, h.2.2, li_T, li_L, li_R, nm, bd, q_b, ne_eq, Nat.reduceEqDiff, reduceCtorEq, and_false, false_and, and_true, true_and, and_self, not_false_eq_true, not_true_eq_false, ↓reduceIte, n16_T, n16_L, n16_R, q_isP h w7, bo_t g1, b1, n21, n29]
      · simp only [fX12_carries, fX12_carries_L39, h.1, h.2.1, h.2.2, li_T, li_L, li_R, nm, bd, q_b, ne_eq, Nat.reduceEqDiff, reduceCtorEq, and_false, false_and, and_true, true_and, and_self, not_false_eq_true, not_true_eq_false, ↓reduceIte, n16_T, n16_L, n16_R, mT_sI, p_isP hs y7 h4, bo_t g1, b1, r_inb v2 1 9 (lo := 1) (hi := 9) (by decide) (by decide), bo_f g2]
  · refine ⟨-1, X, sI X 366 0 0, ?_, ?_, hT.told 0⟩
    · simp only [fX11_carries, fX11_carries_L31, h.1, h.2.1, h.2.2, li_T, li_L, li_R, nm, bd, q_b, ne_eq, Nat.reduceEqDiff, reduceCtorEq, and_false, false_and, and_true, true_and, and_self, not_false_eq_true, not_true_eq_false, ↓reduceIte, n16_T, n16_L, n16_R, q_isP h w7, bo_f g1]
    · simp only [fX12_carries, fX12_carries_L39, h.1, h.2.1, h.2.2, li_T, li_L, li_R, nm, bd, q_b, ne_eq, Nat.reduceEqDiff, reduceCtorEq, and_false, false_and, and_true, true_and, and_self, not_false_eq_true, not_true_eq_false, ↓reduceIte, n16_T, n16_L, n16_R, mT_sI, p_isP hs y7 h4, bo_f g1]
end
