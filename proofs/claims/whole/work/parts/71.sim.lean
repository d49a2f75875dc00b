/-! THE SIMULATION of States; deeds done by both -/
def SR (H P : Nat) (f : Nat → Int64) (w : Wt) : Prop := ∃ T G, Rl T G f w ∧ Iv T G H w ∧ Iw T G H P w
theorem SR.weq {H P : Nat} {f g : Nat → Int64} {w u : Wt} (h : SR H P f w) (hw : Weq w u) (hf : ∀ p, p < 4604 → g p = f p) : SR H P g u := by
  obtain ⟨T, G, R, iv, iw⟩ := h
  exact ⟨T, G, R.weq hw hf, iv.weq hw, iw.weq hw R.1 R.2.1 (fun e he => (iv.cnt he).2)⟩
section
variable {bk dr s T G H P : Nat} {X : Mm} {f : Nat → Int64} {w : Wt} {d : Nat → Int32}
theorem c_canBe (h : Shp bk dr X) (hs : St s) {e : Nat} (e8 : e < 8) (y : Int32) : fX3_canBeChosen (s + 13) (nI e) y (pW s w X) = some (bo (w.1 14 e = 2 ∧ y ≤ w.1 21 e ∧ (w.1 25 e = 0 ∨ w.1 25 e = 1)), pW s w X) := by
  have e1 : (nI e).toNatClampNeg = e := nI_clamp (by omega)
  have e2 := inL_nI (j := e) (n := 8) e8 (by decide)
  simp only [fX3_canBeChosen, fX3_canBeChosen_L43, fX3_canBeChosen_L39, h.1, h.2.1, h.2.2, st_T s hs, st_L s hs, st_R hs, mT_pW, mL_pW, mR_pW, mI_pW, mJ_pW, mI_pW0, mJ_pW0, sI_pW, sJ_pW, sI_pW0, nm, bd, q_b, ne_eq, Nat.add_eq_zero_iff, Nat.reduceEqDiff, Nat.reduceLeDiff, Nat.reduceAdd, and_false, false_and, and_true, true_and, and_self, not_false_eq_true, not_true_eq_false, reduceCtorEq, ↓reduceIte, e1, e2.1, e2.2]
  by_cases g1 : w.1 14 e = 2
  · rw [if_pos g1]
    by_cases g2 : y ≤ w.1 21 e
    · rw [if_neg (i32_nlt.mpr g2)]
      by_cases g3 : w.1 25 e = 0
      · rw [if_pos g3, bo_t ⟨g1, g2, Or.inl g3⟩]
      · rw [if_neg g3]
        by_cases g4 : w.1 25 e = 1
        · rw [if_pos g4, bo_t ⟨g1, g2, Or.inr g4⟩]
        · rw [if_neg g4, bo_f (fun z => z.2.2.elim g3 g4)]
    · rw [if_pos (i32_nle.mp g2), bo_f (fun z => g2 z.2.1)]
  · rw [if_neg g1, bo_f (fun z => g1 z.1)]
theorem nI_ex {v : Int32} {n : Nat} (h : 0 ≤ v ∧ v < nI n) (hn : n < 1000) : ∃ j, j < n ∧ v = nI j := by
  obtain ⟨j, hj, e⟩ := inL_of (inL_le h hn (Nat.le_refl n)) (by omega)
  exact ⟨j, hj, e⟩
theorem c_choice (h : Shp bk dr X) (hs : St s) (hG : w.1 13 16 = nI G) (hG8 : G ≤ 8) (hw6 : w.1 0 6 = nI H) (hH10 : H ≤ 10) (hd : mI X 15 = d) (hk : d 0 = 5) (n : Nat) :
    (kC H G w d → fX8_perform n s 15 (pW s w X) = some (0, pW s (N_ch d w) X)) ∧ (¬ kC H G w d → fX8_perform n s 15 (pW s w X) = some (-1, pW s w X)) := by
  have hge := (st_ge s hs).1
  have o : ∀ u k, mI (pW s u X) 15 k = d k := fun u k => by rw [mI_pWo _ _ (by omega), hd]
  have z54 : ¬ (5 : Int32) = 4 := by decide
  constructor
  · rintro ⟨g1, g2, g3, g4, g5, g6, g7⟩
    obtain ⟨e, he, ee⟩ := nI_ex g1 (by omega)
    obtain ⟨i, hi, ei⟩ := nI_ex g2 (by omega)
    have e1 : (nI e).toNatClampNeg = e := nI_clamp (by omega)
    have i1 : (nI i).toNatClampNeg = i := nI_clamp (by omega)
    have k1 : (nI (10 * e + i)).toNatClampNeg = 10 * e + i := nI_clamp (by omega)
    have k2 := inL_nI (j := 10 * e + i) (n := 80) (by omega) (by decide)
    rw [ee, e1] at g5 g6 g7
    rw [ee] at g1
    rw [ei] at g2
    simp only [fX8_perform, fX8_putChoice, o, hk, z54, h.1, h.2.1, h.2.2, st_T s hs, st_L s hs, st_R hs, mT_pW, mL_pW, mR_pW, mI_pW, mJ_pW, mI_pW0, mJ_pW0, sI_pW, sJ_pW, sI_pW0, nm, bd, q_b, ne_eq, Nat.add_eq_zero_iff, Nat.reduceEqDiff, Nat.reduceLeDiff, Nat.reduceAdd, and_false, false_and, and_true, true_and, and_self, not_false_eq_true, not_true_eq_false, reduceCtorEq, ↓reduceIte, li_T, ee, ei, c_isEvent h hs, hG, c_isHolder h hs, hw6, r_within, bo_t g1, bo_t g2, bo_t g3, bo_t g4, c_canBe h hs (show e < 8 by omega), bo_t (⟨g5, g6, g7⟩ : w.1 14 e = 2 ∧ w.1 0 8 ≤ w.1 21 e ∧ (w.1 25 e = 0 ∨ w.1 25 e = 1)), b1, fX6_at, at10, k1, k2.1, k2.2, sJ_pW, N_ch, e1, i1]
  · intro g
    simp only [fX8_perform, fX8_putChoice, fX8_putChoice_L69, o, hk, z54, h.1, h.2.1, h.2.2, st_T s hs, st_L s hs, st_R hs, mT_pW, mL_pW, mR_pW, mI_pW, mJ_pW, mI_pW0, mJ_pW0, sI_pW, sJ_pW, sI_pW0, nm, bd, q_b, ne_eq, Nat.add_eq_zero_iff, Nat.reduceEqDiff, Nat.reduceLeDiff, Nat.reduceAdd, and_false, false_and, and_true, true_and, and_self, not_false_eq_true, not_true_eq_false, reduceCtorEq, ↓reduceIte, li_T, c_isEvent h hs, hG, c_isHolder h hs, hw6, r_within]
    by_cases g1 : 0 ≤ d 16 ∧ d 16 < nI G
    · rw [bo_t g1, if_neg b1]
      by_cases g2 : 0 ≤ d 2 ∧ d 2 < nI H
      · rw [bo_t g2, if_neg b1]
        by_cases g3 : 0 ≤ d 17 ∧ d 17 ≤ 999999999
        · rw [bo_t g3, if_neg b1]
          by_cases g4 : 0 ≤ d 18 ∧ d 18 ≤ 999999999
          · rw [bo_t g4, if_neg b1]
            obtain ⟨e, he, ee⟩ := nI_ex g1 (by omega)
            have e1 : (nI e).toNatClampNeg = e := nI_clamp (by omega)
            have g5 : ¬ (w.1 14 e = 2 ∧ w.1 0 8 ≤ w.1 21 e ∧ (w.1 25 e = 0 ∨ w.1 25 e = 1)) := fun z => g ⟨g1, g2, g3, g4, by rw [ee, e1]; exact z.1, by rw [ee, e1]; exact z.2.1, by rw [ee, e1]; exact z.2.2⟩
            simp only [ee, c_canBe h hs (show e < 8 by omega), bo_f g5, nm, bd, ↓reduceIte]
          · rw [bo_f g4, if_pos rfl]
        · rw [bo_f g3, if_pos rfl]
      · rw [bo_f g2, if_pos rfl]
    · rw [bo_f g1, if_pos rfl]
theorem m_choose (h : Shp bk dr X) (R : Rl T G f w) (hG : w.1 13 16 = nI G) (hst : ∀ e, e < G → inL (w.1 25 e) 4) (hH : mI X 366 6 = nI H) (hH10 : H ≤ 10) :
    (kC H G w d → Ex (fX12_chooses 366 (d 16) (d 2) (d 17) (d 18) (wJ X 367 f)) fun r Y => r = 1 ∧ RX X T G (N_ch d w) Y) ∧ (¬ kC H G w d → fX12_chooses 366 (d 16) (d 2) (d 17) (d 18) (wJ X 367 f) = some (0, wJ X 367 f)) := by
  have hG8 := R.2.1
  have st1 : ∀ e, e < G → (¬ 1 < w.1 25 e ↔ (w.1 25 e = 0 ∨ w.1 25 e = 1)) := fun e he => by
    obtain ⟨j, hj, ej⟩ := inL_of (hst e he) (by decide)
    rw [ej]
    rcases (by omega : j = 0 ∨ j = 1 ∨ j = 2 ∨ j = 3) with rfl | rfl | rfl | rfl <;> decide
  have lt1 : ∀ x : Int32, (1 : Int64) < x.toInt64 ↔ 1 < x := fun x => wd_lt (x := 1)
  constructor
  · rintro ⟨g1, g2, g3, g4, g5, g6, g7⟩
    obtain ⟨e, he, ee⟩ := nI_ex g1 (by omega)
    obtain ⟨i, hi, ei⟩ := nI_ex g2 (by omega)
    have e8 : e < 8 := by omega
    have i10 : i < 10 := by omega
    have e1 : (nI e).toNatClampNeg = e := nI_clamp (by omega)
    have i1 : (nI i).toNatClampNeg = i := nI_clamp (by omega)
    rw [ee, e1] at g5 g6 g7
    rw [ee] at g1
    rw [ei] at g2
    have R1 : Rl T G (q_u1 f (aH e i 1) (d 17).toInt64) (uJ w 32 (10 * e + i) (d 17).toInt64) := R.wJ (Pl.ho e i 1 he i10 (by decide)) (by decide) rfl
    have R2 : Rl T G (q_u1 (q_u1 f (aH e i 1) (d 17).toInt64) (aH e i 2) (d 18).toInt64) (uJ (uJ w 32 (10 * e + i) (d 17).toInt64) 33 (10 * e + i) (d 18).toInt64) := R1.wJ (Pl.ho e i 2 he i10 (by decide)) (by decide) rfl
    have g7' : ¬ 1 < w.1 25 e := (st1 e he).mpr g7
    have g6' : ¬ w.1 21 e < w.1 0 8 := i32_nlt.mpr g6
    simp only [fX12_chooses, h.1, h.2.1, h.2.2, li_T, li_L, li_R, nm, bd, q_b, ne_eq, Nat.reduceEqDiff, reduceCtorEq, and_false, false_and, and_true, true_and, and_self, not_false_eq_true, not_true_eq_false, ↓reduceIte, mT_wJ, mL_wJ, mR_wJ, mI_wJ, mJ_wJ, sJ_wJ, Nat.reduceLT, l60.1, l60.2.1, l60.2.2, l61.1, l61.2.1, l61.2.2, l62.1, l62.2.1, l62.2.2, ee, ei, m_isEvent h R hG, bo_t g1, b1, r_of0, r_of5, r_of12, bE1 e8, bE2 e8, bE3 e8, R.e0 he, R.e5 he, R.e12 he g5, cv_eq, wd_2, g5, cv_gt, lt1, g7', m_today h R, wd_lt, g6', m_isHolder h hH hH10, bo_t g2, r_inb (d 17) 0 999999999 (lo := 0) (hi := 999999999) (by decide) (by decide), r_inb (d 18) 0 999999999 (lo := 0) (hi := 999999999) (by decide) (by decide), bo_t g3, bo_t g4, r_oH0, r_oH1, r_oH2, r_oH3, r_oH4, r_oH5, bH1 e8 i10, bH2 e8 i10, bH3 e8 i10]
    refine .ret ⟨rfl, _, rfl, ?_⟩
    unfold N_ch
    rw [ee, ei, e1, i1]
    exact R2
  · intro g
    simp only [fX12_chooses, fX12_chooses_L98, h.1, h.2.1, h.2.2, li_T, li_L, li_R, nm, bd, q_b, ne_eq, Nat.reduceEqDiff, reduceCtorEq, and_false, false_and, and_true, true_and, and_self, not_false_eq_true, not_true_eq_false, ↓reduceIte, mT_wJ, mL_wJ, mR_wJ, mI_wJ, mJ_wJ, sJ_wJ, Nat.reduceLT, l60.1, l60.2.1, l60.2.2, l61.1, l61.2.1, l61.2.2, l62.1, l62.2.1, l62.2.2, m_isEvent h R hG]
    by_cases g1 : 0 ≤ d 16 ∧ d 16 < nI G
    · rw [bo_t g1, if_neg b1]
      obtain ⟨e, he, ee⟩ := nI_ex g1 (by omega)
      have e8 : e < 8 := by omega
      have e1 : (nI e).toNatClampNeg = e := nI_clamp (by omega)
      have n0 : ¬ (((0 ≤ d 2 ∧ d 2 < nI H) ∧ (0 ≤ d 17 ∧ d 17 ≤ 999999999) ∧ (0 ≤ d 18 ∧ d 18 ≤ 999999999)) ∧ w.1 14 e = 2 ∧ w.1 0 8 ≤ w.1 21 e ∧ (w.1 25 e = 0 ∨ w.1 25 e = 1)) := fun z => g ⟨g1, z.1.1, z.1.2.1, z.1.2.2, by rw [ee, e1]; exact z.2.1, by rw [ee, e1]; exact z.2.2.1, by rw [ee, e1]; exact z.2.2.2⟩
      simp only [ee, h.1, h.2.1, h.2.2, li_T, li_L, li_R, nm, bd, q_b, ne_eq, Nat.reduceEqDiff, reduceCtorEq, and_false, false_and, and_true, true_and, and_self, not_false_eq_true, not_true_eq_false, ↓reduceIte, mT_wJ, mL_wJ, mR_wJ, mI_wJ, mJ_wJ, sJ_wJ, Nat.reduceLT, l60.1, l60.2.1, l60.2.2, l61.1, l61.2.1, l61.2.2, l62.1, l62.2.1, l62.2.2, r_of0, bE1 e8, bE2 e8, bE3 e8, R.e0 he, cv_eq, wd_2]
      by_cases g5 : w.1 14 e = 2
      · rw [if_pos g5]
        simp only [h.1, h.2.1, h.2.2, li_T, li_L, li_R, nm, bd, q_b, ne_eq, Nat.reduceEqDiff, reduceCtorEq, and_false, false_and, and_true, true_and, and_self, not_false_eq_true, not_true_eq_false, ↓reduceIte, mT_wJ, mL_wJ, mR_wJ, mI_wJ, mJ_wJ, sJ_wJ, Nat.reduceLT, l60.1, l60.2.1, l60.2.2, l61.1, l61.2.1, l61.2.2, l62.1, l62.2.1, l62.2.2, r_of5, bE1 e8, bE2 e8, bE3 e8, R.e5 he, cv_gt, lt1]
        by_cases g7 : 1 < w.1 25 e
        · rw [if_pos g7]
        · rw [if_neg g7]
          simp only [h.1, h.2.1, h.2.2, li_T, li_L, li_R, nm, bd, q_b, ne_eq, Nat.reduceEqDiff, reduceCtorEq, and_false, false_and, and_true, true_and, and_self, not_false_eq_true, not_true_eq_false, ↓reduceIte, mT_wJ, mL_wJ, mR_wJ, mI_wJ, mJ_wJ, sJ_wJ, Nat.reduceLT, l60.1, l60.2.1, l60.2.2, l61.1, l61.2.1, l61.2.2, l62.1, l62.2.1, l62.2.2, r_of12, bE1 e8, bE2 e8, bE3 e8, R.e12 he g5, m_today h R, cv_gt, wd_lt]
          by_cases g6 : w.1 21 e < w.1 0 8
          · rw [if_pos g6]
          · rw [if_neg g6]
            simp only [h.1, h.2.1, h.2.2, li_T, li_L, li_R, nm, bd, q_b, ne_eq, Nat.reduceEqDiff, reduceCtorEq, and_false, false_and, and_true, true_and, and_self, not_false_eq_true, not_true_eq_false, ↓reduceIte, mT_wJ, mL_wJ, mR_wJ, mI_wJ, mJ_wJ, sJ_wJ, Nat.reduceLT, l60.1, l60.2.1, l60.2.2, l61.1, l61.2.1, l61.2.2, l62.1, l62.2.1, l62.2.2, m_isHolder h hH hH10, r_inb (d 17) 0 999999999 (lo := 0) (hi := 999999999) (by decide) (by decide), r_inb (d 18) 0 999999999 (lo := 0) (hi := 999999999) (by decide) (by decide)]
            by_cases g2 : 0 ≤ d 2 ∧ d 2 < nI H
            · rw [bo_t g2, if_neg b1]
              by_cases g3 : 0 ≤ d 17 ∧ d 17 ≤ 999999999
              · rw [bo_t g3, if_neg b1]
                by_cases g4 : 0 ≤ d 18 ∧ d 18 ≤ 999999999
                · exact absurd ⟨⟨g2, g3, g4⟩, g5, i32_nlt.mp g6, (st1 e he).mp g7⟩ n0
                · rw [bo_f g4, if_pos rfl]
              · rw [bo_f g3, if_pos rfl]
            · rw [bo_f g2, if_pos rfl]
      · rw [if_neg g5]
    · rw [bo_f g1, if_pos rfl]
theorem c_days (h : Shp bk dr X) (hs : St s) (ok : Ok T G H w.1) {y : Nat} (hy : w.1 0 8 = nI y) (hy9 : y ≤ 999) (hd : mI X 15 = d) (hk : d 0 = 6) {n : Nat} (hn : 1200 ≤ n) :
    (∀ m : Nat, d 19 = nI m → 1 ≤ m → m ≤ 99 → y + m ≤ 999 → fX8_perform n s 15 (pW s w X) = some (nI (y + m), pW s (nf (fun _ => N_day T G H) m 0 w) X)) ∧ (¬ (1 ≤ d 19 ∧ d 19 ≤ 99 ∧ w.1 0 8 + d 19 ≤ 999) → fX8_perform n s 15 (pW s w X) = some (-1, pW s w X)) := by
  have hge := (st_ge s hs).1
  have o : ∀ u k, mI (pW s u X) 15 k = d k := fun u k => by rw [mI_pWo _ _ (by omega), hd]
  have z64 : ¬ (6 : Int32) = 4 := by decide
  have z65 : ¬ (6 : Int32) = 5 := by decide
  constructor
  · intro m hm h1 h99 hy2
    have c1 : (1 : Int32) ≤ nI m := by rw [show (1 : Int32) = nI 1 from rfl, nI_leI (by omega) (by omega)]; exact h1
    have c2 : nI m ≤ (99 : Int32) := by rw [show (99 : Int32) = nI 99 from rfl, nI_leI (by omega) (by omega)]; exact h99
    have c3 : ¬ (999 : Int32) < nI (y + m) := nI_nlt (a := 999) (b := y + m) hy2 (by omega)
    have dd : (nf (fun _ => N_day T G H) m 0 w).1 0 8 = nI (y + m) := nf_inv (f := fun _ => N_day T G H) (P := fun i b => b.1 0 8 = nI (y + i)) (L := m) (fun i b hi hb => by
      rw [N_day_fr.2, hb, nI_1]
      rfl) m 0 w (by omega) hy |>.trans (by rw [Nat.zero_add])
    simp only [fX8_perform, fX8_daysCanPass, o, hk, z64, z65, h.1, h.2.1, h.2.2, st_T s hs, st_L s hs, st_R hs, mT_pW, mL_pW, mR_pW, mI_pW, mJ_pW, mI_pW0, mJ_pW0, sI_pW, sJ_pW, sI_pW0, nm, bd, q_b, ne_eq, Nat.add_eq_zero_iff, Nat.reduceEqDiff, Nat.reduceLeDiff, Nat.reduceAdd, and_false, false_and, and_true, true_and, and_self, not_false_eq_true, not_true_eq_false, reduceCtorEq, ↓reduceIte, li_T, hm, r_within, bo_t (⟨c1, c2⟩ : (1 : Int32) ≤ nI m ∧ nI m ≤ 99), b1, hy, nI_add, c3, (c_passDays (X := X) h hs ok (n := n) (m := m) (by omega) (by omega) (by omega)).1, dd]
  · intro g
    simp only [fX8_perform, fX8_daysCanPass, fX8_daysCanPass_L26, o, hk, z64, z65, h.1, h.2.1, h.2.2, st_T s hs, st_L s hs, st_R hs, mT_pW, mL_pW, mR_pW, mI_pW, mJ_pW, mI_pW0, mJ_pW0, sI_pW, sJ_pW, sI_pW0, nm, bd, q_b, ne_eq, Nat.add_eq_zero_iff, Nat.reduceEqDiff, Nat.reduceLeDiff, Nat.reduceAdd, and_false, false_and, and_true, true_and, and_self, not_false_eq_true, not_true_eq_false, reduceCtorEq, ↓reduceIte, li_T, r_within]
    by_cases g1 : 1 ≤ d 19 ∧ d 19 ≤ 99
    · rw [bo_t g1, if_neg b1]
      have g2 : 999 < w.1 0 8 + d 19 := i32_nle.mp fun z => g ⟨g1.1, g1.2, z⟩
      simp only [g2, ↓reduceIte]
    · rw [bo_f g1]
      simp only [↓reduceIte]
end
