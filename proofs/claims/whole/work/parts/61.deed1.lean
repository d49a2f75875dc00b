/-! DEEDS: what is looked at -/
theorem b1 : ¬ (1 : Int32) = 0 := by decide
theorem i32_nlt {a b : Int32} : ¬ a < b ↔ b ≤ a := by
  rw [Int32.lt_iff_toInt_lt, Int32.le_iff_toInt_le]
  omega
theorem i32_nle {a b : Int32} : ¬ a ≤ b ↔ b < a := by
  rw [Int32.lt_iff_toInt_lt, Int32.le_iff_toInt_le]
  omega
/-- 1 of what is so, else 0 -/
noncomputable def bo (p : Prop) : Int32 := by
  classical
  exact if p then 1 else 0
theorem bo_t {p : Prop} (h : p) : bo p = 1 := by unfold bo; rw [if_pos h]
theorem bo_f {p : Prop} (h : ¬ p) : bo p = 0 := by unfold bo; rw [if_neg h]
theorem bo_0 (p : Prop) : bo p = 0 ↔ ¬ p := by
  by_cases h : p
  · rw [bo_t h]; exact ⟨fun z => absurd z b1, fun z => absurd h z⟩
  · rw [bo_f h]; exact ⟨fun _ => h, fun _ => rfl⟩
theorem bo_01 (p : Prop) : bo p = 0 ∨ bo p = 1 := by
  by_cases h : p
  · exact Or.inr (bo_t h)
  · exact Or.inl (bo_f h)
theorem bo_and {p q : Prop} : bo (p ∧ q) = if bo p = 0 then 0 else bo q := by
  by_cases h : p
  · rw [bo_t h, if_neg b1]
    by_cases g : q
    · rw [bo_t g, bo_t ⟨h, g⟩]
    · rw [bo_f g, bo_f (fun z => g z.2)]
  · rw [bo_f h, if_pos rfl, bo_f (fun z => h z.1)]
theorem r_within (v l u : Int32) (X : Mm) : fX11_isWithin v l u X = some (bo (l ≤ v ∧ v ≤ u), X) := by
  unfold fX11_isWithin fX11_isWithin_L14
  by_cases h1 : v < l
  · rw [if_pos h1, bo_f (fun z => i32_nlt.mpr z.1 h1)]
  · rw [if_neg h1]
    by_cases h2 : u < v
    · rw [if_pos h2, bo_f (fun z => i32_nlt.mpr z.2 h2)]
    · rw [if_neg h2, bo_t ⟨i32_nlt.mp h1, i32_nlt.mp h2⟩]
theorem r_inb (v l u : Int32) {lo hi : Int64} (h1 : l.toInt64 = lo) (h2 : u.toInt64 = hi) (X : Mm) : fX12_isIn 366 v.toInt64 lo hi X = some (bo (l ≤ v ∧ v ≤ u), X) := by
  rw [r_in v l u h1 h2]
  by_cases h : l ≤ v ∧ v ≤ u
  · rw [if_pos h, bo_t h]
  · rw [if_neg h, bo_f h]
/-- a number 0 .. n - 1 -/
theorem le_pred {v : Int32} {n : Nat} (hn : n < 1000) : (0 ≤ v.toInt64 ∧ v.toInt64 ≤ (nI n).toInt64 - 1) ↔ (0 ≤ v ∧ v < nI n) := by
  have e0 : (0 : Int64) ≤ v.toInt64 ↔ 0 ≤ v := wd_le (x := 0)
  rw [e0, nI_l (by omega)]
  constructor
  · rintro ⟨h1, h2⟩
    refine ⟨h1, ?_⟩
    by_cases z : n = 0
    · subst z
      rw [Int64.le_iff_toInt_le, Int32.toInt_toInt64] at h2
      rw [Int32.le_iff_toInt_le] at h1
      have : (lN 0 - 1 : Int64).toInt = -1 := by decide
      rw [this] at h2
      have : (0 : Int32).toInt = 0 := by decide
      omega
    · rw [show (1 : Int64) = lN 1 from rfl, lN_sub (by omega), Int64.le_iff_toInt_le, lN_toInt (by omega), Int32.toInt_toInt64] at h2
      rw [Int32.lt_iff_toInt_lt, nI_toInt (by omega)]
      omega
  · rintro ⟨h1, h2⟩
    refine ⟨h1, ?_⟩
    rw [Int32.lt_iff_toInt_lt, nI_toInt (by omega)] at h2
    rw [Int32.le_iff_toInt_le] at h1
    have : (0 : Int32).toInt = 0 := by decide
    rw [show (1 : Int64) = lN 1 from rfl, lN_sub (by omega), Int64.le_iff_toInt_le, lN_toInt (by omega), Int32.toInt_toInt64]
    omega
theorem r_inn {v : Int32} {n : Nat} (hn : n < 1000) (X : Mm) : fX12_isIn 366 v.toInt64 0 ((nI n).toInt64 - 1) X = some (bo (0 ≤ v ∧ v < nI n), X) := by
  rw [r_isIn]
  by_cases h : 0 ≤ v ∧ v < nI n
  · rw [if_pos ((le_pred hn).mpr h), bo_t h]
  · rw [if_neg (fun z => h ((le_pred hn).mp z)), bo_f h]
section
variable {bk dr s T G H : Nat} {X : Mm} {f : Nat → Int64} {w : Wt}
theorem c_isHolder (h : Shp bk dr X) (hs : St s) (v : Int32) : fX8_isHolder s v (pW s w X) = some (bo (0 ≤ v ∧ v < w.1 0 6), pW s w X) := by
  unfold fX8_isHolder fX8_isHolder_L16
  simp only [h.1, h.2.1, h.2.2, st_T s hs, st_L s hs, st_R hs, mT_pW, mL_pW, mR_pW, mI_pW, mJ_pW, mI_pW0, mJ_pW0, sI_pW, sJ_pW, sI_pW0, nm, bd, q_b, ne_eq, Nat.add_eq_zero_iff, Nat.reduceEqDiff, Nat.reduceLeDiff, Nat.reduceAdd, and_false, false_and, and_true, true_and, and_self, not_false_eq_true, not_true_eq_false, reduceCtorEq, ↓reduceIte]
  by_cases h1 : v < 0
  · rw [if_pos h1, bo_f (fun z => i32_nlt.mpr z.1 h1)]
  · rw [if_neg h1]
    by_cases h2 : w.1 0 6 ≤ v
    · rw [if_pos h2, bo_f (fun z => i32_nle.mpr z.2 h2)]
    · rw [if_neg h2, bo_t ⟨i32_nlt.mp h1, i32_nle.mp h2⟩]
theorem c_isPaper (h : Shp bk dr X) (hs : St s) (v : Int32) : fX8_isPaper s v (pW s w X) = some (bo (0 ≤ v ∧ v < w.1 0 7), pW s w X) := by
  unfold fX8_isPaper fX8_isPaper_L16
  simp only [h.1, h.2.1, h.2.2, st_T s hs, st_L s hs, st_R hs, mT_pW, mL_pW, mR_pW, mI_pW, mJ_pW, mI_pW0, mJ_pW0, sI_pW, sJ_pW, sI_pW0, nm, bd, q_b, ne_eq, Nat.add_eq_zero_iff, Nat.reduceEqDiff, Nat.reduceLeDiff, Nat.reduceAdd, and_false, false_and, and_true, true_and, and_self, not_false_eq_true, not_true_eq_false, reduceCtorEq, ↓reduceIte]
  by_cases h1 : v < 0
  · rw [if_pos h1, bo_f (fun z => i32_nlt.mpr z.1 h1)]
  · rw [if_neg h1]
    by_cases h2 : w.1 0 7 ≤ v
    · rw [if_pos h2, bo_f (fun z => i32_nle.mpr z.2 h2)]
    · rw [if_neg h2, bo_t ⟨i32_nlt.mp h1, i32_nle.mp h2⟩]
theorem c_isEvent (h : Shp bk dr X) (hs : St s) (v : Int32) : fX3_isThere (s + 13) v (pW s w X) = some (bo (0 ≤ v ∧ v < w.1 13 16), pW s w X) := by
  unfold fX3_isThere fX3_isThere_L16
  simp only [h.1, h.2.1, h.2.2, st_T s hs, st_L s hs, st_R hs, mT_pW, mL_pW, mR_pW, mI_pW, mJ_pW, mI_pW0, mJ_pW0, sI_pW, sJ_pW, sI_pW0, nm, bd, q_b, ne_eq, Nat.add_eq_zero_iff, Nat.reduceEqDiff, Nat.reduceLeDiff, Nat.reduceAdd, and_false, false_and, and_true, true_and, and_self, not_false_eq_true, not_true_eq_false, reduceCtorEq, ↓reduceIte]
  by_cases h1 : v < 0
  · rw [if_pos h1, bo_f (fun z => i32_nlt.mpr z.1 h1)]
  · rw [if_neg h1]
    by_cases h2 : w.1 13 16 ≤ v
    · rw [if_pos h2, bo_f (fun z => i32_nle.mpr z.2 h2)]
    · rw [if_neg h2, bo_t ⟨i32_nlt.mp h1, i32_nle.mp h2⟩]
theorem c_isTrade (h : Shp bk dr X) (hs : St s) (v : Int32) : fX10_isThere (s + 3) v (pW s w X) = some (bo (0 ≤ v ∧ v < w.1 3 9), pW s w X) := by
  unfold fX10_isThere fX10_isThere_L16
  simp only [h.1, h.2.1, h.2.2, st_T s hs, st_L s hs, st_R hs, mT_pW, mL_pW, mR_pW, mI_pW, mJ_pW, mI_pW0, mJ_pW0, sI_pW, sJ_pW, sI_pW0, nm, bd, q_b, ne_eq, Nat.add_eq_zero_iff, Nat.reduceEqDiff, Nat.reduceLeDiff, Nat.reduceAdd, and_false, false_and, and_true, true_and, and_self, not_false_eq_true, not_true_eq_false, reduceCtorEq, ↓reduceIte]
  by_cases h1 : v < 0
  · rw [if_pos h1, bo_f (fun z => i32_nlt.mpr z.1 h1)]
  · rw [if_neg h1]
    by_cases h2 : w.1 3 9 ≤ v
    · rw [if_pos h2, bo_f (fun z => i32_nle.mpr z.2 h2)]
    · rw [if_neg h2, bo_t ⟨i32_nlt.mp h1, i32_nle.mp h2⟩]
theorem m_isHolder (h : Shp bk dr X) (hH : mI X 366 6 = nI H) (hH10 : H ≤ 10) (v : Int32) : fX12_isHolder 366 v (wJ X 367 f) = some (bo (0 ≤ v ∧ v < nI H), wJ X 367 f) := by
  simp only [fX12_isHolder, h.1, h.2.1, h.2.2, li_T, li_L, li_R, nm, bd, q_b, ne_eq, Nat.reduceEqDiff, reduceCtorEq, and_false, false_and, and_true, true_and, and_self, not_false_eq_true, not_true_eq_false, ↓reduceIte, mT_wJ, mL_wJ, mR_wJ, mI_wJ, mJ_wJ, sJ_wJ, Nat.reduceLT, l60.1, l60.2.1, l60.2.2, l61.1, l61.2.1, l61.2.2, l62.1, l62.2.1, l62.2.2, hH, r_inn (v := v) (n := H) (by omega), bo_01]
theorem m_isPaper (h : Shp bk dr X) {P : Nat} (hP : mI X 366 7 = nI P) (hP5 : P ≤ 5) (v : Int32) : fX12_isPaper 366 v (wJ X 367 f) = some (bo (0 ≤ v ∧ v < nI P), wJ X 367 f) := by
  simp only [fX12_isPaper, h.1, h.2.1, h.2.2, li_T, li_L, li_R, nm, bd, q_b, ne_eq, Nat.reduceEqDiff, reduceCtorEq, and_false, false_and, and_true, true_and, and_self, not_false_eq_true, not_true_eq_false, ↓reduceIte, mT_wJ, mL_wJ, mR_wJ, mI_wJ, mJ_wJ, sJ_wJ, Nat.reduceLT, l60.1, l60.2.1, l60.2.2, l61.1, l61.2.1, l61.2.2, l62.1, l62.2.1, l62.2.2, hP, r_inn (v := v) (n := P) (by omega), bo_01]
theorem m_isTrade (h : Shp bk dr X) (R : Rl T G f w) (hT : w.1 3 9 = nI T) (v : Int32) : fX12_isTrade 366 v (wJ X 367 f) = some (bo (0 ≤ v ∧ v < nI T), wJ X 367 f) := by
  have := R.1
  simp only [fX12_isTrade, h.1, h.2.1, h.2.2, li_T, li_L, li_R, nm, bd, q_b, ne_eq, Nat.reduceEqDiff, reduceCtorEq, and_false, false_and, and_true, true_and, and_self, not_false_eq_true, not_true_eq_false, ↓reduceIte, mT_wJ, mL_wJ, mR_wJ, mI_wJ, mJ_wJ, sJ_wJ, Nat.reduceLT, l60.1, l60.2.1, l60.2.2, l61.1, l61.2.1, l61.2.2, l62.1, l62.2.1, l62.2.2, m_tm h R, hT, r_inn (v := v) (n := T) (by omega), bo_01]
theorem m_isEvent (h : Shp bk dr X) (R : Rl T G f w) (hG : w.1 13 16 = nI G) (v : Int32) : fX12_isEvent 366 v (wJ X 367 f) = some (bo (0 ≤ v ∧ v < nI G), wJ X 367 f) := by
  have := R.2.1
  simp only [fX12_isEvent, h.1, h.2.1, h.2.2, li_T, li_L, li_R, nm, bd, q_b, ne_eq, Nat.reduceEqDiff, reduceCtorEq, and_false, false_and, and_true, true_and, and_self, not_false_eq_true, not_true_eq_false, ↓reduceIte, mT_wJ, mL_wJ, mR_wJ, mI_wJ, mJ_wJ, sJ_wJ, Nat.reduceLT, l60.1, l60.2.1, l60.2.2, l61.1, l61.2.1, l61.2.2, l62.1, l62.2.1, l62.2.2, m_em h R, hG, r_inn (v := v) (n := G) (by omega), bo_01]
end
