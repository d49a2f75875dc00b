/-! QUERIES: show, names and numbers -/
def shf : Nat → Int32
| 0 => -5
| p + 1 => nI (5 * p)
theorem shf_s : ∀ p, p < 6 → nI (5 * p) + (-5) = shf p := by decide
theorem shf_u : ∀ p, p < 6 → (((nI (5 * p)).toUInt32 &&& Int32.toUInt32 31).toBitVec % 32).toNat = 5 * p := by decide
def rl : Nat → Nat → List Int32
| 0, _ => []
| t + 1, k => nI (48 + k / 10 ^ t % 10) :: rl t k
theorem rl_len (k : Nat) : ∀ t, (rl t k).length = t := by
  intro t
  induction t with
  | zero => rfl
  | succ t ih => rw [rl, List.length_cons, ih]
theorem rl_at (k : Nat) : ∀ t i, i < t → (rl t k).getD i 0 = nI (48 + k / 10 ^ (t - 1 - i) % 10) := by
  intro t
  induction t with
  | zero => intro i hi; omega
  | succ t ih =>
    intro i hi
    rw [rl]
    cases i with
    | zero => rfl
    | succ i =>
      rw [List.getD_cons_succ, ih i (by omega), show t + 1 - 1 - (i + 1) = t - 1 - i by omega]
theorem dv10 (k t : Nat) : k / 10 ^ t / 10 = k / 10 ^ (t + 1) := by rw [Nat.div_div_eq_div_mul, Nat.pow_succ]
theorem dg_ex {k : Nat} (hk : k < 2 ^ 63) : ∃ D, D < 19 ∧ k / 10 ^ (D + 1) = 0 ∧ ∀ j, j < D → ¬ k / 10 ^ (j + 1) = 0 := by
  have ex : ∃ D, k / 10 ^ (D + 1) = 0 := ⟨18, Nat.div_eq_of_lt (by omega)⟩
  obtain ⟨D, h1, h2⟩ := pk_least (fun D => k / 10 ^ (D + 1) = 0) ex
  refine ⟨D, ?_, h1, h2⟩
  by_cases z : D < 19
  · exact z
  · exact absurd (Nat.div_eq_of_lt (by omega)) (h2 18 (by omega))
section
variable {bk dr H P n T G L : Nat} {X : Mm}
theorem c_nmL (n : Nat) {code : Nat} (hc : code < 2 ^ 30) : ∀ (q : Nat) (X : Mm) (L j : Nat), q ≤ 6 → q < j → Shp bk dr X → mI X 362 1 = nI L → L + q ≤ 300 → ∃ Y, fX7_addName_L3 n j 362 (nI code) (shf q) X = some ((), Y) ∧ App 362 363 1 L (rbC q code) X Y := by
  intro q
  induction q with
  | zero =>
    intro X L j _ hj h hL _
    obtain ⟨j, rfl⟩ : ∃ k, j = k + 1 := ⟨j - 1, by omega⟩
    refine ⟨X, ?_, App.nil hL⟩
    rw [fX7_addName_L3, if_pos (by decide)]
  | succ p ih =>
    intro X L j hq hj h hL hL3
    obtain ⟨j, rfl⟩ : ∃ k, j = k + 1 := ⟨j - 1, by omega⟩
    have e1 : ¬ shf (p + 1) < 0 := nI_pos (by omega)
    have e2 : (q_ushr (nI code) (shf (p + 1))) &&& (31 : Int32) = nI (code / 32 ^ p % 32) := by
      unfold q_ushr
      show ((nI code).toUInt32 >>> ((nI (5 * p)).toUInt32 &&& Int32.toUInt32 31)).toInt32 &&& 31 = _
      rw [pk_ushrN (n := code) (by omega) (nI (5 * p)) (5 * p) (shf_u p (by omega)), pk_andN (n := code / 2 ^ (5 * p)) (Nat.lt_of_le_of_lt (Nat.div_le_self _ _) (by omega)) 5 (by decide), Nat.pow_mul]
    have e3 : shf (p + 1) + (-5) = shf p := shf_s p (by omega)
    rw [fX7_addName_L3, if_neg e1, rbC]
    simp only [e2, nm]
    have x32 : code / 32 ^ p % 32 < 32 := Nat.mod_lt _ (by decide)
    generalize code / 32 ^ p % 32 = x at *
    by_cases z : x = 0
    · subst z
      rw [if_pos (show nI 0 = 0 from rfl), if_pos rfl]
      simp only [fX7_addName_L28, nm, e3]
      exact ih X L j (by omega) (by omega) h hL (by omega)
    · have z' : ¬ nI x = 0 := fun y => z ((nI_eq (b := 0) (by omega) (by omega)).mp y)
      have e4 : ((97 : Int32) + nI x) - 1 = nI (96 + x) := by
        rw [show (97 : Int32) = nI 97 from rfl, nI_add, show 97 + x = 96 + x + 1 by omega, nI_pred]
      obtain ⟨Y, y1, y2⟩ := c_ab h hL (by omega) (nI (96 + x))
      rw [by8_nI (by omega)] at y2
      obtain ⟨Z, z1, z2⟩ := ih Y (L + 1) j (by omega) (by omega) (y2.shp h) y2.2.1 (by omega)
      rw [if_neg z', if_neg z]
      refine ⟨Z, ?_, y2.trans z2⟩
      simp only [h.1, h.2.1, h.2.2, li_T, li_L, li_R, nm, bd, q_b, ne_eq, Nat.reduceEqDiff, reduceCtorEq, and_false, false_and, and_true, true_and, and_self, not_false_eq_true, not_true_eq_false, ↓reduceIte, e4, y1, fX7_addName_L28, e3]
      exact z1
theorem c_nm (h : Shp bk dr X) (hn : 64 ≤ n) {l : List Nat} (hl : Nm l) (hL : mI X 362 1 = nI L) (hL3 : L + 6 ≤ 300) : ∃ Y, fX7_addName n 362 (nI (c5 l)) X = some ((), Y) ∧ App 362 363 1 L (nmB l) X Y := by
  have g := c_nmL (bk := bk) (dr := dr) n (c5_6 hl) 6 X L n (by omega) (by omega) h hL hL3
  rw [rbC_nm hl] at g
  exact g
theorem m_nm2 (n : Nat) : ∀ (k v : Nat) (X : Mm) (L j : Nat), k < 6 → v < 27 ^ (k + 1) → k + 1 < j → Shp bk dr X → mI X 366 34 = nI L → L + k + 1 ≤ 400 → ∃ Y, fX12_putsName_L24 n j 366 (lN (27 ^ k)) (lN v) X = some ((), Y) ∧ App 366 381 34 L (rbM k v) X Y := by
  intro k
  induction k with
  | zero =>
    intro v X L j hk hv hj h hL hL3
    obtain ⟨j, rfl⟩ : ∃ k, j = k + 2 := ⟨j - 2, by omega⟩
    have v27 : v < 27 := hv
    obtain ⟨Y, y1, y2⟩ := m_ps h hL (by omega) (nI (96 + v))
    rw [by8_nI (by omega)] at y2
    refine ⟨Y, ?_, y2⟩
    have a1 : ¬ lg_cmp (lN (27 ^ 0)) 0 ≤ 0 := by decide
    have a2 : ¬ lN (27 ^ 0) = 0 := by decide
    have a3 : (96 : Int32) + (lN v / lN (27 ^ 0)).toInt32 = nI (96 + v) := by
      rw [pk_lDiv (a := v) (b := 27 ^ 0) (by omega) (by decide) (by decide), lN_i, show (96 : Int32) = nI 96 from rfl, nI_add, Nat.pow_zero, Nat.div_one]
    have a4 : ¬ (27 : Int64) = 0 := by decide
    have a5 : lg_cmp (lN (27 ^ 0) / 27) 0 ≤ 0 := by decide
    rw [fX12_putsName_L24, if_neg a1, if_neg a2]
    simp only [h.1, h.2.1, h.2.2, li_T, li_L, li_R, nm, bd, q_b, ne_eq, Nat.reduceEqDiff, reduceCtorEq, and_false, false_and, and_true, true_and, and_self, not_false_eq_true, not_true_eq_false, ↓reduceIte, a3, y1, a2, a4]
    rw [fX12_putsName_L24, if_pos a5]
  | succ k ih =>
    intro v X L j hk hv hj h hL hL3
    obtain ⟨j, rfl⟩ : ∃ k, j = k + 1 := ⟨j - 1, by omega⟩
    have p6 : 27 ^ (k + 1) ≤ 27 ^ 6 := Nat.pow_le_pow_right (by decide) (by omega)
    have p7 : 27 ^ (k + 2) ≤ 27 ^ 7 := Nat.pow_le_pow_right (by decide) (by omega)
    have p0 : 0 < 27 ^ (k + 1) := Nat.pow_pos (by decide)
    have q1 : v / 27 ^ (k + 1) < 27 := Nat.div_lt_of_lt_mul (by rw [← Nat.pow_succ]; exact hv)
    have q2 : v % 27 ^ (k + 1) < 27 ^ (k + 1) := Nat.mod_lt _ p0
    have v7 : v < 27 ^ 7 := Nat.lt_of_lt_of_le hv p7
    have n6 : (27 : Nat) ^ 6 = 387420489 := by decide
    have n7 : (27 : Nat) ^ 7 = 10460353203 := by decide
    obtain ⟨Y, y1, y2⟩ := m_ps h hL (by omega) (nI (96 + v / 27 ^ (k + 1)))
    rw [by8_nI (by omega)] at y2
    obtain ⟨Z, z1, z2⟩ := ih (v % 27 ^ (k + 1)) Y (L + 1) j (by omega) q2 (by omega) (y2.shp h) y2.2.1 (by omega)
    refine ⟨Z, ?_, y2.trans z2⟩
    have a2 : ¬ lN (27 ^ (k + 1)) = 0 := w_n0 (by omega) p0
    have a1 : ¬ lg_cmp (lN (27 ^ (k + 1))) 0 ≤ 0 := fun q => by
      have := (pk_lLE (a := 27 ^ (k + 1)) (b := 0) (by omega) (by omega)).mp (cv_le.mp q)
      omega
    have a3 : (96 : Int32) + (lN v / lN (27 ^ (k + 1))).toInt32 = nI (96 + v / 27 ^ (k + 1)) := by
      rw [pk_lDiv (a := v) (b := 27 ^ (k + 1)) (by omega) p0 (by omega), lN_i, show (96 : Int32) = nI 96 from rfl, nI_add]
    have a4 : ¬ (27 : Int64) = 0 := by decide
    have a5 : lN v - lN v / lN (27 ^ (k + 1)) * lN (27 ^ (k + 1)) = lN (v % 27 ^ (k + 1)) := pk_lRem (by omega) p0 (by omega)
    have a6 : lN (27 ^ (k + 1)) / 27 = lN (27 ^ k) := by
      rw [show (27 : Int64) = lN 27 from rfl, pk_lDiv (a := 27 ^ (k + 1)) (b := 27) (by omega) (by decide) (by decide), Nat.pow_succ, Nat.mul_div_cancel _ (by decide)]
    rw [fX12_putsName_L24, if_neg a1, if_neg a2]
    simp only [h.1, h.2.1, h.2.2, li_T, li_L, li_R, nm, bd, q_b, ne_eq, Nat.reduceEqDiff, reduceCtorEq, and_false, false_and, and_true, true_and, and_self, not_false_eq_true, not_true_eq_false, ↓reduceIte, a3, y1, a2, a4, a5, a6]
    exact z1
theorem m_nm1 (n m : Nat) {K : Nat} (hm : m < 6) (h1 : 27 ^ m ≤ K) (h2 : K < 27 ^ (m + 1)) : ∀ (d k j : Nat), k + d = m → d < j → fX12_putsName_L2 n j 366 (lN K) (lN (27 ^ k)) X = fX12_putsName_L24 n n 366 (lN (27 ^ m)) (lN K) X := by
  have n7 : (27 : Nat) ^ 7 = 10460353203 := by decide
  have p7 : 27 ^ (m + 1) ≤ 27 ^ 7 := Nat.pow_le_pow_right (by decide) (by omega)
  have n6 : (27 : Nat) ^ 6 = 387420489 := by decide
  intro d
  induction d with
  | zero =>
    intro k j hk hj
    obtain ⟨j, rfl⟩ : ∃ k, j = k + 1 := ⟨j - 1, by omega⟩
    obtain rfl : k = m := by omega
    have p0 : 0 < 27 ^ k := Nat.pow_pos (by decide)
    have p6 : 27 ^ k ≤ 27 ^ 6 := Nat.pow_le_pow_right (by decide) (by omega)
    have a2 : ¬ lN (27 ^ k) = 0 := w_n0 (by omega) p0
    have q : lg_cmp (lN K / lN (27 ^ k)) 27 < 0 := by
      rw [pk_lDiv (a := K) (b := 27 ^ k) (by omega) p0 (by omega)]
      have : K / 27 ^ k < 27 := Nat.div_lt_of_lt_mul (by rw [← Nat.pow_succ]; exact h2)
      exact cv_lt.mpr ((pk_lLT (a := K / 27 ^ k) (b := 27) (by omega) (by decide)).mpr this)
    rw [fX12_putsName_L2, if_neg a2, if_pos q]
  | succ d ih =>
    intro k j hk hj
    obtain ⟨j, rfl⟩ : ∃ k, j = k + 1 := ⟨j - 1, by omega⟩
    have p0 : 0 < 27 ^ k := Nat.pow_pos (by decide)
    have p6 : 27 ^ k ≤ 27 ^ 6 := Nat.pow_le_pow_right (by decide) (by omega)
    have p8 : 27 ^ (k + 1) ≤ 27 ^ m := Nat.pow_le_pow_right (by decide) (by omega)
    have a2 : ¬ lN (27 ^ k) = 0 := w_n0 (by omega) p0
    have q : ¬ lg_cmp (lN K / lN (27 ^ k)) 27 < 0 := by
      rw [pk_lDiv (a := K) (b := 27 ^ k) (by omega) p0 (by omega)]
      have g : 27 ≤ K / 27 ^ k := (Nat.le_div_iff_mul_le p0).mpr (by rw [Nat.mul_comm, ← Nat.pow_succ]; omega)
      have l : K / 27 ^ k ≤ K := Nat.div_le_self _ _
      intro z
      have := (pk_lLT (a := K / 27 ^ k) (b := 27) (by omega) (by decide)).mp (cv_lt.mp z)
      omega
    have e : lN (27 ^ k) * 27 = lN (27 ^ (k + 1)) := by rw [show (27 : Int64) = lN 27 from rfl, lN_mul, Nat.pow_succ]
    rw [fX12_putsName_L2, if_neg a2, if_neg q]
    simp only [nm, e]
    exact ih (k + 1) j (by omega) (by omega)
theorem m_nm (h : Shp bk dr X) (hn : 64 ≤ n) {l : List Nat} (hl : Nm l) (hL : mI X 366 34 = nI L) (hL3 : L + 6 ≤ 400) : ∃ Y, fX12_putsName n 366 (lN (c27 l)) X = some ((), Y) ∧ App 366 381 34 L (nmB l) X Y := by
  obtain ⟨l1, l2, l3⟩ := id hl
  cases l with
  | nil => exact absurd l1 (by decide)
  | cons x l =>
    rw [List.length_cons] at l2
    have lt := c27_lt (x :: l) l3
    have ge : 27 ^ l.length ≤ c27 (x :: l) := by
      rw [c27_cons]
      have := Nat.mul_le_mul_right (27 ^ l.length) (l3 x List.mem_cons_self).1
      omega
    have s := m_nm1 (X := X) n l.length (K := c27 (x :: l)) (by omega) ge lt l.length 0 n (by omega) (by omega)
    obtain ⟨Y, y1, y2⟩ := m_nm2 (bk := bk) (dr := dr) n l.length (c27 (x :: l)) X L n (by omega) lt (by omega) h hL (by omega)
    rw [rbM_l l x (fun y hy => l3 y (List.mem_cons_of_mem _ hy))] at y2
    refine ⟨Y, ?_, y2⟩
    unfold fX12_putsName
    exact s.trans y1
/-! numbers -/
theorem c_dgL (n : Nat) {K D : Nat} (hK : K < 2 ^ 63) (hD : D < 19) (d1 : K / 10 ^ (D + 1) = 0) (d2 : ∀ j, j < D → ¬ K / 10 ^ (j + 1) = 0) : ∀ (d i j : Nat), i + d = D → d < j → fX7_addNumber_L27 n j 362 (lN K) (nI (i + 1)) (lN (K / 10 ^ (i + 1))) X = fX7_addNumber_L56 n 362 (lN K) (nI (D + 1)) X := by
  intro d
  induction d with
  | zero =>
    intro i j hi hj
    obtain ⟨j, rfl⟩ : ∃ k, j = k + 1 := ⟨j - 1, by omega⟩
    obtain rfl : i = D := by omega
    rw [d1, fX7_addNumber_L27, if_pos (by decide)]
  | succ d ih =>
    intro i j hi hj
    obtain ⟨j, rfl⟩ : ∃ k, j = k + 1 := ⟨j - 1, by omega⟩
    have k1 : K / 10 ^ (i + 1) ≤ K := Nat.div_le_self _ _
    have z := d2 i (by omega)
    have e1 : ¬ lg_cmp (lN (K / 10 ^ (i + 1))) 0 ≤ 0 := fun q => by
      have := (pk_lLE (a := K / 10 ^ (i + 1)) (b := 0) (by omega) (by omega)).mp (cv_le.mp q)
      exact z (Nat.le_zero.mp this)
    have e2 : ¬ (300 : Int32) ≤ nI (i + 1) := nI_ge (a := i + 1) (b := 300) (by omega) (by omega)
    have e3 : ¬ (10 : Int64) = 0 := by decide
    have e4 : lN (K / 10 ^ (i + 1)) / 10 = lN (K / 10 ^ (i + 1 + 1)) := by
      rw [show (10 : Int64) = lN 10 from rfl, pk_lDiv (a := K / 10 ^ (i + 1)) (b := 10) (by omega) (by decide) (by decide), dv10]
    rw [fX7_addNumber_L27, if_neg e1, if_neg e2]
    simp only [nm, e3, ↓reduceIte, e4, nI_1]
    exact ih (i + 1) j (by omega) (by omega)
def pr1 : Nat → Int32
| 0 => -1
| q + 1 => nI q
theorem pr1_s (q : Nat) : nI q + (-1) = pr1 q := by
  cases q with
  | zero => rfl
  | succ q => exact pk_m1 q
theorem c_dgW (n : Nat) {K D : Nat} (hK : K < 2 ^ 63) (hD : D < 19) : ∀ (q : Nat) (X : Mm) (j : Nat), q ≤ D + 1 → q < j → Shp bk dr X → mI X 362 1 = nI L → L + D + 1 ≤ 300 → ∃ Y, fX7_addNumber_L76 n j 362 (lN (K / 10 ^ (D + 1 - q))) (nI (D + 1)) (pr1 q) X = some ((), Y) ∧ mI Y 362 1 = nI (L + (D + 1)) ∧ (∀ i, i < q → mI Y 363 (L + i) = nI (48 + K / 10 ^ (D - i) % 10)) ∧ (∀ i, (i < L ∨ L + q ≤ i) → mI Y 363 i = mI X 363 i) ∧ (∀ c' k', c' ≠ 363 → ¬ (c' = 362 ∧ k' = 1) → mI Y c' k' = mI X c' k') ∧ mJ Y = mJ X ∧ mT Y = mT X ∧ mL Y = mL X ∧ mR Y = mR X := by
  intro q
  induction q with
  | zero =>
    intro X j _ hj h hL hL3
    obtain ⟨j, rfl⟩ : ∃ k, j = k + 1 := ⟨j - 1, by omega⟩
    refine ⟨sI X 362 1 (nI L + nI (D + 1)), ?_, ?_, fun i hi => absurd hi (Nat.not_lt_zero i), fun i _ => ?_, fun c' k' h1 h2 => ?_, rfl, rfl, rfl, rfl⟩
    · rw [fX7_addNumber_L76, if_pos (by decide)]
      simp only [h.1, h.2.1, h.2.2, li_T, li_L, li_R, nm, bd, q_b, ne_eq, Nat.reduceEqDiff, reduceCtorEq, and_false, false_and, and_true, true_and, and_self, not_false_eq_true, not_true_eq_false, ↓reduceIte, hL]
    · rw [mI_sI, if_pos ⟨rfl, rfl⟩, nI_add]
    · rw [mI_sI, if_neg (by omega)]
    · rw [mI_sI, if_neg h2]
  | succ q ih =>
    intro X j hq hj h hL hL3
    obtain ⟨j, rfl⟩ : ∃ k, j = k + 1 := ⟨j - 1, by omega⟩
    have e0 : ¬ pr1 (q + 1) < 0 := nI_pos (by omega)
    have e1 : (nI (L + q)).toNatClampNeg = L + q := nI_clamp (by omega)
    have e2 := inL_nI (j := L + q) (n := 300) (by omega) (by decide)
    have e3 : ¬ (10 : Int64) = 0 := by decide
    have ep : D + 1 - (q + 1) = D - q := by omega
    have k1 : K / 10 ^ (D - q) ≤ K := Nat.div_le_self _ _
    have e4 : lN (K / 10 ^ (D - q)) / 10 = lN (K / 10 ^ (D + 1 - q)) := by
      rw [show (10 : Int64) = lN 10 from rfl, pk_lDiv (a := K / 10 ^ (D - q)) (b := 10) (by omega) (by decide) (by decide), dv10, show D - q + 1 = D + 1 - q by omega]
    have m10 : K / 10 ^ (D - q) % 10 < 10 := Nat.mod_lt _ (by decide)
    have e5 : (((((48 : Int64) + (lN (K / 10 ^ (D - q)) - lN (K / 10 ^ (D - q)) / 10 * 10)).toInt32)).toInt8.toInt32).toInt8.toInt32 = nI (48 + K / 10 ^ (D - q) % 10) := by
      have r := pk_lRem (a := K / 10 ^ (D - q)) (b := 10) (by omega) (by decide) (by decide)
      rw [show (10 : Int64) = lN 10 from rfl, r, show (48 : Int64) = lN 48 from rfl, lN_add, lN_i]
      exact by8_nI (by omega)
    rw [e4] at e5
    have hX1 : mI (sI X 363 (L + q) (nI (48 + K / 10 ^ (D - q) % 10))) 362 1 = nI L := by rw [mI_sI, if_neg (by omega)]; exact hL
    obtain ⟨Y, y1, y2, y3, y4, y5, y6, y7, y8, y9⟩ := ih (sI X 363 (L + q) (nI (48 + K / 10 ^ (D - q) % 10))) j (by omega) (by omega) (h.sI _ _ _) hX1 hL3
    refine ⟨Y, ?_, y2, fun i hi => ?_, fun i hi => ?_, fun c' k' h1 h2 => ?_, y6, y7, y8, y9⟩
    · have pq : pr1 (q + 1) = nI q := rfl
      rw [ep, fX7_addNumber_L76, if_neg e0, pq]
      simp only [h.1, h.2.1, h.2.2, li_T, li_L, li_R, nm, bd, q_b, ne_eq, Nat.reduceEqDiff, reduceCtorEq, and_false, false_and, and_true, true_and, and_self, not_false_eq_true, not_true_eq_false, ↓reduceIte, hL, nI_add, e1, e2.1, e2.2, e3, e5, e4, pr1_s]
      exact y1
    · by_cases z : i = q
      · subst z
        rw [y4 _ (by omega), mI_sI, if_pos ⟨rfl, rfl⟩]
      · exact y3 i (by omega)
    · rw [y4 i (by omega), mI_sI, if_neg (by omega)]
    · rw [y5 c' k' h1 h2, mI_sI, if_neg (fun z => h1 z.1)]
theorem c_dg (h : Shp bk dr X) (hn : 64 ≤ n) {K D : Nat} (hK : K < 2 ^ 63) (hD : D < 19) (d1 : K / 10 ^ (D + 1) = 0) (d2 : ∀ j, j < D → ¬ K / 10 ^ (j + 1) = 0) {v : Int64} (hv : (if 0 < v then v else -v) = lN K) (hL : mI X 362 1 = nI L) (hL3 : L + D + 1 ≤ 300) : ∃ Y, fX7_addNumber_L12 n 362 v X = some ((), Y) ∧ App 362 363 1 L (rl (D + 1) K) X Y := by
  obtain ⟨Y, y1, y2, y3, y4, y5, y6, y7, y8, y9⟩ := c_dgW (bk := bk) (dr := dr) (L := L) n hK hD (D + 1) X n (by omega) (by omega) h hL (by omega)
  rw [Nat.sub_self, Nat.pow_zero, Nat.div_one] at y1
  refine ⟨Y, ?_, hL, ?_, fun i hi => y4 i (by rw [rl_len] at hi; exact hi), fun i hi => ?_, y5, y6, y7, y8, y9⟩
  · have e3 : ¬ (10 : Int64) = 0 := by decide
    have e4 : lN K / 10 = lN (K / 10 ^ (0 + 1)) := by
      rw [show (10 : Int64) = lN 10 from rfl, pk_lDiv (a := K) (b := 10) hK (by decide) (by decide)]
    have e5 : nI (L + (D + 1)) ≤ (300 : Int32) := nI_le (b := 300) (by omega) (by decide)
    have e6 : nI (D + 1) - 1 = nI D := nI_pred D
    have s := c_dgL (X := X) n hK hD d1 d2 D 0 n (by omega) (by omega)
    have s' : fX7_addNumber_L27 n n 362 (lN K) 1 (lN (K / 10 ^ (0 + 1))) X = _ := s
    unfold fX7_addNumber_L12
    simp only [nm, hv, e3, ↓reduceIte, e4, s']
    unfold fX7_addNumber_L56
    simp only [h.1, h.2.1, h.2.2, li_T, li_L, li_R, nm, bd, q_b, ne_eq, Nat.reduceEqDiff, reduceCtorEq, and_false, false_and, and_true, true_and, and_self, not_false_eq_true, not_true_eq_false, ↓reduceIte, hL, nI_add, e5, e6]
    exact y1
  · rw [rl_len]; exact y2
  · rw [rl_len] at hi
    rw [y3 i hi, rl_at _ _ _ hi, show D + 1 - 1 - i = D - i by omega]
theorem m_dgL (n : Nat) {K D : Nat} (hK : K < 2 ^ 63) (hD : D < 19) (d1 : K / 10 ^ (D + 1) = 0) (d2 : ∀ j, j < D → ¬ K / 10 ^ (j + 1) = 0) : ∀ (d i j : Nat), i + d = D → d < j → fX12_putsNumber_L28 n j 366 (lN K) (lN (10 ^ i)) X = fX12_putsNumber_L50 n n 366 (lN K) (lN (10 ^ D)) X := by
  have n18 : (10 : Nat) ^ 18 = 1000000000000000000 := by decide
  intro d
  induction d with
  | zero =>
    intro i j hi hj
    obtain ⟨j, rfl⟩ : ∃ k, j = k + 1 := ⟨j - 1, by omega⟩
    obtain rfl : i = D := by omega
    have p0 : 0 < 10 ^ i := Nat.pow_pos (by decide)
    have p18 : 10 ^ i ≤ 10 ^ 18 := Nat.pow_le_pow_right (by decide) (by omega)
    have a2 : ¬ lN (10 ^ i) = 0 := fun z => by
      have := (pk_lEQ (a := 10 ^ i) (b := 0) (by omega) (by omega)).mp z
      omega
    have k1 : K / 10 ^ i ≤ K := Nat.div_le_self _ _
    have q : lg_cmp (lN K / lN (10 ^ i)) 10 < 0 := by
      rw [pk_lDiv (a := K) (b := 10 ^ i) hK p0 (by omega)]
      rw [← dv10] at d1
      exact cv_lt.mpr ((pk_lLT (a := K / 10 ^ i) (b := 10) (by omega) (by decide)).mpr (by omega))
    rw [fX12_putsNumber_L28, if_neg a2, if_pos q]
  | succ d ih =>
    intro i j hi hj
    obtain ⟨j, rfl⟩ : ∃ k, j = k + 1 := ⟨j - 1, by omega⟩
    have p0 : 0 < 10 ^ i := Nat.pow_pos (by decide)
    have p18 : 10 ^ i ≤ 10 ^ 18 := Nat.pow_le_pow_right (by decide) (by omega)
    have a2 : ¬ lN (10 ^ i) = 0 := fun z => by
      have := (pk_lEQ (a := 10 ^ i) (b := 0) (by omega) (by omega)).mp z
      omega
    have k1 : K / 10 ^ i ≤ K := Nat.div_le_self _ _
    have z := d2 i (by omega)
    rw [← dv10] at z
    have q : ¬ lg_cmp (lN K / lN (10 ^ i)) 10 < 0 := by
      rw [pk_lDiv (a := K) (b := 10 ^ i) hK p0 (by omega)]
      intro y
      have := (pk_lLT (a := K / 10 ^ i) (b := 10) (by omega) (by decide)).mp (cv_lt.mp y)
      exact z (Nat.div_eq_of_lt this)
    have e : lN (10 ^ i) * 10 = lN (10 ^ (i + 1)) := by rw [show (10 : Int64) = lN 10 from rfl, lN_mul, Nat.pow_succ]
    rw [fX12_putsNumber_L28, if_neg a2, if_neg q]
    simp only [nm, e]
    exact ih (i + 1) j (by omega) (by omega)
theorem m_dgW (n : Nat) {K : Nat} (hK : K < 2 ^ 63) : ∀ (t : Nat) (X : Mm) (L j : Nat), t < 19 → t + 1 < j → Shp bk dr X → mI X 366 34 = nI L → L + t + 1 ≤ 400 → ∃ Y, fX12_putsNumber_L50 n j 366 (lN K) (lN (10 ^ t)) X = some ((), Y) ∧ App 366 381 34 L (rl (t + 1) K) X Y := by
  have n18 : (10 : Nat) ^ 18 = 1000000000000000000 := by decide
  have z10 : ¬ (10 : Int64) = 0 := by decide
  have stp : ∀ (t : Nat) (X : Mm) (L j : Nat), t < 19 → Shp bk dr X → mI X 366 34 = nI L → L + t + 1 ≤ 400 → ∃ Y, fX12_putsNumber_L50 n (j + 1) 366 (lN K) (lN (10 ^ t)) X = fX12_putsNumber_L50 n j 366 (lN K) (lN (10 ^ t) / 10) Y ∧ App 366 381 34 L [nI (48 + K / 10 ^ t % 10)] X Y := by
    intro t X L j ht h hL hL3
    have p0 : 0 < 10 ^ t := Nat.pow_pos (by decide)
    have p18 : 10 ^ t ≤ 10 ^ 18 := Nat.pow_le_pow_right (by decide) (by omega)
    have a2 : ¬ lN (10 ^ t) = 0 := fun z => by
      have := (pk_lEQ (a := 10 ^ t) (b := 0) (by omega) (by omega)).mp z
      omega
    have a1 : ¬ lg_cmp (lN (10 ^ t)) 0 ≤ 0 := fun q => by
      have := (pk_lLE (a := 10 ^ t) (b := 0) (by omega) (by omega)).mp (cv_le.mp q)
      omega
    have k1 : K / 10 ^ t ≤ K := Nat.div_le_self _ _
    have m10 : K / 10 ^ t % 10 < 10 := Nat.mod_lt _ (by decide)
    have a3 : (48 : Int32) + ((lN K / lN (10 ^ t)) - (lN K / lN (10 ^ t)) / 10 * 10).toInt32 = nI (48 + K / 10 ^ t % 10) := by
      rw [pk_lDiv (a := K) (b := 10 ^ t) hK p0 (by omega), show (10 : Int64) = lN 10 from rfl, pk_lRem (a := K / 10 ^ t) (b := 10) (by omega) (by decide) (by decide), lN_i, show (48 : Int32) = nI 48 from rfl, nI_add]
    obtain ⟨Y, y1, y2⟩ := m_ps h hL (by omega) (nI (48 + K / 10 ^ t % 10))
    rw [by8_nI (by omega)] at y2
    refine ⟨Y, ?_, y2⟩
    rw [fX12_putsNumber_L50, if_neg a1, if_neg a2]
    simp only [h.1, h.2.1, h.2.2, li_T, li_L, li_R, nm, bd, q_b, ne_eq, Nat.reduceEqDiff, reduceCtorEq, and_false, false_and, and_true, true_and, and_self, not_false_eq_true, not_true_eq_false, ↓reduceIte, z10, a3, y1]
  intro t
  induction t with
  | zero =>
    intro X L j ht hj h hL hL3
    obtain ⟨j, rfl⟩ : ∃ k, j = k + 2 := ⟨j - 2, by omega⟩
    obtain ⟨Y, y1, y2⟩ := stp 0 X L (j + 1) ht h hL hL3
    refine ⟨Y, ?_, y2⟩
    rw [y1, fX12_putsNumber_L50, if_pos (by decide)]
  | succ t ih =>
    intro X L j ht hj h hL hL3
    obtain ⟨j, rfl⟩ : ∃ k, j = k + 1 := ⟨j - 1, by omega⟩
    obtain ⟨Y, y1, y2⟩ := stp (t + 1) X L j ht h hL (by omega)
    obtain ⟨Z, z1, z2⟩ := ih Y (L + 1) j (by omega) (by omega) (y2.shp h) y2.2.1 (by omega)
    refine ⟨Z, ?_, y2.trans z2⟩
    have p19 : 10 ^ (t + 1) ≤ 10 ^ 18 := Nat.pow_le_pow_right (by decide) (by omega)
    have a6 : lN (10 ^ (t + 1)) / 10 = lN (10 ^ t) := by
      rw [show (10 : Int64) = lN 10 from rfl, pk_lDiv (a := 10 ^ (t + 1)) (b := 10) (by omega) (by decide) (by decide), Nat.pow_succ, Nat.mul_div_cancel _ (by decide)]
    rw [y1, a6]
    exact z1
theorem m_dg (h : Shp bk dr X) (hn : 64 ≤ n) {K D : Nat} (hK : K < 2 ^ 63) (hD : D < 19) (d1 : K / 10 ^ (D + 1) = 0) (d2 : ∀ j, j < D → ¬ K / 10 ^ (j + 1) = 0) {v : Int64} (hv : (if 0 ≤ lg_cmp v 0 then v else -v) = lN K) (hL : mI X 366 34 = nI L) (hL3 : L + D + 1 ≤ 400) : ∃ Y, fX12_putsNumber_L12 n 366 v X = some ((), Y) ∧ App 366 381 34 L (rl (D + 1) K) X Y := by
  obtain ⟨Y, y1, y2⟩ := m_dgW (bk := bk) (dr := dr) n hK D X L n hD (by omega) h hL hL3
  refine ⟨Y, ?_, y2⟩
  have s := m_dgL (X := X) n hK hD d1 d2 D 0 n (by omega) (by omega)
  have g : fX12_putsNumber_L12 n 366 v X = fX12_putsNumber_L24 n 366 (lN K) X := by
    rw [← hv]
    unfold fX12_putsNumber_L12
    by_cases z : 0 ≤ lg_cmp v 0
    · rw [if_pos z, if_pos z]
    · rw [if_neg z, if_neg z]
  rw [g]
  unfold fX12_putsNumber_L24
  exact s.trans y1
/-- both write the same bytes of a number -/
theorem b_num (bk dr : Nat) (hn : 64 ≤ n) (v : Int64) : ∃ l : List Int32, l.length ≤ 20 ∧ (∀ (X : Mm) (L : Nat), Shp bk dr X → mI X 362 1 = nI L → L + 20 ≤ 300 → ∃ Y, fX7_addNumber n 362 v X = some ((), Y) ∧ App 362 363 1 L l X Y) ∧ ∀ (X : Mm) (L : Nat), Shp bk dr X → mI X 366 34 = nI L → L + 20 ≤ 400 → ∃ Y, fX12_putsNumber n 366 v X = some ((), Y) ∧ App 366 381 34 L l X Y := by
  have v1 := Int64.le_toInt v
  have v2 := Int64.toInt_lt v
  by_cases mn : v = -9223372036854775808
  · subst mn
    have nc : ¬ 0 ≤ lg_cmp (-9223372036854775808) 0 := by decide
    have z10 : ¬ (10 : Int64) = 0 := by decide
    refine ⟨[45, 40], by decide, fun X L h hL hL3 => ?_, fun X L h hL hL3 => ?_⟩
    · obtain ⟨Y, y1, y2⟩ := c_ab h hL (by omega) 45
      have y2' : App 362 363 1 L [45] X Y := y2
      have hY := y2.shp h
      have hLY : mI Y 362 1 = nI (L + 1) := y2.2.1
      have e1 : (nI (L + 1)).toNatClampNeg = L + 1 := nI_clamp (by omega)
      have e2 := inL_nI (j := L + 1) (n := 300) (by omega) (by decide)
      have e5 : nI (L + 1 + 1) ≤ (300 : Int32) := nI_le (b := 300) (by omega) (by decide)
      obtain ⟨n, rfl⟩ : ∃ k, n = k + 2 := ⟨n - 2, by omega⟩
      have i0 : mI (sI Y 363 (L + 1) 40) 362 1 = nI (L + 1) := by rw [mI_sI, if_neg (by omega)]; exact hLY
      refine ⟨_, ?_, y2'.trans (App.one (by decide) hLY 40)⟩
      have h := hY
      have q0 : ¬ (0 : Int64) < -9223372036854775808 := by decide
      have q1 : -(-9223372036854775808 : Int64) = -9223372036854775808 := by decide
      have q2 : lg_cmp (-9223372036854775808 / 10) 0 ≤ 0 := by decide
      have q3 : ((48 + ((-9223372036854775808 : Int64) - -9223372036854775808 / 10 * 10)).toInt32).toInt8.toInt32.toInt8.toInt32 = 40 := by decide
      have q4 : (1 : Int32) - 1 = 0 := by decide
      have q5 : ¬ (0 : Int32) < 0 := by decide
      have q6 : (0 : Int32) + -1 < 0 := by decide
      have q7 : nI (L + 1) + (0 : Int32) = nI (L + 1) := nI_add (L + 1) 0
      have sh := ‹Shp bk dr X›
      unfold fX7_addNumber
      rw [if_neg nc, if_pos (show mT X 362 = 7 by rw [sh.1]; exact rfl), y1]
      simp only [bd, fX7_addNumber_L12, nm, q0, q1, z10, ↓reduceIte]
      rw [fX7_addNumber_L27, if_pos q2]
      unfold fX7_addNumber_L56
      simp only [h.1, h.2.1, h.2.2, li_T, li_L, li_R, nm, bd, q_b, ne_eq, Nat.reduceEqDiff, reduceCtorEq, and_false, false_and, and_true, true_and, and_self, not_false_eq_true, not_true_eq_false, ↓reduceIte, hLY, nI_1, e5, q4]
      rw [fX7_addNumber_L76, if_neg q5]
      simp only [h.1, h.2.1, h.2.2, li_T, li_L, li_R, nm, bd, q_b, ne_eq, Nat.reduceEqDiff, reduceCtorEq, and_false, false_and, and_true, true_and, and_self, not_false_eq_true, not_true_eq_false, ↓reduceIte, hLY, q7, e1, e2.1, e2.2, z10, q3]
      rw [fX7_addNumber_L76, if_pos q6]
      simp only [h.1, h.2.1, h.2.2, li_T, li_L, li_R, nm, bd, q_b, ne_eq, Nat.reduceEqDiff, reduceCtorEq, and_false, false_and, and_true, true_and, and_self, not_false_eq_true, not_true_eq_false, ↓reduceIte, mT_sI, i0, nI_1]
    · obtain ⟨Y, y1, y2⟩ := m_ps h hL (by omega) 45
      have y2' : App 366 381 34 L [45] X Y := y2
      have hY := y2.shp h
      have hLY : mI Y 366 34 = nI (L + 1) := y2.2.1
      obtain ⟨Z, z1, z2⟩ := m_ps hY hLY (by omega) 40
      have z2' : App 366 381 34 (L + 1) [40] Y Z := z2
      obtain ⟨n, rfl⟩ : ∃ k, n = k + 2 := ⟨n - 2, by omega⟩
      refine ⟨Z, ?_, y2'.trans z2'⟩
      have q1 : -(-9223372036854775808 : Int64) = -9223372036854775808 := by decide
      have q2 : lg_cmp (-9223372036854775808 / 1) 10 < 0 := by decide
      have q3 : (48 : Int32) + (((-9223372036854775808 : Int64) / 1) - ((-9223372036854775808 / 1) / 10 * 10)).toInt32 = 40 := by decide
      have o1 : ¬ (1 : Int64) = 0 := by decide
      have o2 : ¬ lg_cmp 1 0 ≤ 0 := by decide
      have o3 : lg_cmp (1 / 10) 0 ≤ 0 := by decide
      have sh := h.1
      unfold fX12_putsNumber
      rw [if_neg nc, if_pos (show mT X 366 = 12 by rw [sh]; exact rfl), y1]
      simp only [bd, fX12_putsNumber_L12, nc, ↓reduceIte, q1, fX12_putsNumber_L24]
      rw [fX12_putsNumber_L28, if_neg o1, if_pos q2, fX12_putsNumber_L50, if_neg o2, if_neg o1]
      have h := hY
      simp only [h.1, h.2.1, h.2.2, li_T, li_L, li_R, nm, bd, q_b, ne_eq, Nat.reduceEqDiff, reduceCtorEq, and_false, false_and, and_true, true_and, and_self, not_false_eq_true, not_true_eq_false, ↓reduceIte, z10, q3, z1]
      rw [fX12_putsNumber_L50, if_pos o3]
  · have mni : v.toInt ≠ -2 ^ 63 := fun z => mn (Int64.toInt_inj.mp (by rw [z]; decide))
    have ng : (-v).toInt = -v.toInt := Jvm.Kit.i64_neg mni
    obtain ⟨K, hK, a1, a2⟩ : ∃ K : Nat, K < 2 ^ 63 ∧ (if 0 < v then v else -v) = lN K ∧ (if 0 ≤ lg_cmp v 0 then v else -v) = lN K := by
      by_cases z : 0 ≤ v.toInt
      · refine ⟨v.toInt.toNat, by omega, ?_, ?_⟩
        · by_cases y : 0 < v
          · rw [if_pos y]
            exact Int64.toInt_inj.mp (by rw [pk_lT (by omega)]; omega)
          · rw [if_neg y]
            have y' : ¬ (0 : Int64).toInt < v.toInt := fun q => y (Int64.lt_iff_toInt_lt.mpr q)
            rw [i64_z] at y'
            exact Int64.toInt_inj.mp (by rw [pk_lT (by omega), ng]; omega)
        · rw [if_pos (cv_ge.mpr (Int64.le_iff_toInt_le.mpr (by rw [i64_z]; exact z)))]
          exact Int64.toInt_inj.mp (by rw [pk_lT (by omega)]; omega)
      · refine ⟨(-v.toInt).toNat, by omega, ?_, ?_⟩
        · rw [if_neg (fun y => by have := Int64.lt_iff_toInt_lt.mp y; rw [i64_z] at this; omega)]
          exact Int64.toInt_inj.mp (by rw [pk_lT (by omega), ng]; omega)
        · rw [if_neg (fun y => by have := Int64.le_iff_toInt_le.mp (cv_ge.mp y); rw [i64_z] at this; omega)]
          exact Int64.toInt_inj.mp (by rw [pk_lT (by omega), ng]; omega)
    obtain ⟨D, hD, d1, d2⟩ := dg_ex hK
    by_cases z : 0 ≤ lg_cmp v 0
    · refine ⟨rl (D + 1) K, by rw [rl_len]; omega, fun X L h hL hL3 => ?_, fun X L h hL hL3 => ?_⟩
      · unfold fX7_addNumber
        rw [if_pos z]
        exact c_dg h hn hK hD d1 d2 a1 hL (by omega)
      · unfold fX12_putsNumber
        rw [if_pos z]
        exact m_dg h hn hK hD d1 d2 a2 hL (by omega)
    · refine ⟨[45] ++ rl (D + 1) K, by rw [List.length_append, rl_len]; show 1 + (D + 1) ≤ 20; omega, fun X L h hL hL3 => ?_, fun X L h hL hL3 => ?_⟩
      · obtain ⟨Y, y1, y2⟩ := c_ab h hL (by omega) 45
        have y2' : App 362 363 1 L [45] X Y := y2
        obtain ⟨Z, z1, z2⟩ := c_dg (y2.shp h) hn hK hD d1 d2 a1 (L := L + 1) y2.2.1 (by omega)
        refine ⟨Z, ?_, y2'.trans z2⟩
        unfold fX7_addNumber
        rw [if_neg z, if_pos (show mT X 362 = 7 by rw [h.1]; exact rfl), y1]
        exact z1
      · obtain ⟨Y, y1, y2⟩ := m_ps h hL (by omega) 45
        have y2' : App 366 381 34 L [45] X Y := y2
        obtain ⟨Z, z1, z2⟩ := m_dg (y2.shp h) hn hK hD d1 d2 a2 (L := L + 1) y2.2.1 (by omega)
        refine ⟨Z, ?_, y2'.trans z2⟩
        unfold fX12_putsNumber
        rw [if_neg z, if_pos (show mT X 366 = 12 by rw [h.1]; exact rfl), y1]
        exact z1
end
