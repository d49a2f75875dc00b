/-! QUERIES: worth -/
theorem w_l {v : Nat} (h : v < 2 ^ 31) : (nI v).toInt64 = lN v := nI_l h
theorem w_c1 {g : Nat} (h : g < 2 ^ 31) (h0 : 0 < g) : 0 ≤ lg_cmp (lN g) 1 := cv_ge.mpr ((pk_lLE (a := 1) (b := g) (by omega) (by omega)).mpr h0)
theorem w_n0 {g : Nat} (h : g < 2 ^ 31) (h0 : 0 < g) : ¬ lN g = 0 := fun z => by
  have := (lN_eq (a := g) (b := 0) h (by omega)).mp z
  omega
section
variable {bk dr s H P n T G : Nat} {X : Mm} {f : Nat → Int64} {w : Wt}
theorem c_cdL (n : Nat) : ∀ (k x y i j : Nat), y ≤ k → i + k < 1000 → k < j → x < 2 ^ 31 → y < 2 ^ 31 → fX3_commonDivisor_L9 n j (lN x) (lN y) (nI i) X = some (lN (Nat.gcd x y), X) := by
  intro k
  induction k with
  | zero =>
    intro x y i j hy hi hj hx hy2
    obtain ⟨j, rfl⟩ : ∃ k, j = k + 1 := ⟨j - 1, by omega⟩
    obtain rfl : y = 0 := by omega
    have e : ¬ (1000 : Int32) ≤ nI i := nI_ge (a := i) (b := 1000) (by omega) (by decide)
    have e2 : lg_cmp (lN 0) 0 ≤ 0 := by decide
    rw [fX3_commonDivisor_L9, if_neg e, if_pos e2, fX3_commonDivisor_L45, Nat.gcd_zero_right]
  | succ k ih =>
    intro x y i j hy hi hj hx hy2
    obtain ⟨j, rfl⟩ : ∃ k, j = k + 1 := ⟨j - 1, by omega⟩
    have e : ¬ (1000 : Int32) ≤ nI i := nI_ge (a := i) (b := 1000) (by omega) (by decide)
    by_cases z : y = 0
    · subst z
      have e2 : lg_cmp (lN 0) 0 ≤ 0 := by decide
      rw [fX3_commonDivisor_L9, if_neg e, if_pos e2, fX3_commonDivisor_L45, Nat.gcd_zero_right]
    · have e2 : ¬ lg_cmp (lN y) 0 ≤ 0 := fun q => by
        have := (pk_lLE (a := y) (b := 0) (by omega) (by omega)).mp (cv_le.mp q)
        omega
      have e3 := w_n0 (g := y) hy2 (by omega)
      have lt : x % y < y := Nat.mod_lt _ (by omega)
      rw [fX3_commonDivisor_L9, if_neg e, if_neg e2, if_neg e3]
      simp only [nm, pk_lRem (a := x) (b := y) (by omega) (by omega) (by omega), nI_1]
      rw [ih y (x % y) (i + 1) j (by omega) (by omega) (by omega) hy2 (by omega), Nat.gcd_comm x y, Nat.gcd_rec y x, Nat.gcd_comm]
theorem m_cmL (n : Nat) : ∀ (k x y j : Nat), x ≤ k → k < j → x < 2 ^ 31 → y < 2 ^ 31 → fX12_common_L6 n j (lN x) (lN y) X = some (lN (Nat.gcd x y), X) := by
  intro k
  induction k with
  | zero =>
    intro x y j hx hj hx2 hy2
    obtain ⟨j, rfl⟩ : ∃ k, j = k + 1 := ⟨j - 1, by omega⟩
    obtain rfl : x = 0 := by omega
    have e2 : lg_cmp (lN 0) 0 = 0 := by decide
    rw [fX12_common_L6, if_pos e2, Nat.gcd_zero_left]
  | succ k ih =>
    intro x y j hx hj hx2 hy2
    obtain ⟨j, rfl⟩ : ∃ k, j = k + 1 := ⟨j - 1, by omega⟩
    by_cases z : x = 0
    · subst z
      have e2 : lg_cmp (lN 0) 0 = 0 := by decide
      rw [fX12_common_L6, if_pos e2, Nat.gcd_zero_left]
    · have e3 := w_n0 (g := x) hx2 (by omega)
      have e2 : ¬ lg_cmp (lN x) 0 = 0 := fun q => e3 (cv_eq.mp q)
      have lt : y % x < x := Nat.mod_lt _ (by omega)
      rw [fX12_common_L6, if_neg e2, if_neg e3]
      simp only [nm, pk_lRem (a := y) (b := x) (by omega) (by omega) (by omega)]
      rw [ih (y % x) x j (by omega) (by omega) (by omega) hx2, ← Nat.gcd_rec x y]
theorem m_cm (n : Nat) (hn : 24000 ≤ n) {x y : Nat} (hx : x < 2 ^ 31) (hy : y ≤ 1000) : fX12_common n 366 (lN x) (lN y) X = some (lN (Nat.gcd x y), X) := by
  obtain ⟨j, rfl⟩ : ∃ k, n = k + 1 := ⟨n - 1, by omega⟩
  unfold fX12_common
  by_cases z : x = 0
  · exact m_cmL (j + 1) 0 x y (j + 1) (by omega) (by omega) hx (by omega)
  · have e3 := w_n0 (g := x) hx (by omega)
    have e2 : ¬ lg_cmp (lN x) 0 = 0 := fun q => e3 (cv_eq.mp q)
    have le : y % x ≤ y := Nat.mod_le _ _
    rw [fX12_common_L6, if_neg e2, if_neg e3]
    simp only [nm, pk_lRem (a := y) (b := x) (by omega) (by omega) (by omega)]
    rw [m_cmL (j + 1) 1000 (y % x) x j (by omega) (by omega) (by omega) hx, ← Nat.gcd_rec x y]
/-- |v| is k -/
def aB (v : Int64) (k : Nat) : Prop := (if 0 < v then v else -v) = lN k ∧ (if 0 ≤ lg_cmp v 0 then v else -v) = lN k ∧ k < 2 ^ 31
def frW (v : Int64) (k q : Nat) (x : Int32) : Int64 := if x = 0 then v / lN (Nat.gcd k q) else if x = 1 then lN q / lN (Nat.gcd k q) else -9223372036854775808
theorem c_frac {v : Int64} {k q : Nat} (h : aB v k) (h1 : 1 ≤ q) (h2 : q ≤ 18) (hn : 24000 ≤ n) (x : Int32) : fX3_partOfFraction n v (lN q) x X = some (frW v k q x, X) := by
  have gp : 0 < Nat.gcd k q := Nat.gcd_pos_of_pos_right _ h1
  have gl : Nat.gcd k q ≤ q := Nat.gcd_le_right _ h1
  have e : fX3_commonDivisor n (lN k) (lN q) X = some (lN (Nat.gcd k q), X) := c_cdL n 18 k q 0 n h2 (by omega) (by omega) h.2.2 (by omega)
  have c1 := w_c1 (g := Nat.gcd k q) (by omega) gp
  have c0 := w_n0 (g := Nat.gcd k q) (by omega) gp
  unfold fX3_partOfFraction frW
  rw [h.1, e]
  simp only [bd, c1, c0, ↓reduceIte]
  by_cases x0 : x = 0
  · rw [if_pos x0, if_pos x0]
  · rw [if_neg x0, if_neg x0]
    by_cases x1 : x = 1
    · rw [if_pos x1, if_pos x1]
    · rw [if_neg x1, if_neg x1]
theorem m_frac (h : Shp bk dr X) {v : Int64} {k q : Nat} (a : aB v k) (h1 : 1 ≤ q) (h2 : q ≤ 18) (hn : 24000 ≤ n) {x : Int32} (hx : x = 0 ∨ x = 1) : fX12_worth_L184 n 366 x v (lN q) X = some (frW v k q x, X) := by
  have gp : 0 < Nat.gcd k q := Nat.gcd_pos_of_pos_right _ h1
  have gl : Nat.gcd k q ≤ q := Nat.gcd_le_right _ h1
  have c0 := w_n0 (g := Nat.gcd k q) (by omega) gp
  have e := m_cm (X := X) n hn (x := k) (y := q) a.2.2 (by omega)
  have g : ∀ s0 : Int64, s0 = lN k → fX12_worth_L200 n x v (lN q) s0 366 X = some (frW v k q x, X) := by
    rintro s0 rfl
    unfold fX12_worth_L200 frW
    rw [if_pos (show mT X 366 = 12 by rw [h.1]; exact rfl), e]
    simp only [bd, c0, ↓reduceIte]
    rcases hx with rfl | rfl
    · rfl
    · rfl
  unfold fX12_worth_L184
  by_cases z : 0 ≤ lg_cmp v 0
  · rw [if_pos z]
    have := a.2.1
    rw [if_pos z] at this
    exact g _ this
  · rw [if_neg z]
    have := a.2.1
    rw [if_neg z] at this
    exact g _ this
theorem aB.of {k : Nat} (h : k < 2 ^ 31) : aB (lN k) k := by
  refine ⟨?_, ?_, h⟩
  · by_cases z : (0 : Int64) < lN k
    · rw [if_pos z]
    · have k0 : k = 0 := by
        have : ¬ 0 < k := fun q => z ((pk_lLT (a := 0) (b := k) (by omega) (by omega)).mpr q)
        omega
      subst k0
      decide
  · have z : 0 ≤ lg_cmp (lN k) 0 := cv_ge.mpr ((pk_lLE (a := 0) (b := k) (by omega) (by omega)).mpr (by omega))
    rw [if_pos z]
theorem aB.neg {a b : Nat} (h : a < b) (hb : b < 2 ^ 31) : aB (lN a - lN b) (b - a) := by
  have e : -(lN a - lN b) = lN b - lN a := Int64.neg_sub
  have l1 : ¬ (0 : Int64) < lN a - lN b := fun z => by
    have i := Int64.lt_iff_toInt_lt.mp z
    rw [Jvm.Kit.i64_sub (by rw [lN_toInt (by omega), lN_toInt (by omega)]; omega) (by rw [lN_toInt (by omega), lN_toInt (by omega)]; omega), lN_toInt (by omega), lN_toInt (by omega)] at i
    have z0 : (0 : Int64).toInt = 0 := by decide
    omega
  have l2 : ¬ 0 ≤ lg_cmp (lN a - lN b) 0 := fun z => by
    have i := Int64.le_iff_toInt_le.mp (cv_ge.mp z)
    rw [Jvm.Kit.i64_sub (by rw [lN_toInt (by omega), lN_toInt (by omega)]; omega) (by rw [lN_toInt (by omega), lN_toInt (by omega)]; omega), lN_toInt (by omega), lN_toInt (by omega)] at i
    have z0 : (0 : Int64).toInt = 0 := by decide
    omega
  refine ⟨?_, ?_, by omega⟩
  · rw [if_neg l1, e, lN_sub (by omega)]
  · rw [if_neg l2, e, lN_sub (by omega)]
theorem s_worth (h : Tp bk dr H P X) (hn : 24000 ≤ n) (v1 v2 v3 : Int32) : ∃ r X1 X2, fX11_worth n 1 v1 v2 v3 X = some (r, X1) ∧ fX12_worth n 366 v1 v2 v3 X1 = some (r, X2) ∧ Tp bk dr H P X2 := by
  have hT := h
  obtain ⟨h1, h2, h3, h4, h5, h6, ⟨T, G, R, iv, iw⟩, -, -, -, -, -, -⟩ := h
  have h := h1
  have hs := h1.sI 366 0 0
  have wG : mI X 29 16 = nI G := iv.1.2.2.1
  have R' : Rl T G (mJ (sI X 366 0 0) 367) (gW 16 X) := by rw [mJ_sI]; exact R
  have G8 := R.2.1
  by_cases g1 : 0 ≤ v1 ∧ v1 < nI G
  · obtain ⟨e, he, rfl⟩ := nI_ex g1 (by omega)
    have e8 : e < 8 := by omega
    have e1 : (nI e).toNatClampNeg = e := nI_clamp (by omega)
    have e2 := inL_nI (j := e) (n := 8) e8 (by decide)
    by_cases g2 : 0 ≤ v2 ∧ v2 ≤ 99999
    · obtain ⟨p, hp, rfl⟩ := inL_of (inL_cc (v := v2) (l := 0) (n := 99999) (m := 100000) g2 (by decide) (by decide) (by decide)) (by decide)
      have n0 : ¬ nI p < 0 := nI_pos (by omega)
      obtain ⟨t1, t2, t3, t4, t5, t6, t7⟩ := iw.2.2.2.2.1 e he
      have b1' := (iv.2 e he).1
      obtain ⟨kd, kd4, ek⟩ := inL_of t2 (by decide)
      obtain ⟨a, a10, ea⟩ := inL_of t3 (by decide)
      obtain ⟨b, b10, eb⟩ := inL_of t4 (by decide)
      obtain ⟨c, c1000, ec⟩ := inL_of t5 (by decide)
      have b1n : 1 ≤ b := by
        rw [eb, show (1 : Int32) = nI 1 from rfl, nI_leI (by omega) (by omega)] at b1'
        exact b1'
      have x14 : mI X 30 e = nI kd := ek
      have x17 : mI X 33 e = nI a := ea
      have x18 : mI X 34 e = nI b := eb
      have x19 : mI X 35 e = nI c := ec
      have r0 : mJ X 367 (aE e 0) = (nI kd).toInt64 := by rw [← ek]; exact R.e0 he
      have r8 : mJ X 367 (aE e 8) = lN a := by rw [← w_l (by omega), ← ea]; exact R.e8 he
      have r9 : mJ X 367 (aE e 9) = lN b := by rw [← w_l (by omega), ← eb]; exact R.e9 he
      have r10 : mJ X 367 (aE e 10) = lN c := by rw [← w_l (by omega), ← ec]; exact R.e10 he
      have lp : (nI p).toInt64 = lN p := w_l (by omega)
      have la : (nI a).toInt64 = lN a := w_l (by omega)
      have lb : (nI b).toInt64 = lN b := w_l (by omega)
      have lc : (nI c).toInt64 = lN c := w_l (by omega)
      have lab : (nI a + nI b).toInt64 = lN (a + b) := by rw [nI_add, w_l (by omega)]
      have lac : (nI a * nI c).toInt64 = lN (a * c) := by rw [pk_mul, w_l (by have := Nat.mul_le_mul (show a ≤ 9 by omega) (show c ≤ 999 by omega); omega)]
      have lpc : (nI p - nI c).toInt64 = lN p - lN c := by
        have i1 : (nI p).toInt = p := nI_toInt (by omega)
        have i2 : (nI c).toInt = c := nI_toInt (by omega)
        refine Int64.toInt_inj.mp ?_
        rw [Jvm.Kit.i64_of_i32, Jvm.Kit.i32_sub (by rw [i1, i2]; omega) (by rw [i1, i2]; omega), Jvm.Kit.i64_sub (by rw [lN_toInt (by omega), lN_toInt (by omega)]; omega) (by rw [lN_toInt (by omega), lN_toInt (by omega)]; omega), lN_toInt (by omega), lN_toInt (by omega), i1, i2]
      have m1 := Nat.mul_le_mul (show a ≤ 9 by omega) (show c ≤ 999 by omega)
      have m2 := Nat.mul_le_mul (show b ≤ 9 by omega) (show p ≤ 99999 by omega)
      have hkd : kd = 0 ∨ kd = 1 ∨ kd = 2 ∨ kd = 3 := by omega
      have ip : ∀ Y, fX12_isIn 366 (lN p) 0 99999 Y = some (1, Y) := fun Y => by rw [← lp, r_inb (nI p) 0 99999 (lo := 0) (hi := 99999) (by decide) (by decide), bo_t g2]
      have tf : ∀ j, j < 4 → ∀ i, i < 4 → i ≠ j → ¬ nI i = nI j := by decide
      have fin : ∀ (vv : Int64) (k q : Nat), aB vv k → 1 ≤ q → q ≤ 18 → fX11_worth n 1 (nI e) (nI p) v3 X = some (frW vv k q v3, X) → ((0 ≤ v3 ∧ v3 ≤ 1) → fX12_worth n 366 (nI e) (nI p) v3 X = fX12_worth_L184 n 366 v3 vv (lN q) (sI X 366 0 0)) →
          ∃ r X1 X2, fX11_worth n 1 (nI e) (nI p) v3 X = some (r, X1) ∧ fX12_worth n 366 (nI e) (nI p) v3 X1 = some (r, X2) ∧ Tp bk dr H P X2 := by
        intro vv k q ab q1 q18 hc hm
        refine ⟨_, X, sI X 366 0 0, hc, ?_, hT.told 0⟩
        by_cases g3 : 0 ≤ v3 ∧ v3 ≤ 1
        · have hx : v3 = 0 ∨ v3 = 1 := by
            obtain ⟨q, hq, rfl⟩ := inL_of (inL_cc (v := v3) (l := 0) (n := 1) (m := 2) g3 (by decide) (by decide) (by decide)) (by decide)
            rcases (by omega : q = 0 ∨ q = 1) with rfl | rfl
            · exact Or.inl rfl
            · exact Or.inr rfl
          rw [hm g3, m_frac hs ab q1 q18 hn hx]
        · have y0 : ¬ v3 = 0 := fun z => g3 (by rw [z]; decide)
          have y1 : ¬ v3 = 1 := fun z => g3 (by rw [z]; decide)
          unfold frW
          rw [if_neg y0, if_neg y1]
          simp only [fX12_worth, fX12_worth_L151, h.1, h.2.1, h.2.2, li_T, li_L, li_R, nm, bd, q_b, ne_eq, Nat.reduceEqDiff, reduceCtorEq, and_false, false_and, and_true, true_and, and_self, not_false_eq_true, not_true_eq_false, ↓reduceIte, n16_T, n16_L, n16_R, mT_sI, mR_sI, mL_sI, mJ_sI, p_isE hs R' iv.1.2.2.1, bo_t g1, b1, r_inb (nI p) 0 99999 (lo := 0) (hi := 99999) (by decide) (by decide), bo_t g2, r_inb v3 0 1 (lo := 0) (hi := 1) (by decide) (by decide), bo_f g3, fX12_worth_L55]
      have cf : ∀ (vv : Int64) (k q : Nat), aB vv k → 1 ≤ q → q ≤ 18 → fX3_partOfFraction n vv (lN q) v3 X = some (frW vv k q v3, X) := fun vv k q ab q1 q18 => c_frac ab q1 q18 hn v3
      rcases hkd with rfl | rfl | rfl | rfl
      · obtain ⟨a0, b0⟩ := t7 ek
        obtain rfl : a = 0 := (nI_eq (by omega) (by omega)).mp (ea.symm.trans a0)
        obtain rfl : b = 1 := (nI_eq (by omega) (by omega)).mp (eb.symm.trans b0)
        have ab : ∃ k, aB (lN p - lN c) k := by
          by_cases q : c ≤ p
          · rw [lN_sub q]
            exact ⟨_, aB.of (by omega)⟩
          · exact ⟨_, aB.neg (by omega) (by omega)⟩
        obtain ⟨k, ab⟩ := ab
        have cf' : fX3_partOfFraction n (lN p - lN c) 1 v3 X = some (frW (lN p - lN c) k 1 v3, X) := cf _ k 1 ab (by omega) (by omega)
        have z0 : nI 0 = (0 : Int32) := rfl
        have z1 : ¬ (0 : Int32) = 1 := by decide
        have z2 : ¬ (0 : Int32) = 2 := by decide
        have z3 : ¬ (0 : Int32) = 3 := by decide
        refine fin _ k 1 ab (by omega) (by omega) ?_ (fun g3 => ?_)
        · simp only [fX11_worth, fX3_worthBehind, h.1, h.2.1, h.2.2, li_T, li_L, li_R, nm, bd, q_b, ne_eq, Nat.reduceEqDiff, reduceCtorEq, and_false, false_and, and_true, true_and, and_self, not_false_eq_true, not_true_eq_false, ↓reduceIte, n16_T, n16_L, n16_R, q_isE h wG, bo_t g1, b1, n0, g2.2, e1, e2.1, e2.2, x14, z0, x19, lpc, cf']
        · simp only [fX12_worth, fX12_worth_L151, h.1, h.2.1, h.2.2, li_T, li_L, li_R, nm, bd, q_b, ne_eq, Nat.reduceEqDiff, reduceCtorEq, and_false, false_and, and_true, true_and, and_self, not_false_eq_true, not_true_eq_false, ↓reduceIte, n16_T, n16_L, n16_R, mT_sI, mR_sI, mL_sI, mJ_sI, p_isE hs R' iv.1.2.2.1, bo_t g1, b1, r_inb (nI p) 0 99999 (lo := 0) (hi := 99999) (by decide) (by decide), bo_t g2, r_inb v3 0 1 (lo := 0) (hi := 1) (by decide) (by decide), bo_t g3, ip, r_of0, r_of8, r_of9, r_of10, bE1 e8, bE2 e8, bE3 e8, Nat.reduceLT, r0, r8, r9, r10, cv_eq, wd_0, wd_2, wd_3, lp, lN_mul, lN_add, z0, z1, z2, z3, Nat.zero_add]
      · have cf' := cf (lN (b * p)) (b * p) (a + b) (aB.of (by omega)) (by omega) (by omega)
        have z0 : ¬ nI 1 = (0 : Int32) := by decide
        have z1 : nI 1 = (1 : Int32) := rfl
        have y0 : ¬ (1 : Int32) = 0 := by decide
        have z2 : ¬ nI 1 = (2 : Int32) := by decide
        have z3 : ¬ nI 1 = (3 : Int32) := by decide
        refine fin _ (b * p) (a + b) (aB.of (by omega)) (by omega) (by omega) ?_ (fun g3 => ?_)
        · simp only [fX11_worth, fX3_worthBehind, h.1, h.2.1, h.2.2, li_T, li_L, li_R, nm, bd, q_b, ne_eq, Nat.reduceEqDiff, reduceCtorEq, and_false, false_and, and_true, true_and, and_self, not_false_eq_true, not_true_eq_false, ↓reduceIte, n16_T, n16_L, n16_R, q_isE h wG, bo_t g1, b1, n0, g2.2, e1, e2.1, e2.2, x14, z0, z1, y0, x17, x18, lb, lp, lab, lN_mul, cf']
        · simp only [fX12_worth, fX12_worth_L151, h.1, h.2.1, h.2.2, li_T, li_L, li_R, nm, bd, q_b, ne_eq, Nat.reduceEqDiff, reduceCtorEq, and_false, false_and, and_true, true_and, and_self, not_false_eq_true, not_true_eq_false, ↓reduceIte, n16_T, n16_L, n16_R, mT_sI, mR_sI, mL_sI, mJ_sI, p_isE hs R' iv.1.2.2.1, bo_t g1, b1, r_inb (nI p) 0 99999 (lo := 0) (hi := 99999) (by decide) (by decide), bo_t g2, r_inb v3 0 1 (lo := 0) (hi := 1) (by decide) (by decide), bo_t g3, ip, r_of0, r_of8, r_of9, r_of10, bE1 e8, bE2 e8, bE3 e8, Nat.reduceLT, r0, r8, r9, r10, cv_eq, wd_0, wd_2, wd_3, lp, lN_mul, lN_add, z0, z2, z3]
      · have cf' := cf (lN (b * p + a * c)) (b * p + a * c) (a + b) (aB.of (by omega)) (by omega) (by omega)
        have z0 : ¬ nI 2 = (0 : Int32) := by decide
        have z1 : ¬ nI 2 = (1 : Int32) := by decide
        have z2 : nI 2 = (2 : Int32) := rfl
        have y0 : ¬ (2 : Int32) = 0 := by decide
        have y1 : ¬ (2 : Int32) = 1 := by decide
        have y3 : ¬ (2 : Int32) = 3 := by decide
        have z3 : ¬ nI 2 = (3 : Int32) := by decide
        refine fin _ (b * p + a * c) (a + b) (aB.of (by omega)) (by omega) (by omega) ?_ (fun g3 => ?_)
        · simp only [fX11_worth, fX3_worthBehind, h.1, h.2.1, h.2.2, li_T, li_L, li_R, nm, bd, q_b, ne_eq, Nat.reduceEqDiff, reduceCtorEq, and_false, false_and, and_true, true_and, and_self, not_false_eq_true, not_true_eq_false, ↓reduceIte, n16_T, n16_L, n16_R, q_isE h wG, bo_t g1, b1, n0, g2.2, e1, e2.1, e2.2, x14, z2, y0, y1, x17, x18, x19, lb, lp, lab, lac, lN_mul, lN_add, cf']
        · simp only [fX12_worth, fX12_worth_L151, h.1, h.2.1, h.2.2, li_T, li_L, li_R, nm, bd, q_b, ne_eq, Nat.reduceEqDiff, reduceCtorEq, and_false, false_and, and_true, true_and, and_self, not_false_eq_true, not_true_eq_false, ↓reduceIte, n16_T, n16_L, n16_R, mT_sI, mR_sI, mL_sI, mJ_sI, p_isE hs R' iv.1.2.2.1, bo_t g1, b1, r_inb (nI p) 0 99999 (lo := 0) (hi := 99999) (by decide) (by decide), bo_t g2, r_inb v3 0 1 (lo := 0) (hi := 1) (by decide) (by decide), bo_t g3, ip, r_of0, r_of8, r_of9, r_of10, bE1 e8, bE2 e8, bE3 e8, Nat.reduceLT, r0, r8, r9, r10, cv_eq, wd_0, wd_2, wd_3, lp, lN_mul, lN_add, z2, y0, y3]
      · have z0 : ¬ nI 3 = (0 : Int32) := by decide
        have z1 : ¬ nI 3 = (1 : Int32) := by decide
        have z2 : ¬ nI 3 = (2 : Int32) := by decide
        have z3 : nI 3 = (3 : Int32) := rfl
        refine ⟨-9223372036854775808, X, sI X 366 0 0, ?_, ?_, hT.told 0⟩
        · simp only [fX11_worth, fX3_worthBehind, h.1, h.2.1, h.2.2, li_T, li_L, li_R, nm, bd, q_b, ne_eq, Nat.reduceEqDiff, reduceCtorEq, and_false, false_and, and_true, true_and, and_self, not_false_eq_true, not_true_eq_false, ↓reduceIte, n16_T, n16_L, n16_R, q_isE h wG, bo_t g1, b1, n0, g2.2, e1, e2.1, e2.2, x14, z0, z1, z2]
        · by_cases g3 : 0 ≤ v3 ∧ v3 ≤ 1
          · simp only [fX12_worth, fX12_worth_L151, h.1, h.2.1, h.2.2, li_T, li_L, li_R, nm, bd, q_b, ne_eq, Nat.reduceEqDiff, reduceCtorEq, and_false, false_and, and_true, true_and, and_self, not_false_eq_true, not_true_eq_false, ↓reduceIte, n16_T, n16_L, n16_R, mT_sI, mR_sI, mL_sI, mJ_sI, p_isE hs R' iv.1.2.2.1, bo_t g1, b1, r_inb (nI p) 0 99999 (lo := 0) (hi := 99999) (by decide) (by decide), bo_t g2, r_inb v3 0 1 (lo := 0) (hi := 1) (by decide) (by decide), bo_t g3, r_of0, bE1 e8, bE2 e8, bE3 e8, Nat.reduceLT, r0, cv_eq, wd_3, z3, fX12_worth_L55]
          · simp only [fX12_worth, fX12_worth_L151, h.1, h.2.1, h.2.2, li_T, li_L, li_R, nm, bd, q_b, ne_eq, Nat.reduceEqDiff, reduceCtorEq, and_false, false_and, and_true, true_and, and_self, not_false_eq_true, not_true_eq_false, ↓reduceIte, n16_T, n16_L, n16_R, mT_sI, mR_sI, mL_sI, mJ_sI, p_isE hs R' iv.1.2.2.1, bo_t g1, b1, r_inb (nI p) 0 99999 (lo := 0) (hi := 99999) (by decide) (by decide), bo_t g2, r_inb v3 0 1 (lo := 0) (hi := 1) (by decide) (by decide), bo_f g3, fX12_worth_L55]
    · refine ⟨-9223372036854775808, X, sI X 366 0 0, ?_, ?_, hT.told 0⟩
      · by_cases n0 : v2 < 0
        · simp only [fX11_worth, fX11_worth_L24, h.1, h.2.1, h.2.2, li_T, li_L, li_R, nm, bd, q_b, ne_eq, Nat.reduceEqDiff, reduceCtorEq, and_false, false_and, and_true, true_and, and_self, not_false_eq_true, not_true_eq_false, ↓reduceIte, n16_T, n16_L, n16_R, q_isE h wG, bo_t g1, b1, n0]
        · have n1 : ¬ v2 ≤ 99999 := fun z => g2 ⟨i32_nlt.mp n0, z⟩
          simp only [fX11_worth, fX11_worth_L24, h.1, h.2.1, h.2.2, li_T, li_L, li_R, nm, bd, q_b, ne_eq, Nat.reduceEqDiff, reduceCtorEq, and_false, false_and, and_true, true_and, and_self, not_false_eq_true, not_true_eq_false, ↓reduceIte, n16_T, n16_L, n16_R, q_isE h wG, bo_t g1, b1, n0, n1]
      · simp only [fX12_worth, fX12_worth_L55, h.1, h.2.1, h.2.2, li_T, li_L, li_R, nm, bd, q_b, ne_eq, Nat.reduceEqDiff, reduceCtorEq, and_false, false_and, and_true, true_and, and_self, not_false_eq_true, not_true_eq_false, ↓reduceIte, n16_T, n16_L, n16_R, mT_sI, p_isE hs R' iv.1.2.2.1, bo_t g1, b1, r_inb v2 0 99999 (lo := 0) (hi := 99999) (by decide) (by decide), bo_f g2]
  · refine ⟨-9223372036854775808, X, sI X 366 0 0, ?_, ?_, hT.told 0⟩
    · simp only [fX11_worth, fX11_worth_L24, h.1, h.2.1, h.2.2, li_T, li_L, li_R, nm, bd, q_b, ne_eq, Nat.reduceEqDiff, reduceCtorEq, and_false, false_and, and_true, true_and, and_self, not_false_eq_true, not_true_eq_false, ↓reduceIte, n16_T, n16_L, n16_R, q_isE h wG, bo_f g1]
    · simp only [fX12_worth, fX12_worth_L55, h.1, h.2.1, h.2.2, li_T, li_L, li_R, nm, bd, q_b, ne_eq, Nat.reduceEqDiff, reduceCtorEq, and_false, false_and, and_true, true_and, and_self, not_false_eq_true, not_true_eq_false, ↓reduceIte, n16_T, n16_L, n16_R, mT_sI, p_isE hs R' iv.1.2.2.1, bo_f g1]
end
