/-! numbers: comparisons of longs, ints widened -/
theorem cv_lt {a b : Int64} : lg_cmp a b < 0 ↔ a < b := by
  unfold lg_cmp
  by_cases h1 : b < a
  · rw [if_pos h1]
    constructor
    · intro h; exact absurd h (by decide)
    · intro h; exact absurd (Int64.lt_trans h h1) (Int64.lt_irrefl)
  · rw [if_neg h1]
    by_cases h2 : a = b
    · rw [if_pos h2]
      constructor
      · intro h; exact absurd h (by decide)
      · intro h; rw [h2] at h; exact absurd h Int64.lt_irrefl
    · rw [if_neg h2]
      constructor
      · intro _
        rw [Int64.lt_iff_toInt_lt] at h1 ⊢
        have h3 : a.toInt ≠ b.toInt := fun e => h2 (Int64.toInt_inj.mp e)
        omega
      · intro _; decide
theorem cv_eq {a b : Int64} : lg_cmp a b = 0 ↔ a = b := by
  unfold lg_cmp
  by_cases h1 : b < a
  · rw [if_pos h1]
    constructor
    · intro h; exact absurd h (by decide)
    · intro h; rw [h] at h1; exact absurd h1 Int64.lt_irrefl
  · rw [if_neg h1]
    by_cases h2 : a = b
    · rw [if_pos h2]
      exact ⟨fun _ => h2, fun _ => rfl⟩
    · rw [if_neg h2]
      constructor
      · intro h; exact absurd h (by decide)
      · intro h; exact absurd h h2
theorem cv_ge {a b : Int64} : 0 ≤ lg_cmp a b ↔ b ≤ a := lg_cmp_ge a b
theorem cv_le {a b : Int64} : lg_cmp a b ≤ 0 ↔ a ≤ b := by
  rw [Int64.le_iff_toInt_le]
  unfold lg_cmp
  by_cases h1 : b < a
  · rw [if_pos h1]
    rw [Int64.lt_iff_toInt_lt] at h1
    constructor
    · intro h; exact absurd h (by decide)
    · intro h; omega
  · rw [if_neg h1]
    rw [Int64.lt_iff_toInt_lt] at h1
    constructor
    · intro _; omega
    · intro _; split <;> decide
theorem cv_gt {a b : Int64} : 0 < lg_cmp a b ↔ b < a := by
  unfold lg_cmp
  by_cases h1 : b < a
  · rw [if_pos h1]
    exact ⟨fun _ => h1, fun _ => by decide⟩
  · rw [if_neg h1]
    constructor
    · intro h; split at h <;> exact absurd h (by decide)
    · intro h; exact absurd h h1
theorem wd_eq {x y : Int32} : x.toInt64 = y.toInt64 ↔ x = y := by
  rw [← Int64.toInt_inj, Int32.toInt_toInt64, Int32.toInt_toInt64]
  exact Int32.toInt_inj
theorem wd_lt {x y : Int32} : x.toInt64 < y.toInt64 ↔ x < y := by
  rw [Int64.lt_iff_toInt_lt, Int32.toInt_toInt64, Int32.toInt_toInt64, Int32.lt_iff_toInt_lt]
theorem wd_le {x y : Int32} : x.toInt64 ≤ y.toInt64 ↔ x ≤ y := by
  rw [Int64.le_iff_toInt_le, Int32.toInt_toInt64, Int32.toInt_toInt64, Int32.le_iff_toInt_le]
theorem wd_0 {x : Int32} : x.toInt64 = 0 ↔ x = 0 := wd_eq (y := 0)
theorem wd_1 {x : Int32} : x.toInt64 = 1 ↔ x = 1 := wd_eq (y := 1)
theorem wd_2 {x : Int32} : x.toInt64 = 2 ↔ x = 2 := wd_eq (y := 2)
theorem wd_3 {x : Int32} : x.toInt64 = 3 ↔ x = 3 := wd_eq (y := 3)
theorem wd_back (x : Int32) : x.toInt64.toInt32 = x := by simp
theorem wd_ix (x y : Int32) : ((5 : Int64) * x.toInt64 + y.toInt64).toInt32 = x * 5 + y := by
  rw [Int64.toInt32_add, Int64.toInt32_mul, wd_back, wd_back]
  rw [show (5 : Int64).toInt32 = (5 : Int32) from by decide, Int32.mul_comm]
theorem wd_pu (x : Int32) : ((50 : Int64) + x.toInt64).toInt32 = 50 + x := by
  rw [Int64.toInt32_add, wd_back]
  rfl
