/-! THE REFERENCE, one step each: the printed functions over its row of numbers (cell 367) -/
theorem mT_wJ {X : Mm} {c : Nat} {f : Nat → Int64} : mT (wJ X c f) = mT X := rfl
theorem mL_wJ {X : Mm} {c : Nat} {f : Nat → Int64} : mL (wJ X c f) = mL X := rfl
theorem mR_wJ {X : Mm} {c : Nat} {f : Nat → Int64} : mR (wJ X c f) = mR X := rfl
theorem mI_wJ {X : Mm} {c : Nat} {f : Nat → Int64} : mI (wJ X c f) = mI X := rfl
theorem mJ_wJ {X : Mm} {c : Nat} {f : Nat → Int64} : mJ (wJ X c f) c = f := q_u1_s _ _ _
theorem mJ_wJo {X : Mm} {c d : Nat} {f : Nat → Int64} (h : d ≠ c) : mJ (wJ X c f) d = mJ X d := q_u1_n _ _ h
theorem sJ_wJ {X : Mm} {c k : Nat} {f : Nat → Int64} {v : Int64} : sJ (wJ X c f) c k v = wJ X c (q_u1 f k v) := by
  unfold sJ wJ
  simp only [mN, mT, mL, mI, mJ, mR, mS]
  congr 5
  funext a
  unfold q_u2 q_u1
  by_cases h : a = c
  · simp [h]
  · simp [h]
/-- places of the row -/
def aT (t k : Nat) : Nat := 64 + 9 * t + k
def aE (e k : Nat) : Nat := 604 + 500 * e + k
def aH (e h k : Nat) : Nat := 604 + 500 * e + (20 + 6 * h + k)
def aC (e i k : Nat) : Nat := 604 + 500 * e + (80 + 7 * i + k)
theorem at_nI (t k : Nat) : (64 : Int32) + (9 : Int32) * nI t + nI k = nI (aT t k) := by
  rw [show (64 : Int32) = nI 64 from rfl, show (9 : Int32) = nI 9 from rfl, pk_mul, nI_add, nI_add]; rfl
theorem of_nI (e k : Nat) : (604 : Int32) + (500 : Int32) * nI e + nI k = nI (aE e k) := by
  rw [show (604 : Int32) = nI 604 from rfl, show (500 : Int32) = nI 500 from rfl, pk_mul, nI_add, nI_add]; rfl
section
variable {bk dr : Nat} {X : Mm} {σ : Nat → Int64}
abbrev i5 (a p : Int64) : Int32 := ((5 : Int64) * a + p).toInt32
abbrev i50 (a : Int64) : Int32 := ((50 : Int64) + a).toInt32
def M_add (i : Nat) (v : Int64) (σ : Nat → Int64) : Nat → Int64 := q_u1 σ i (σ i + v)
theorem r_sharesOf (h : Shp bk dr X) {a p : Int64} (hi : inL (i5 a p) 4604) : fX12_sharesOf 366 a p (wJ X 367 σ) = some (σ (i5 a p).toNatClampNeg, wJ X 367 σ) := by
  simp only [fX12_sharesOf, h.1, h.2.1, h.2.2, li_T, li_L, li_R, nm, bd, q_b, ne_eq, Nat.reduceEqDiff, reduceCtorEq, and_false, false_and, and_true, true_and, and_self, not_false_eq_true, not_true_eq_false, ↓reduceIte, mT_wJ, mL_wJ, mR_wJ, mJ_wJ, hi.1, hi.2]
theorem r_givesShares (h : Shp bk dr X) {a p v : Int64} (hi : inL (i5 a p) 4604) : fX12_givesShares 366 a p v (wJ X 367 σ) = some ((), wJ X 367 (M_add (i5 a p).toNatClampNeg v σ)) := by
  simp only [fX12_givesShares, h.1, h.2.1, h.2.2, li_T, li_L, li_R, nm, bd, q_b, ne_eq, Nat.reduceEqDiff, reduceCtorEq, and_false, false_and, and_true, true_and, and_self, not_false_eq_true, not_true_eq_false, ↓reduceIte, mT_wJ, mL_wJ, mR_wJ, mJ_wJ, sJ_wJ, hi.1, hi.2, M_add]
theorem r_givesMoney (h : Shp bk dr X) {a v : Int64} (hi : inL (i50 a) 4604) : fX12_givesMoney 366 a v (wJ X 367 σ) = some ((), wJ X 367 (M_add (i50 a).toNatClampNeg v σ)) := by
  simp only [fX12_givesMoney, h.1, h.2.1, h.2.2, li_T, li_L, li_R, nm, bd, q_b, ne_eq, Nat.reduceEqDiff, reduceCtorEq, and_false, false_and, and_true, true_and, and_self, not_false_eq_true, not_true_eq_false, ↓reduceIte, mT_wJ, mL_wJ, mR_wJ, mJ_wJ, sJ_wJ, hi.1, hi.2, M_add]
end
