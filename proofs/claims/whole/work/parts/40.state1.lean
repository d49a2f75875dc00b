/-! STATE, one step each: the printed functions over a State's cells -/
section
variable {bk dr s : Nat} {w : Wt} {X : Mm}
/-- the place of a HOLDER's SHARES of a PAPER -/
def ix (a p : Int32) : Nat := (a * 5 + p).toNatClampNeg
abbrev inL (v : Int32) (n : Nat) : Prop := 0 ≤ v.toInt ∧ v.toInt < (n : Int)
theorem c_sharesOf (h : Shp bk dr X) (hs : St s) {a p : Int32} (hi : inL (a * 5 + p) 50) : fX8_sharesOf s a p (pW s w X) = some (w.2 1 (ix a p), pW s w X) := by
  simp only [fX8_sharesOf, h.1, h.2.1, h.2.2, st_T s hs, st_L s hs, st_R hs, mT_pW, mL_pW, mR_pW, mI_pW, mJ_pW, mI_pW0, mJ_pW0, sI_pW, sJ_pW, sI_pW0, nm, bd, q_b, ne_eq, Nat.add_eq_zero_iff, Nat.reduceEqDiff, Nat.reduceLeDiff, Nat.reduceAdd, and_false, false_and, and_true, true_and, and_self, not_false_eq_true, not_true_eq_false, reduceCtorEq, ↓reduceIte, hi.1, hi.2, ix]
def N_add (i : Nat) (v : Int64) (w : Wt) : Wt := uJ w 1 i (w.2 1 i + v)
theorem c_addShares (h : Shp bk dr X) (hs : St s) {a p : Int32} {v : Int64} (hi : inL (a * 5 + p) 50) : fX8_addShares s a p v (pW s w X) = some ((), pW s (N_add (ix a p) v w) X) := by
  simp only [fX8_addShares, h.1, h.2.1, h.2.2, st_T s hs, st_L s hs, st_R hs, mT_pW, mL_pW, mR_pW, mI_pW, mJ_pW, mI_pW0, mJ_pW0, sI_pW, sJ_pW, sI_pW0, nm, bd, q_b, ne_eq, Nat.add_eq_zero_iff, Nat.reduceEqDiff, Nat.reduceLeDiff, Nat.reduceAdd, and_false, false_and, and_true, true_and, and_self, not_false_eq_true, not_true_eq_false, reduceCtorEq, ↓reduceIte, hi.1, hi.2, ix, N_add]
def N_pu (a : Nat) (v : Int64) (w : Wt) : Wt := uJ w 2 a (w.2 2 a + v)
def N_mv (a b : Nat) (v : Int64) (w : Wt) : Wt := N_pu b v (uJ w 2 a (w.2 2 a - v))
theorem c_moveMoney (h : Shp bk dr X) (hs : St s) {a b : Int32} {v : Int64} (ha : inL a 10) (hb : inL b 10) : fX8_moveMoney s a b v (pW s w X) = some ((), pW s (N_mv a.toNatClampNeg b.toNatClampNeg v w) X) := by
  simp only [fX8_moveMoney, h.1, h.2.1, h.2.2, st_T s hs, st_L s hs, st_R hs, mT_pW, mL_pW, mR_pW, mI_pW, mJ_pW, mI_pW0, mJ_pW0, sI_pW, sJ_pW, sI_pW0, nm, bd, q_b, ne_eq, Nat.add_eq_zero_iff, Nat.reduceEqDiff, Nat.reduceLeDiff, Nat.reduceAdd, and_false, false_and, and_true, true_and, and_self, not_false_eq_true, not_true_eq_false, reduceCtorEq, ↓reduceIte, ha.1, ha.2, hb.1, hb.2, N_mv, N_pu]
def N_fin (t : Nat) (how day : Int32) (w : Wt) : Wt := uI (uI w 11 t how) 12 t day
theorem c_finish (h : Shp bk dr X) (hs : St s) {t how day : Int32} (ht : inL t 60) : fX10_finish (s + 3) t how day (pW s w X) = some ((), pW s (N_fin t.toNatClampNeg how day w) X) := by
  simp only [fX10_finish, h.1, h.2.1, h.2.2, st_T s hs, st_L s hs, st_R hs, mT_pW, mL_pW, mR_pW, mI_pW, mJ_pW, mI_pW0, mJ_pW0, sI_pW, sJ_pW, sI_pW0, nm, bd, q_b, ne_eq, Nat.add_eq_zero_iff, Nat.reduceEqDiff, Nat.reduceLeDiff, Nat.reduceAdd, and_false, false_and, and_true, true_and, and_self, not_false_eq_true, not_true_eq_false, reduceCtorEq, ↓reduceIte, ht.1, ht.2, N_fin]
end
