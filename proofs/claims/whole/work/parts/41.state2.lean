/-! STATE: settling -/
theorem inL_of {v : Int32} {n : Nat} (h : inL v n) (hn : n < 2 ^ 31) : ∃ j : Nat, j < n ∧ v = nI j := vp_in_of (vp_in_iff.mpr h) hn
theorem inL_nI {j n : Nat} (h : j < n) (hn : n < 2 ^ 31) : inL (nI j) n := vp_in_iff.mp (vp_in_nI h hn)
theorem nI_lit (n : Nat) : (OfNat.ofNat n : Int32) = nI n := rfl
theorem inL_ix {a p : Int32} (ha : inL a 10) (hp : inL p 5) : inL (a * 5 + p) 50 := by
  obtain ⟨j, hj, rfl⟩ := inL_of ha (by decide)
  obtain ⟨k, hk, rfl⟩ := inL_of hp (by decide)
  rw [show (5 : Int32) = nI 5 from rfl, pk_mul, nI_add]
  exact inL_nI (by omega) (by decide)
/-- a step for each number from i on, m of them -/
def nf {A : Type} (f : Nat → A → A) : Nat → Nat → A → A
| 0, _, w => w
| m + 1, i, w => nf f m (i + 1) (f i w)
def N_settle (t : Nat) (w : Wt) : Wt := if w.1 11 t = 0 then if w.1 0 8 < w.1 10 t then w else if lg_cmp (w.2 1 (ix (w.1 5 t) (w.1 6 t))) (w.2 7 t) < 0 then w else
  N_fin t 1 (w.1 0 8) (N_mv (w.1 4 t).toNatClampNeg (w.1 5 t).toNatClampNeg (w.2 8 t) (N_add (ix (w.1 4 t) (w.1 6 t)) (w.2 7 t) (N_add (ix (w.1 5 t) (w.1 6 t)) (-(w.2 7 t)) w))) else w
/-- of a TRADE's row: who buys, who sells, the PAPER are such -/
def okT (w : Wt) (t : Nat) : Prop := inL (w.1 4 t) 10 ∧ inL (w.1 5 t) 10 ∧ inL (w.1 6 t) 5
theorem N_add_1 (i : Nat) (v : Int64) (w : Wt) : (N_add i v w).1 = w.1 := rfl
theorem N_mv_1 (a b : Nat) (v : Int64) (w : Wt) : (N_mv a b v w).1 = w.1 := rfl
theorem N_add_2 (i : Nat) (v : Int64) (w : Wt) {a : Nat} (ha : a ≠ 1) (k : Nat) : (N_add i v w).2 a k = w.2 a k := by
  unfold N_add
  rw [uJ_2, if_neg (fun h => ha h.1)]
theorem N_mv_2 (i j : Nat) (v : Int64) (w : Wt) {a : Nat} (ha : a ≠ 2) (k : Nat) : (N_mv i j v w).2 a k = w.2 a k := by
  unfold N_mv N_pu
  rw [uJ_2, if_neg (fun h => ha h.1), uJ_2, if_neg (fun h => ha h.1)]
theorem N_settle_1 (t : Nat) (w : Wt) {a : Nat} (h1 : a ≠ 11) (h2 : a ≠ 12) (k : Nat) : (N_settle t w).1 a k = w.1 a k := by
  unfold N_settle N_fin
  split
  · split
    · rfl
    · split
      · rfl
      · rw [uI_1, if_neg (fun h => h2 h.1), uI_1, if_neg (fun h => h1 h.1), N_mv_1, N_add_1, N_add_1]
  · rfl
section
variable {bk dr s : Nat} {w : Wt} {X : Mm}
theorem c_settle1 (h : Shp bk dr X) (hs : St s) {t T : Nat} (hT : w.1 3 9 = nI T) (hT6 : T ≤ 60) (ht : t < T) (ok : okT w t) (n j : Nat) : fX8_settleTrades_L2 n (j + 1) s (nI t) (pW s w X) = fX8_settleTrades_L2 n j s (nI (t + 1)) (pW s (N_settle t w) X) := by
  have e1 : (nI t).toNatClampNeg = t := nI_clamp (by omega)
  have e2 := inL_nI (j := t) (n := 60) (by omega) (by decide)
  have e3 : ¬ nI T ≤ nI t := nI_ge ht (by omega)
  have i1 := inL_ix ok.2.1 ok.2.2
  have i2 := inL_ix ok.1 ok.2.2
  rw [fX8_settleTrades_L2]
  simp only [h.1, h.2.1, h.2.2, st_T s hs, st_L s hs, st_R hs, mT_pW, mL_pW, mR_pW, mI_pW, mJ_pW, mI_pW0, mJ_pW0, sI_pW, sJ_pW, sI_pW0, nm, bd, q_b, ne_eq, Nat.add_eq_zero_iff, Nat.reduceEqDiff, Nat.reduceLeDiff, Nat.reduceAdd, and_false, false_and, and_true, true_and, and_self, not_false_eq_true, not_true_eq_false, reduceCtorEq, ↓reduceIte, hT, e1, e2.1, e2.2, e3]
  by_cases h1 : w.1 11 t = 0
  · simp only [h1, ↓reduceIte]
    by_cases h2 : w.1 0 8 < w.1 10 t
    · simp only [h2, ↓reduceIte, fX8_settleTrades_L45, fX8_settleTrades_L46, fX8_settleTrades_L193, nm, N_settle, h1, nI_1]
    · simp only [h2, ↓reduceIte, fX8_settleTrades_L46, h.1, h.2.1, h.2.2, st_T s hs, st_L s hs, st_R hs, mT_pW, mL_pW, mR_pW, mI_pW, mJ_pW, mI_pW0, mJ_pW0, sI_pW, sJ_pW, sI_pW0, nm, bd, q_b, ne_eq, Nat.add_eq_zero_iff, Nat.reduceEqDiff, Nat.reduceLeDiff, Nat.reduceAdd, and_false, false_and, and_true, true_and, and_self, not_false_eq_true, not_true_eq_false, reduceCtorEq, ↓reduceIte, e1, e2.1, e2.2, c_sharesOf h hs i1]
      by_cases h3 : lg_cmp (w.2 1 (ix (w.1 5 t) (w.1 6 t))) (w.2 7 t) < 0
      · simp only [h3, ↓reduceIte, fX8_settleTrades_L193, nm, N_settle, h1, h2, nI_1]
        rfl
      · simp only [h3, ↓reduceIte, fX8_settleTrades_L193, nm, N_settle, h1, h2, nI_1, h.1, h.2.1, h.2.2, st_T s hs, st_L s hs, st_R hs, mT_pW, mL_pW, mR_pW, mI_pW, mJ_pW, mI_pW0, mJ_pW0, sI_pW, sJ_pW, sI_pW0, nm, bd, q_b, ne_eq, Nat.add_eq_zero_iff, Nat.reduceEqDiff, Nat.reduceLeDiff, Nat.reduceAdd, and_false, false_and, and_true, true_and, and_self, not_false_eq_true, not_true_eq_false, reduceCtorEq, ↓reduceIte, e1, e2.1, e2.2, c_addShares h hs i1, c_addShares h hs i2, c_moveMoney h hs ok.1 ok.2.1, c_finish h hs e2, N_add_1, N_mv_1, N_add_2, N_mv_2]
        rfl
  · simp only [h1, ↓reduceIte, fX8_settleTrades_L45, fX8_settleTrades_L46, fX8_settleTrades_L193, nm, N_settle, nI_1]
theorem c_settleL (h : Shp bk dr X) (hs : St s) {T : Nat} (hT6 : T ≤ 60) (n : Nat) : ∀ (m t : Nat) (w : Wt) (j : Nat), t + m = T → m < j → w.1 3 9 = nI T → (∀ i, i < T → okT w i) → fX8_settleTrades_L2 n j s (nI t) (pW s w X) = some ((), pW s (nf N_settle m t w) X) := by
  intro m
  induction m with
  | zero =>
    intro t w j ht hj hT ok
    obtain ⟨j, rfl⟩ : ∃ i, j = i + 1 := ⟨j - 1, by omega⟩
    have e3 : nI T ≤ nI t := nI_le (by omega) (by omega)
    rw [fX8_settleTrades_L2]
    simp only [h.1, h.2.1, h.2.2, st_T s hs, st_L s hs, st_R hs, mT_pW, mL_pW, mR_pW, mI_pW, mJ_pW, mI_pW0, mJ_pW0, sI_pW, sJ_pW, sI_pW0, nm, bd, q_b, ne_eq, Nat.add_eq_zero_iff, Nat.reduceEqDiff, Nat.reduceLeDiff, Nat.reduceAdd, and_false, false_and, and_true, true_and, and_self, not_false_eq_true, not_true_eq_false, reduceCtorEq, ↓reduceIte, hT, e3, nf]
  | succ m ih =>
    intro t w j ht hj hT ok
    obtain ⟨j, rfl⟩ : ∃ i, j = i + 1 := ⟨j - 1, by omega⟩
    rw [c_settle1 h hs hT hT6 (by omega) (ok t (by omega)), nf]
    refine ih (t + 1) (N_settle t w) j (by omega) (by omega) ?_ (fun i hi => ?_)
    · rw [N_settle_1 _ _ (by decide) (by decide)]; exact hT
    · have o := ok i hi
      unfold okT at o ⊢
      rw [N_settle_1 _ _ (by decide) (by decide), N_settle_1 _ _ (by decide) (by decide), N_settle_1 _ _ (by decide) (by decide)]
      exact o
end
