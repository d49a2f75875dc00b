/-! STATE: RIGHTS; PAYING; what WAITS; a DAY -/
/-- R, as it is summed: CLAIM i -/
def N_ro1 (e h : Nat) (w : Wt) (i : Nat) (v : Int64) : Int64 :=
  if w.1 38 (60 * e + i) = nI h then (if w.1 39 (60 * e + i) = nI h then v + N_sf e (w.2 40 (60 * e + i)) w else v) - N_sf e (w.2 40 (60 * e + i)) w
  else if w.1 39 (60 * e + i) = nI h then v + N_sf e (w.2 40 (60 * e + i)) w else v
def N_ro (C e h : Nat) (w : Wt) : Int64 := nf (N_ro1 e h w) C 0 (N_sf e (w.2 31 (10 * e + h)) w)
def N_op (e h : Nat) (v : Int64) (w : Wt) : Wt := N_issue e 0 (v * (w.1 20 e).toInt64) (uJ (N_pu h (v * (w.1 20 e).toInt64) w) 36 (10 * e + h) v)
def urT (q : Nat) (v : Int64) (w : Wt) : Int64 := if v < w.2 32 q then v else w.2 32 q
def urS (q : Nat) (v : Int64) (w : Wt) : Int64 := if v - urT q v w < w.2 33 q then v - urT q v w else w.2 33 q
def urM (e q : Nat) (v : Int64) (w : Wt) : Int64 := urS q v w * (w.1 20 e).toInt64 - urT q v w * (w.1 19 e).toInt64
def urW (q : Nat) (v : Int64) (w : Wt) : Wt := uJ (uJ (uJ w 34 q (urT q v w)) 35 q (urS q v w)) 36 q (v - urT q v w - urS q v w)
def N_ur (e h : Nat) (v : Int64) (w : Wt) : Wt := N_issue e (urT (10 * e + h) v w) (urM e (10 * e + h) v w) (N_pu h (urM e (10 * e + h) v w) (N_add (ix (nI h) (w.1 15 e)) (urT (10 * e + h) v w) (urW (10 * e + h) v w)))
section
variable {bk dr s : Nat} {X : Mm}
theorem c_rightsOf (h : Shp bk dr X) (hs : St s) {T G H e n C a : Nat} {w : Wt} (ok : Ok T G H w.1) (he : e < G) (ha : a < 10) (hC : w.1 26 e = nI C) (hC6 : C ≤ 60) (hn : 64 ≤ n) : fX8_rightsOf n s (nI e) (nI a) (pW s w X) = some (N_ro C e a w, pW s w X) := by
  have hG := ok.2.2.2.1
  have e1 : (nI e).toNatClampNeg = e := nI_clamp (by omega)
  have e2 := inL_nI (j := e) (n := 8) (by omega) (by decide)
  have k1 : (nI (10 * e + a)).toNatClampNeg = 10 * e + a := nI_clamp (by omega)
  have k2 := inL_nI (j := 10 * e + a) (n := 80) (by omega) (by decide)
  have he8 : e < 8 := by omega
  have g := loop_ga (F := fun j i v => fX8_rightsOf_L25 n j s (nI e) (nI a) v i (pW s w X)) (N := N_ro1 e a w) (I := fun _ _ => True) (out := fun v => some (v, pW s w X)) C
    (fun j i v hi _ => by
      have e3 : ¬ nI C ≤ nI i := nI_ge hi (by omega)
      have q1 : (nI (60 * e + i)).toNatClampNeg = 60 * e + i := nI_clamp (by omega)
      have q2 := inL_nI (j := 60 * e + i) (n := 480) (by omega) (by decide)
      rw [fX8_rightsOf_L25]
      simp only [h.1, h.2.1, h.2.2, st_T s hs, st_L s hs, st_R hs, mT_pW, mL_pW, mR_pW, mI_pW, mJ_pW, mI_pW0, mJ_pW0, sI_pW, sJ_pW, sI_pW0, nm, bd, q_b, ne_eq, Nat.add_eq_zero_iff, Nat.reduceEqDiff, Nat.reduceLeDiff, Nat.reduceAdd, and_false, false_and, and_true, true_and, and_self, not_false_eq_true, not_true_eq_false, reduceCtorEq, ↓reduceIte, hC, e3, e1, e2.1, e2.2, fX1_at, at60, q1, q2.1, q2.2, c_sharesFor h hs he8]
      by_cases g1 : w.1 39 (60 * e + i) = nI a
      · by_cases g2 : w.1 38 (60 * e + i) = nI a
        · simp only [g1, g2, ↓reduceIte, fX8_rightsOf_L86, fX8_rightsOf_L105, h.1, h.2.1, h.2.2, st_T s hs, st_L s hs, st_R hs, mT_pW, mL_pW, mR_pW, mI_pW, mJ_pW, mI_pW0, mJ_pW0, sI_pW, sJ_pW, sI_pW0, nm, bd, q_b, ne_eq, Nat.add_eq_zero_iff, Nat.reduceEqDiff, Nat.reduceLeDiff, Nat.reduceAdd, and_false, false_and, and_true, true_and, and_self, not_false_eq_true, not_true_eq_false, reduceCtorEq, ↓reduceIte, q1, q2.1, q2.2, nI_1, N_ro1]
        · simp only [g1, g2, ↓reduceIte, fX8_rightsOf_L86, fX8_rightsOf_L105, h.1, h.2.1, h.2.2, st_T s hs, st_L s hs, st_R hs, mT_pW, mL_pW, mR_pW, mI_pW, mJ_pW, mI_pW0, mJ_pW0, sI_pW, sJ_pW, sI_pW0, nm, bd, q_b, ne_eq, Nat.add_eq_zero_iff, Nat.reduceEqDiff, Nat.reduceLeDiff, Nat.reduceAdd, and_false, false_and, and_true, true_and, and_self, not_false_eq_true, not_true_eq_false, reduceCtorEq, ↓reduceIte, q1, q2.1, q2.2, nI_1, N_ro1]
      · by_cases g2 : w.1 38 (60 * e + i) = nI a
        · simp only [g1, g2, ↓reduceIte, fX8_rightsOf_L86, fX8_rightsOf_L105, h.1, h.2.1, h.2.2, st_T s hs, st_L s hs, st_R hs, mT_pW, mL_pW, mR_pW, mI_pW, mJ_pW, mI_pW0, mJ_pW0, sI_pW, sJ_pW, sI_pW0, nm, bd, q_b, ne_eq, Nat.add_eq_zero_iff, Nat.reduceEqDiff, Nat.reduceLeDiff, Nat.reduceAdd, and_false, false_and, and_true, true_and, and_self, not_false_eq_true, not_true_eq_false, reduceCtorEq, ↓reduceIte, q1, q2.1, q2.2, nI_1, N_ro1]
        · simp only [g1, g2, ↓reduceIte, fX8_rightsOf_L86, fX8_rightsOf_L105, h.1, h.2.1, h.2.2, st_T s hs, st_L s hs, st_R hs, mT_pW, mL_pW, mR_pW, mI_pW, mJ_pW, mI_pW0, mJ_pW0, sI_pW, sJ_pW, sI_pW0, nm, bd, q_b, ne_eq, Nat.add_eq_zero_iff, Nat.reduceEqDiff, Nat.reduceLeDiff, Nat.reduceAdd, and_false, false_and, and_true, true_and, and_self, not_false_eq_true, not_true_eq_false, reduceCtorEq, ↓reduceIte, q1, q2.1, q2.2, nI_1, N_ro1])
    (fun _ _ _ _ => trivial)
    (fun j v _ => by
      have e3 : nI C ≤ nI C := nI_le (Nat.le_refl _) (by omega)
      rw [fX8_rightsOf_L25]
      simp only [h.1, h.2.1, h.2.2, st_T s hs, st_L s hs, st_R hs, mT_pW, mL_pW, mR_pW, mI_pW, mJ_pW, mI_pW0, mJ_pW0, sI_pW, sJ_pW, sI_pW0, nm, bd, q_b, ne_eq, Nat.add_eq_zero_iff, Nat.reduceEqDiff, Nat.reduceLeDiff, Nat.reduceAdd, and_false, false_and, and_true, true_and, and_self, not_false_eq_true, not_true_eq_false, reduceCtorEq, ↓reduceIte, hC, e3, e1, e2.1, e2.2]) C 0 (N_sf e (w.2 31 (10 * e + a)) w) n (by omega) (by omega) trivial
  simp only [fX8_rightsOf, fX6_at, at10, h.1, h.2.1, h.2.2, st_T s hs, st_L s hs, st_R hs, mT_pW, mL_pW, mR_pW, mI_pW, mJ_pW, mI_pW0, mJ_pW0, sI_pW, sJ_pW, sI_pW0, nm, bd, q_b, ne_eq, Nat.add_eq_zero_iff, Nat.reduceEqDiff, Nat.reduceLeDiff, Nat.reduceAdd, and_false, false_and, and_true, true_and, and_self, not_false_eq_true, not_true_eq_false, reduceCtorEq, ↓reduceIte, k1, k2.1, k2.2, c_sharesFor h hs he8]
  exact g.1
theorem c_owe (h : Shp bk dr X) (hs : St s) {e a : Nat} {v : Int64} {w : Wt} (he : e < 8) (ha : a < 10) : fX8_owePerRight s (nI e) (nI a) v (pW s w X) = some ((), pW s (N_op e a v w) X) := by
  have e1 : (nI e).toNatClampNeg = e := nI_clamp (by omega)
  have e2 := inL_nI (j := e) (n := 8) (by omega) (by decide)
  have a1 : (nI a).toNatClampNeg = a := nI_clamp (by omega)
  have a2 := inL_nI (j := a) (n := 10) (by omega) (by decide)
  have k1 : (nI (10 * e + a)).toNatClampNeg = 10 * e + a := nI_clamp (by omega)
  have k2 := inL_nI (j := 10 * e + a) (n := 80) (by omega) (by decide)
  simp only [fX8_owePerRight, fX6_at, at10, h.1, h.2.1, h.2.2, st_T s hs, st_L s hs, st_R hs, mT_pW, mL_pW, mR_pW, mI_pW, mJ_pW, mI_pW0, mJ_pW0, sI_pW, sJ_pW, sI_pW0, nm, bd, q_b, ne_eq, Nat.add_eq_zero_iff, Nat.reduceEqDiff, Nat.reduceLeDiff, Nat.reduceAdd, and_false, false_and, and_true, true_and, and_self, not_false_eq_true, not_true_eq_false, reduceCtorEq, ↓reduceIte, e1, e2.1, e2.2, a1, a2.1, a2.2, k1, k2.1, k2.2, c_issue h hs he, N_op, N_pu]
theorem c_use (h : Shp bk dr X) (hs : St s) {e a : Nat} {v : Int64} {w : Wt} (he : e < 8) (ha : a < 10) (hp : inL (w.1 15 e) 5) : fX8_useRights s (nI e) (nI a) v (pW s w X) = some ((), pW s (N_ur e a v w) X) := by
  have e1 : (nI e).toNatClampNeg = e := nI_clamp (by omega)
  have e2 := inL_nI (j := e) (n := 8) (by omega) (by decide)
  have a1 : (nI a).toNatClampNeg = a := nI_clamp (by omega)
  have a2 := inL_nI (j := a) (n := 10) (by omega) (by decide)
  have k1 : (nI (10 * e + a)).toNatClampNeg = 10 * e + a := nI_clamp (by omega)
  have k2 := inL_nI (j := 10 * e + a) (n := 80) (by omega) (by decide)
  simp only [fX8_useRights, fX6_at, at10, h.1, h.2.1, h.2.2, st_T s hs, st_L s hs, st_R hs, mT_pW, mL_pW, mR_pW, mI_pW, mJ_pW, mI_pW0, mJ_pW0, sI_pW, sJ_pW, sI_pW0, nm, bd, q_b, ne_eq, Nat.add_eq_zero_iff, Nat.reduceEqDiff, Nat.reduceLeDiff, Nat.reduceAdd, and_false, false_and, and_true, true_and, and_self, not_false_eq_true, not_true_eq_false, reduceCtorEq, ↓reduceIte, e1, e2.1, e2.2, a1, a2.1, a2.2, k1, k2.1, k2.2, uJ_1, c_addShares h hs (inL_ix a2 hp), c_issue h hs he, N_add_1]
  rfl
end
