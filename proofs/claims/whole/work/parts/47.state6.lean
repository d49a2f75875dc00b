/-! STATE: CLAIMS are made; EVENTS are written -/
def cq (e : Nat) (w : Wt) : Nat := 60 * e + (w.1 26 e).toNatClampNeg
def N_ac (e : Nat) (a b : Int32) (t : Nat) (w : Wt) : Wt := if 60 ≤ w.1 26 e then w else
  uI (uI (uI (uJ (uI (uI w 38 (cq e w) a) 39 (cq e w) b) 40 (cq e w) (w.2 7 t)) 41 (cq e w) (nI t)) 42 (cq e w) 0) 26 e (w.1 26 e + 1)
def N_mc (e t : Nat) (w : Wt) : Wt := if w.1 6 t = w.1 15 e then if w.1 11 t = 0 then if w.1 22 e ≤ w.1 9 t then w else N_ac e (w.1 5 t) (w.1 4 t) t w
  else if w.1 11 t = 1 then if w.1 22 e ≤ w.1 9 t then N_ac e (w.1 4 t) (w.1 5 t) t w else w else w else w
theorem N_ac_1 (e : Nat) (a b : Int32) (t : Nat) (w : Wt) (x k : Nat) (h : x ≠ 38 ∧ x ≠ 39 ∧ x ≠ 41 ∧ x ≠ 42 ∧ x ≠ 26) : (N_ac e a b t w).1 x k = w.1 x k := by
  unfold N_ac
  split
  · rfl
  · rw [uI_1, if_neg (by omega), uI_1, if_neg (by omega), uI_1, if_neg (by omega), uJ_1, uI_1, if_neg (by omega), uI_1, if_neg (by omega)]
theorem Ok.ac {T G H e t : Nat} {a b : Int32} {w : Wt} (h : Ok T G H w.1) (he : e < G) (ha : inL a 10) (hb : inL b 10) : Ok T G H (N_ac e a b t w).1 := by
  obtain ⟨h1, h2, h3, h4, h5, h6, h7, h8⟩ := h
  have g : ∀ x k, (x ≠ 38 ∧ x ≠ 39 ∧ x ≠ 41 ∧ x ≠ 42 ∧ x ≠ 26) → (N_ac e a b t w).1 x k = w.1 x k := fun x k hx => N_ac_1 e a b t w x k hx
  refine ⟨by rw [g 3 _ (by omega)]; exact h1, h2, by rw [g 13 _ (by omega)]; exact h3, h4, by rw [g 0 _ (by omega)]; exact h5, h6, fun i hi => ?_, fun q hq => ?_⟩
  · obtain ⟨o1, o2, o3⟩ := h7 i hi
    exact ⟨by rw [g 4 _ (by omega)]; exact o1, by rw [g 5 _ (by omega)]; exact o2, by rw [g 6 _ (by omega)]; exact o3⟩
  · obtain ⟨o1, o2, c, o3, o4, o5⟩ := h8 q hq
    refine ⟨by rw [g 15 _ (by omega)]; exact o1, fun hk => by rw [g 14 _ (by omega)] at hk; rw [g 16 _ (by omega)]; exact o2 hk, ?_⟩
    obtain ⟨-, -, d, d3, d4, -⟩ := h8 e he
    by_cases hd : d = 60
    · have e0 : N_ac e a b t w = w := by
        unfold N_ac
        rw [if_pos (by rw [d4, hd]; decide)]
      rw [e0]
      exact ⟨c, o3, o4, o5⟩
    · have hn : ¬ (60 : Int32) ≤ w.1 26 e := by
        rw [d4, show (60 : Int32) = nI 60 from rfl, nI_leI (by omega) (by omega)]
        omega
      have hcq : cq e w = 60 * e + d := by
        unfold cq
        rw [d4, nI_clamp (by omega)]
      have r26 : ∀ k, (N_ac e a b t w).1 26 k = if k = e then nI (d + 1) else w.1 26 k := fun k => by
        unfold N_ac
        rw [if_neg hn, uI_1]
        by_cases hk : k = e
        · rw [if_pos ⟨rfl, hk⟩, if_pos hk, d4, nI_1]
        · rw [if_neg (fun z => hk z.2), if_neg hk, uI_1, if_neg (by omega), uI_1, if_neg (by omega), uJ_1, uI_1, if_neg (by omega), uI_1, if_neg (by omega)]
      have r38 : ∀ k, (N_ac e a b t w).1 38 k = if k = 60 * e + d then a else w.1 38 k := fun k => by
        unfold N_ac
        rw [if_neg hn, uI_1, if_neg (by omega), uI_1, if_neg (by omega), uI_1, if_neg (by omega), uJ_1, uI_1, if_neg (by omega), uI_1, hcq]
        by_cases hk : k = 60 * e + d
        · rw [if_pos ⟨rfl, hk⟩, if_pos hk]
        · rw [if_neg (fun z => hk z.2), if_neg hk]
      have r39 : ∀ k, (N_ac e a b t w).1 39 k = if k = 60 * e + d then b else w.1 39 k := fun k => by
        unfold N_ac
        rw [if_neg hn, uI_1, if_neg (by omega), uI_1, if_neg (by omega), uI_1, if_neg (by omega), uJ_1, uI_1, hcq]
        by_cases hk : k = 60 * e + d
        · rw [if_pos ⟨rfl, hk⟩, if_pos hk]
        · rw [if_neg (fun z => hk z.2), if_neg hk, uI_1, if_neg (by omega)]
      by_cases hqe : q = e
      · subst hqe
        have hcd : c = d := by
          have z := o4.symm.trans d4
          exact (nI_eq (by omega) (by omega)).mp z
        subst hcd
        refine ⟨c + 1, by omega, by rw [r26, if_pos rfl], fun i hi => ?_⟩
        rw [r38, r39]
        by_cases hi2 : i = c
        · rw [if_pos (by omega), if_pos (by omega)]; exact ⟨ha, hb⟩
        · rw [if_neg (by omega), if_neg (by omega)]; exact o5 i (by omega)
      · refine ⟨c, o3, by rw [r26, if_neg hqe]; exact o4, fun i hi => ?_⟩
        rw [r38, r39, if_neg (by omega), if_neg (by omega)]
        exact o5 i hi
section
variable {bk dr s : Nat} {X : Mm}
theorem c_addClaim (h : Shp bk dr X) (hs : St s) {e t c : Nat} {a b : Int32} {w : Wt} (he : e < 8) (ht : t < 60) (hc : w.1 26 e = nI c) (hc6 : c ≤ 60) : fX8_addClaim s (nI e) a b (nI t) (pW s w X) = some ((), pW s (N_ac e a b t w) X) := by
  have e1 : (nI e).toNatClampNeg = e := nI_clamp (by omega)
  have e2 := inL_nI (j := e) (n := 8) he (by decide)
  have t1 : (nI t).toNatClampNeg = t := nI_clamp (by omega)
  have t2 := inL_nI (j := t) (n := 60) ht (by decide)
  by_cases hd : c = 60
  · have h60 : (60 : Int32) ≤ nI c := by rw [hd]; decide
    simp only [fX8_addClaim, h.1, h.2.1, h.2.2, st_T s hs, st_L s hs, st_R hs, mT_pW, mL_pW, mR_pW, mI_pW, mJ_pW, mI_pW0, mJ_pW0, sI_pW, sJ_pW, sI_pW0, nm, bd, q_b, ne_eq, Nat.add_eq_zero_iff, Nat.reduceEqDiff, Nat.reduceLeDiff, Nat.reduceAdd, and_false, false_and, and_true, true_and, and_self, not_false_eq_true, not_true_eq_false, reduceCtorEq, ↓reduceIte, e1, e2.1, e2.2, hc, h60, N_ac]
  · have h60 : ¬ (60 : Int32) ≤ nI c := by
      rw [show (60 : Int32) = nI 60 from rfl, nI_leI (by omega) (by omega)]
      omega
    have k1 : (nI (60 * e + c)).toNatClampNeg = 60 * e + c := nI_clamp (by omega)
    have k2 := inL_nI (j := 60 * e + c) (n := 480) (by omega) (by decide)
    have hcq : cq e w = 60 * e + c := by
      unfold cq
      rw [hc, nI_clamp (by omega)]
    simp only [fX8_addClaim, fX1_at, fX1_put, h.1, h.2.1, h.2.2, st_T s hs, st_L s hs, st_R hs, mT_pW, mL_pW, mR_pW, mI_pW, mJ_pW, mI_pW0, mJ_pW0, sI_pW, sJ_pW, sI_pW0, nm, bd, q_b, ne_eq, Nat.add_eq_zero_iff, Nat.reduceEqDiff, Nat.reduceLeDiff, Nat.reduceAdd, and_false, false_and, and_true, true_and, and_self, not_false_eq_true, not_true_eq_false, reduceCtorEq, ↓reduceIte, e1, e2.1, e2.2, t1, t2.1, t2.2, hc, h60, at60, k1, k2.1, k2.2, N_ac, hcq]
theorem c_mc (h : Shp bk dr X) (hs : St s) {T G H e t : Nat} {w : Wt} (ok : Ok T G H w.1) (he : e < G) (ht : t < T) (n j : Nat) : fX8_makeClaims_L2 n (j + 1) s (nI e) (nI t) (pW s w X) = fX8_makeClaims_L2 n j s (nI e) (nI (t + 1)) (pW s (N_mc e t w) X) := by
  obtain ⟨h1, h2, h3, h4, h5, h6, h7, h8⟩ := ok
  obtain ⟨-, -, c, hc6, hc, -⟩ := h8 e he
  have e1 : (nI e).toNatClampNeg = e := nI_clamp (by omega)
  have e2 := inL_nI (j := e) (n := 8) (by omega) (by decide)
  have t1 : (nI t).toNatClampNeg = t := nI_clamp (by omega)
  have t2 := inL_nI (j := t) (n := 60) (by omega) (by decide)
  have e3 : ¬ nI T ≤ nI t := nI_ge ht (by omega)
  have A : ∀ a b : Int32, fX8_addClaim s (nI e) a b (nI t) (pW s w X) = some ((), pW s (N_ac e a b t w) X) := fun a b => c_addClaim h hs (by omega) (by omega) hc hc6
  have z1 : ¬ (1 : Int32) = 0 := by decide
  have z2 : ¬ (0 : Int32) = 1 := by decide
  rw [fX8_makeClaims_L2]
  simp only [h.1, h.2.1, h.2.2, st_T s hs, st_L s hs, st_R hs, mT_pW, mL_pW, mR_pW, mI_pW, mJ_pW, mI_pW0, mJ_pW0, sI_pW, sJ_pW, sI_pW0, nm, bd, q_b, ne_eq, Nat.add_eq_zero_iff, Nat.reduceEqDiff, Nat.reduceLeDiff, Nat.reduceAdd, and_false, false_and, and_true, true_and, and_self, not_false_eq_true, not_true_eq_false, reduceCtorEq, ↓reduceIte, h1, e3, e1, e2.1, e2.2, t1, t2.1, t2.2]
  by_cases g0 : w.1 22 e ≤ w.1 9 t
  · by_cases g1 : w.1 6 t = w.1 15 e
    · by_cases g2 : w.1 11 t = 0
      · simp only [g0, g1, g2, z2, ↓reduceIte, fX8_makeClaims_L39, fX8_makeClaims_L104, fX8_makeClaims_L145, h.1, h.2.1, h.2.2, st_T s hs, st_L s hs, st_R hs, mT_pW, mL_pW, mR_pW, mI_pW, mJ_pW, mI_pW0, mJ_pW0, sI_pW, sJ_pW, sI_pW0, nm, bd, q_b, ne_eq, Nat.add_eq_zero_iff, Nat.reduceEqDiff, Nat.reduceLeDiff, Nat.reduceAdd, and_false, false_and, and_true, true_and, and_self, not_false_eq_true, not_true_eq_false, reduceCtorEq, ↓reduceIte, e1, e2.1, e2.2, t1, t2.1, t2.2, nI_1, N_mc]
      · by_cases g3 : w.1 11 t = 1
        · simp only [g0, g1, g2, g3, z1, ↓reduceIte, fX8_makeClaims_L39, fX8_makeClaims_L104, fX8_makeClaims_L145, h.1, h.2.1, h.2.2, st_T s hs, st_L s hs, st_R hs, mT_pW, mL_pW, mR_pW, mI_pW, mJ_pW, mI_pW0, mJ_pW0, sI_pW, sJ_pW, sI_pW0, nm, bd, q_b, ne_eq, Nat.add_eq_zero_iff, Nat.reduceEqDiff, Nat.reduceLeDiff, Nat.reduceAdd, and_false, false_and, and_true, true_and, and_self, not_false_eq_true, not_true_eq_false, reduceCtorEq, ↓reduceIte, e1, e2.1, e2.2, t1, t2.1, t2.2, nI_1, N_mc, A]
        · simp only [g0, g1, g2, g3, ↓reduceIte, fX8_makeClaims_L39, fX8_makeClaims_L104, fX8_makeClaims_L145, h.1, h.2.1, h.2.2, st_T s hs, st_L s hs, st_R hs, mT_pW, mL_pW, mR_pW, mI_pW, mJ_pW, mI_pW0, mJ_pW0, sI_pW, sJ_pW, sI_pW0, nm, bd, q_b, ne_eq, Nat.add_eq_zero_iff, Nat.reduceEqDiff, Nat.reduceLeDiff, Nat.reduceAdd, and_false, false_and, and_true, true_and, and_self, not_false_eq_true, not_true_eq_false, reduceCtorEq, ↓reduceIte, e1, e2.1, e2.2, t1, t2.1, t2.2, nI_1, N_mc]
    · simp only [g0, g1, ↓reduceIte, fX8_makeClaims_L39, fX8_makeClaims_L145, h.1, h.2.1, h.2.2, st_T s hs, st_L s hs, st_R hs, mT_pW, mL_pW, mR_pW, mI_pW, mJ_pW, mI_pW0, mJ_pW0, sI_pW, sJ_pW, sI_pW0, nm, bd, q_b, ne_eq, Nat.add_eq_zero_iff, Nat.reduceEqDiff, Nat.reduceLeDiff, Nat.reduceAdd, and_false, false_and, and_true, true_and, and_self, not_false_eq_true, not_true_eq_false, reduceCtorEq, ↓reduceIte, e1, e2.1, e2.2, t1, t2.1, t2.2, nI_1, N_mc]
  · by_cases g1 : w.1 6 t = w.1 15 e
    · by_cases g2 : w.1 11 t = 0
      · simp only [g0, g1, g2, z1, ↓reduceIte, fX8_makeClaims_L39, fX8_makeClaims_L104, fX8_makeClaims_L145, h.1, h.2.1, h.2.2, st_T s hs, st_L s hs, st_R hs, mT_pW, mL_pW, mR_pW, mI_pW, mJ_pW, mI_pW0, mJ_pW0, sI_pW, sJ_pW, sI_pW0, nm, bd, q_b, ne_eq, Nat.add_eq_zero_iff, Nat.reduceEqDiff, Nat.reduceLeDiff, Nat.reduceAdd, and_false, false_and, and_true, true_and, and_self, not_false_eq_true, not_true_eq_false, reduceCtorEq, ↓reduceIte, e1, e2.1, e2.2, t1, t2.1, t2.2, nI_1, N_mc, A]
      · by_cases g3 : w.1 11 t = 1
        · simp only [g0, g1, g2, g3, z1, ↓reduceIte, fX8_makeClaims_L39, fX8_makeClaims_L104, fX8_makeClaims_L145, h.1, h.2.1, h.2.2, st_T s hs, st_L s hs, st_R hs, mT_pW, mL_pW, mR_pW, mI_pW, mJ_pW, mI_pW0, mJ_pW0, sI_pW, sJ_pW, sI_pW0, nm, bd, q_b, ne_eq, Nat.add_eq_zero_iff, Nat.reduceEqDiff, Nat.reduceLeDiff, Nat.reduceAdd, and_false, false_and, and_true, true_and, and_self, not_false_eq_true, not_true_eq_false, reduceCtorEq, ↓reduceIte, e1, e2.1, e2.2, t1, t2.1, t2.2, nI_1, N_mc]
        · simp only [g0, g1, g2, g3, ↓reduceIte, fX8_makeClaims_L39, fX8_makeClaims_L104, fX8_makeClaims_L145, h.1, h.2.1, h.2.2, st_T s hs, st_L s hs, st_R hs, mT_pW, mL_pW, mR_pW, mI_pW, mJ_pW, mI_pW0, mJ_pW0, sI_pW, sJ_pW, sI_pW0, nm, bd, q_b, ne_eq, Nat.add_eq_zero_iff, Nat.reduceEqDiff, Nat.reduceLeDiff, Nat.reduceAdd, and_false, false_and, and_true, true_and, and_self, not_false_eq_true, not_true_eq_false, reduceCtorEq, ↓reduceIte, e1, e2.1, e2.2, t1, t2.1, t2.2, nI_1, N_mc]
    · simp only [g0, g1, ↓reduceIte, fX8_makeClaims_L39, fX8_makeClaims_L145, h.1, h.2.1, h.2.2, st_T s hs, st_L s hs, st_R hs, mT_pW, mL_pW, mR_pW, mI_pW, mJ_pW, mI_pW0, mJ_pW0, sI_pW, sJ_pW, sI_pW0, nm, bd, q_b, ne_eq, Nat.add_eq_zero_iff, Nat.reduceEqDiff, Nat.reduceLeDiff, Nat.reduceAdd, and_false, false_and, and_true, true_and, and_self, not_false_eq_true, not_true_eq_false, reduceCtorEq, ↓reduceIte, e1, e2.1, e2.2, t1, t2.1, t2.2, nI_1, N_mc]
theorem Ok.mc {T G H e t : Nat} {w : Wt} (h : Ok T G H w.1) (he : e < G) (ht : t < T) : Ok T G H (N_mc e t w).1 := by
  have o := h.2.2.2.2.2.2.1 t ht
  unfold N_mc
  split
  · split
    · split
      · exact h
      · exact h.ac he o.2.1 o.1
    · split
      · split
        · exact h.ac he o.1 o.2.1
        · exact h
      · exact h
  · exact h
theorem c_makeClaims (h : Shp bk dr X) (hs : St s) {T G H e n : Nat} {w : Wt} (ok : Ok T G H w.1) (he : e < G) (hn : 64 ≤ n) : fX8_makeClaims n s (nI e) (pW s w X) = some ((), pW s (nf (N_mc e) T 0 w) X) ∧ Ok T G H (nf (N_mc e) T 0 w).1 := by
  have hT := ok.2.1
  have g := loop_go (F := fun j i w => fX8_makeClaims_L2 n j s (nI e) i (pW s w X)) (N := N_mc e) (I := fun _ w => Ok T G H w.1) (out := fun w => some ((), pW s w X)) T
    (fun j i w hi hI => c_mc h hs hI he hi n j) (fun i w hi hI => hI.mc he hi)
    (fun j w hI => by
      have e3 : nI T ≤ nI T := nI_le (Nat.le_refl _) (by omega)
      rw [fX8_makeClaims_L2]
      simp only [h.1, h.2.1, h.2.2, st_T s hs, st_L s hs, st_R hs, mT_pW, mL_pW, mR_pW, mI_pW, mJ_pW, mI_pW0, mJ_pW0, sI_pW, sJ_pW, sI_pW0, nm, bd, q_b, ne_eq, Nat.add_eq_zero_iff, Nat.reduceEqDiff, Nat.reduceLeDiff, Nat.reduceAdd, and_false, false_and, and_true, true_and, and_self, not_false_eq_true, not_true_eq_false, reduceCtorEq, ↓reduceIte, hI.1, e3]) T 0 w n (by omega) (by omega) ok
  exact g
def N_we (T G H e : Nat) (w : Wt) : Wt := if w.1 25 e = 0 then if w.1 23 e = w.1 0 8 then if w.1 14 e = 3 then N_tp T G H e (nf (N_ws e) H 0 w) else uI (nf (N_mc e) T 0 (nf (N_ws e) H 0 w)) 25 e 1 else w else w
theorem c_we (h : Shp bk dr X) (hs : St s) {T G H e n : Nat} {w : Wt} (ok : Ok T G H w.1) (he : e < G) (hn : 64 ≤ n) (j : Nat) : fX8_writeEvents_L2 n (j + 1) s (nI e) (pW s w X) = fX8_writeEvents_L2 n j s (nI (e + 1)) (pW s (N_we T G H e w) X) ∧ Ok T G H (N_we T G H e w).1 := by
  have hG := ok.2.2.2.1
  have e1 : (nI e).toNatClampNeg = e := nI_clamp (by omega)
  have e2 := inL_nI (j := e) (n := 8) (by omega) (by decide)
  have e3 : ¬ nI G ≤ nI e := nI_ge he (by omega)
  have hw := c_writeShares h hs ok he hn
  have ok1 : Ok T G H (nf (N_ws e) H 0 w).1 := by rw [hw.2]; exact ok
  rw [fX8_writeEvents_L2]
  simp only [h.1, h.2.1, h.2.2, st_T s hs, st_L s hs, st_R hs, mT_pW, mL_pW, mR_pW, mI_pW, mJ_pW, mI_pW0, mJ_pW0, sI_pW, sJ_pW, sI_pW0, nm, bd, q_b, ne_eq, Nat.add_eq_zero_iff, Nat.reduceEqDiff, Nat.reduceLeDiff, Nat.reduceAdd, and_false, false_and, and_true, true_and, and_self, not_false_eq_true, not_true_eq_false, reduceCtorEq, ↓reduceIte, ok.2.2.1, e3, e1, e2.1, e2.2]
  by_cases g1 : w.1 25 e = 0
  · by_cases g2 : w.1 23 e = w.1 0 8
    · by_cases g3 : w.1 14 e = 3
      · have g3' : (nf (N_ws e) H 0 w).1 14 e = 3 := by rw [hw.2]; exact g3
        have hp := c_turnPaper h hs ok1 g3' he hn
        refine ⟨?_, ?_⟩
        · simp only [g1, g2, ↓reduceIte, hw.1, h.1, h.2.1, h.2.2, st_T s hs, st_L s hs, st_R hs, mT_pW, mL_pW, mR_pW, mI_pW, mJ_pW, mI_pW0, mJ_pW0, sI_pW, sJ_pW, sI_pW0, nm, bd, q_b, ne_eq, Nat.add_eq_zero_iff, Nat.reduceEqDiff, Nat.reduceLeDiff, Nat.reduceAdd, and_false, false_and, and_true, true_and, and_self, not_false_eq_true, not_true_eq_false, reduceCtorEq, ↓reduceIte, e1, e2.1, e2.2, g3', hp.1, fX8_writeEvents_L82, nI_1, N_we, g3]
        · simp only [N_we, g1, g2, g3, ↓reduceIte]
          exact hp.2
      · have g3' : ¬ (nf (N_ws e) H 0 w).1 14 e = 3 := by rw [hw.2]; exact g3
        have hp := c_makeClaims h hs ok1 he hn
        refine ⟨?_, ?_⟩
        · simp only [g1, g2, ↓reduceIte, hw.1, h.1, h.2.1, h.2.2, st_T s hs, st_L s hs, st_R hs, mT_pW, mL_pW, mR_pW, mI_pW, mJ_pW, mI_pW0, mJ_pW0, sI_pW, sJ_pW, sI_pW0, nm, bd, q_b, ne_eq, Nat.add_eq_zero_iff, Nat.reduceEqDiff, Nat.reduceLeDiff, Nat.reduceAdd, and_false, false_and, and_true, true_and, and_self, not_false_eq_true, not_true_eq_false, reduceCtorEq, ↓reduceIte, e1, e2.1, e2.2, g3', hp.1, fX8_writeEvents_L82, nI_1, N_we, g3]
        · simp only [N_we, g1, g2, g3, ↓reduceIte]
          exact hp.2.uI (by omega) (fun q => by omega)
    · refine ⟨?_, ?_⟩
      · simp only [g1, g2, ↓reduceIte, fX8_writeEvents_L82, nm, nI_1, N_we]
      · simp only [N_we, g1, g2, ↓reduceIte]
        exact ok
  · refine ⟨?_, ?_⟩
    · simp only [g1, ↓reduceIte, fX8_writeEvents_L82, nm, nI_1, N_we]
    · simp only [N_we, g1, ↓reduceIte]
      exact ok
theorem c_writeEvents (h : Shp bk dr X) (hs : St s) {T G H n : Nat} {w : Wt} (ok : Ok T G H w.1) (hn : 64 ≤ n) : fX8_writeEvents n s (pW s w X) = some ((), pW s (nf (N_we T G H) G 0 w) X) ∧ Ok T G H (nf (N_we T G H) G 0 w).1 := by
  have hG := ok.2.2.2.1
  have g := loop_go (F := fun j i w => fX8_writeEvents_L2 n j s i (pW s w X)) (N := N_we T G H) (I := fun _ w => Ok T G H w.1) (out := fun w => some ((), pW s w X)) G
    (fun j i w hi hI => (c_we h hs hI hi hn j).1) (fun i w hi hI => (c_we h hs hI hi hn 0).2)
    (fun j w hI => by
      have e3 : nI G ≤ nI G := nI_le (Nat.le_refl _) (by omega)
      rw [fX8_writeEvents_L2]
      simp only [h.1, h.2.1, h.2.2, st_T s hs, st_L s hs, st_R hs, mT_pW, mL_pW, mR_pW, mI_pW, mJ_pW, mI_pW0, mJ_pW0, sI_pW, sJ_pW, sI_pW0, nm, bd, q_b, ne_eq, Nat.add_eq_zero_iff, Nat.reduceEqDiff, Nat.reduceLeDiff, Nat.reduceAdd, and_false, false_and, and_true, true_and, and_self, not_false_eq_true, not_true_eq_false, reduceCtorEq, ↓reduceIte, hI.2.2.1, e3]) G 0 w n (by omega) (by omega) ok
  exact g
end
