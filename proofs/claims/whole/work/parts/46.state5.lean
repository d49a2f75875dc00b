/-! STATE: a TURN whole; SHARES written; CLAIMS -/
theorem N_give_1 (h e i : Nat) (v : Int64) (w : Wt) : (N_give h e i v w).1 = w.1 := rfl
theorem N_drop_1 (b i : Nat) (w : Wt) {a : Nat} (ha : a ≠ 25) (k : Nat) : (N_drop b i w).1 a k = w.1 a k := by
  unfold N_drop
  split
  · rw [uI_1, if_neg (fun h => ha h.1)]
  · rfl
theorem Ok.drop {T G H b i : Nat} {w : Wt} (h : Ok T G H w.1) : Ok T G H (N_drop b i w).1 := h.same fun a ha k _ => N_drop_1 b i w (by omega) k
theorem Ok.tt {T G H e t : Nat} {w : Wt} (h : Ok T G H w.1) (hp : inL (w.1 16 e) 5) : Ok T G H (N_tt e t w).1 := by
  obtain ⟨h1, h2, h3, h4, h5, h6, h7, h8⟩ := h
  have g : ∀ a, a ≠ 11 → a ≠ 12 → a ≠ 6 → ∀ k, (N_tt e t w).1 a k = w.1 a k := fun a g1 g2 g3 k => by rw [N_tt_1 e t w g1 g2, if_neg (fun q => g3 q.1)]
  refine ⟨by rw [g 3 (by omega) (by omega) (by omega)]; exact h1, h2, by rw [g 13 (by omega) (by omega) (by omega)]; exact h3, h4, by rw [g 0 (by omega) (by omega) (by omega)]; exact h5, h6, fun i hi => ?_, fun q hq => ?_⟩
  · obtain ⟨o1, o2, o3⟩ := h7 i hi
    refine ⟨by rw [g 4 (by omega) (by omega) (by omega)]; exact o1, by rw [g 5 (by omega) (by omega) (by omega)]; exact o2, ?_⟩
    rw [N_tt_1 e t w (by omega) (by omega)]
    split
    · exact hp
    · exact o3
  · obtain ⟨o1, o2, c, o3, o4, o5⟩ := h8 q hq
    refine ⟨by rw [g 15 (by omega) (by omega) (by omega)]; exact o1, fun hk => by rw [g 14 (by omega) (by omega) (by omega)] at hk; rw [g 16 (by omega) (by omega) (by omega)]; exact o2 hk, c, o3, by rw [g 26 (by omega) (by omega) (by omega)]; exact o4, fun i hi => ?_⟩
    rw [g 38 (by omega) (by omega) (by omega), g 39 (by omega) (by omega) (by omega)]
    exact o5 i hi
def N_tph (e h : Nat) (w : Wt) : Wt := N_give h e (ix (nI h) (w.1 16 e)) (w.2 1 (ix (nI h) (w.1 15 e))) (N_add (ix (nI h) (w.1 15 e)) (-(w.2 1 (ix (nI h) (w.1 15 e)))) w)
def N_tpt (e t : Nat) (w : Wt) : Wt := if w.1 11 t = 0 then if w.1 6 t = w.1 15 e then N_tt e t w else w else w
def N_tp (T G H e : Nat) (w : Wt) : Wt := uI (nf (N_drop e) G 0 (nf (N_tpt e) T 0 (nf (N_tph e) H 0 w))) 25 e 2
theorem at10 (e h : Nat) : nI e * (10 : Int32) + nI h = nI (10 * e + h) := by
  rw [show (10 : Int32) = nI 10 from rfl, pk_mul, nI_add, Nat.mul_comm]
theorem at60 (e h : Nat) : nI e * (60 : Int32) + nI h = nI (60 * e + h) := by
  rw [show (60 : Int32) = nI 60 from rfl, pk_mul, nI_add, Nat.mul_comm]
def N_ws (e h : Nat) (w : Wt) : Wt := uJ w 31 (10 * e + h) (w.2 1 (ix (nI h) (w.1 15 e)))
section
variable {bk dr s : Nat} {X : Mm}
theorem c_dropBehind (h : Shp bk dr X) (hs : St s) {b T G H n : Nat} {w : Wt} (ok : Ok T G H w.1) (hb : b < G) (hn : 10 ≤ n) : fX3_dropBehind n (s + 13) (nI b) (pW s w X) = some ((), pW s (nf (N_drop b) G 0 w) X) ∧ Ok T G H (nf (N_drop b) G 0 w).1 := by
  have g := loop_go (F := fun j i w => fX3_dropBehind_L2 n j (s + 13) (nI b) i (pW s w X)) (N := N_drop b) (I := fun _ w => Ok T G H w.1) (out := fun w => some ((), pW s w X)) G
    (fun j i w hi hI => c_drop1 h hs hI.2.2.1 hI.2.2.2.1 hb hi n j) (fun i w hi hI => hI.drop)
    (fun j w hI => by
      have e3 : nI G ≤ nI G := nI_le (Nat.le_refl _) (by have := hI.2.2.2.1; omega)
      rw [fX3_dropBehind_L2]
      simp only [h.1, h.2.1, h.2.2, st_T s hs, st_L s hs, st_R hs, mT_pW, mL_pW, mR_pW, mI_pW, mJ_pW, mI_pW0, mJ_pW0, sI_pW, sJ_pW, sI_pW0, nm, bd, q_b, ne_eq, Nat.add_eq_zero_iff, Nat.reduceEqDiff, Nat.reduceLeDiff, Nat.reduceAdd, and_false, false_and, and_true, true_and, and_self, not_false_eq_true, not_true_eq_false, reduceCtorEq, ↓reduceIte, hI.2.2.1, e3]) G 0 w n (by omega) (by have := ok.2.2.2.1; omega) ok
  exact g
theorem c_tph (h : Shp bk dr X) (hs : St s) {T G H e i : Nat} {w : Wt} (ok : Ok T G H w.1) (hk : w.1 14 e = 3) (he : e < G) (hi : i < H) (n j : Nat) : fX8_turnPaper_L2 n (j + 1) s (nI e) (nI i) (pW s w X) = fX8_turnPaper_L2 n j s (nI e) (nI (i + 1)) (pW s (N_tph e i w) X) := by
  obtain ⟨h1, h2, h3, h4, h5, h6, h7, h8⟩ := ok
  have e1 : (nI e).toNatClampNeg = e := nI_clamp (by omega)
  have e2 := inL_nI (j := e) (n := 8) (by omega) (by decide)
  have i1 : (nI i).toNatClampNeg = i := nI_clamp (by omega)
  have i2 := inL_nI (j := i) (n := 10) (by omega) (by decide)
  have e3 : ¬ nI H ≤ nI i := nI_ge hi (by omega)
  have p1 := (h8 e he).1
  have p2 := (h8 e he).2.1 hk
  rw [fX8_turnPaper_L2]
  simp only [h.1, h.2.1, h.2.2, st_T s hs, st_L s hs, st_R hs, mT_pW, mL_pW, mR_pW, mI_pW, mJ_pW, mI_pW0, mJ_pW0, sI_pW, sJ_pW, sI_pW0, nm, bd, q_b, ne_eq, Nat.add_eq_zero_iff, Nat.reduceEqDiff, Nat.reduceLeDiff, Nat.reduceAdd, and_false, false_and, and_true, true_and, and_self, not_false_eq_true, not_true_eq_false, reduceCtorEq, ↓reduceIte, h5, e3, e1, e2.1, e2.2, c_sharesOf h hs (inL_ix i2 p1), c_addShares h hs (inL_ix i2 p1), N_add_1, c_giveTo h hs (show e < 8 by omega) i2 p2, i1, nI_1, N_tph]
theorem c_tpt (h : Shp bk dr X) (hs : St s) {T G H e t : Nat} {w : Wt} (ok : Ok T G H w.1) (he : e < G) (ht : t < T) (n j : Nat) : fX8_turnPaper_L65 n (j + 1) s (nI e) (nI t) (pW s w X) = fX8_turnPaper_L65 n j s (nI e) (nI (t + 1)) (pW s (N_tpt e t w) X) := by
  obtain ⟨h1, h2, h3, h4, h5, h6, h7, h8⟩ := ok
  have e1 : (nI e).toNatClampNeg = e := nI_clamp (by omega)
  have e2 := inL_nI (j := e) (n := 8) (by omega) (by decide)
  have t1 : (nI t).toNatClampNeg = t := nI_clamp (by omega)
  have t2 := inL_nI (j := t) (n := 60) (by omega) (by decide)
  have e3 : ¬ nI T ≤ nI t := nI_ge ht (by omega)
  rw [fX8_turnPaper_L65]
  simp only [h.1, h.2.1, h.2.2, st_T s hs, st_L s hs, st_R hs, mT_pW, mL_pW, mR_pW, mI_pW, mJ_pW, mI_pW0, mJ_pW0, sI_pW, sJ_pW, sI_pW0, nm, bd, q_b, ne_eq, Nat.add_eq_zero_iff, Nat.reduceEqDiff, Nat.reduceLeDiff, Nat.reduceAdd, and_false, false_and, and_true, true_and, and_self, not_false_eq_true, not_true_eq_false, reduceCtorEq, ↓reduceIte, h1, e3, e1, e2.1, e2.2, t1, t2.1, t2.2]
  by_cases g1 : w.1 11 t = 0
  · by_cases g2 : w.1 6 t = w.1 15 e
    · simp only [g1, g2, ↓reduceIte, c_turnTrade h hs (show e < 8 by omega) (show t < 60 by omega) (h7 t ht), fX8_turnPaper_L115, nm, nI_1, N_tpt]
    · simp only [g1, g2, ↓reduceIte, fX8_turnPaper_L115, nm, nI_1, N_tpt]
  · simp only [g1, ↓reduceIte, fX8_turnPaper_L115, nm, nI_1, N_tpt]
theorem c_turnPaper (h : Shp bk dr X) (hs : St s) {T G H e n : Nat} {w : Wt} (ok : Ok T G H w.1) (hk : w.1 14 e = 3) (he : e < G) (hn : 64 ≤ n) : fX8_turnPaper n s (nI e) (pW s w X) = some ((), pW s (N_tp T G H e w) X) ∧ Ok T G H (N_tp T G H e w).1 := by
  have hT := ok.2.1
  have hG := ok.2.2.2.1
  have hH := ok.2.2.2.2.2.1
  have e1 : (nI e).toNatClampNeg = e := nI_clamp (by omega)
  have e2 := inL_nI (j := e) (n := 8) (by omega) (by decide)
  have keepT : ∀ (i : Nat) (w : Wt), i < T → (Ok T G H w.1 ∧ w.1 14 e = 3) → (Ok T G H (N_tpt e i w).1 ∧ (N_tpt e i w).1 14 e = 3) := by
    intro i w hi hI
    unfold N_tpt
    split
    · split
      · refine ⟨hI.1.tt ((hI.1.2.2.2.2.2.2.2 e he).2.1 hI.2), ?_⟩
        rw [N_tt_1 e i w (by omega) (by omega), if_neg (by omega)]
        exact hI.2
      · exact hI
    · exact hI
  have gH := loop_go (F := fun j i w => fX8_turnPaper_L2 n j s (nI e) i (pW s w X)) (N := N_tph e) (I := fun _ w => Ok T G H w.1 ∧ w.1 14 e = 3) (out := fun w => fX8_turnPaper_L65 n n s (nI e) 0 (pW s w X)) H
    (fun j i w hi hI => c_tph h hs hI.1 hI.2 he hi n j) (fun i w hi hI => hI)
    (fun j w hI => by
      have e3 : nI H ≤ nI H := nI_le (Nat.le_refl _) (by omega)
      rw [fX8_turnPaper_L2]
      simp only [h.1, h.2.1, h.2.2, st_T s hs, st_L s hs, st_R hs, mT_pW, mL_pW, mR_pW, mI_pW, mJ_pW, mI_pW0, mJ_pW0, sI_pW, sJ_pW, sI_pW0, nm, bd, q_b, ne_eq, Nat.add_eq_zero_iff, Nat.reduceEqDiff, Nat.reduceLeDiff, Nat.reduceAdd, and_false, false_and, and_true, true_and, and_self, not_false_eq_true, not_true_eq_false, reduceCtorEq, ↓reduceIte, hI.1.2.2.2.2.1, e3]) H 0 w n (by omega) (by omega) ⟨ok, hk⟩
  have gT := loop_go (F := fun j i w => fX8_turnPaper_L65 n j s (nI e) i (pW s w X)) (N := N_tpt e) (I := fun _ w => Ok T G H w.1 ∧ w.1 14 e = 3) (out := fun w => some ((), pW s (uI (nf (N_drop e) G 0 w) 25 e 2) X)) T
    (fun j i w hi hI => c_tpt h hs hI.1 he hi n j) keepT
    (fun j w hI => by
      have e3 : nI T ≤ nI T := nI_le (Nat.le_refl _) (by omega)
      rw [fX8_turnPaper_L65]
      simp only [h.1, h.2.1, h.2.2, st_T s hs, st_L s hs, st_R hs, mT_pW, mL_pW, mR_pW, mI_pW, mJ_pW, mI_pW0, mJ_pW0, sI_pW, sJ_pW, sI_pW0, nm, bd, q_b, ne_eq, Nat.add_eq_zero_iff, Nat.reduceEqDiff, Nat.reduceLeDiff, Nat.reduceAdd, and_false, false_and, and_true, true_and, and_self, not_false_eq_true, not_true_eq_false, reduceCtorEq, ↓reduceIte, hI.1.1, e3, (c_dropBehind h hs hI.1 he (show 10 ≤ n by omega)).1, e1, e2.1, e2.2]) T 0 (nf (N_tph e) H 0 w) n (by omega) (by omega) gH.2
  refine ⟨gH.1.trans gT.1, ?_⟩
  exact ((c_dropBehind h hs gT.2.1 he (show 10 ≤ n by omega)).2).uI (by omega) (fun q => by omega)
theorem c_writeShares (h : Shp bk dr X) (hs : St s) {T G H e n : Nat} {w : Wt} (ok : Ok T G H w.1) (he : e < G) (hn : 64 ≤ n) : fX8_writeShares n s (nI e) (pW s w X) = some ((), pW s (nf (N_ws e) H 0 w) X) ∧ (nf (N_ws e) H 0 w).1 = w.1 := by
  have hG := ok.2.2.2.1
  have hH := ok.2.2.2.2.2.1
  have e1 : (nI e).toNatClampNeg = e := nI_clamp (by omega)
  have e2 := inL_nI (j := e) (n := 8) (by omega) (by decide)
  have g := loop_go (F := fun j i v => fX8_writeShares_L2 n j s (nI e) i (pW s v X)) (N := N_ws e) (I := fun _ v => v.1 = w.1) (out := fun w => some ((), pW s w X)) H
    (fun j i v hi hI => by
      have i2 := inL_nI (j := i) (n := 10) (by omega) (by decide)
      have k1 : (nI (10 * e + i)).toNatClampNeg = 10 * e + i := nI_clamp (by omega)
      have k2 := inL_nI (j := 10 * e + i) (n := 80) (by omega) (by decide)
      have e3 : ¬ nI H ≤ nI i := nI_ge hi (by omega)
      have p1 : inL (v.1 15 e) 5 := by rw [hI]; exact (ok.2.2.2.2.2.2.2 e he).1
      have h5 : v.1 0 6 = nI H := by rw [hI]; exact ok.2.2.2.2.1
      rw [fX8_writeShares_L2]
      simp only [h.1, h.2.1, h.2.2, st_T s hs, st_L s hs, st_R hs, mT_pW, mL_pW, mR_pW, mI_pW, mJ_pW, mI_pW0, mJ_pW0, sI_pW, sJ_pW, sI_pW0, nm, bd, q_b, ne_eq, Nat.add_eq_zero_iff, Nat.reduceEqDiff, Nat.reduceLeDiff, Nat.reduceAdd, and_false, false_and, and_true, true_and, and_self, not_false_eq_true, not_true_eq_false, reduceCtorEq, ↓reduceIte, h5, e3, fX6_at, e1, e2.1, e2.2, c_sharesOf h hs (inL_ix i2 p1), at10, k1, k2.1, k2.2, nI_1, N_ws])
    (fun i v hi hI => hI)
    (fun j v hI => by
      have e3 : nI H ≤ nI H := nI_le (Nat.le_refl _) (by omega)
      have h5 : v.1 0 6 = nI H := by rw [hI]; exact ok.2.2.2.2.1
      rw [fX8_writeShares_L2]
      simp only [h.1, h.2.1, h.2.2, st_T s hs, st_L s hs, st_R hs, mT_pW, mL_pW, mR_pW, mI_pW, mJ_pW, mI_pW0, mJ_pW0, sI_pW, sJ_pW, sI_pW0, nm, bd, q_b, ne_eq, Nat.add_eq_zero_iff, Nat.reduceEqDiff, Nat.reduceLeDiff, Nat.reduceAdd, and_false, false_and, and_true, true_and, and_self, not_false_eq_true, not_true_eq_false, reduceCtorEq, ↓reduceIte, h5, e3]) H 0 w n (by omega) (by omega) rfl
  exact g
end
