/-! STATE: paying, by CLAIMS; MONEY and GIFTS -/
theorem loop_ga {A R : Type} {F : Nat → Int32 → A → Option R} {N : Nat → A → A} {I : Nat → A → Prop} {out : A → Option R} (T : Nat)
    (step : ∀ (j i : Nat) (w : A), i < T → I i w → F (j + 1) (nI i) w = F j (nI (i + 1)) (N i w)) (keep : ∀ (i : Nat) (w : A), i < T → I i w → I (i + 1) (N i w)) (done : ∀ (j : Nat) (w : A), I T w → F (j + 1) (nI T) w = out w) :
    ∀ (m i : Nat) (w : A) (j : Nat), i + m = T → m < j → I i w → F j (nI i) w = out (nf N m i w) ∧ I T (nf N m i w) := by
  intro m
  induction m with
  | zero =>
    intro i w j h1 h2 hI
    obtain ⟨j, rfl⟩ : ∃ k, j = k + 1 := ⟨j - 1, by omega⟩
    have h3 : i = T := by omega
    subst h3
    exact ⟨done j w hI, hI⟩
  | succ m ih =>
    intro i w j h1 h2 hI
    obtain ⟨j, rfl⟩ : ∃ k, j = k + 1 := ⟨j - 1, by omega⟩
    rw [step j i w (by omega) hI]
    exact ih (i + 1) (N i w) j (by omega) (by omega) (keep i w (by omega) hI)
/-- who owes has the SHARES -/
def N_pcB (e i : Nat) (w : Wt) : Prop := 0 ≤ lg_cmp (w.2 1 (ix (w.1 38 (60 * e + i)) (w.1 15 e))) (N_sf e (w.2 40 (60 * e + i)) w)
def N_pc1 (e i : Nat) (w : Wt) : Wt := N_add (ix (w.1 39 (60 * e + i)) (w.1 15 e)) (N_sf e (w.2 40 (60 * e + i)) w) (N_add (ix (w.1 38 (60 * e + i)) (w.1 15 e)) (-(N_sf e (w.2 40 (60 * e + i)) w)) w)
def N_pc (e i : Nat) (w : Wt) : Wt := uI (N_mv (w.1 38 (60 * e + i)).toNatClampNeg (w.1 39 (60 * e + i)).toNatClampNeg (N_mf e ((N_pc1 e i w).2 40 (60 * e + i)) (N_pc1 e i w)) (N_pc1 e i w)) 42 (60 * e + i) 1
theorem N_pc_1 (e i : Nat) (w : Wt) {a : Nat} (ha : a ≠ 42) (k : Nat) : (N_pc e i w).1 a k = w.1 a k := by
  unfold N_pc
  rw [uI_1, if_neg (fun h => ha h.1)]
  rfl
section
variable {bk dr s : Nat} {X : Mm}
theorem c_paysClaim (h : Shp bk dr X) (hs : St s) {e i : Nat} {w : Wt} (he : e < 8) (hi : i < 60) (hf : inL (w.1 38 (60 * e + i)) 10) (ht : inL (w.1 39 (60 * e + i)) 10) (hp : inL (w.1 15 e) 5) :
    (N_pcB e i w → fX8_paysClaim s (nI e) (nI i) (pW s w X) = some (1, pW s (N_pc e i w) X)) ∧ (¬ N_pcB e i w → fX8_paysClaim s (nI e) (nI i) (pW s w X) = some (0, pW s w X)) := by
  have e1 : (nI e).toNatClampNeg = e := nI_clamp (by omega)
  have e2 := inL_nI (j := e) (n := 8) he (by decide)
  have k1 : (nI (60 * e + i)).toNatClampNeg = 60 * e + i := nI_clamp (by omega)
  have k2 := inL_nI (j := 60 * e + i) (n := 480) (by omega) (by decide)
  have f1 : N_add (ix (w.1 39 (60 * e + i)) (w.1 15 e)) (N_sf e (w.2 40 (60 * e + i)) w) (N_add (ix (w.1 38 (60 * e + i)) (w.1 15 e)) (-(N_sf e (w.2 40 (60 * e + i)) w)) w) = N_pc1 e i w := rfl
  constructor
  · intro hB
    unfold N_pcB at hB
    simp only [fX8_paysClaim, fX1_at, at60, h.1, h.2.1, h.2.2, st_T s hs, st_L s hs, st_R hs, mT_pW, mL_pW, mR_pW, mI_pW, mJ_pW, mI_pW0, mJ_pW0, sI_pW, sJ_pW, sI_pW0, nm, bd, q_b, ne_eq, Nat.add_eq_zero_iff, Nat.reduceEqDiff, Nat.reduceLeDiff, Nat.reduceAdd, and_false, false_and, and_true, true_and, and_self, not_false_eq_true, not_true_eq_false, reduceCtorEq, ↓reduceIte, e1, e2.1, e2.2, k1, k2.1, k2.2, c_sharesFor h hs he, c_sharesOf h hs (inL_ix hf hp), hB, c_addShares h hs (inL_ix hf hp), c_addShares h hs (inL_ix ht hp), f1, c_moneyFor h hs he, c_moveMoney h hs hf ht, N_pc]
  · intro hB
    unfold N_pcB at hB
    simp only [fX8_paysClaim, fX1_at, at60, h.1, h.2.1, h.2.2, st_T s hs, st_L s hs, st_R hs, mT_pW, mL_pW, mR_pW, mI_pW, mJ_pW, mI_pW0, mJ_pW0, sI_pW, sJ_pW, sI_pW0, nm, bd, q_b, ne_eq, Nat.add_eq_zero_iff, Nat.reduceEqDiff, Nat.reduceLeDiff, Nat.reduceAdd, and_false, false_and, and_true, true_and, and_self, not_false_eq_true, not_true_eq_false, reduceCtorEq, ↓reduceIte, e1, e2.1, e2.2, k1, k2.1, k2.2, c_sharesFor h hs he, c_sharesOf h hs (inL_ix hf hp), hB]
end
noncomputable def N_poc (e i : Nat) (w : Wt) : Wt := by
  classical
  exact if N_pcB e i w then N_pc e i w else uI (uI w 42 (60 * e + i) 2) 27 e ((uI w 42 (60 * e + i) 2).1 27 e + 1)
def N_poh (e h : Nat) (w : Wt) : Wt := N_give h e (ix (nI h) (w.1 15 e)) (w.2 31 (10 * e + h)) w
noncomputable def N_po (H C e : Nat) (w : Wt) : Wt := nf (N_poc e) C 0 (nf (N_poh e) H 0 w)
theorem N_poc_1 (e i : Nat) (w : Wt) {a : Nat} (ha : a ≠ 42) (hb : a ≠ 27) (k : Nat) : (N_poc e i w).1 a k = w.1 a k := by
  unfold N_poc
  split
  · exact N_pc_1 e i w ha k
  · rw [uI_1, if_neg (fun h => hb h.1), uI_1, if_neg (fun h => ha h.1)]
theorem Ok.at {T G H C e i : Nat} {f : Nat → Nat → Int32} (h : Ok T G H f) (he : e < G) (hC : f 26 e = nI C) (hC6 : C ≤ 60) (hi : i < C) : inL (f 38 (60 * e + i)) 10 ∧ inL (f 39 (60 * e + i)) 10 := by
  obtain ⟨-, -, c, hc6, hc, hcl⟩ := h.2.2.2.2.2.2.2 e he
  have hz := (nI_eq (by omega) (by omega)).mp (hC.symm.trans hc)
  exact hcl i (by omega)
theorem Ok.poc {T G H e i : Nat} {w : Wt} (h : Ok T G H w.1) : Ok T G H (N_poc e i w).1 := h.same fun a ha k _ => N_poc_1 e i w (by omega) (by omega) k
section
variable {bk dr s : Nat} {X : Mm}
theorem c_payOut (h : Shp bk dr X) (hs : St s) {T G H e n C : Nat} {w : Wt} (ok : Ok T G H w.1) (he : e < G) (hC : w.1 26 e = nI C) (hC6 : C ≤ 60) (hn : 64 ≤ n) : fX8_payOut n s (nI e) (pW s w X) = some ((), pW s (N_po H C e w) X) ∧ Ok T G H (N_po H C e w).1 := by
  have hG := ok.2.2.2.1
  have hH := ok.2.2.2.2.2.1
  have e1 : (nI e).toNatClampNeg = e := nI_clamp (by omega)
  have e2 := inL_nI (j := e) (n := 8) (by omega) (by decide)
  have gH := loop_ga (F := fun j i v => fX8_payOut_L2 n j s (nI e) i (pW s v X)) (N := N_poh e) (I := fun _ v => v.1 = w.1) (out := fun v => fX8_payOut_L46 n n s (nI e) 0 (pW s v X)) H
    (fun j i v hi hI => by
      have i1 : (nI i).toNatClampNeg = i := nI_clamp (by omega)
      have i2 := inL_nI (j := i) (n := 10) (by omega) (by decide)
      have k1 : (nI (10 * e + i)).toNatClampNeg = 10 * e + i := nI_clamp (by omega)
      have k2 := inL_nI (j := 10 * e + i) (n := 80) (by omega) (by decide)
      have e3 : ¬ nI H ≤ nI i := nI_ge hi (by omega)
      have p1 : inL (v.1 15 e) 5 := by rw [hI]; exact (ok.2.2.2.2.2.2.2 e he).1
      have h5 : v.1 0 6 = nI H := by rw [hI]; exact ok.2.2.2.2.1
      rw [fX8_payOut_L2]
      simp only [h.1, h.2.1, h.2.2, st_T s hs, st_L s hs, st_R hs, mT_pW, mL_pW, mR_pW, mI_pW, mJ_pW, mI_pW0, mJ_pW0, sI_pW, sJ_pW, sI_pW0, nm, bd, q_b, ne_eq, Nat.add_eq_zero_iff, Nat.reduceEqDiff, Nat.reduceLeDiff, Nat.reduceAdd, and_false, false_and, and_true, true_and, and_self, not_false_eq_true, not_true_eq_false, reduceCtorEq, ↓reduceIte, h5, e3, fX6_at, e1, e2.1, e2.2, at10, k1, k2.1, k2.2, c_giveTo h hs (show e < 8 by omega) i2 p1, i1, nI_1, N_poh])
    (fun i v hi hI => hI)
    (fun j v hI => by
      have e3 : nI H ≤ nI H := nI_le (Nat.le_refl _) (by omega)
      have h5 : v.1 0 6 = nI H := by rw [hI]; exact ok.2.2.2.2.1
      rw [fX8_payOut_L2]
      simp only [h.1, h.2.1, h.2.2, st_T s hs, st_L s hs, st_R hs, mT_pW, mL_pW, mR_pW, mI_pW, mJ_pW, mI_pW0, mJ_pW0, sI_pW, sJ_pW, sI_pW0, nm, bd, q_b, ne_eq, Nat.add_eq_zero_iff, Nat.reduceEqDiff, Nat.reduceLeDiff, Nat.reduceAdd, and_false, false_and, and_true, true_and, and_self, not_false_eq_true, not_true_eq_false, reduceCtorEq, ↓reduceIte, h5, e3]) H 0 w n (by omega) (by omega) rfl
  have gC := loop_ga (F := fun j i v => fX8_payOut_L46 n j s (nI e) i (pW s v X)) (N := N_poc e) (I := fun _ v => Ok T G H v.1 ∧ v.1 26 e = nI C) (out := fun v => some ((), pW s v X)) C
    (fun j i v hi hI => by
      have e3 : ¬ nI C ≤ nI i := nI_ge hi (by omega)
      have k1 : (nI (60 * e + i)).toNatClampNeg = 60 * e + i := nI_clamp (by omega)
      have k2 := inL_nI (j := 60 * e + i) (n := 480) (by omega) (by decide)
      have hp := c_paysClaim (X := X) h hs (e := e) (i := i) (w := v) (by omega) (by omega) (hI.1.at he hI.2 hC6 hi).1 (hI.1.at he hI.2 hC6 hi).2 (hI.1.2.2.2.2.2.2.2 e he).1
      have z1 : ¬ (1 : Int32) = 0 := by decide
      rw [fX8_payOut_L46]
      simp only [h.1, h.2.1, h.2.2, st_T s hs, st_L s hs, st_R hs, mT_pW, mL_pW, mR_pW, mI_pW, mJ_pW, mI_pW0, mJ_pW0, sI_pW, sJ_pW, sI_pW0, nm, bd, q_b, ne_eq, Nat.add_eq_zero_iff, Nat.reduceEqDiff, Nat.reduceLeDiff, Nat.reduceAdd, and_false, false_and, and_true, true_and, and_self, not_false_eq_true, not_true_eq_false, reduceCtorEq, ↓reduceIte, hI.2, e3, e1, e2.1, e2.2]
      by_cases hB : N_pcB e i v
      · simp only [hp.1 hB, z1, ↓reduceIte, fX8_payOut_L95, nm, nI_1, N_poc, hB]
      · simp only [hp.2 hB, ↓reduceIte, fX1_at, at60, h.1, h.2.1, h.2.2, st_T s hs, st_L s hs, st_R hs, mT_pW, mL_pW, mR_pW, mI_pW, mJ_pW, mI_pW0, mJ_pW0, sI_pW, sJ_pW, sI_pW0, nm, bd, q_b, ne_eq, Nat.add_eq_zero_iff, Nat.reduceEqDiff, Nat.reduceLeDiff, Nat.reduceAdd, and_false, false_and, and_true, true_and, and_self, not_false_eq_true, not_true_eq_false, reduceCtorEq, ↓reduceIte, e1, e2.1, e2.2, k1, k2.1, k2.2, fX8_payOut_L95, nI_1, N_poc, hB])
    (fun i v hi hI => ⟨hI.1.poc, by rw [N_poc_1 e i v (by omega) (by omega)]; exact hI.2⟩)
    (fun j v hI => by
      have e3 : nI C ≤ nI C := nI_le (Nat.le_refl _) (by omega)
      rw [fX8_payOut_L46]
      simp only [h.1, h.2.1, h.2.2, st_T s hs, st_L s hs, st_R hs, mT_pW, mL_pW, mR_pW, mI_pW, mJ_pW, mI_pW0, mJ_pW0, sI_pW, sJ_pW, sI_pW0, nm, bd, q_b, ne_eq, Nat.add_eq_zero_iff, Nat.reduceEqDiff, Nat.reduceLeDiff, Nat.reduceAdd, and_false, false_and, and_true, true_and, and_self, not_false_eq_true, not_true_eq_false, reduceCtorEq, ↓reduceIte, hI.2, e3, e1, e2.1, e2.2]) C 0 (nf (N_poh e) H 0 w) n (by omega) (by omega) ⟨by rw [gH.2]; exact ok, by rw [gH.2]; exact hC⟩
  exact ⟨gH.1.trans gC.1, gC.2.1⟩
end
