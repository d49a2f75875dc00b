/-! THE REFERENCE: what an EVENT gives; a CLAIM goes over; PAYING -/
theorem uI_uI (w : Wt) (a k : Nat) (u v : Int32) : uI (uI w a k u) a k v = uI w a k v := by
  unfold uI
  congr 1
  funext b j
  show q_u2 (q_u2 w.1 a k u) a k v b j = q_u2 w.1 a k v b j
  rw [q_u2_at, q_u2_at, q_u2_at]
  by_cases h : b = a ∧ j = k
  · rw [if_pos h, if_pos h]
  · rw [if_neg h, if_neg h, if_neg h]
theorem uI_comm (w : Wt) {a b : Nat} (h : a ≠ b) (k j : Nat) (u v : Int32) : uI (uI w a k u) b j v = uI (uI w b j v) a k u := by
  unfold uI
  congr 1
  funext c i
  show q_u2 (q_u2 w.1 a k u) b j v c i = q_u2 (q_u2 w.1 b j v) a k u c i
  rw [q_u2_at, q_u2_at, q_u2_at, q_u2_at]
  by_cases h1 : c = a ∧ i = k
  · rw [if_pos h1, if_neg (fun z => h (h1.1.symm.trans z.1)), if_pos h1]
  · rw [if_neg h1, if_neg h1]
theorem nf_comm {A : Type} {N : Nat → A → A} {g : A → A} (h : ∀ i a, N i (g a) = g (N i a)) : ∀ m i a, nf N m i (g a) = g (nf N m i a) := by
  intro m
  induction m with
  | zero => intro i a; rfl
  | succ m ih => intro i a; rw [nf, nf, h, ih]
def N_cf (e : Nat) (v : Int64) (w : Wt) : Int64 := (v * (w.1 17 e).toInt64 - v * (w.1 17 e).toInt64 / (w.1 18 e).toInt64 * (w.1 18 e).toInt64) * (w.1 20 e).toInt64 / (w.1 18 e).toInt64
theorem N_mf_cf {e : Nat} {v : Int64} {w : Wt} (hk : ¬ w.1 14 e = 2) (hb : 1 ≤ w.1 18 e) : N_mf e v w = v * (w.1 19 e).toInt64 + N_cf e v w := by
  unfold N_mf N_cf
  rw [if_neg hk, if_pos hb]
/-- what an EVENT gives hangs on its own row alone -/
theorem N_sf_eq {e : Nat} {v : Int64} {w u : Wt} (h : ∀ a, a = 17 ∨ a = 18 → w.1 a e = u.1 a e) : N_sf e v w = N_sf e v u := by
  unfold N_sf
  rw [h 17 (by simp), h 18 (by simp)]
theorem N_mf_eq {e : Nat} {v : Int64} {w u : Wt} (h : ∀ a, a = 14 ∨ a = 17 ∨ a = 18 ∨ a = 19 ∨ a = 20 → w.1 a e = u.1 a e) : N_mf e v w = N_mf e v u := by
  unfold N_mf
  rw [h 14 (by simp), h 17 (by simp), h 18 (by simp), h 19 (by simp), h 20 (by simp)]
theorem N_sf_uI {e : Nat} {v : Int64} {w : Wt} {a k : Nat} {u : Int32} (ha : a ≠ 17 ∧ a ≠ 18) : N_sf e v (uI w a k u) = N_sf e v w := N_sf_eq fun b hb => by rw [uI_1, if_neg (by omega)]
theorem N_mf_uI {e : Nat} {v : Int64} {w : Wt} {a k : Nat} {u : Int32} (ha : a ≠ 14 ∧ a ≠ 17 ∧ a ≠ 18 ∧ a ≠ 19 ∧ a ≠ 20) : N_mf e v (uI w a k u) = N_mf e v w := N_mf_eq fun b hb => by rw [uI_1, if_neg (by omega)]
section
variable {bk dr T G : Nat} {X : Mm} {f : Nat → Int64} {w : Wt}
theorem m_wholeOf (h : Shp bk dr X) (R : Rl T G f w) {e : Nat} (he : e < G) (hb : 1 ≤ w.1 18 e) (v : Int64) : fX12_wholeOf 366 (nI e) v (wJ X 367 f) = some (N_sf e v w, wJ X 367 f) := by
  have e8 : e < 8 := by have := R.2.1; omega
  simp only [fX12_wholeOf, h.1, h.2.1, h.2.2, li_T, li_L, li_R, nm, bd, q_b, ne_eq, Nat.reduceEqDiff, reduceCtorEq, and_false, false_and, and_true, true_and, and_self, not_false_eq_true, not_true_eq_false, ↓reduceIte, mT_wJ, mL_wJ, mR_wJ, mI_wJ, mJ_wJ, sJ_wJ, Nat.reduceLT, l60.1, l60.2.1, l60.2.2, l61.1, l61.2.1, l61.2.2, l62.1, l62.2.1, l62.2.2, r_of8, r_of9, bE1 e8, bE2 e8, bE3 e8, R.e8 he, R.e9 he, q_b1 hb, N_sf, hb]
theorem m_cashOf (h : Shp bk dr X) (R : Rl T G f w) {e : Nat} (he : e < G) (hb : 1 ≤ w.1 18 e) (v : Int64) : fX12_cashOf 366 (nI e) v (wJ X 367 f) = some (N_cf e v w, wJ X 367 f) := by
  have e8 : e < 8 := by have := R.2.1; omega
  simp only [fX12_cashOf, h.1, h.2.1, h.2.2, li_T, li_L, li_R, nm, bd, q_b, ne_eq, Nat.reduceEqDiff, reduceCtorEq, and_false, false_and, and_true, true_and, and_self, not_false_eq_true, not_true_eq_false, ↓reduceIte, mT_wJ, mL_wJ, mR_wJ, mI_wJ, mJ_wJ, sJ_wJ, Nat.reduceLT, l60.1, l60.2.1, l60.2.2, l61.1, l61.2.1, l61.2.2, l62.1, l62.2.1, l62.2.2, r_of8, r_of9, r_of11, bE1 e8, bE2 e8, bE3 e8, R.e8 he, R.e9 he, R.e11 he, q_b1 hb, N_cf]
theorem m_moneyOf (h : Shp bk dr X) (R : Rl T G f w) {e : Nat} (he : e < G) (hb : 1 ≤ w.1 18 e) (hk : ¬ w.1 14 e = 2) (v : Int64) : fX12_moneyOf 366 (nI e) v (wJ X 367 f) = some (N_mf e v w, wJ X 367 f) := by
  have e8 : e < 8 := by have := R.2.1; omega
  simp only [fX12_moneyOf, h.1, h.2.1, h.2.2, li_T, li_L, li_R, nm, bd, q_b, ne_eq, Nat.reduceEqDiff, reduceCtorEq, and_false, false_and, and_true, true_and, and_self, not_false_eq_true, not_true_eq_false, ↓reduceIte, mT_wJ, mL_wJ, mR_wJ, mI_wJ, mJ_wJ, sJ_wJ, Nat.reduceLT, l60.1, l60.2.1, l60.2.2, l61.1, l61.2.1, l61.2.2, l62.1, l62.2.1, l62.2.2, r_of10, bE1 e8, bE2 e8, bE3 e8, R.e10 he, m_cashOf h R he hb, N_mf_cf hk hb]
theorem m_issues (h : Shp bk dr X) (R : Rl T G f w) {e : Nat} (he : e < G) (a b : Int64) : Ex (fX12_issues 366 (nI e) a b (wJ X 367 f)) fun _ => RX X T G (N_issue e a b w) := by
  have e8 : e < 8 := by have := R.2.1; omega
  have R1 : Rl T G (q_u1 f (aE e 13) (f (aE e 13) + a)) (uJ w 28 e (w.2 28 e + a)) := R.wJ (Pl.ev e 13 he (by decide) (fun h => absurd h (by decide)) (fun h => absurd h (by decide))) (by decide) (by rw [R.e13 he])
  have R2 := R1.wJ (Pl.ev e 14 he (by decide) (fun h => absurd h (by decide)) (fun h => absurd h (by decide))) (by decide) (v := w.2 29 e + b) (u := q_u1 f (aE e 13) (f (aE e 13) + a) (aE e 14) + b) (by rw [R1.e14 he, uJ_2, if_neg (by omega)])
  simp only [fX12_issues, h.1, h.2.1, h.2.2, li_T, li_L, li_R, nm, bd, q_b, ne_eq, Nat.reduceEqDiff, reduceCtorEq, and_false, false_and, and_true, true_and, and_self, not_false_eq_true, not_true_eq_false, ↓reduceIte, mT_wJ, mL_wJ, mR_wJ, mI_wJ, mJ_wJ, sJ_wJ, Nat.reduceLT, l60.1, l60.2.1, l60.2.2, l61.1, l61.2.1, l61.2.2, l62.1, l62.2.1, l62.2.2, r_of13, r_of14, bE1 e8, bE2 e8, bE3 e8]
  exact .ret ⟨_, rfl, R2⟩
theorem N_goes (e i : Nat) (w : Wt) : N_pc e i w = N_pu (w.1 39 (60 * e + i)).toNatClampNeg (N_mf e (w.2 40 (60 * e + i)) w) (N_pu (w.1 38 (60 * e + i)).toNatClampNeg (-(N_mf e (w.2 40 (60 * e + i)) w)) (N_add (ix (w.1 39 (60 * e + i)) (w.1 15 e)) (N_sf e (w.2 40 (60 * e + i)) w) (N_add (ix (w.1 38 (60 * e + i)) (w.1 15 e)) (-(N_sf e (w.2 40 (60 * e + i)) w)) (uI w 42 (60 * e + i) 1)))) := by
  unfold N_pc
  rw [N_mv_eq]
  have e1 : (N_pc1 e i w).2 40 (60 * e + i) = w.2 40 (60 * e + i) := by
    unfold N_pc1
    rw [N_add_2 _ _ _ (by decide), N_add_2 _ _ _ (by decide)]
  have e2 : N_mf e (w.2 40 (60 * e + i)) (N_pc1 e i w) = N_mf e (w.2 40 (60 * e + i)) w := N_mf_eq fun _ _ => rfl
  rw [e1, e2]
  rfl
/-- a CLAIM goes over, or WAITS (without the count) -/
noncomputable def N_go (e i : Nat) (w : Wt) : Wt := by
  classical
  exact if N_pcB e i w then N_pc e i w else uI w 42 (60 * e + i) 2
theorem m_goesOver (h : Shp bk dr X) (R : Rl T G f w) {e i : Nat} (he : e < G) (hi : i < Cn w e) (i6 : i < 60) (hf : inL (w.1 38 (60 * e + i)) 10) (ht : inL (w.1 39 (60 * e + i)) 10) (hp : inL (w.1 15 e) 5) (hb : 1 ≤ w.1 18 e) (hk : ¬ w.1 14 e = 2) : Ex (fX12_goesOver 366 (nI e) (nI i) (wJ X 367 f)) fun _ => RX X T G (N_go e i w) := by
  have e8 : e < 8 := by have := R.2.1; omega
  have R1 : Rl T G (q_u1 f (aC e i 4) 2) (uI w 42 (60 * e + i) 2) := R.wI (Pl.cl e i 4 he hi i6 (by decide)) (by decide) (by decide) (by decide)
  have R2 : Rl T G (q_u1 (q_u1 f (aC e i 4) 2) (aC e i 4) 1) (uI (uI w 42 (60 * e + i) 2) 42 (60 * e + i) 1) := R1.wI (Pl.cl e i 4 he hi i6 (by decide)) (by decide) (by decide) (by decide)
  rw [uI_uI] at R2
  have hb1 : 1 ≤ (uI w 42 (60 * e + i) 2).1 18 e := by rw [uI_1, if_neg (by omega)]; exact hb
  have hb2 : 1 ≤ (uI w 42 (60 * e + i) 1).1 18 e := by rw [uI_1, if_neg (by omega)]; exact hb
  have hk2 : ¬ (uI w 42 (60 * e + i) 1).1 14 e = 2 := by rw [uI_1, if_neg (by omega)]; exact hk
  have s1 : ∀ v, N_sf e v (uI w 42 (60 * e + i) 2) = N_sf e v w := fun v => N_sf_uI (by decide)
  have s2 : ∀ v, N_sf e v (uI w 42 (60 * e + i) 1) = N_sf e v w := fun v => N_sf_uI (by decide)
  have s3 : ∀ v, N_mf e v (uI w 42 (60 * e + i) 1) = N_mf e v w := fun v => N_mf_uI (by decide)
  simp only [fX12_goesOver, h.1, h.2.1, h.2.2, li_T, li_L, li_R, nm, bd, q_b, ne_eq, Nat.reduceEqDiff, reduceCtorEq, and_false, false_and, and_true, true_and, and_self, not_false_eq_true, not_true_eq_false, ↓reduceIte, mT_wJ, mL_wJ, mR_wJ, mI_wJ, mJ_wJ, sJ_wJ, Nat.reduceLT, l60.1, l60.2.1, l60.2.2, l61.1, l61.2.1, l61.2.2, l62.1, l62.2.1, l62.2.2, r_oC0, r_oC1, r_oC2, r_oC3, r_oC4, r_of1, bE1 e8, bE2 e8, bE3 e8, bC1 e8 i6, bC2 e8 i6, bC3 e8 i6, R.c0 he hi i6, R.c1 he hi i6, R.c2 he hi i6, m_wholeOf h R1 he hb1, s1, R1.e1 he, uI_1, uI_2, uJ_1, uJ_2, N_pu_1, N_pu_2, N_add_1, N_add_2, m_sharesOf h R1 hf hp, cv_le]
  unfold N_go N_pcB
  rw [cv_ge]
  by_cases hB : N_sf e (w.2 40 (60 * e + i)) w ≤ w.2 1 (ix (w.1 38 (60 * e + i)) (w.1 15 e))
  · rw [if_pos hB, if_pos hB, N_goes]
    simp only [R2.e1 he, uI_1, uI_2, uJ_1, uJ_2, N_pu_1, N_pu_2, N_add_1, N_add_2, h.1, h.2.1, h.2.2, li_T, li_L, li_R, nm, bd, q_b, ne_eq, Nat.reduceEqDiff, reduceCtorEq, and_false, false_and, and_true, true_and, and_self, not_false_eq_true, not_true_eq_false, ↓reduceIte, mT_wJ, mL_wJ, mR_wJ, mI_wJ, mJ_wJ, sJ_wJ, Nat.reduceLT, l60.1, l60.2.1, l60.2.2, l61.1, l61.2.1, l61.2.2, l62.1, l62.2.1, l62.2.2, m_wholeOf h R2 he hb2, s2]
    refine Ex.bd (m_givesShares h R2 hf hp _) ?_
    rintro _ _ ⟨f3, rfl, R3⟩
    have s4 : ∀ v, N_sf e v (N_add (ix (w.1 38 (60 * e + i)) (w.1 15 e)) (-N_sf e (w.2 40 (60 * e + i)) w) (uI w 42 (60 * e + i) 1)) = N_sf e v w := fun v => s2 v
    simp only [h.1, h.2.1, h.2.2, li_T, li_L, li_R, nm, bd, q_b, ne_eq, Nat.reduceEqDiff, reduceCtorEq, and_false, false_and, and_true, true_and, and_self, not_false_eq_true, not_true_eq_false, ↓reduceIte, mT_wJ, mL_wJ, mR_wJ, mI_wJ, mJ_wJ, sJ_wJ, Nat.reduceLT, l60.1, l60.2.1, l60.2.2, l61.1, l61.2.1, l61.2.2, l62.1, l62.2.1, l62.2.2, r_oC0, r_oC1, r_oC2, r_oC3, r_oC4, r_of1, bE1 e8, bE2 e8, bE3 e8, bC1 e8 i6, bC2 e8 i6, bC3 e8 i6, R3.e1 he, uI_1, uI_2, uJ_1, uJ_2, N_pu_1, N_pu_2, N_add_1, N_add_2, m_wholeOf h R3 he hb2, s4]
    refine Ex.bd (m_givesShares h R3 ht hp _) ?_
    rintro _ _ ⟨f4, rfl, R4⟩
    have s5 : ∀ v, N_mf e v (N_add (ix (w.1 39 (60 * e + i)) (w.1 15 e)) (N_sf e (w.2 40 (60 * e + i)) w) (N_add (ix (w.1 38 (60 * e + i)) (w.1 15 e)) (-N_sf e (w.2 40 (60 * e + i)) w) (uI w 42 (60 * e + i) 1))) = N_mf e v w := fun v => s3 v
    simp only [h.1, h.2.1, h.2.2, li_T, li_L, li_R, nm, bd, q_b, ne_eq, Nat.reduceEqDiff, reduceCtorEq, and_false, false_and, and_true, true_and, and_self, not_false_eq_true, not_true_eq_false, ↓reduceIte, mT_wJ, mL_wJ, mR_wJ, mI_wJ, mJ_wJ, sJ_wJ, Nat.reduceLT, l60.1, l60.2.1, l60.2.2, l61.1, l61.2.1, l61.2.2, l62.1, l62.2.1, l62.2.2, m_moneyOf h R4 he hb2 hk2, s5]
    refine Ex.bd (m_givesMoney h R4 hf _) ?_
    rintro _ _ ⟨f5, rfl, R5⟩
    have s6 : ∀ v, N_mf e v (N_pu (w.1 38 (60 * e + i)).toNatClampNeg (-N_mf e (w.2 40 (60 * e + i)) w) (N_add (ix (w.1 39 (60 * e + i)) (w.1 15 e)) (N_sf e (w.2 40 (60 * e + i)) w) (N_add (ix (w.1 38 (60 * e + i)) (w.1 15 e)) (-N_sf e (w.2 40 (60 * e + i)) w) (uI w 42 (60 * e + i) 1)))) = N_mf e v w := fun v => s3 v
    simp only [h.1, h.2.1, h.2.2, li_T, li_L, li_R, nm, bd, q_b, ne_eq, Nat.reduceEqDiff, reduceCtorEq, and_false, false_and, and_true, true_and, and_self, not_false_eq_true, not_true_eq_false, ↓reduceIte, mT_wJ, mL_wJ, mR_wJ, mI_wJ, mJ_wJ, sJ_wJ, Nat.reduceLT, l60.1, l60.2.1, l60.2.2, l61.1, l61.2.1, l61.2.2, l62.1, l62.2.1, l62.2.2, m_moneyOf h R5 he hb2 hk2, s6]
    refine Ex.bd (m_givesMoney h R5 ht _) ?_
    rintro _ _ ⟨f6, rfl, R6⟩
    exact .ret ⟨_, rfl, R6⟩
  · rw [if_neg hB, if_neg hB]
    exact .ret ⟨_, rfl, R1⟩
end
