/-! THE REFERENCE: RIGHTS are paid; PAYING -/
theorem uJ_same {w : Wt} {a k : Nat} {v : Int64} (h : w.2 a k = v) : uJ w a k v = w := by
  obtain ⟨x, y⟩ := w
  unfold uJ
  congr 1
  funext b j
  rw [q_u2_at]
  by_cases e : b = a ∧ j = k
  · rw [if_pos e, e.1, e.2]; exact h.symm
  · rw [if_neg e]
theorem uJ_comm (w : Wt) {a b : Nat} (h : a ≠ b) (k j : Nat) (u v : Int64) : uJ (uJ w a k u) b j v = uJ (uJ w b j v) a k u := by
  unfold uJ
  congr 1
  funext c i
  show q_u2 (q_u2 w.2 a k u) b j v c i = q_u2 (q_u2 w.2 b j v) a k u c i
  rw [q_u2_at, q_u2_at, q_u2_at, q_u2_at]
  by_cases h1 : c = a ∧ i = k
  · rw [if_pos h1, if_neg (fun z => h (h1.1.symm.trans z.1)), if_pos h1]
  · rw [if_neg h1, if_neg h1]
theorem N_give_uI {h e i : Nat} {v : Int64} {w : Wt} {a k : Nat} {u : Int32} (ha : a ≠ 14 ∧ a ≠ 17 ∧ a ≠ 18 ∧ a ≠ 19 ∧ a ≠ 20) : N_give h e i v (uI w a k u) = uI (N_give h e i v w) a k u := by
  unfold N_give
  rw [N_sf_uI (by omega), N_mf_uI (by omega)]
  rfl
theorem N_pcB_uI {e i : Nat} {w : Wt} {a k : Nat} {u : Int32} (ha : a ≠ 15 ∧ a ≠ 17 ∧ a ≠ 18 ∧ a ≠ 38) : N_pcB e i (uI w a k u) = N_pcB e i w := by
  unfold N_pcB
  rw [N_sf_uI (by omega), uI_1, if_neg (by omega), uI_1, if_neg (by omega), uI_2]
theorem N_pc_uI {e i : Nat} {w : Wt} {a k : Nat} {u : Int32} (ha : a ≠ 14 ∧ a ≠ 15 ∧ a ≠ 17 ∧ a ≠ 18 ∧ a ≠ 19 ∧ a ≠ 20 ∧ a ≠ 38 ∧ a ≠ 39 ∧ a ≠ 42) : N_pc e i (uI w a k u) = uI (N_pc e i w) a k u := by
  rw [N_goes, N_goes, N_sf_uI (by omega), N_mf_uI (by omega), uI_1, if_neg (by omega), uI_1, if_neg (by omega), uI_1, if_neg (by omega), uI_2, uI_comm w (show a ≠ 42 by omega)]
  rfl
theorem N_ro_uI {C e h : Nat} {w : Wt} {a k : Nat} {u : Int32} (ha : a ≠ 17 ∧ a ≠ 18 ∧ a ≠ 38 ∧ a ≠ 39) : N_ro C e h (uI w a k u) = N_ro C e h w := by
  have e1 : N_ro1 e h (uI w a k u) = N_ro1 e h w := by
    funext i v
    have q : ∀ b j, b ≠ a → (uI w a k u).1 b j = w.1 b j := fun b j hb => by rw [uI_1, if_neg (by omega)]
    unfold N_ro1
    rw [N_sf_uI (by omega), q 38 _ (by omega), q 39 _ (by omega), uI_2]
  unfold N_ro
  rw [e1, N_sf_uI (by omega), uI_2]
theorem N_prh_uI {C e h : Nat} {w : Wt} {a k : Nat} {u : Int32} (ha : a ≠ 15 ∧ a ≠ 17 ∧ a ≠ 18 ∧ a ≠ 19 ∧ a ≠ 20 ∧ a ≠ 38 ∧ a ≠ 39) : N_prh C e h (uI w a k u) = uI (N_prh C e h w) a k u := by
  unfold N_prh
  rw [N_ro_uI (by omega)]
  split
  · unfold N_ur
    have m : urM e (10 * e + h) (N_ro C e h w) (uI w a k u) = urM e (10 * e + h) (N_ro C e h w) w := by
      have q : ∀ b j, b ≠ a → (uI w a k u).1 b j = w.1 b j := fun b j hb => by rw [uI_1, if_neg (by omega)]
      unfold urM urS urT
      rw [q 20 _ (by omega), q 19 _ (by omega), uI_2]
    rw [m, uI_1, if_neg (by omega)]
    rfl
  · unfold N_op
    rw [uI_1, if_neg (by omega)]
    rfl
theorem N_prh_2 (C e h : Nat) (w : Wt) {a k : Nat} (ha : a = 32 ∨ a = 33 ∨ ((a = 34 ∨ a = 35 ∨ a = 36) ∧ k ≠ 10 * e + h)) : (N_prh C e h w).2 a k = w.2 a k := by
  unfold N_prh
  split
  · unfold N_ur N_issue N_pu N_add urW
    rw [uJ_2, if_neg (by omega), uJ_2, if_neg (by omega), uJ_2, if_neg (by omega), uJ_2, if_neg (by omega), uJ_2, if_neg (by omega), uJ_2, if_neg (by omega), uJ_2, if_neg (by omega)]
  · unfold N_op N_issue N_pu
    rw [uJ_2, if_neg (by omega), uJ_2, if_neg (by omega), uJ_2, if_neg (by omega), uJ_2, if_neg (by omega)]
section
variable {bk dr T G H : Nat} {X : Mm} {f : Nat → Int64} {w : Wt}
theorem Rl.o27 (R : Rl T G f w) (k : Nat) (v : Int32) : Rl T G f (uI w 27 k v) := R.oI (fun p hp => by
  have b := hp.code R.1 R.2.1
  unfold Pl at hp
  rcases hp with hp | hp | hp | hp | hp | ⟨j, hp⟩ | ⟨j, hp⟩ | ⟨_, _, j, hp⟩ | ⟨_, _, j, hp⟩
  · omega
  · omega
  · omega
  · omega
  · omega
  · omega
  · have := oE_b j
    omega
  · omega
  · omega) (by decide)
theorem m_pr262 (h : Shp bk dr X) (R : Rl T G f w) {e i : Nat} (he : e < G) (i10 : i < 10) (hp : inL (w.1 15 e) 5) (n : Nat) (r tk sl s0 s1 : Int64) : Ex (fX12_paysRights_L262 n 366 (nI e) (nI i) r tk sl s0 s1 (wJ X 367 f)) fun _ => RX X T G (N_issue e tk (s1 + s0) (N_pu i (s1 + s0) (N_add (ix (nI i) (w.1 15 e)) tk (uJ (uJ (uJ w 34 (10 * e + i) tk) 35 (10 * e + i) sl) 36 (10 * e + i) (r - tk - sl))))) := by
  have e8 : e < 8 := by have := R.2.1; omega
  have hi := inL_nI (j := i) (n := 10) i10 (by decide)
  have hc : (nI i).toNatClampNeg = i := nI_clamp (by omega)
  have R1 : Rl T G (q_u1 f (aH e i 3) tk) (uJ w 34 (10 * e + i) tk) := R.wJ (Pl.ho e i 3 he i10 (by decide)) (by decide) rfl
  have R2 : Rl T G (q_u1 (q_u1 f (aH e i 3) tk) (aH e i 4) sl) (uJ (uJ w 34 (10 * e + i) tk) 35 (10 * e + i) sl) := R1.wJ (Pl.ho e i 4 he i10 (by decide)) (by decide) rfl
  have R3 : Rl T G (q_u1 (q_u1 (q_u1 f (aH e i 3) tk) (aH e i 4) sl) (aH e i 5) (r - tk - sl)) (uJ (uJ (uJ w 34 (10 * e + i) tk) 35 (10 * e + i) sl) 36 (10 * e + i) (r - tk - sl)) := R2.wJ (Pl.ho e i 5 he i10 (by decide)) (by decide) rfl
  simp only [fX12_paysRights_L262, h.1, h.2.1, h.2.2, li_T, li_L, li_R, nm, bd, q_b, ne_eq, Nat.reduceEqDiff, reduceCtorEq, and_false, false_and, and_true, true_and, and_self, not_false_eq_true, not_true_eq_false, ↓reduceIte, mT_wJ, mL_wJ, mR_wJ, mI_wJ, mJ_wJ, sJ_wJ, Nat.reduceLT, l60.1, l60.2.1, l60.2.2, l61.1, l61.2.1, l61.2.2, l62.1, l62.2.1, l62.2.2, r_oH0, r_oH1, r_oH2, r_oH3, r_oH4, r_oH5, r_of1, bE1 e8, bE2 e8, bE3 e8, bH1 e8 i10, bH2 e8 i10, bH3 e8 i10, R3.e1 he, uJ_1]
  refine Ex.bd (m_givesShares h R3 hi hp _) ?_
  rintro _ _ ⟨f4, rfl, R4⟩
  simp only [h.1, h.2.1, h.2.2, li_T, li_L, li_R, nm, bd, q_b, ne_eq, Nat.reduceEqDiff, reduceCtorEq, and_false, false_and, and_true, true_and, and_self, not_false_eq_true, not_true_eq_false, ↓reduceIte, mT_wJ, mL_wJ, mR_wJ, mI_wJ, mJ_wJ, sJ_wJ, Nat.reduceLT, l60.1, l60.2.1, l60.2.2, l61.1, l61.2.1, l61.2.2, l62.1, l62.2.1, l62.2.2]
  refine Ex.bd (m_givesMoney h R4 hi _) ?_
  rintro _ _ ⟨f5, rfl, R5⟩
  rw [hc] at R5
  simp only [h.1, h.2.1, h.2.2, li_T, li_L, li_R, nm, bd, q_b, ne_eq, Nat.reduceEqDiff, reduceCtorEq, and_false, false_and, and_true, true_and, and_self, not_false_eq_true, not_true_eq_false, ↓reduceIte, mT_wJ, mL_wJ, mR_wJ, mI_wJ, mJ_wJ, sJ_wJ, Nat.reduceLT, l60.1, l60.2.1, l60.2.2, l61.1, l61.2.1, l61.2.2, l62.1, l62.2.1, l62.2.2]
  refine Ex.bd (m_issues h R5 he _ _) ?_
  rintro _ _ ⟨f6, rfl, R6⟩
  exact .ret ⟨_, rfl, R6⟩
theorem m_pr205 (h : Shp bk dr X) (R : Rl T G f w) {e i : Nat} (he : e < G) (i10 : i < 10) (hp : inL (w.1 15 e) 5) (n : Nat) (r tk sl m : Int64) (hm : m = sl * (w.1 20 e).toInt64 - tk * (w.1 19 e).toInt64 + (if 0 ≤ r then 0 else r * (w.1 20 e).toInt64)) : Ex (fX12_paysRights_L205 n 366 (nI e) (nI i) r tk sl (wJ X 367 f)) fun _ => RX X T G (N_issue e tk m (N_pu i m (N_add (ix (nI i) (w.1 15 e)) tk (uJ (uJ (uJ w 34 (10 * e + i) tk) 35 (10 * e + i) sl) 36 (10 * e + i) (r - tk - sl))))) := by
  have e8 : e < 8 := by have := R.2.1; omega
  simp only [fX12_paysRights_L205, h.1, h.2.1, h.2.2, li_T, li_L, li_R, nm, bd, q_b, ne_eq, Nat.reduceEqDiff, reduceCtorEq, and_false, false_and, and_true, true_and, and_self, not_false_eq_true, not_true_eq_false, ↓reduceIte, mT_wJ, mL_wJ, mR_wJ, mI_wJ, mJ_wJ, sJ_wJ, Nat.reduceLT, l60.1, l60.2.1, l60.2.2, l61.1, l61.2.1, l61.2.2, l62.1, l62.2.1, l62.2.2, r_of10, r_of11, bE1 e8, bE2 e8, bE3 e8, R.e10 he, R.e11 he, cv_ge]
  by_cases hr : 0 ≤ r
  · rw [if_pos hr] at hm ⊢
    rw [hm]
    exact m_pr262 h R he i10 hp n r tk sl _ _
  · rw [if_neg hr] at hm ⊢
    rw [hm]
    exact m_pr262 h R he i10 hp n r tk sl _ _
theorem i64_nlt {a b : Int64} (h : ¬ a ≤ b) : b < a := by
  rw [Int64.le_iff_toInt_le] at h
  rw [Int64.lt_iff_toInt_lt]
  omega
theorem i64_anti {a b : Int64} (h : a ≤ b) (g : b ≤ a) : a = b := by
  rw [Int64.le_iff_toInt_le] at h g
  exact Int64.toInt_inj.mp (by omega)
/-- the least of two, as the class and as the reference say it -/
theorem i64_min (a b : Int64) : (if a ≤ b then a else b) = (if a < b then a else b) := by
  by_cases h : a < b
  · rw [if_pos h, if_pos (Int64.le_of_lt h)]
  · rw [if_neg h]
    by_cases g : a ≤ b
    · rw [if_pos g]
      have : b ≤ a := by
        rw [Int64.lt_iff_toInt_lt] at h
        rw [Int64.le_iff_toInt_le]
        omega
      exact i64_anti g this
    · rw [if_neg g]
theorem m_pr125 (h : Shp bk dr X) (R : Rl T G f w) {e i : Nat} (he : e < G) (i10 : i < 10) (hp : inL (w.1 15 e) 5) (n : Nat) (r s tk sl m : Int64) (htk : tk = if s ≤ w.2 32 (10 * e + i) then s else w.2 32 (10 * e + i)) (hsl : sl = if s - tk ≤ w.2 33 (10 * e + i) then s - tk else w.2 33 (10 * e + i)) (hm : m = sl * (w.1 20 e).toInt64 - tk * (w.1 19 e).toInt64 + (if 0 ≤ r then 0 else r * (w.1 20 e).toInt64)) : Ex (fX12_paysRights_L125 n 366 (nI e) (nI i) r s (wJ X 367 f)) fun _ => RX X T G (N_issue e tk m (N_pu i m (N_add (ix (nI i) (w.1 15 e)) tk (uJ (uJ (uJ w 34 (10 * e + i) tk) 35 (10 * e + i) sl) 36 (10 * e + i) (r - tk - sl))))) := by
  have e8 : e < 8 := by have := R.2.1; omega
  have go : Ex (fX12_paysRights_L162 n 366 (nI e) (nI i) r s tk (wJ X 367 f)) fun _ => RX X T G (N_issue e tk m (N_pu i m (N_add (ix (nI i) (w.1 15 e)) tk (uJ (uJ (uJ w 34 (10 * e + i) tk) 35 (10 * e + i) sl) 36 (10 * e + i) (r - tk - sl))))) := by
    simp only [fX12_paysRights_L162, h.1, h.2.1, h.2.2, li_T, li_L, li_R, nm, bd, q_b, ne_eq, Nat.reduceEqDiff, reduceCtorEq, and_false, false_and, and_true, true_and, and_self, not_false_eq_true, not_true_eq_false, ↓reduceIte, mT_wJ, mL_wJ, mR_wJ, mI_wJ, mJ_wJ, sJ_wJ, Nat.reduceLT, l60.1, l60.2.1, l60.2.2, l61.1, l61.2.1, l61.2.2, l62.1, l62.2.1, l62.2.2, r_oH0, r_oH1, r_oH2, r_oH3, r_oH4, r_oH5, bH1 e8 i10, bH2 e8 i10, bH3 e8 i10, R.h2 he i10, cv_ge]
    by_cases hs : s - tk ≤ w.2 33 (10 * e + i)
    · rw [if_pos hs] at hsl ⊢
      rw [← hsl]
      exact m_pr205 h R he i10 hp n r tk sl m hm
    · rw [if_neg hs] at hsl ⊢
      rw [← hsl]
      exact m_pr205 h R he i10 hp n r tk sl m hm
  simp only [fX12_paysRights_L125, h.1, h.2.1, h.2.2, li_T, li_L, li_R, nm, bd, q_b, ne_eq, Nat.reduceEqDiff, reduceCtorEq, and_false, false_and, and_true, true_and, and_self, not_false_eq_true, not_true_eq_false, ↓reduceIte, mT_wJ, mL_wJ, mR_wJ, mI_wJ, mJ_wJ, sJ_wJ, Nat.reduceLT, l60.1, l60.2.1, l60.2.2, l61.1, l61.2.1, l61.2.2, l62.1, l62.2.1, l62.2.2, r_oH0, r_oH1, r_oH2, r_oH3, r_oH4, r_oH5, bH1 e8 i10, bH2 e8 i10, bH3 e8 i10, R.h1 he i10, cv_ge]
  by_cases ht : s ≤ w.2 32 (10 * e + i)
  · rw [if_pos ht] at htk ⊢
    subst htk
    exact go
  · rw [if_neg ht] at htk ⊢
    rw [← htk]
    exact go
theorem m_paysRights (h : Shp bk dr X) (R : Rl T G f w) {e i C n : Nat} (he : e < G) (i10 : i < 10) (hp : inL (w.1 15 e) 5) (hb : 1 ≤ w.1 18 e) (hC : w.1 26 e = nI C) (hC6 : C ≤ 60) (hn : 64 ≤ n) (p1 : 0 ≤ w.2 32 (10 * e + i)) (p2 : 0 ≤ w.2 33 (10 * e + i)) (z4 : w.2 34 (10 * e + i) = 0) (z5 : w.2 35 (10 * e + i) = 0) : Ex (fX12_paysRights n 366 (nI e) (nI i) (wJ X 367 f)) fun _ => RX X T G (N_prh C e i w) := by
  have e8 : e < 8 := by have := R.2.1; omega
  have hCn : Cn w e = C := by unfold Cn; rw [hC, nI_clamp (by omega)]
  have g := loop_ga (F := fun j k v => fX12_paysRights_L21 n j 366 (nI e) (nI i) v k (wJ X 367 f)) (N := N_ro1 e i w) (I := fun _ _ => True) (out := fun v => fX12_paysRights_L125 n 366 (nI e) (nI i) v (if v ≤ 0 then 0 else v) (wJ X 367 f)) C
    (fun j k v hk _ => by
      have i6 : k < 60 := by omega
      have hk2 : k < Cn w e := by omega
      have e3 : ¬ nI C ≤ nI k := nI_ge hk (by omega)
      rw [fX12_paysRights_L21]
      simp only [h.1, h.2.1, h.2.2, li_T, li_L, li_R, nm, bd, q_b, ne_eq, Nat.reduceEqDiff, reduceCtorEq, and_false, false_and, and_true, true_and, and_self, not_false_eq_true, not_true_eq_false, ↓reduceIte, mT_wJ, mL_wJ, mR_wJ, mI_wJ, mJ_wJ, sJ_wJ, Nat.reduceLT, l60.1, l60.2.1, l60.2.2, l61.1, l61.2.1, l61.2.2, l62.1, l62.2.1, l62.2.2, r_of6, r_oC0, r_oC1, r_oC2, r_oC3, r_oC4, bE1 e8, bE2 e8, bE3 e8, bC1 e8 i6, bC2 e8 i6, bC3 e8 i6, R.e6 he, hC, cv_ge, wd_le, e3, R.c2 he hk2 i6, R.c1 he hk2 i6, m_wholeOf h R he hb, cv_eq, wd_eq]
      by_cases g1 : w.1 39 (60 * e + k) = nI i
      · by_cases g2 : w.1 38 (60 * e + k) = nI i
        · simp only [g1, g2, ↓reduceIte, fX12_paysRights_L84, fX12_paysRights_L108, h.1, h.2.1, h.2.2, li_T, li_L, li_R, nm, bd, q_b, ne_eq, Nat.reduceEqDiff, reduceCtorEq, and_false, false_and, and_true, true_and, and_self, not_false_eq_true, not_true_eq_false, ↓reduceIte, mT_wJ, mL_wJ, mR_wJ, mI_wJ, mJ_wJ, sJ_wJ, Nat.reduceLT, l60.1, l60.2.1, l60.2.2, l61.1, l61.2.1, l61.2.2, l62.1, l62.2.1, l62.2.2, r_oC0, r_oC1, r_oC2, r_oC3, r_oC4, bC1 e8 i6, bC2 e8 i6, bC3 e8 i6, R.c0 he hk2 i6, cv_eq, wd_eq, nI_1, N_ro1]
        · simp only [g1, g2, ↓reduceIte, fX12_paysRights_L84, fX12_paysRights_L108, h.1, h.2.1, h.2.2, li_T, li_L, li_R, nm, bd, q_b, ne_eq, Nat.reduceEqDiff, reduceCtorEq, and_false, false_and, and_true, true_and, and_self, not_false_eq_true, not_true_eq_false, ↓reduceIte, mT_wJ, mL_wJ, mR_wJ, mI_wJ, mJ_wJ, sJ_wJ, Nat.reduceLT, l60.1, l60.2.1, l60.2.2, l61.1, l61.2.1, l61.2.2, l62.1, l62.2.1, l62.2.2, r_oC0, r_oC1, r_oC2, r_oC3, r_oC4, bC1 e8 i6, bC2 e8 i6, bC3 e8 i6, R.c0 he hk2 i6, cv_eq, wd_eq, nI_1, N_ro1]
      · by_cases g2 : w.1 38 (60 * e + k) = nI i
        · simp only [g1, g2, ↓reduceIte, fX12_paysRights_L84, fX12_paysRights_L108, h.1, h.2.1, h.2.2, li_T, li_L, li_R, nm, bd, q_b, ne_eq, Nat.reduceEqDiff, reduceCtorEq, and_false, false_and, and_true, true_and, and_self, not_false_eq_true, not_true_eq_false, ↓reduceIte, mT_wJ, mL_wJ, mR_wJ, mI_wJ, mJ_wJ, sJ_wJ, Nat.reduceLT, l60.1, l60.2.1, l60.2.2, l61.1, l61.2.1, l61.2.2, l62.1, l62.2.1, l62.2.2, r_oC0, r_oC1, r_oC2, r_oC3, r_oC4, bC1 e8 i6, bC2 e8 i6, bC3 e8 i6, R.c0 he hk2 i6, cv_eq, wd_eq, nI_1, N_ro1]
        · simp only [g1, g2, ↓reduceIte, fX12_paysRights_L84, fX12_paysRights_L108, h.1, h.2.1, h.2.2, li_T, li_L, li_R, nm, bd, q_b, ne_eq, Nat.reduceEqDiff, reduceCtorEq, and_false, false_and, and_true, true_and, and_self, not_false_eq_true, not_true_eq_false, ↓reduceIte, mT_wJ, mL_wJ, mR_wJ, mI_wJ, mJ_wJ, sJ_wJ, Nat.reduceLT, l60.1, l60.2.1, l60.2.2, l61.1, l61.2.1, l61.2.2, l62.1, l62.2.1, l62.2.2, r_oC0, r_oC1, r_oC2, r_oC3, r_oC4, bC1 e8 i6, bC2 e8 i6, bC3 e8 i6, R.c0 he hk2 i6, cv_eq, wd_eq, nI_1, N_ro1])
    (fun _ _ _ _ => trivial)
    (fun j v _ => by
      have e3 : nI C ≤ nI C := nI_le (Nat.le_refl _) (by omega)
      rw [fX12_paysRights_L21]
      simp only [h.1, h.2.1, h.2.2, li_T, li_L, li_R, nm, bd, q_b, ne_eq, Nat.reduceEqDiff, reduceCtorEq, and_false, false_and, and_true, true_and, and_self, not_false_eq_true, not_true_eq_false, ↓reduceIte, mT_wJ, mL_wJ, mR_wJ, mI_wJ, mJ_wJ, sJ_wJ, Nat.reduceLT, l60.1, l60.2.1, l60.2.2, l61.1, l61.2.1, l61.2.2, l62.1, l62.2.1, l62.2.2, r_of6, bE1 e8, bE2 e8, bE3 e8, R.e6 he, hC, cv_ge, wd_le, e3, cv_le]
      by_cases g1 : v ≤ 0
      · simp only [g1, ↓reduceIte]
      · simp only [g1, ↓reduceIte]) C 0 (N_sf e (w.2 31 (10 * e + i)) w) n (by omega) (by omega) trivial
  simp only [fX12_paysRights, h.1, h.2.1, h.2.2, li_T, li_L, li_R, nm, bd, q_b, ne_eq, Nat.reduceEqDiff, reduceCtorEq, and_false, false_and, and_true, true_and, and_self, not_false_eq_true, not_true_eq_false, ↓reduceIte, mT_wJ, mL_wJ, mR_wJ, mI_wJ, mJ_wJ, sJ_wJ, Nat.reduceLT, l60.1, l60.2.1, l60.2.2, l61.1, l61.2.1, l61.2.2, l62.1, l62.2.1, l62.2.2, r_oH0, r_oH1, r_oH2, r_oH3, r_oH4, r_oH5, bH1 e8 i10, bH2 e8 i10, bH3 e8 i10, R.h0 he i10, m_wholeOf h R he hb]
  have g1 := g.1
  rw [nI_0] at g1
  rw [g1]
  show Ex (fX12_paysRights_L125 n 366 (nI e) (nI i) (N_ro C e i w) (if N_ro C e i w ≤ 0 then 0 else N_ro C e i w) (wJ X 367 f)) _
  unfold N_prh
  have hcv : 0 ≤ lg_cmp (N_ro C e i w) 0 ↔ 0 ≤ N_ro C e i w := cv_ge
  by_cases hr : 0 ≤ N_ro C e i w
  · rw [if_pos (hcv.mpr hr)]
    have hs : (if N_ro C e i w ≤ 0 then 0 else N_ro C e i w) = N_ro C e i w := by
      by_cases q : N_ro C e i w ≤ 0
      · rw [if_pos q]; exact i64_anti hr q
      · rw [if_neg q]
    rw [hs]
    refine m_pr125 h R he i10 hp n _ _ _ _ _ ?_ ?_ ?_
    · rw [i64_min]; rfl
    · rw [i64_min]; rfl
    · rw [if_pos hr, Int64.add_zero]; rfl
  · rw [if_neg (fun z => hr (hcv.mp z))]
    have hs : (if N_ro C e i w ≤ 0 then 0 else N_ro C e i w) = 0 := if_pos (Int64.le_of_lt (i64_nlt hr))
    rw [hs]
    have fin := m_pr125 (X := X) h R he i10 hp n (N_ro C e i w) 0 0 0 (N_ro C e i w * (w.1 20 e).toInt64) (by rw [if_pos p1]) (by rw [Int64.sub_self, if_pos p2]) (by rw [if_neg hr]; simp)
    refine fin.mono fun _ X' hX => ?_
    have ea : ∀ (k : Nat) (u : Wt), N_add k 0 u = u := fun k u => uJ_same (Int64.add_zero _).symm
    rw [uJ_same z4, uJ_same z5, ea, Int64.sub_zero, Int64.sub_zero] at hX
    have ec : N_pu i (N_ro C e i w * (w.1 20 e).toInt64) (uJ w 36 (10 * e + i) (N_ro C e i w)) = uJ (N_pu i (N_ro C e i w * (w.1 20 e).toInt64) w) 36 (10 * e + i) (N_ro C e i w) := by
      unfold N_pu
      rw [uJ_2, if_neg (by omega)]
      exact uJ_comm _ (by decide) _ _ _ _
    rw [ec] at hX
    exact hX
end
