/-! THE REFERENCE: all of PAYING an EVENT -/
/-- how many of the first m are 2 -/
def cn (g : Nat → Int32) : Nat → Nat
| 0 => 0
| m + 1 => cn g m + if g m = 2 then 1 else 0
/-- an EVENT's row is one, in what its state says of it -/
def Ev (w : Wt) (e : Nat) : Prop := 1 ≤ w.1 18 e ∧ (w.1 25 e = 0 → w.1 26 e = 0) ∧ (w.1 14 e = 2 → w.1 27 e = 0) ∧ (w.1 25 e = 1 → w.1 27 e = 0) ∧ w.1 27 e = nI (cn (fun i => w.1 42 (60 * e + i)) (Cn w e)) ∧
  (∀ h, h < 10 → 0 ≤ w.2 32 (10 * e + h) ∧ 0 ≤ w.2 33 (10 * e + h)) ∧ (w.1 25 e = 0 ∨ w.1 25 e = 1 → ∀ h, h < 10 → w.2 34 (10 * e + h) = 0 ∧ w.2 35 (10 * e + h) = 0)
section
variable {bk dr T G H : Nat} {X : Mm} {f : Nat → Int64} {w : Wt}
theorem m_paysAll (h : Shp bk dr X) (R : Rl T G f w) (hH : mI X 366 6 = nI H) (ok : Ok T G H w.1) {e C n : Nat} (he : e < G) (ev : Ev w e) (hst : w.1 25 e = 1) (hC : w.1 26 e = nI C) (hC6 : C ≤ 60) (hn : 64 ≤ n) : Ex (fX12_paysAll n 366 (nI e) (wJ X 367 f)) fun _ => RX X T G (uI (if w.1 14 e = 2 then N_pr H C e w else N_po H C e w) 25 e 2) := by
  have e8 : e < 8 := by have := R.2.1; omega
  have hH10 := ok.2.2.2.2.2.1
  have hp := (ok.2.2.2.2.2.2.2 e he).1
  have hb := ev.1
  have hCn : Cn w e = C := by unfold Cn; rw [hC, nI_clamp (by omega)]
  have R1 : Rl T G (q_u1 f (aE e 5) 2) (uI w 25 e 2) := R.wI (Pl.ev e 5 he (by decide) (fun h => absurd h (by decide)) (fun h => absurd h (by decide))) (by decide) (by decide) (by decide)
  simp only [fX12_paysAll, h.1, h.2.1, h.2.2, li_T, li_L, li_R, nm, bd, q_b, ne_eq, Nat.reduceEqDiff, reduceCtorEq, and_false, false_and, and_true, true_and, and_self, not_false_eq_true, not_true_eq_false, ↓reduceIte, mT_wJ, mL_wJ, mR_wJ, mI_wJ, mJ_wJ, sJ_wJ, Nat.reduceLT, l60.1, l60.2.1, l60.2.2, l61.1, l61.2.1, l61.2.2, l62.1, l62.2.1, l62.2.2, r_of0, r_of5, bE1 e8, bE2 e8, bE3 e8, R1.e0 he, uI_1, uI_2, uJ_1, uJ_2, N_pu_1, N_pu_2, N_add_1, N_add_2, cv_eq, wd_2]
  by_cases hk : w.1 14 e = 2
  · rw [if_pos hk, if_pos hk]
    refine loop_ex (F := fun j i Y => fX12_paysAll_L34 n j 366 (nI e) i Y) (N := N_prh C e) (I := fun i a Y => RX X T G (uI a 25 e 2) Y ∧ a.1 = w.1 ∧ ∀ k, i ≤ k → k < 10 → a.2 32 (10 * e + k) = w.2 32 (10 * e + k) ∧ a.2 33 (10 * e + k) = w.2 33 (10 * e + k) ∧ a.2 34 (10 * e + k) = 0 ∧ a.2 35 (10 * e + k) = 0) H
      ?_ H 0 (wJ X 367 (q_u1 f (aE e 5) 2)) w n (by omega) (by omega) ⟨⟨_, rfl, R1⟩, rfl, fun k _ hk => ⟨rfl, rfl, (ev.2.2.2.2.2.2 (Or.inr hst) k hk).1, (ev.2.2.2.2.2.2 (Or.inr hst) k hk).2⟩⟩ ?_
    · rintro j i Y a hi ⟨⟨g, rfl, Ra⟩, ha, hz⟩ nxt
      have e3 : ¬ nI H ≤ nI i := nI_ge hi (by omega)
      have q : ∀ c k, c ≠ 25 → (uI a 25 e 2).1 c k = w.1 c k := fun c k hc => by rw [uI_1, if_neg (by omega), ha]
      obtain ⟨z1, z2, z3, z4⟩ := hz i (Nat.le_refl _) (by omega)
      have p := ev.2.2.2.2.2.1 i (by omega)
      show Ex (fX12_paysAll_L34 n (j + 1) 366 (nI e) (nI i) (wJ X 367 g)) _
      rw [fX12_paysAll_L34]
      simp only [h.1, h.2.1, h.2.2, li_T, li_L, li_R, nm, bd, q_b, ne_eq, Nat.reduceEqDiff, reduceCtorEq, and_false, false_and, and_true, true_and, and_self, not_false_eq_true, not_true_eq_false, ↓reduceIte, mT_wJ, mL_wJ, mR_wJ, mI_wJ, mJ_wJ, sJ_wJ, Nat.reduceLT, l60.1, l60.2.1, l60.2.2, l61.1, l61.2.1, l61.2.2, l62.1, l62.2.1, l62.2.2, hH, e3]
      refine Ex.bd (m_paysRights h Ra he (by omega) (by rw [q _ _ (by decide)]; exact hp) (by rw [q _ _ (by decide)]; exact hb) (by rw [q _ _ (by decide)]; exact hC) hC6 hn (by rw [uI_2, z1]; exact p.1) (by rw [uI_2, z2]; exact p.2) z3 z4) ?_
      rintro _ _ ⟨g2, rfl, R2⟩
      rw [N_prh_uI (by decide)] at R2
      simp only [nI_1]
      refine nxt _ ⟨⟨_, rfl, R2⟩, (N_prh_1 C e i a).trans ha, fun k h1 h2 => ?_⟩
      obtain ⟨y1, y2, y3, y4⟩ := hz k (by omega) h2
      rw [N_prh_2 _ _ _ _ (by omega), N_prh_2 _ _ _ _ (by omega), N_prh_2 _ _ _ _ (by omega), N_prh_2 _ _ _ _ (by omega)]
      exact ⟨y1, y2, y3, y4⟩
    · rintro j Y ⟨⟨g, rfl, Ra⟩, ha, -⟩
      have e3 : nI H ≤ nI H := nI_le (Nat.le_refl _) (by omega)
      show Ex (fX12_paysAll_L34 n (j + 1) 366 (nI e) (nI H) (wJ X 367 g)) _
      rw [fX12_paysAll_L34]
      simp only [h.1, h.2.1, h.2.2, li_T, li_L, li_R, nm, bd, q_b, ne_eq, Nat.reduceEqDiff, reduceCtorEq, and_false, false_and, and_true, true_and, and_self, not_false_eq_true, not_true_eq_false, ↓reduceIte, mT_wJ, mL_wJ, mR_wJ, mI_wJ, mJ_wJ, sJ_wJ, Nat.reduceLT, l60.1, l60.2.1, l60.2.2, l61.1, l61.2.1, l61.2.2, l62.1, l62.2.1, l62.2.2, hH, e3]
      refine loop_ex (F := fun j i Y => fX12_paysAll_L56 n j 366 (nI e) i Y) (N := N_prc e) (I := fun i b Y => RX X T G (uI b 25 e 2) Y ∧ b.1 26 e = nI C) C
        ?_ C 0 (wJ X 367 g) (nf (N_prh C e) H 0 w) n (by omega) (by omega) ⟨⟨_, rfl, Ra⟩, by rw [ha]; exact hC⟩ ?_
      · rintro j i Y b hi ⟨⟨g, rfl, Rb⟩, hb26⟩ nxt
        have e3 : ¬ nI C ≤ nI i := nI_ge hi (by omega)
        have i6 : i < 60 := by omega
        have c26 : (uI b 25 e 2).1 26 e = nI C := by rw [uI_1, if_neg (by omega)]; exact hb26
        have hCb : i < Cn (uI b 25 e 2) e := by unfold Cn; rw [c26, nI_clamp (by omega)]; exact hi
        have R2 := Rb.wI (Pl.cl e i 4 he hCb i6 (by decide)) (by decide) (by decide) (v := 1) (u := 1) (by decide)
        rw [uI_comm _ (by decide)] at R2
        show Ex (fX12_paysAll_L56 n (j + 1) 366 (nI e) (nI i) (wJ X 367 g)) _
        rw [fX12_paysAll_L56]
        simp only [h.1, h.2.1, h.2.2, li_T, li_L, li_R, nm, bd, q_b, ne_eq, Nat.reduceEqDiff, reduceCtorEq, and_false, false_and, and_true, true_and, and_self, not_false_eq_true, not_true_eq_false, ↓reduceIte, mT_wJ, mL_wJ, mR_wJ, mI_wJ, mJ_wJ, sJ_wJ, Nat.reduceLT, l60.1, l60.2.1, l60.2.2, l61.1, l61.2.1, l61.2.2, l62.1, l62.2.1, l62.2.2, r_of6, r_oC0, r_oC1, r_oC2, r_oC3, r_oC4, bE1 e8, bE2 e8, bE3 e8, bC1 e8 i6, bC2 e8 i6, bC3 e8 i6, Rb.e6 he, c26, cv_ge, wd_le, e3, nI_1]
        exact nxt _ ⟨⟨_, rfl, R2⟩, by rw [N_prc_1 e i b (by decide)]; exact hb26⟩
      · rintro j Y ⟨⟨g, rfl, Rb⟩, hb26⟩
        have e3 : nI C ≤ nI C := nI_le (Nat.le_refl _) (by omega)
        have c26 : (uI (nf (N_prc e) C 0 (nf (N_prh C e) H 0 w)) 25 e 2).1 26 e = nI C := by rw [uI_1, if_neg (by omega)]; exact hb26
        show Ex (fX12_paysAll_L56 n (j + 1) 366 (nI e) (nI C) (wJ X 367 g)) _
        rw [fX12_paysAll_L56]
        simp only [h.1, h.2.1, h.2.2, li_T, li_L, li_R, nm, bd, q_b, ne_eq, Nat.reduceEqDiff, reduceCtorEq, and_false, false_and, and_true, true_and, and_self, not_false_eq_true, not_true_eq_false, ↓reduceIte, mT_wJ, mL_wJ, mR_wJ, mI_wJ, mJ_wJ, sJ_wJ, Nat.reduceLT, l60.1, l60.2.1, l60.2.2, l61.1, l61.2.1, l61.2.2, l62.1, l62.2.1, l62.2.2, r_of6, bE1 e8, bE2 e8, bE3 e8, Rb.e6 he, c26, cv_ge, wd_le, e3]
        exact .ret ⟨_, rfl, Rb⟩
  · rw [if_neg hk, if_neg hk]
    refine loop_ex (F := fun j i Y => fX12_paysAll_L96 n j 366 (nI e) i Y) (N := N_poh e) (I := fun i a Y => RX X T G (uI a 25 e 2) Y ∧ a.1 = w.1) H
      ?_ H 0 (wJ X 367 (q_u1 f (aE e 5) 2)) w n (by omega) (by omega) ⟨⟨_, rfl, R1⟩, rfl⟩ ?_
    · rintro j i Y a hi ⟨⟨g, rfl, Ra⟩, ha⟩ nxt
      have e3 : ¬ nI H ≤ nI i := nI_ge hi (by omega)
      have q : ∀ c k, c ≠ 25 → (uI a 25 e 2).1 c k = w.1 c k := fun c k hc => by rw [uI_1, if_neg (by omega), ha]
      have i10 : i < 10 := by omega
      have hi2 := inL_nI (j := i) (n := 10) i10 (by decide)
      have hcl : (nI i).toNatClampNeg = i := nI_clamp (by omega)
      have hp2 : inL ((uI a 25 e 2).1 15 e) 5 := by rw [q _ _ (by decide)]; exact hp
      have hb2 : 1 ≤ (uI a 25 e 2).1 18 e := by rw [q _ _ (by decide)]; exact hb
      have hk2 : ¬ (uI a 25 e 2).1 14 e = 2 := by rw [q _ _ (by decide)]; exact hk
      show Ex (fX12_paysAll_L96 n (j + 1) 366 (nI e) (nI i) (wJ X 367 g)) _
      rw [fX12_paysAll_L96]
      simp only [h.1, h.2.1, h.2.2, li_T, li_L, li_R, nm, bd, q_b, ne_eq, Nat.reduceEqDiff, reduceCtorEq, and_false, false_and, and_true, true_and, and_self, not_false_eq_true, not_true_eq_false, ↓reduceIte, mT_wJ, mL_wJ, mR_wJ, mI_wJ, mJ_wJ, sJ_wJ, Nat.reduceLT, l60.1, l60.2.1, l60.2.2, l61.1, l61.2.1, l61.2.2, l62.1, l62.2.1, l62.2.2, hH, e3, r_oH0, r_oH1, r_oH2, r_oH3, r_oH4, r_oH5, r_of1, bE1 e8, bE2 e8, bE3 e8, bH1 e8 i10, bH2 e8 i10, bH3 e8 i10, Ra.h0 he i10, Ra.e1 he, m_wholeOf h Ra he hb2]
      refine Ex.bd (m_givesShares h Ra hi2 hp2 _) ?_
      rintro _ _ ⟨g2, rfl, R2⟩
      simp only [h.1, h.2.1, h.2.2, li_T, li_L, li_R, nm, bd, q_b, ne_eq, Nat.reduceEqDiff, reduceCtorEq, and_false, false_and, and_true, true_and, and_self, not_false_eq_true, not_true_eq_false, ↓reduceIte, mT_wJ, mL_wJ, mR_wJ, mI_wJ, mJ_wJ, sJ_wJ, Nat.reduceLT, l60.1, l60.2.1, l60.2.2, l61.1, l61.2.1, l61.2.2, l62.1, l62.2.1, l62.2.2, m_moneyOf h R2 he hb2 hk2]
      refine Ex.bd (m_givesMoney h R2 hi2 _) ?_
      rintro _ _ ⟨g3, rfl, R3⟩
      simp only [h.1, h.2.1, h.2.2, li_T, li_L, li_R, nm, bd, q_b, ne_eq, Nat.reduceEqDiff, reduceCtorEq, and_false, false_and, and_true, true_and, and_self, not_false_eq_true, not_true_eq_false, ↓reduceIte, mT_wJ, mL_wJ, mR_wJ, mI_wJ, mJ_wJ, sJ_wJ, Nat.reduceLT, l60.1, l60.2.1, l60.2.2, l61.1, l61.2.1, l61.2.2, l62.1, l62.2.1, l62.2.2, m_wholeOf h R3 he hb2, m_moneyOf h R3 he hb2 hk2]
      refine Ex.bd (m_issues h R3 he _ _) ?_
      rintro _ _ ⟨g4, rfl, R4⟩
      simp only [nI_1]
      refine nxt _ ⟨⟨_, rfl, ?_⟩, ha⟩
      have eq : uI (N_poh e i a) 25 e 2 = N_give i e (ix (nI i) ((uI a 25 e 2).1 15 e)) (a.2 31 (10 * e + i)) (uI a 25 e 2) := by
        rw [N_give_uI (by decide), q _ _ (by decide), ← ha]
        rfl
      rw [eq]
      rw [hcl] at R4
      exact R4
    · rintro j Y ⟨⟨g, rfl, Ra⟩, ha⟩
      have e3 : nI H ≤ nI H := nI_le (Nat.le_refl _) (by omega)
      show Ex (fX12_paysAll_L96 n (j + 1) 366 (nI e) (nI H) (wJ X 367 g)) _
      rw [fX12_paysAll_L96]
      simp only [h.1, h.2.1, h.2.2, li_T, li_L, li_R, nm, bd, q_b, ne_eq, Nat.reduceEqDiff, reduceCtorEq, and_false, false_and, and_true, true_and, and_self, not_false_eq_true, not_true_eq_false, ↓reduceIte, mT_wJ, mL_wJ, mR_wJ, mI_wJ, mJ_wJ, sJ_wJ, Nat.reduceLT, l60.1, l60.2.1, l60.2.2, l61.1, l61.2.1, l61.2.2, l62.1, l62.2.1, l62.2.2, hH, e3]
      refine loop_ex (F := fun j i Y => fX12_paysAll_L177 n j 366 (nI e) i Y) (N := N_poc e) (I := fun i b Y => RX X T G (uI b 25 e 2) Y ∧ ∀ c k, c ≠ 42 → c ≠ 27 → b.1 c k = w.1 c k) C
        ?_ C 0 (wJ X 367 g) (nf (N_poh e) H 0 w) n (by omega) (by omega) ⟨⟨_, rfl, Ra⟩, fun c k _ _ => by rw [ha]⟩ ?_
      · rintro j i Y b hi ⟨⟨g, rfl, Rb⟩, hfr⟩ nxt
        have e3 : ¬ nI C ≤ nI i := nI_ge hi (by omega)
        have i6 : i < 60 := by omega
        have q : ∀ c k, c ≠ 25 → c ≠ 42 → c ≠ 27 → (uI b 25 e 2).1 c k = w.1 c k := fun c k hc h1 h2 => by rw [uI_1, if_neg (by omega)]; exact hfr c k h1 h2
        have c26 : (uI b 25 e 2).1 26 e = nI C := by rw [q _ _ (by decide) (by decide) (by decide)]; exact hC
        have hCb : i < Cn (uI b 25 e 2) e := by unfold Cn; rw [c26, nI_clamp (by omega)]; exact hi
        have o := ok.at he hC hC6 hi
        show Ex (fX12_paysAll_L177 n (j + 1) 366 (nI e) (nI i) (wJ X 367 g)) _
        rw [fX12_paysAll_L177]
        simp only [h.1, h.2.1, h.2.2, li_T, li_L, li_R, nm, bd, q_b, ne_eq, Nat.reduceEqDiff, reduceCtorEq, and_false, false_and, and_true, true_and, and_self, not_false_eq_true, not_true_eq_false, ↓reduceIte, mT_wJ, mL_wJ, mR_wJ, mI_wJ, mJ_wJ, sJ_wJ, Nat.reduceLT, l60.1, l60.2.1, l60.2.2, l61.1, l61.2.1, l61.2.2, l62.1, l62.2.1, l62.2.2, r_of6, bE1 e8, bE2 e8, bE3 e8, Rb.e6 he, c26, cv_ge, wd_le, e3]
        refine Ex.bd (m_goesOver h Rb he hCb i6 (by rw [q _ _ (by decide) (by decide) (by decide)]; exact o.1) (by rw [q _ _ (by decide) (by decide) (by decide)]; exact o.2) (by rw [q _ _ (by decide) (by decide) (by decide)]; exact hp) (by rw [q _ _ (by decide) (by decide) (by decide)]; exact hb) (by rw [q _ _ (by decide) (by decide) (by decide)]; exact hk)) ?_
        rintro _ _ ⟨g2, rfl, R2⟩
        simp only [nI_1]
        refine nxt _ ⟨⟨_, rfl, ?_⟩, fun c k h1 h2 => (N_poc_1 e i b h1 h2 k).trans (hfr c k h1 h2)⟩
        unfold N_go at R2
        unfold N_poc
        by_cases hB : N_pcB e i b
        · have hB2 : N_pcB e i (uI b 25 e 2) := by rw [N_pcB_uI (by decide)]; exact hB
          rw [if_pos hB2, N_pc_uI (by decide)] at R2
          rw [if_pos hB]
          exact R2
        · have hB2 : ¬ N_pcB e i (uI b 25 e 2) := by rw [N_pcB_uI (by decide)]; exact hB
          rw [if_neg hB2, uI_comm _ (by decide)] at R2
          rw [if_neg hB, uI_comm _ (by decide)]
          exact R2.o27 _ _
      · rintro j Y ⟨⟨g, rfl, Rb⟩, hfr⟩
        have e3 : nI C ≤ nI C := nI_le (Nat.le_refl _) (by omega)
        have c26 : (uI (nf (N_poc e) C 0 (nf (N_poh e) H 0 w)) 25 e 2).1 26 e = nI C := by rw [uI_1, if_neg (by omega), hfr _ _ (by decide) (by decide)]; exact hC
        show Ex (fX12_paysAll_L177 n (j + 1) 366 (nI e) (nI C) (wJ X 367 g)) _
        rw [fX12_paysAll_L177]
        simp only [h.1, h.2.1, h.2.2, li_T, li_L, li_R, nm, bd, q_b, ne_eq, Nat.reduceEqDiff, reduceCtorEq, and_false, false_and, and_true, true_and, and_self, not_false_eq_true, not_true_eq_false, ↓reduceIte, mT_wJ, mL_wJ, mR_wJ, mI_wJ, mJ_wJ, sJ_wJ, Nat.reduceLT, l60.1, l60.2.1, l60.2.2, l61.1, l61.2.1, l61.2.2, l62.1, l62.2.1, l62.2.2, r_of6, bE1 e8, bE2 e8, bE3 e8, Rb.e6 he, c26, cv_ge, wd_le, e3]
        exact .ret ⟨_, rfl, Rb⟩
end
