/-! THE REFERENCE: a DAY, and so many of them -/
theorem N_ac_fr (e : Nat) (x y : Int32) (t : Nat) (w : Wt) (a k : Nat) (h : a ≠ 38 ∧ a ≠ 39 ∧ a ≠ 41 ∧ a ≠ 42 ∧ a ≠ 26) : (N_ac e x y t w).1 a k = w.1 a k := N_ac_1 e x y t w a k h
theorem N_day_fr {T G H : Nat} {w : Wt} : (∀ a k, a ≠ 6 → a ≠ 11 → a ≠ 12 → a ≠ 25 → a ≠ 26 → a ≠ 27 → a ≠ 38 → a ≠ 39 → a ≠ 41 → a ≠ 42 → (a = 0 → k ≠ 8) → (N_day T G H w).1 a k = w.1 a k) ∧ (N_day T G H w).1 0 8 = w.1 0 8 + 1 := by
  have q : ∀ a k, a ≠ 6 → a ≠ 11 → a ≠ 12 → a ≠ 25 → a ≠ 26 → a ≠ 27 → a ≠ 38 → a ≠ 39 → a ≠ 41 → a ≠ 42 → (N_day T G H w).1 a k = (uI w 0 8 (w.1 0 8 + 1)).1 a k := by
    intro a k h1 h2 h3 h4 h5 h6 h7 h8 h9 h10
    have s1 := nf_inv (f := N_settle) (P := fun _ b => b.1 a k = (uI w 0 8 (w.1 0 8 + 1)).1 a k) (L := T) (fun i b _ hb => (N_settle_1 i b h2 h3 k).trans hb) T 0 (uI w 0 8 (w.1 0 8 + 1)) (by omega) rfl
    have mc : ∀ e b, b.1 a k = (uI w 0 8 (w.1 0 8 + 1)).1 a k → (nf (N_mc e) T 0 b).1 a k = (uI w 0 8 (w.1 0 8 + 1)).1 a k := fun e b hb =>
      nf_inv (f := N_mc e) (P := fun _ b => b.1 a k = (uI w 0 8 (w.1 0 8 + 1)).1 a k) (L := T) (fun i b _ hb => by
        rcases N_mc_cases e i b with z | ⟨x, y, z⟩
        · rw [z]; exact hb
        · rw [z, N_ac_1 _ _ _ _ _ _ _ ⟨h7, h8, h9, h10, h5⟩]; exact hb) T 0 b (by omega) hb
    have s2 := nf_inv (f := N_we T G H) (P := fun _ b => b.1 a k = (uI w 0 8 (w.1 0 8 + 1)).1 a k) (L := G) (fun i b _ hb => by
      have f1 := N_ws_fr (e := i) (H := H) (w := b)
      unfold N_we
      split
      · split
        · split
          · rw [(N_tp_fr (T := T) (G := G) (H := H) (e := i) (w := nf (N_ws i) H 0 b)).1 a k h1 h2 h3 h4, f1.1]
            exact hb
          · rw [uI_1, if_neg (by omega)]
            exact mc i _ (by rw [f1.1]; exact hb)
        · exact hb
      · exact hb) G 0 _ (by omega) s1
    have s3 := nf_inv (f := N_pe H) (P := fun _ b => b.1 a k = (uI w 0 8 (w.1 0 8 + 1)).1 a k) (L := G) (fun i b _ hb => by
      unfold N_pe
      split
      · split
        · rw [uI_1, if_neg (by omega)]
          split
          · have r1 := nf_inv (f := N_prh (b.1 26 i).toNatClampNeg i) (P := fun _ c => c.1 a k = b.1 a k) (L := H) (fun j c _ hc => by rw [N_prh_1]; exact hc) H 0 b (by omega) rfl
            have r2 := nf_inv (f := N_prc i) (P := fun _ c => c.1 a k = b.1 a k) (L := (b.1 26 i).toNatClampNeg) (fun j c _ hc => by rw [N_prc_1 _ _ _ h10]; exact hc) (b.1 26 i).toNatClampNeg 0 _ (by omega) r1
            exact r2.trans hb
          · have r1 := (N_poh_fr (e := i) (H := H) (w := b)).1
            have r2 := nf_inv (f := N_poc i) (P := fun _ c => c.1 a k = b.1 a k) (L := (b.1 26 i).toNatClampNeg) (fun j c _ hc => by rw [N_poc_1 _ _ _ h10 h6]; exact hc) (b.1 26 i).toNatClampNeg 0 (nf (N_poh i) H 0 b) (by omega) (by rw [r1])
            exact r2.trans hb
        · exact hb
      · exact hb) G 0 _ (by omega) s2
    exact nf_inv (f := N_pw) (P := fun _ b => b.1 a k = (uI w 0 8 (w.1 0 8 + 1)).1 a k) (L := G) (fun i b _ hb => by
      unfold N_pw
      exact nf_inv (f := N_pwi i) (P := fun _ c => c.1 a k = (uI w 0 8 (w.1 0 8 + 1)).1 a k) (L := (b.1 26 i).toNatClampNeg) (fun j c _ hc => by rw [N_pwi_1 _ _ _ h10 h6]; exact hc) (b.1 26 i).toNatClampNeg 0 b (by omega) hb) G 0 _ (by omega) s3
  refine ⟨fun a k h1 h2 h3 h4 h5 h6 h7 h8 h9 h10 h0 => ?_, ?_⟩
  · rw [q a k h1 h2 h3 h4 h5 h6 h7 h8 h9 h10, uI_1, if_neg (by omega)]
  · rw [q 0 8 (by decide) (by decide) (by decide) (by decide) (by decide) (by decide) (by decide) (by decide) (by decide) (by decide), uI_1, if_pos ⟨rfl, rfl⟩]
theorem r_isIn (a lo hi : Int64) (X : Mm) : fX12_isIn 366 a lo hi X = some (if lo ≤ a ∧ a ≤ hi then 1 else 0, X) := by
  unfold fX12_isIn fX12_isIn_L17
  simp only [cv_lt, cv_gt]
  by_cases h1 : lo ≤ a
  · have g1 : ¬ a < lo := by
      rw [Int64.lt_iff_toInt_lt]
      rw [Int64.le_iff_toInt_le] at h1
      omega
    rw [if_neg g1]
    by_cases h2 : a ≤ hi
    · have g2 : ¬ hi < a := by
        rw [Int64.lt_iff_toInt_lt]
        rw [Int64.le_iff_toInt_le] at h2
        omega
      rw [if_neg g2, if_pos ⟨h1, h2⟩]
    · rw [if_pos (i64_nlt h2), if_neg (fun z => h2 z.2)]
  · rw [if_pos (i64_nlt h1), if_neg (fun z => h1 z.1)]
theorem St.now : St 16 := by
  show 16 ∈ st_all
  decide
section
variable {bk dr T G H : Nat} {X : Mm} {f : Nat → Int64} {w : Wt}
theorem m_oneDay (h : Shp bk dr X) (R : Rl T G f w) (hH : mI X 366 6 = nI H) (iv : Iv T G H w) {d n : Nat} (hd : w.1 0 8 = nI d) (hd9 : d < 1000) (hn : 64 ≤ n) : Ex (fX12_oneDay n 366 (wJ X 367 f)) fun _ Y => RX X T G (N_day T G H w) Y ∧ Iv T G H (N_day T G H w) := by
  have hT6 := R.1
  have hG8 := R.2.1
  have R0 : Rl T G (q_u1 f 62 (f 62 + 1)) (uI w 0 8 (w.1 0 8 + 1)) := R.wI Pl.m2 (by decide) (by decide) (by rw [R.m2, hd, nI_1, nI_l1 hd9])
  simp only [fX12_oneDay, h.1, h.2.1, h.2.2, li_T, li_L, li_R, nm, bd, q_b, ne_eq, Nat.reduceEqDiff, reduceCtorEq, and_false, false_and, and_true, true_and, and_self, not_false_eq_true, not_true_eq_false, ↓reduceIte, mT_wJ, mL_wJ, mR_wJ, mI_wJ, mJ_wJ, sJ_wJ, Nat.reduceLT, l60.1, l60.2.1, l60.2.2, l61.1, l61.2.1, l61.2.2, l62.1, l62.2.1, l62.2.2]
  refine loop_ex (F := fun j i Y => fX12_oneDay_L18 n j 366 i Y) (N := N_settle) (I := fun i a Y => RX X T G a Y ∧ Iv T G H a) T
    ?_ T 0 (wJ X 367 (q_u1 f 62 (f 62 + 1))) (uI w 0 8 (w.1 0 8 + 1)) n (by omega) (by omega) ⟨⟨_, rfl, R0⟩, iv.day _⟩ ?_
  · rintro j t Y a ht ⟨⟨g, rfl, Ra⟩, hv⟩ nxt
    have t6 : t < 60 := by omega
    have e3 : ¬ nI T ≤ nI t := nI_ge ht (by omega)
    have stay : N_settle t a = a → Ex (fX12_oneDay_L18 n j 366 (nI (t + 1)) (wJ X 367 g)) _ := fun hs => nxt _ ⟨⟨_, rfl, by rw [hs]; exact Ra⟩, hv.settle⟩
    show Ex (fX12_oneDay_L18 n (j + 1) 366 (nI t) (wJ X 367 g)) _
    rw [fX12_oneDay_L18]
    simp only [h.1, h.2.1, h.2.2, li_T, li_L, li_R, nm, bd, q_b, ne_eq, Nat.reduceEqDiff, reduceCtorEq, and_false, false_and, and_true, true_and, and_self, not_false_eq_true, not_true_eq_false, ↓reduceIte, mT_wJ, mL_wJ, mR_wJ, mI_wJ, mJ_wJ, sJ_wJ, Nat.reduceLT, l60.1, l60.2.1, l60.2.2, l61.1, l61.2.1, l61.2.2, l62.1, l62.2.1, l62.2.2, m_tm h Ra, hv.1.1, e3, r_at7, r_at6, bT1 t6, bT2 t6, bT3 t6, Ra.t7 ht, Ra.t6 ht, Ra.m2, cv_eq, wd_0, cv_gt, wd_lt]
    by_cases g1 : a.1 11 t = 0
    · by_cases g2 : a.1 0 8 < a.1 10 t
      · simp only [g1, g2, ↓reduceIte, fX12_oneDay_L71, nm, nI_1]
        exact stay (by unfold N_settle; rw [if_pos g1, if_pos g2])
      · simp only [g1, g2, ↓reduceIte]
        refine Ex.bd (m_settles h Ra ht (hv.1.2.2.2.2.2.2.1 t ht) g1 g2) ?_
        rintro _ _ ⟨g', rfl, R'⟩
        simp only [fX12_oneDay_L71, nm, nI_1]
        exact nxt _ ⟨⟨_, rfl, R'⟩, hv.settle⟩
    · simp only [g1, ↓reduceIte, fX12_oneDay_L71, nm, nI_1]
      exact stay (by unfold N_settle; rw [if_neg g1])
  · rintro j Y ⟨⟨g, rfl, Ra⟩, hv⟩
    have e3 : nI T ≤ nI T := nI_le (Nat.le_refl _) (by omega)
    show Ex (fX12_oneDay_L18 n (j + 1) 366 (nI T) (wJ X 367 g)) _
    rw [fX12_oneDay_L18]
    simp only [h.1, h.2.1, h.2.2, li_T, li_L, li_R, nm, bd, q_b, ne_eq, Nat.reduceEqDiff, reduceCtorEq, and_false, false_and, and_true, true_and, and_self, not_false_eq_true, not_true_eq_false, ↓reduceIte, mT_wJ, mL_wJ, mR_wJ, mI_wJ, mJ_wJ, sJ_wJ, Nat.reduceLT, l60.1, l60.2.1, l60.2.2, l61.1, l61.2.1, l61.2.2, l62.1, l62.2.1, l62.2.2, m_tm h Ra, hv.1.1, e3]
    unfold N_day
    generalize nf N_settle T 0 (uI w 0 8 (w.1 0 8 + 1)) = u at Ra hv ⊢
    refine loop_ex (F := fun j i Y => fX12_oneDay_L79 n j 366 i Y) (N := N_we T G H) (I := fun i a Y => RX X T G a Y ∧ Iv T G H a) G
      ?_ G 0 (wJ X 367 g) u n (by omega) (by omega) ⟨⟨_, rfl, Ra⟩, hv⟩ ?_
    · rintro j e Y a he ⟨⟨g, rfl, Ra⟩, hv⟩ nxt
      have e8 : e < 8 := by omega
      have e3 : ¬ nI G ≤ nI e := nI_ge he (by omega)
      have iv' : Iv T G H (N_we T G H e a) := hv.we (c_we (X := X) h St.now hv.1 he hn 0).2 he
      have stay : N_we T G H e a = a → Ex (fX12_oneDay_L79 n j 366 (nI (e + 1)) (wJ X 367 g)) _ := fun hs => nxt _ ⟨⟨_, rfl, by rw [hs]; exact Ra⟩, iv'⟩
      show Ex (fX12_oneDay_L79 n (j + 1) 366 (nI e) (wJ X 367 g)) _
      rw [fX12_oneDay_L79]
      simp only [h.1, h.2.1, h.2.2, li_T, li_L, li_R, nm, bd, q_b, ne_eq, Nat.reduceEqDiff, reduceCtorEq, and_false, false_and, and_true, true_and, and_self, not_false_eq_true, not_true_eq_false, ↓reduceIte, mT_wJ, mL_wJ, mR_wJ, mI_wJ, mJ_wJ, sJ_wJ, Nat.reduceLT, l60.1, l60.2.1, l60.2.2, l61.1, l61.2.1, l61.2.2, l62.1, l62.2.1, l62.2.2, m_em h Ra, hv.1.2.2.1, e3, r_of5, r_of3, r_of0, bE1 e8, bE2 e8, bE3 e8, Ra.e5 he, Ra.e3 he, Ra.e0 he, Ra.m2, cv_eq, wd_0, wd_eq, wd_3]
      by_cases g1 : a.1 25 e = 0
      · by_cases g2 : a.1 23 e = a.1 0 8
        · by_cases g3 : a.1 14 e = 3
          · simp only [g1, g2, g3, ↓reduceIte]
            refine Ex.bd (m_turnsAll h Ra hH hv.1 he (hv.2 e he).1 g3 g2 hn) ?_
            rintro _ _ ⟨g', rfl, R'⟩
            simp only [fX12_oneDay_L159, nm, nI_1]
            exact nxt _ ⟨⟨_, rfl, by unfold N_we; rw [if_pos g1, if_pos g2, if_pos g3]; exact R'⟩, iv'⟩
          · simp only [g1, g2, g3, ↓reduceIte]
            refine Ex.bd (m_writes h Ra hH hv.1 he ((hv.2 e he).2.1 g1) hn) ?_
            rintro _ _ ⟨g', rfl, R'⟩
            simp only [fX12_oneDay_L159, nm, nI_1]
            exact nxt _ ⟨⟨_, rfl, by unfold N_we; rw [if_pos g1, if_pos g2, if_neg g3]; exact R'⟩, iv'⟩
        · simp only [g1, g2, ↓reduceIte, fX12_oneDay_L159, nm, nI_1]
          exact stay (by unfold N_we; rw [if_pos g1, if_neg g2])
      · simp only [g1, ↓reduceIte, fX12_oneDay_L159, nm, nI_1]
        exact stay (by unfold N_we; rw [if_neg g1])
    · rintro j Y ⟨⟨g, rfl, Ra⟩, hv⟩
      have e3 : nI G ≤ nI G := nI_le (Nat.le_refl _) (by omega)
      show Ex (fX12_oneDay_L79 n (j + 1) 366 (nI G) (wJ X 367 g)) _
      rw [fX12_oneDay_L79]
      simp only [h.1, h.2.1, h.2.2, li_T, li_L, li_R, nm, bd, q_b, ne_eq, Nat.reduceEqDiff, reduceCtorEq, and_false, false_and, and_true, true_and, and_self, not_false_eq_true, not_true_eq_false, ↓reduceIte, mT_wJ, mL_wJ, mR_wJ, mI_wJ, mJ_wJ, sJ_wJ, Nat.reduceLT, l60.1, l60.2.1, l60.2.2, l61.1, l61.2.1, l61.2.2, l62.1, l62.2.1, l62.2.2, m_em h Ra, hv.1.2.2.1, e3]
      generalize nf (N_we T G H) G 0 u = u at Ra hv ⊢
      refine loop_ex (F := fun j i Y => fX12_oneDay_L167 n j 366 i Y) (N := N_pe H) (I := fun i a Y => RX X T G a Y ∧ Iv T G H a) G
        ?_ G 0 (wJ X 367 g) u n (by omega) (by omega) ⟨⟨_, rfl, Ra⟩, hv⟩ ?_
      · rintro j e Y a he ⟨⟨g, rfl, Ra⟩, hv⟩ nxt
        have e8 : e < 8 := by omega
        have e3 : ¬ nI G ≤ nI e := nI_ge he (by omega)
        have iv' : Iv T G H (N_pe H e a) := hv.pe (c_pe (X := X) h St.now hv.1 he hn 0).2 he
        have hc := hv.cnt he
        have stay : N_pe H e a = a → Ex (fX12_oneDay_L167 n j 366 (nI (e + 1)) (wJ X 367 g)) _ := fun hs => nxt _ ⟨⟨_, rfl, by rw [hs]; exact Ra⟩, iv'⟩
        show Ex (fX12_oneDay_L167 n (j + 1) 366 (nI e) (wJ X 367 g)) _
        rw [fX12_oneDay_L167]
        simp only [h.1, h.2.1, h.2.2, li_T, li_L, li_R, nm, bd, q_b, ne_eq, Nat.reduceEqDiff, reduceCtorEq, and_false, false_and, and_true, true_and, and_self, not_false_eq_true, not_true_eq_false, ↓reduceIte, mT_wJ, mL_wJ, mR_wJ, mI_wJ, mJ_wJ, sJ_wJ, Nat.reduceLT, l60.1, l60.2.1, l60.2.2, l61.1, l61.2.1, l61.2.2, l62.1, l62.2.1, l62.2.2, m_em h Ra, hv.1.2.2.1, e3, r_of5, r_of4, bE1 e8, bE2 e8, bE3 e8, Ra.e5 he, Ra.e4 he, Ra.m2, cv_eq, wd_1, wd_eq]
        by_cases g1 : a.1 25 e = 1
        · by_cases g2 : a.1 24 e = a.1 0 8
          · simp only [g1, g2, ↓reduceIte]
            refine Ex.bd (m_paysAll h Ra hH hv.1 he (hv.2 e he) g1 hc.1 hc.2 hn) ?_
            rintro _ _ ⟨g', rfl, R'⟩
            simp only [fX12_oneDay_L218, nm, nI_1]
            exact nxt _ ⟨⟨_, rfl, by unfold N_pe; rw [if_pos g1, if_pos g2]; exact R'⟩, iv'⟩
          · simp only [g1, g2, ↓reduceIte, fX12_oneDay_L218, nm, nI_1]
            exact stay (by unfold N_pe; rw [if_pos g1, if_neg g2])
        · simp only [g1, ↓reduceIte, fX12_oneDay_L218, nm, nI_1]
          exact stay (by unfold N_pe; rw [if_neg g1])
      · rintro j Y ⟨⟨g, rfl, Ra⟩, hv⟩
        have e3 : nI G ≤ nI G := nI_le (Nat.le_refl _) (by omega)
        show Ex (fX12_oneDay_L167 n (j + 1) 366 (nI G) (wJ X 367 g)) _
        rw [fX12_oneDay_L167]
        simp only [h.1, h.2.1, h.2.2, li_T, li_L, li_R, nm, bd, q_b, ne_eq, Nat.reduceEqDiff, reduceCtorEq, and_false, false_and, and_true, true_and, and_self, not_false_eq_true, not_true_eq_false, ↓reduceIte, mT_wJ, mL_wJ, mR_wJ, mI_wJ, mJ_wJ, sJ_wJ, Nat.reduceLT, l60.1, l60.2.1, l60.2.2, l61.1, l61.2.1, l61.2.2, l62.1, l62.2.1, l62.2.2, m_em h Ra, hv.1.2.2.1, e3]
        generalize nf (N_pe H) G 0 u = u at Ra hv ⊢
        refine loop_ex (F := fun j i Y => fX12_oneDay_L226 n j 366 i Y) (N := N_pw) (I := fun i a Y => RX X T G a Y ∧ Iv T G H a) G
          ?_ G 0 (wJ X 367 g) u n (by omega) (by omega) ⟨⟨_, rfl, Ra⟩, hv⟩ ?_
        · rintro j e Y a he ⟨⟨g, rfl, Ra⟩, hv⟩ nxt
          have e8 : e < 8 := by omega
          have e3 : ¬ nI G ≤ nI e := nI_ge he (by omega)
          have hc := hv.cnt he
          show Ex (fX12_oneDay_L226 n (j + 1) 366 (nI e) (wJ X 367 g)) _
          rw [fX12_oneDay_L226]
          simp only [h.1, h.2.1, h.2.2, li_T, li_L, li_R, nm, bd, q_b, ne_eq, Nat.reduceEqDiff, reduceCtorEq, and_false, false_and, and_true, true_and, and_self, not_false_eq_true, not_true_eq_false, ↓reduceIte, mT_wJ, mL_wJ, mR_wJ, mI_wJ, mJ_wJ, sJ_wJ, Nat.reduceLT, l60.1, l60.2.1, l60.2.2, l61.1, l61.2.1, l61.2.2, l62.1, l62.2.1, l62.2.2, m_em h Ra, hv.1.2.2.1, e3]
          refine loop_ex (F := fun k i Y => fX12_oneDay_L236 n (fX12_oneDay_L226 n j) k 366 (nI e) i Y) (N := N_pwi e) (I := fun i b Y => RX X T G b Y ∧ Iv T G H b ∧ Cn b e = Cn a e) (Cn a e)
            ?_ (Cn a e) 0 (wJ X 367 g) a n (by omega) (by omega) ⟨⟨_, rfl, Ra⟩, hv, rfl⟩ ?_
          · rintro k i Y b hi ⟨⟨g, rfl, Rb⟩, hb, hcb⟩ nxt'
            have i6 : i < 60 := by omega
            have cb := hb.cnt he
            have e3 : ¬ nI (Cn a e) ≤ nI i := nI_ge hi (by omega)
            have hi2 : i < Cn b e := by omega
            have eb := hb.2 e he
            have hw := hb.pwi he hi2
            have hc2 : Cn (N_pwi e i b) e = Cn a e := by
              unfold Cn
              rw [N_pwi_1 e i b (by decide) (by decide)]
              exact hcb
            have stay : Rl T G g (N_pwi e i b) → Ex (fX12_oneDay_L236 n (fX12_oneDay_L226 n j) k 366 (nI e) (nI (i + 1)) (wJ X 367 g)) _ := fun hs => nxt' _ ⟨⟨_, rfl, hs⟩, hw, hc2⟩
            show Ex (fX12_oneDay_L236 n (fX12_oneDay_L226 n j) (k + 1) 366 (nI e) (nI i) (wJ X 367 g)) _
            rw [fX12_oneDay_L236]
            simp only [h.1, h.2.1, h.2.2, li_T, li_L, li_R, nm, bd, q_b, ne_eq, Nat.reduceEqDiff, reduceCtorEq, and_false, false_and, and_true, true_and, and_self, not_false_eq_true, not_true_eq_false, ↓reduceIte, mT_wJ, mL_wJ, mR_wJ, mI_wJ, mJ_wJ, sJ_wJ, Nat.reduceLT, l60.1, l60.2.1, l60.2.2, l61.1, l61.2.1, l61.2.2, l62.1, l62.2.1, l62.2.2, r_of6, r_oC0, r_oC1, r_oC2, r_oC3, r_oC4, bE1 e8, bE2 e8, bE3 e8, bC1 e8 i6, bC2 e8 i6, bC3 e8 i6, Rb.e6 he, cb.1, hcb, cv_ge, wd_le, e3, Rb.c4 he hi2 i6, cv_eq, wd_2]
            by_cases g2 : b.1 42 (60 * e + i) = 2
            · have n27 : ¬ b.1 27 e ≤ 0 := by
                intro z
                rw [eb.2.2.2.2.1] at z
                have l := cn_le (fun i => b.1 42 (60 * e + i)) (Cn b e)
                have : cn (fun i => b.1 42 (60 * e + i)) (Cn b e) = 0 := by
                  rw [show (0 : Int32) = nI 0 from rfl, nI_leI (by omega) (by omega)] at z
                  omega
                exact cn_zero _ this i hi2 g2
              have k2 : ¬ b.1 14 e = 2 := fun z => n27 (by rw [eb.2.2.1 z]; decide)
              have o := hb.1.at he cb.1 cb.2 hi2
              simp only [g2, ↓reduceIte]
              refine Ex.bd (m_goesOver h Rb he hi2 i6 o.1 o.2 (hb.1.2.2.2.2.2.2.2 e he).1 eb.1 k2) ?_
              rintro _ _ ⟨g', rfl, R'⟩
              simp only [fX12_oneDay_L279, nm, nI_1]
              refine nxt' _ ⟨⟨_, rfl, ?_⟩, hw, hc2⟩
              unfold N_go at R'
              unfold N_pwi
              rw [if_neg n27, if_pos g2]
              by_cases hB : N_pcB e i b
              · rw [if_pos hB] at R' ⊢
                exact R'.o27 _ _
              · rw [if_neg hB] at R' ⊢
                have sm : uI b 42 (60 * e + i) 2 = b := by
                  obtain ⟨x, y⟩ := b
                  unfold uI
                  congr 1
                  funext c l
                  rw [q_u2_at]
                  by_cases z : c = 42 ∧ l = 60 * e + i
                  · rw [if_pos z, z.1, z.2]; exact g2.symm
                  · rw [if_neg z]
                rw [sm] at R'
                exact R'
            · simp only [g2, ↓reduceIte, fX12_oneDay_L279, nm, nI_1]
              refine stay ?_
              have : N_pwi e i b = b := by
                unfold N_pwi
                rw [if_neg g2]
                split <;> rfl
              rw [this]
              exact Rb
          · rintro k Y ⟨⟨g, rfl, Rb⟩, hb, hcb⟩
            have cb := hb.cnt he
            have e3 : nI (Cn a e) ≤ nI (Cn a e) := nI_le (Nat.le_refl _) (by omega)
            show Ex (fX12_oneDay_L236 n (fX12_oneDay_L226 n j) (k + 1) 366 (nI e) (nI (Cn a e)) (wJ X 367 g)) _
            rw [fX12_oneDay_L236]
            simp only [h.1, h.2.1, h.2.2, li_T, li_L, li_R, nm, bd, q_b, ne_eq, Nat.reduceEqDiff, reduceCtorEq, and_false, false_and, and_true, true_and, and_self, not_false_eq_true, not_true_eq_false, ↓reduceIte, mT_wJ, mL_wJ, mR_wJ, mI_wJ, mJ_wJ, sJ_wJ, Nat.reduceLT, l60.1, l60.2.1, l60.2.2, l61.1, l61.2.1, l61.2.2, l62.1, l62.2.1, l62.2.2, r_of6, bE1 e8, bE2 e8, bE3 e8, Rb.e6 he, cb.1, hcb, cv_ge, wd_le, e3, nI_1]
            exact nxt _ ⟨⟨_, rfl, Rb⟩, hb⟩
        · rintro j Y ⟨⟨g, rfl, Ra⟩, hv⟩
          have e3 : nI G ≤ nI G := nI_le (Nat.le_refl _) (by omega)
          show Ex (fX12_oneDay_L226 n (j + 1) 366 (nI G) (wJ X 367 g)) _
          rw [fX12_oneDay_L226]
          simp only [h.1, h.2.1, h.2.2, li_T, li_L, li_R, nm, bd, q_b, ne_eq, Nat.reduceEqDiff, reduceCtorEq, and_false, false_and, and_true, true_and, and_self, not_false_eq_true, not_true_eq_false, ↓reduceIte, mT_wJ, mL_wJ, mR_wJ, mI_wJ, mJ_wJ, sJ_wJ, Nat.reduceLT, l60.1, l60.2.1, l60.2.2, l61.1, l61.2.1, l61.2.2, l62.1, l62.2.1, l62.2.2, m_em h Ra, hv.1.2.2.1, e3]
          exact .ret ⟨⟨_, rfl, Ra⟩, hv⟩
theorem r_in (v l u : Int32) {lo hi : Int64} (h1 : l.toInt64 = lo) (h2 : u.toInt64 = hi) (X : Mm) : fX12_isIn 366 v.toInt64 lo hi X = some (if l ≤ v ∧ v ≤ u then 1 else 0, X) := by
  subst h1 h2
  rw [r_isIn]
  simp only [wd_le]
/-- so many DAYS go by -/
theorem m_pass_yes (h : Shp bk dr X) (R : Rl T G f w) (hH : mI X 366 6 = nI H) (iv : Iv T G H w) {d m n : Nat} (hd : w.1 0 8 = nI d) (h1 : 1 ≤ m) (h99 : m ≤ 99) (hdm : d + m ≤ 999) (hn : 128 ≤ n) : Ex (fX12_pass n 366 (nI m) (wJ X 367 f)) fun b Y => b = 1 ∧ RX X T G (nf (fun _ => N_day T G H) m 0 w) Y ∧ Iv T G H (nf (fun _ => N_day T G H) m 0 w) ∧ (nf (fun _ => N_day T G H) m 0 w).1 0 8 = nI (d + m) := by
  have c1 : (1 : Int32) ≤ nI m := by rw [show (1 : Int32) = nI 1 from rfl, nI_leI (by omega) (by omega)]; exact h1
  have c2 : nI m ≤ (99 : Int32) := by rw [show (99 : Int32) = nI 99 from rfl, nI_leI (by omega) (by omega)]; exact h99
  have c3 : nI d + nI m ≤ (999 : Int32) := by rw [nI_add, show (999 : Int32) = nI 999 from rfl, nI_leI (by omega) (by omega)]; exact hdm
  have z1 : ¬ (1 : Int32) = 0 := by decide
  simp only [fX12_pass, h.1, h.2.1, h.2.2, li_T, li_L, li_R, nm, bd, q_b, ne_eq, Nat.reduceEqDiff, reduceCtorEq, and_false, false_and, and_true, true_and, and_self, not_false_eq_true, not_true_eq_false, ↓reduceIte, mT_wJ, mL_wJ, mR_wJ, mI_wJ, mJ_wJ, sJ_wJ, Nat.reduceLT, l60.1, l60.2.1, l60.2.2, l61.1, l61.2.1, l61.2.2, l62.1, l62.2.1, l62.2.2, r_in (nI m) 1 99 (lo := 1) (hi := 99) (by decide) (by decide), c1, c2, z1, m_today h R, hd, c3]
  refine loop_ex (F := fun j i Y => fX12_pass_L29 n j 366 (nI m) i Y) (N := fun _ => N_day T G H) (I := fun i a Y => RX X T G a Y ∧ Iv T G H a ∧ a.1 0 8 = nI (d + i)) m ?_ m 0 (wJ X 367 f) w n (by omega) (by omega) ⟨⟨_, rfl, R⟩, iv, hd⟩ ?_
  · rintro j i Y a hi ⟨⟨g, rfl, Ra⟩, hv, hda⟩ nxt
    have e3 : ¬ nI m ≤ nI i := nI_ge hi (by omega)
    show Ex (fX12_pass_L29 n (j + 1) 366 (nI m) (nI i) (wJ X 367 g)) _
    rw [fX12_pass_L29]
    simp only [h.1, h.2.1, h.2.2, li_T, li_L, li_R, nm, bd, q_b, ne_eq, Nat.reduceEqDiff, reduceCtorEq, and_false, false_and, and_true, true_and, and_self, not_false_eq_true, not_true_eq_false, ↓reduceIte, mT_wJ, mL_wJ, mR_wJ, mI_wJ, mJ_wJ, sJ_wJ, Nat.reduceLT, l60.1, l60.2.1, l60.2.2, l61.1, l61.2.1, l61.2.2, l62.1, l62.2.1, l62.2.2, e3]
    refine Ex.bd (m_oneDay h Ra hH hv hda (by omega) (by omega)) ?_
    rintro _ Y' ⟨hR, hv'⟩
    simp only [nI_1]
    refine nxt Y' ⟨hR, hv', ?_⟩
    rw [N_day_fr.2, hda, nI_1]
    rfl
  · rintro j Y ⟨hR, hv, hda⟩
    have e3 : nI m ≤ nI m := nI_le (Nat.le_refl _) (by omega)
    show Ex (fX12_pass_L29 n (j + 1) 366 (nI m) (nI m) Y) _
    rw [fX12_pass_L29, if_pos e3]
    exact .ret ⟨rfl, hR, hv, hda⟩
theorem m_pass_no (h : Shp bk dr X) (R : Rl T G f w) (n : Nat) (v : Int32) (hv : ¬ (1 ≤ v ∧ v ≤ 99 ∧ w.1 0 8 + v ≤ 999)) : fX12_pass n 366 v (wJ X 367 f) = some (0, wJ X 367 f) := by
  have z1 : ¬ (1 : Int32) = 0 := by decide
  simp only [fX12_pass, h.1, h.2.1, h.2.2, li_T, li_L, li_R, nm, bd, q_b, ne_eq, Nat.reduceEqDiff, reduceCtorEq, and_false, false_and, and_true, true_and, and_self, not_false_eq_true, not_true_eq_false, ↓reduceIte, mT_wJ, mL_wJ, mR_wJ, mI_wJ, mJ_wJ, sJ_wJ, Nat.reduceLT, l60.1, l60.2.1, l60.2.2, l61.1, l61.2.1, l61.2.2, l62.1, l62.2.1, l62.2.2, r_in v 1 99 (lo := 1) (hi := 99) (by decide) (by decide), m_today h R, fX12_pass_L25]
  by_cases c : 1 ≤ v ∧ v ≤ 99
  · have c3 : ¬ w.1 0 8 + v ≤ 999 := fun z => hv ⟨c.1, c.2, z⟩
    simp only [c, and_self, z1, ↓reduceIte, c3]
  · rw [if_neg c, if_pos rfl]
end
