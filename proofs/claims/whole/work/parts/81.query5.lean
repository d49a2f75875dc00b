/-! QUERIES: look -/
noncomputable def oQ (Q : Nat → Prop) (w : Wt) (i : Nat) (v : Int32) : Int32 := by
  classical
  exact if w.1 11 i = 0 then if Q i then v else v + 1 else v
section
variable {bk dr s H P n T G : Nat} {X : Mm} {f : Nat → Int64} {w : Wt}
theorem c_openBy (h : Shp bk dr X) (hs : St s) (hT : w.1 3 9 = nI T) (hT6 : T ≤ 60) (hn : 64 ≤ n) (y : Int32) {Q : Nat → Prop} (hy : ∀ i, i < T → (y < w.1 10 i ↔ Q i)) : fX10_openDueBy n (s + 3) y (pW s w X) = some (nf (oQ Q w) T 0 0, pW s w X) := by
  have g := loop_ga (F := fun j i v => fX10_openDueBy_L4 n j (s + 3) y v i (pW s w X)) (N := oQ Q w) (I := fun _ _ => True) (out := fun v => some (v, pW s w X)) T
    (fun j i v hi _ => by
      have e3 : ¬ nI T ≤ nI i := nI_ge hi (by omega)
      have q1 : (nI i).toNatClampNeg = i := nI_clamp (by omega)
      have q2 := inL_nI (j := i) (n := 60) (by omega) (by decide)
      have hq := hy i hi
      rw [fX10_openDueBy_L4]
      simp only [h.1, h.2.1, h.2.2, st_T s hs, st_L s hs, st_R hs, mT_pW, mL_pW, mR_pW, mI_pW, mJ_pW, mI_pW0, mJ_pW0, sI_pW, sJ_pW, sI_pW0, nm, bd, q_b, ne_eq, Nat.add_eq_zero_iff, Nat.reduceEqDiff, Nat.reduceLeDiff, Nat.reduceAdd, and_false, false_and, and_true, true_and, and_self, not_false_eq_true, not_true_eq_false, reduceCtorEq, ↓reduceIte, hT, e3, q1, q2.1, q2.2]
      unfold oQ
      by_cases g1 : w.1 11 i = 0
      · rw [if_pos g1, if_pos g1]
        by_cases g2 : y < w.1 10 i
        · rw [if_pos g2, if_pos (hq.mp g2)]
          simp only [fX10_openDueBy_L34, nm, nI_1]
        · rw [if_neg g2, if_neg (fun z => g2 (hq.mpr z))]
          simp only [fX10_openDueBy_L34, nm, nI_1]
      · rw [if_neg g1, if_neg g1]
        simp only [fX10_openDueBy_L34, nm, nI_1])
    (fun _ _ _ _ => trivial)
    (fun j v _ => by
      have e3 : nI T ≤ nI T := nI_le (Nat.le_refl _) (by omega)
      rw [fX10_openDueBy_L4]
      simp only [h.1, h.2.1, h.2.2, st_T s hs, st_L s hs, st_R hs, mT_pW, mL_pW, mR_pW, mI_pW, mJ_pW, mI_pW0, mJ_pW0, sI_pW, sJ_pW, sI_pW0, nm, bd, q_b, ne_eq, Nat.add_eq_zero_iff, Nat.reduceEqDiff, Nat.reduceLeDiff, Nat.reduceAdd, and_false, false_and, and_true, true_and, and_self, not_false_eq_true, not_true_eq_false, reduceCtorEq, ↓reduceIte, hT, e3]) T 0 0 n (by omega) (by omega) trivial
  exact g.1
theorem m_openBy (h : Shp bk dr X) (R : Rl T G f w) (hT : w.1 3 9 = nI T) (hn : 64 ≤ n) (l : Int32) {Q : Nat → Prop} (hy : ∀ i, i < T → ((¬ l = 0 ∧ w.1 0 8 ≤ w.1 10 i) ↔ Q i)) : fX12_openTrades n 366 l (wJ X 367 f) = some (nf (oQ Q w) T 0 0, wJ X 367 f) := by
  have hT6 := R.1
  have g := loop_ga (F := fun j i v => fX12_openTrades_L4 n j 366 l v i (wJ X 367 f)) (N := oQ Q w) (I := fun _ _ => True) (out := fun v => some (v, wJ X 367 f)) T
    (fun j t v ht _ => by
      have t6 : t < 60 := by omega
      have e3 : ¬ nI T ≤ nI t := nI_ge ht (by omega)
      have hq := hy t ht
      rw [fX12_openTrades_L4]
      simp only [h.1, h.2.1, h.2.2, li_T, li_L, li_R, nm, bd, q_b, ne_eq, Nat.reduceEqDiff, reduceCtorEq, and_false, false_and, and_true, true_and, and_self, not_false_eq_true, not_true_eq_false, ↓reduceIte, mT_wJ, mL_wJ, mR_wJ, mI_wJ, mJ_wJ, sJ_wJ, Nat.reduceLT, l60.1, l60.2.1, l60.2.2, l61.1, l61.2.1, l61.2.2, l62.1, l62.2.1, l62.2.2, m_tm h R, hT, e3, r_at7, bT1 t6, bT2 t6, bT3 t6, R.t7 ht, cv_eq, wd_0]
      unfold oQ
      by_cases g1 : w.1 11 t = 0
      · rw [if_pos g1, if_pos g1]
        by_cases g2 : l = 0
        · rw [if_pos g2, if_neg (fun z => (hq.mpr z).1 g2)]
          simp only [fX12_openTrades_L56, fX12_openTrades_L60, nm, nI_1]
        · rw [if_neg g2]
          simp only [h.1, h.2.1, h.2.2, li_T, li_L, li_R, nm, bd, q_b, ne_eq, Nat.reduceEqDiff, reduceCtorEq, and_false, false_and, and_true, true_and, and_self, not_false_eq_true, not_true_eq_false, ↓reduceIte, mT_wJ, mL_wJ, mR_wJ, mI_wJ, mJ_wJ, sJ_wJ, Nat.reduceLT, l60.1, l60.2.1, l60.2.2, l61.1, l61.2.1, l61.2.2, l62.1, l62.2.1, l62.2.2, r_at6, bT1 t6, bT2 t6, bT3 t6, R.t6 ht, R.m2, cv_ge, wd_le]
          by_cases g3 : w.1 0 8 ≤ w.1 10 t
          · rw [if_pos g3, if_pos (hq.mp ⟨g2, g3⟩)]
            simp only [fX12_openTrades_L60, nm, nI_1]
          · rw [if_neg g3, if_neg (fun z => g3 (hq.mpr z).2)]
            simp only [fX12_openTrades_L56, fX12_openTrades_L60, nm, nI_1]
      · rw [if_neg g1, if_neg g1]
        simp only [fX12_openTrades_L60, nm, nI_1])
    (fun _ _ _ _ => trivial)
    (fun j v _ => by
      have e3 : nI T ≤ nI T := nI_le (Nat.le_refl _) (by omega)
      rw [fX12_openTrades_L4]
      simp only [h.1, h.2.1, h.2.2, li_T, li_L, li_R, nm, bd, q_b, ne_eq, Nat.reduceEqDiff, reduceCtorEq, and_false, false_and, and_true, true_and, and_self, not_false_eq_true, not_true_eq_false, ↓reduceIte, mT_wJ, mL_wJ, mR_wJ, mI_wJ, mJ_wJ, sJ_wJ, Nat.reduceLT, l60.1, l60.2.1, l60.2.2, l61.1, l61.2.1, l61.2.2, l62.1, l62.2.1, l62.2.2, m_tm h R, hT, e3]) T 0 0 n (by omega) (by omega) trivial
  exact g.1
theorem c_wAll (h : Shp bk dr X) (hs : St s) (hG : w.1 13 16 = nI G) (hG8 : G ≤ 8) (hn : 64 ≤ n) : fX3_waitingInAll n (s + 13) (pW s w X) = some (nf (fun i v => v + w.1 27 i) G 0 0, pW s w X) := by
  have g := loop_ga (F := fun j i v => fX3_waitingInAll_L4 n j (s + 13) v i (pW s w X)) (N := fun i v => v + w.1 27 i) (I := fun _ _ => True) (out := fun v => some (v, pW s w X)) G
    (fun j i v hi _ => by
      have e3 : ¬ nI G ≤ nI i := nI_ge hi (by omega)
      have q1 : (nI i).toNatClampNeg = i := nI_clamp (by omega)
      have q2 := inL_nI (j := i) (n := 8) (by omega) (by decide)
      rw [fX3_waitingInAll_L4]
      simp only [h.1, h.2.1, h.2.2, st_T s hs, st_L s hs, st_R hs, mT_pW, mL_pW, mR_pW, mI_pW, mJ_pW, mI_pW0, mJ_pW0, sI_pW, sJ_pW, sI_pW0, nm, bd, q_b, ne_eq, Nat.add_eq_zero_iff, Nat.reduceEqDiff, Nat.reduceLeDiff, Nat.reduceAdd, and_false, false_and, and_true, true_and, and_self, not_false_eq_true, not_true_eq_false, reduceCtorEq, ↓reduceIte, hG, e3, q1, q2.1, q2.2, nI_1])
    (fun _ _ _ _ => trivial)
    (fun j v _ => by
      have e3 : nI G ≤ nI G := nI_le (Nat.le_refl _) (by omega)
      rw [fX3_waitingInAll_L4]
      simp only [h.1, h.2.1, h.2.2, st_T s hs, st_L s hs, st_R hs, mT_pW, mL_pW, mR_pW, mI_pW, mJ_pW, mI_pW0, mJ_pW0, sI_pW, sJ_pW, sI_pW0, nm, bd, q_b, ne_eq, Nat.add_eq_zero_iff, Nat.reduceEqDiff, Nat.reduceLeDiff, Nat.reduceAdd, and_false, false_and, and_true, true_and, and_self, not_false_eq_true, not_true_eq_false, reduceCtorEq, ↓reduceIte, hG, e3]) G 0 0 n (by omega) (by omega) trivial
  exact g.1
theorem m_wAll (h : Shp bk dr X) (R : Rl T G f w) (iv : Iv T G H w) (hn : 64 ≤ n) : fX12_allWaiting n 366 (wJ X 367 f) = some (nf (fun i v => v + w.1 27 i) G 0 0, wJ X 367 f) := by
  have hG8 := R.2.1
  have g := loop_ga (F := fun j i v => fX12_allWaiting_L4 n j 366 v i (wJ X 367 f)) (N := fun i v => v + w.1 27 i) (I := fun _ _ => True) (out := fun v => some (v, wJ X 367 f)) G
    (fun j e v he _ => by
      have e3 : ¬ nI G ≤ nI e := nI_ge he (by omega)
      have hc := iv.cnt he
      have wt : nI (cn (fun i => w.1 42 (60 * e + i)) (Cn w e)) = w.1 27 e := (iv.2 e he).2.2.2.2.1.symm
      rw [fX12_allWaiting_L4]
      simp only [h.1, h.2.1, h.2.2, li_T, li_L, li_R, nm, bd, q_b, ne_eq, Nat.reduceEqDiff, reduceCtorEq, and_false, false_and, and_true, true_and, and_self, not_false_eq_true, not_true_eq_false, ↓reduceIte, mT_wJ, mL_wJ, mR_wJ, mI_wJ, mJ_wJ, sJ_wJ, Nat.reduceLT, l60.1, l60.2.1, l60.2.2, l61.1, l61.2.1, l61.2.2, l62.1, l62.2.1, l62.2.2, m_em h R, iv.1.2.2.1, e3, m_waiting h R he hc.1 hc.2 hn, wt, nI_1])
    (fun _ _ _ _ => trivial)
    (fun j v _ => by
      have e3 : nI G ≤ nI G := nI_le (Nat.le_refl _) (by omega)
      rw [fX12_allWaiting_L4]
      simp only [h.1, h.2.1, h.2.2, li_T, li_L, li_R, nm, bd, q_b, ne_eq, Nat.reduceEqDiff, reduceCtorEq, and_false, false_and, and_true, true_and, and_self, not_false_eq_true, not_true_eq_false, ↓reduceIte, mT_wJ, mL_wJ, mR_wJ, mI_wJ, mJ_wJ, sJ_wJ, Nat.reduceLT, l60.1, l60.2.1, l60.2.2, l61.1, l61.2.1, l61.2.2, l62.1, l62.2.1, l62.2.2, m_em h R, iv.1.2.2.1, e3]) G 0 0 n (by omega) (by omega) trivial
  exact g.1
theorem s_look (h : Tp bk dr H P X) (hn : 24000 ≤ n) (v1 : Int32) : ∃ r X1 X2, fX11_look n 1 v1 X = some (r, X1) ∧ fX12_look n 366 v1 X1 = some (r, X2) ∧ Tp bk dr H P X2 := by
  have hT := h
  obtain ⟨h1, h2, h3, h4, h5, h6, ⟨T, G, R, iv, iw⟩, ⟨nx, c, g1, g2, g3, g4, g5, -⟩, -, ⟨L, t1, t2, t3, -⟩, -, -, -⟩ := h
  have h := h1
  have hs := h1.sI 366 0 0
  have R' : Rl T G (mJ (sI X 366 0 0) 367) (gW 16 X) := R
  have rd : ∀ k, k ≠ 0 → mI (sI X 366 0 0) 366 k = mI X 366 k := fun k hk => by rw [mI_sI, if_neg (by omega)]
  have w6 : mI X 16 6 = nI H := iv.1.2.2.2.2.1
  have w7 : mI X 16 7 = nI P := iw.1
  have tm : fX12_tradeMany 366 (sI X 366 0 0) = some (mI X 19 9, sI X 366 0 0) := p_tm hs R'
  have em : fX12_eventMany 366 (sI X 366 0 0) = some (mI X 29 16, sI X 366 0 0) := p_em hs R'
  have td : fX12_today 366 (sI X 366 0 0) = some (mI X 16 8, sI X 366 0 0) := p_today hs R'
  obtain ⟨d, d9, hd⟩ := iw.2.2.1
  have hd' : mI X 16 8 = nI d := hd
  have dm : ∀ i, i < T → (nI d - 1 < (gW 16 X).1 10 i ↔ (nI d ≤ (gW 16 X).1 10 i)) := fun i hi => by
    obtain ⟨j, hj, ej⟩ := inL_of (iw.2.2.2.1 i hi).2.2.2 (by decide)
    have z := pk_sub_toInt (a := d) (b := 1) (by omega) (by omega)
    rw [ej, nI_leI (by omega) (by omega), show (1 : Int32) = nI 1 from rfl, Int32.lt_iff_toInt_lt, z, nI_toInt (by omega)]
    omega
  have o5 := c_openBy (w := gW 16 X) (n := n) h St.now iv.1.1 R.1 (by omega) 1008 (Q := fun _ => False) (fun i hi => by
    obtain ⟨j, hj, ej⟩ := inL_of (iw.2.2.2.1 i hi).2.2.2 (by decide)
    rw [ej, show (1008 : Int32) = nI 1008 from rfl, nI_ltI (by omega) (by omega)]
    exact ⟨fun z => by omega, fun z => z.elim⟩)
  have m5 := m_openBy (n := n) hs R' iv.1.1 (by omega) 0 (Q := fun _ => False) (fun i hi => ⟨fun z => z.1 rfl, fun z => z.elim⟩)
  have o6 := c_openBy (w := gW 16 X) (n := n) h St.now iv.1.1 R.1 (by omega) (nI d - 1) (Q := fun i => nI d ≤ (gW 16 X).1 10 i) dm
  have m6 := m_openBy (n := n) hs R' iv.1.1 (by omega) 1 (Q := fun i => nI d ≤ (gW 16 X).1 10 i) (fun i hi => by rw [hd]; exact ⟨fun z => z.2, fun z => ⟨b1, z⟩⟩)
  have o7 := c_wAll (w := gW 16 X) (n := n) h St.now iv.1.2.2.1 R.2.1 (by omega)
  have m7 := m_wAll (n := n) hs R' iv (by omega)
  rw [pW_gW] at o5 o6 o7
  rw [wJ_self] at m5 m6 m7
  have o5' : fX10_openDueBy n 19 1008 X = some (nf (oQ (fun _ => False) (gW 16 X)) T 0 0, X) := o5
  have o6' : fX10_openDueBy n 19 (nI d - 1) X = some (nf (oQ (fun i => nI d ≤ (gW 16 X).1 10 i) (gW 16 X)) T 0 0, X) := o6
  have o7' : fX3_waitingInAll n 29 X = some (nf (fun i v => v + (gW 16 X).1 27 i) G 0 0, X) := o7
  by_cases q0 : v1 = 0
  · subst q0
    refine ⟨nI H, X, sI X 366 0 0, ?_, ?_, hT.told 0⟩
    · simp only [fX11_look, h.1, h.2.1, h.2.2, li_T, li_L, li_R, nm, bd, q_b, ne_eq, Nat.reduceEqDiff, reduceCtorEq, and_false, false_and, and_true, true_and, and_self, not_false_eq_true, not_true_eq_false, ↓reduceIte, n16_T, n16_L, n16_R, w6]
    · simp only [fX12_look, h.1, h.2.1, h.2.2, li_T, li_L, li_R, nm, bd, q_b, ne_eq, Nat.reduceEqDiff, reduceCtorEq, and_false, false_and, and_true, true_and, and_self, not_false_eq_true, not_true_eq_false, ↓reduceIte, n16_T, n16_L, n16_R, mT_sI, rd 6 (by decide), h5]
  by_cases q1 : v1 = 1
  · subst q1
    have z0 : ¬ (1 : Int32) = 0 := by decide
    refine ⟨nI P, X, sI X 366 0 0, ?_, ?_, hT.told 0⟩
    · simp only [fX11_look, h.1, h.2.1, h.2.2, li_T, li_L, li_R, nm, bd, q_b, ne_eq, Nat.reduceEqDiff, reduceCtorEq, and_false, false_and, and_true, true_and, and_self, not_false_eq_true, not_true_eq_false, ↓reduceIte, n16_T, n16_L, n16_R, w7, z0]
    · simp only [fX12_look, h.1, h.2.1, h.2.2, li_T, li_L, li_R, nm, bd, q_b, ne_eq, Nat.reduceEqDiff, reduceCtorEq, and_false, false_and, and_true, true_and, and_self, not_false_eq_true, not_true_eq_false, ↓reduceIte, n16_T, n16_L, n16_R, mT_sI, rd 7 (by decide), h6, z0]
  by_cases q2 : v1 = 2
  · subst q2
    have z0 : ¬ (2 : Int32) = 0 := by decide
    have z1 : ¬ (2 : Int32) = 1 := by decide
    refine ⟨mI X 19 9, X, sI X 366 0 0, ?_, ?_, hT.told 0⟩
    · simp only [fX11_look, h.1, h.2.1, h.2.2, li_T, li_L, li_R, nm, bd, q_b, ne_eq, Nat.reduceEqDiff, reduceCtorEq, and_false, false_and, and_true, true_and, and_self, not_false_eq_true, not_true_eq_false, ↓reduceIte, n16_T, n16_L, n16_R, z0, z1]
    · simp only [fX12_look, h.1, h.2.1, h.2.2, li_T, li_L, li_R, nm, bd, q_b, ne_eq, Nat.reduceEqDiff, reduceCtorEq, and_false, false_and, and_true, true_and, and_self, not_false_eq_true, not_true_eq_false, ↓reduceIte, n16_T, n16_L, n16_R, mT_sI, tm, z0, z1]
  by_cases q3 : v1 = 3
  · subst q3
    have z0 : ¬ (3 : Int32) = 0 := by decide
    have z1 : ¬ (3 : Int32) = 1 := by decide
    have z2 : ¬ (3 : Int32) = 2 := by decide
    refine ⟨mI X 29 16, X, sI X 366 0 0, ?_, ?_, hT.told 0⟩
    · simp only [fX11_look, h.1, h.2.1, h.2.2, li_T, li_L, li_R, nm, bd, q_b, ne_eq, Nat.reduceEqDiff, reduceCtorEq, and_false, false_and, and_true, true_and, and_self, not_false_eq_true, not_true_eq_false, ↓reduceIte, n16_T, n16_L, n16_R, z0, z1, z2]
    · simp only [fX12_look, h.1, h.2.1, h.2.2, li_T, li_L, li_R, nm, bd, q_b, ne_eq, Nat.reduceEqDiff, reduceCtorEq, and_false, false_and, and_true, true_and, and_self, not_false_eq_true, not_true_eq_false, ↓reduceIte, n16_T, n16_L, n16_R, mT_sI, em, z0, z1, z2]
  by_cases q4 : v1 = 4
  · subst q4
    have z0 : ¬ (4 : Int32) = 0 := by decide
    have z1 : ¬ (4 : Int32) = 1 := by decide
    have z2 : ¬ (4 : Int32) = 2 := by decide
    have z3 : ¬ (4 : Int32) = 3 := by decide
    refine ⟨mI X 16 8, X, sI X 366 0 0, ?_, ?_, hT.told 0⟩
    · simp only [fX11_look, h.1, h.2.1, h.2.2, li_T, li_L, li_R, nm, bd, q_b, ne_eq, Nat.reduceEqDiff, reduceCtorEq, and_false, false_and, and_true, true_and, and_self, not_false_eq_true, not_true_eq_false, ↓reduceIte, n16_T, n16_L, n16_R, z0, z1, z2, z3]
    · simp only [fX12_look, h.1, h.2.1, h.2.2, li_T, li_L, li_R, nm, bd, q_b, ne_eq, Nat.reduceEqDiff, reduceCtorEq, and_false, false_and, and_true, true_and, and_self, not_false_eq_true, not_true_eq_false, ↓reduceIte, n16_T, n16_L, n16_R, mT_sI, td, z0, z1, z2, z3]
  by_cases q5 : v1 = 5
  · subst q5
    have z0 : ¬ (5 : Int32) = 0 := by decide
    have z1 : ¬ (5 : Int32) = 1 := by decide
    have z2 : ¬ (5 : Int32) = 2 := by decide
    have z3 : ¬ (5 : Int32) = 3 := by decide
    have z4 : ¬ (5 : Int32) = 4 := by decide
    refine ⟨nf (oQ (fun _ => False) (gW 16 X)) T 0 0, X, sI X 366 0 0, ?_, ?_, hT.told 0⟩
    · simp only [fX11_look, h.1, h.2.1, h.2.2, li_T, li_L, li_R, nm, bd, q_b, ne_eq, Nat.reduceEqDiff, reduceCtorEq, and_false, false_and, and_true, true_and, and_self, not_false_eq_true, not_true_eq_false, ↓reduceIte, n16_T, n16_L, n16_R, o5', z0, z1, z2, z3, z4]
    · simp only [fX12_look, h.1, h.2.1, h.2.2, li_T, li_L, li_R, nm, bd, q_b, ne_eq, Nat.reduceEqDiff, reduceCtorEq, and_false, false_and, and_true, true_and, and_self, not_false_eq_true, not_true_eq_false, ↓reduceIte, n16_T, n16_L, n16_R, mT_sI, m5, z0, z1, z2, z3, z4]
  by_cases q6 : v1 = 6
  · subst q6
    have z0 : ¬ (6 : Int32) = 0 := by decide
    have z1 : ¬ (6 : Int32) = 1 := by decide
    have z2 : ¬ (6 : Int32) = 2 := by decide
    have z3 : ¬ (6 : Int32) = 3 := by decide
    have z4 : ¬ (6 : Int32) = 4 := by decide
    have z5 : ¬ (6 : Int32) = 5 := by decide
    refine ⟨nf (oQ (fun i => nI d ≤ (gW 16 X).1 10 i) (gW 16 X)) T 0 0, X, sI X 366 0 0, ?_, ?_, hT.told 0⟩
    · simp only [fX11_look, h.1, h.2.1, h.2.2, li_T, li_L, li_R, nm, bd, q_b, ne_eq, Nat.reduceEqDiff, reduceCtorEq, and_false, false_and, and_true, true_and, and_self, not_false_eq_true, not_true_eq_false, ↓reduceIte, n16_T, n16_L, n16_R, hd', o6', z0, z1, z2, z3, z4, z5]
    · simp only [fX12_look, h.1, h.2.1, h.2.2, li_T, li_L, li_R, nm, bd, q_b, ne_eq, Nat.reduceEqDiff, reduceCtorEq, and_false, false_and, and_true, true_and, and_self, not_false_eq_true, not_true_eq_false, ↓reduceIte, n16_T, n16_L, n16_R, mT_sI, m6, z0, z1, z2, z3, z4, z5]
  by_cases q7 : v1 = 7
  · subst q7
    have z0 : ¬ (7 : Int32) = 0 := by decide
    have z1 : ¬ (7 : Int32) = 1 := by decide
    have z2 : ¬ (7 : Int32) = 2 := by decide
    have z3 : ¬ (7 : Int32) = 3 := by decide
    have z4 : ¬ (7 : Int32) = 4 := by decide
    have z5 : ¬ (7 : Int32) = 5 := by decide
    have z6 : ¬ (7 : Int32) = 6 := by decide
    refine ⟨nf (fun i v => v + (gW 16 X).1 27 i) G 0 0, X, sI X 366 0 0, ?_, ?_, hT.told 0⟩
    · simp only [fX11_look, h.1, h.2.1, h.2.2, li_T, li_L, li_R, nm, bd, q_b, ne_eq, Nat.reduceEqDiff, reduceCtorEq, and_false, false_and, and_true, true_and, and_self, not_false_eq_true, not_true_eq_false, ↓reduceIte, n16_T, n16_L, n16_R, o7', z0, z1, z2, z3, z4, z5, z6]
    · simp only [fX12_look, h.1, h.2.1, h.2.2, li_T, li_L, li_R, nm, bd, q_b, ne_eq, Nat.reduceEqDiff, reduceCtorEq, and_false, false_and, and_true, true_and, and_self, not_false_eq_true, not_true_eq_false, ↓reduceIte, n16_T, n16_L, n16_R, mT_sI, m7, z0, z1, z2, z3, z4, z5, z6]
  by_cases q8 : v1 = 8
  · subst q8
    have z0 : ¬ (8 : Int32) = 0 := by decide
    have z1 : ¬ (8 : Int32) = 1 := by decide
    have z2 : ¬ (8 : Int32) = 2 := by decide
    have z3 : ¬ (8 : Int32) = 3 := by decide
    have z4 : ¬ (8 : Int32) = 4 := by decide
    have z5 : ¬ (8 : Int32) = 5 := by decide
    have z6 : ¬ (8 : Int32) = 6 := by decide
    have z7 : ¬ (8 : Int32) = 7 := by decide
    refine ⟨nI c, X, sI X 366 0 0, ?_, ?_, hT.told 0⟩
    · simp only [fX11_look, h.1, h.2.1, h.2.2, li_T, li_L, li_R, nm, bd, q_b, ne_eq, Nat.reduceEqDiff, reduceCtorEq, and_false, false_and, and_true, true_and, and_self, not_false_eq_true, not_true_eq_false, ↓reduceIte, n16_T, n16_L, n16_R, g4, z0, z1, z2, z3, z4, z5, z6, z7]
    · simp only [fX12_look, h.1, h.2.1, h.2.2, li_T, li_L, li_R, nm, bd, q_b, ne_eq, Nat.reduceEqDiff, reduceCtorEq, and_false, false_and, and_true, true_and, and_self, not_false_eq_true, not_true_eq_false, ↓reduceIte, n16_T, n16_L, n16_R, mT_sI, rd 5 (by decide), g5, z0, z1, z2, z3, z4, z5, z6, z7]
  by_cases q9 : v1 = 9
  · subst q9
    have z0 : ¬ (9 : Int32) = 0 := by decide
    have z1 : ¬ (9 : Int32) = 1 := by decide
    have z2 : ¬ (9 : Int32) = 2 := by decide
    have z3 : ¬ (9 : Int32) = 3 := by decide
    have z4 : ¬ (9 : Int32) = 4 := by decide
    have z5 : ¬ (9 : Int32) = 5 := by decide
    have z6 : ¬ (9 : Int32) = 6 := by decide
    have z7 : ¬ (9 : Int32) = 7 := by decide
    have z8 : ¬ (9 : Int32) = 8 := by decide
    refine ⟨nI L, X, sI X 366 0 0, ?_, ?_, hT.told 0⟩
    · simp only [fX11_look, h.1, h.2.1, h.2.2, li_T, li_L, li_R, nm, bd, q_b, ne_eq, Nat.reduceEqDiff, reduceCtorEq, and_false, false_and, and_true, true_and, and_self, not_false_eq_true, not_true_eq_false, ↓reduceIte, n16_T, n16_L, n16_R, t2, z0, z1, z2, z3, z4, z5, z6, z7, z8]
    · simp only [fX12_look, h.1, h.2.1, h.2.2, li_T, li_L, li_R, nm, bd, q_b, ne_eq, Nat.reduceEqDiff, reduceCtorEq, and_false, false_and, and_true, true_and, and_self, not_false_eq_true, not_true_eq_false, ↓reduceIte, n16_T, n16_L, n16_R, mT_sI, rd 12 (by decide), t3, z0, z1, z2, z3, z4, z5, z6, z7, z8]
  refine ⟨-1, X, sI X 366 0 0, ?_, ?_, hT.told 0⟩
  · simp only [fX11_look, q0, q1, q2, q3, q4, q5, q6, q7, q8, q9, ↓reduceIte]
  · simp only [fX12_look, h.1, h.2.1, h.2.2, li_T, li_L, li_R, nm, bd, q_b, ne_eq, Nat.reduceEqDiff, reduceCtorEq, and_false, false_and, and_true, true_and, and_self, not_false_eq_true, not_true_eq_false, ↓reduceIte, n16_T, n16_L, n16_R, q0, q1, q2, q3, q4, q5, q6, q7, q8, q9]
end
