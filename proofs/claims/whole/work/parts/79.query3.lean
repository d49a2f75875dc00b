/-! QUERIES: event, written, claim -/
/-- SHARES of CLAIMS to, from a HOLDER -/
def sT1 (e h : Nat) (w : Wt) (i : Nat) (v : Int64) : Int64 := if w.1 39 (60 * e + i) = nI h then v + w.2 40 (60 * e + i) else v
def sF1 (e h : Nat) (w : Wt) (i : Nat) (v : Int64) : Int64 := if w.1 38 (60 * e + i) = nI h then v + w.2 40 (60 * e + i) else v
def sB1 (e h : Nat) (w : Wt) (i : Nat) (v : Int64) : Int64 := if w.1 38 (60 * e + i) = nI h then (if w.1 39 (60 * e + i) = nI h then v + w.2 40 (60 * e + i) else v) - w.2 40 (60 * e + i) else if w.1 39 (60 * e + i) = nI h then v + w.2 40 (60 * e + i) else v
theorem i64_sa (t f s : Int64) : t - f + s = t + s - f := by
  rw [Int64.sub_eq_add_neg, Int64.sub_eq_add_neg, Int64.add_assoc, Int64.add_comm (-f), ← Int64.add_assoc]
theorem sB_TF (e h : Nat) (w : Wt) : ∀ (m i : Nat) (t f : Int64), nf (sB1 e h w) m i (t - f) = nf (sT1 e h w) m i t - nf (sF1 e h w) m i f := by
  intro m
  induction m with
  | zero => intro i t f; rfl
  | succ m ih =>
    intro i t f
    have st : sB1 e h w i (t - f) = sT1 e h w i t - sF1 e h w i f := by
      unfold sB1 sT1 sF1
      by_cases g1 : w.1 38 (60 * e + i) = nI h
      · by_cases g2 : w.1 39 (60 * e + i) = nI h
        · rw [if_pos g1, if_pos g2, if_pos g2, if_pos g1, i64_sa, i64_sub_sub]
        · rw [if_pos g1, if_neg g2, if_neg g2, if_pos g1, i64_sub_sub]
      · by_cases g2 : w.1 39 (60 * e + i) = nI h
        · rw [if_neg g1, if_pos g2, if_pos g2, if_neg g1, i64_sa]
        · rw [if_neg g1, if_neg g2, if_neg g2, if_neg g1]
    rw [nf, nf, nf, st]
    exact ih (i + 1) _ _
section
variable {bk dr s H P n T G : Nat} {X : Mm} {f : Nat → Int64} {w : Wt}
theorem c_clTo (h : Shp bk dr X) (hs : St s) {e a C : Nat} (he : e < 8) (hC : w.1 26 e = nI C) (hC6 : C ≤ 60) (hn : 64 ≤ n) : fX8_claimedTo n s (nI e) (nI a) (pW s w X) = some (nf (sT1 e a w) C 0 0, pW s w X) := by
  have e1 : (nI e).toNatClampNeg = e := nI_clamp (by omega)
  have e2 := inL_nI (j := e) (n := 8) he (by decide)
  have g := loop_ga (F := fun j i v => fX8_claimedTo_L5 n j s (nI e) (nI a) v i (pW s w X)) (N := sT1 e a w) (I := fun _ _ => True) (out := fun v => some (v, pW s w X)) C
    (fun j i v hi _ => by
      have e3 : ¬ nI C ≤ nI i := nI_ge hi (by omega)
      have q1 : (nI (60 * e + i)).toNatClampNeg = 60 * e + i := nI_clamp (by omega)
      have q2 := inL_nI (j := 60 * e + i) (n := 480) (by omega) (by decide)
      rw [fX8_claimedTo_L5]
      simp only [h.1, h.2.1, h.2.2, st_T s hs, st_L s hs, st_R hs, mT_pW, mL_pW, mR_pW, mI_pW, mJ_pW, mI_pW0, mJ_pW0, sI_pW, sJ_pW, sI_pW0, nm, bd, q_b, ne_eq, Nat.add_eq_zero_iff, Nat.reduceEqDiff, Nat.reduceLeDiff, Nat.reduceAdd, and_false, false_and, and_true, true_and, and_self, not_false_eq_true, not_true_eq_false, reduceCtorEq, ↓reduceIte, hC, e3, e1, e2.1, e2.2, fX1_at, at60, q1, q2.1, q2.2]
      by_cases g1 : w.1 39 (60 * e + i) = nI a
      · simp only [g1, ↓reduceIte, fX8_claimedTo_L54, nm, nI_1, sT1]
      · simp only [g1, ↓reduceIte, fX8_claimedTo_L54, nm, nI_1, sT1])
    (fun _ _ _ _ => trivial)
    (fun j v _ => by
      have e3 : nI C ≤ nI C := nI_le (Nat.le_refl _) (by omega)
      rw [fX8_claimedTo_L5]
      simp only [h.1, h.2.1, h.2.2, st_T s hs, st_L s hs, st_R hs, mT_pW, mL_pW, mR_pW, mI_pW, mJ_pW, mI_pW0, mJ_pW0, sI_pW, sJ_pW, sI_pW0, nm, bd, q_b, ne_eq, Nat.add_eq_zero_iff, Nat.reduceEqDiff, Nat.reduceLeDiff, Nat.reduceAdd, and_false, false_and, and_true, true_and, and_self, not_false_eq_true, not_true_eq_false, reduceCtorEq, ↓reduceIte, hC, e3, e1, e2.1, e2.2]) C 0 0 n (by omega) (by omega) trivial
  exact g.1
theorem c_clFr (h : Shp bk dr X) (hs : St s) {e a C : Nat} (he : e < 8) (hC : w.1 26 e = nI C) (hC6 : C ≤ 60) (hn : 64 ≤ n) : fX8_claimedFrom n s (nI e) (nI a) (pW s w X) = some (nf (sF1 e a w) C 0 0, pW s w X) := by
  have e1 : (nI e).toNatClampNeg = e := nI_clamp (by omega)
  have e2 := inL_nI (j := e) (n := 8) he (by decide)
  have g := loop_ga (F := fun j i v => fX8_claimedFrom_L5 n j s (nI e) (nI a) v i (pW s w X)) (N := sF1 e a w) (I := fun _ _ => True) (out := fun v => some (v, pW s w X)) C
    (fun j i v hi _ => by
      have e3 : ¬ nI C ≤ nI i := nI_ge hi (by omega)
      have q1 : (nI (60 * e + i)).toNatClampNeg = 60 * e + i := nI_clamp (by omega)
      have q2 := inL_nI (j := 60 * e + i) (n := 480) (by omega) (by decide)
      rw [fX8_claimedFrom_L5]
      simp only [h.1, h.2.1, h.2.2, st_T s hs, st_L s hs, st_R hs, mT_pW, mL_pW, mR_pW, mI_pW, mJ_pW, mI_pW0, mJ_pW0, sI_pW, sJ_pW, sI_pW0, nm, bd, q_b, ne_eq, Nat.add_eq_zero_iff, Nat.reduceEqDiff, Nat.reduceLeDiff, Nat.reduceAdd, and_false, false_and, and_true, true_and, and_self, not_false_eq_true, not_true_eq_false, reduceCtorEq, ↓reduceIte, hC, e3, e1, e2.1, e2.2, fX1_at, at60, q1, q2.1, q2.2]
      by_cases g1 : w.1 38 (60 * e + i) = nI a
      · simp only [g1, ↓reduceIte, fX8_claimedFrom_L54, nm, nI_1, sF1]
      · simp only [g1, ↓reduceIte, fX8_claimedFrom_L54, nm, nI_1, sF1])
    (fun _ _ _ _ => trivial)
    (fun j v _ => by
      have e3 : nI C ≤ nI C := nI_le (Nat.le_refl _) (by omega)
      rw [fX8_claimedFrom_L5]
      simp only [h.1, h.2.1, h.2.2, st_T s hs, st_L s hs, st_R hs, mT_pW, mL_pW, mR_pW, mI_pW, mJ_pW, mI_pW0, mJ_pW0, sI_pW, sJ_pW, sI_pW0, nm, bd, q_b, ne_eq, Nat.add_eq_zero_iff, Nat.reduceEqDiff, Nat.reduceLeDiff, Nat.reduceAdd, and_false, false_and, and_true, true_and, and_self, not_false_eq_true, not_true_eq_false, reduceCtorEq, ↓reduceIte, hC, e3, e1, e2.1, e2.2]) C 0 0 n (by omega) (by omega) trivial
  exact g.1
theorem m_clBy (h : Shp bk dr X) (R : Rl T G f w) {e a C : Nat} (he : e < G) (hC : w.1 26 e = nI C) (hC6 : C ≤ 60) (hn : 64 ≤ n) : fX12_claimedBy n 366 (nI e) (nI a) (wJ X 367 f) = some (nf (sB1 e a w) C 0 0, wJ X 367 f) := by
  have e8 : e < 8 := by have := R.2.1; omega
  have hCn : Cn w e = C := by unfold Cn; rw [hC, nI_clamp (by omega)]
  have g := loop_ga (F := fun j k v => fX12_claimedBy_L5 n j 366 (nI e) (nI a) v k (wJ X 367 f)) (N := sB1 e a w) (I := fun _ _ => True) (out := fun v => some (v, wJ X 367 f)) C
    (fun j k v hk _ => by
      have i6 : k < 60 := by omega
      have hk2 : k < Cn w e := by omega
      have e3 : ¬ nI C ≤ nI k := nI_ge hk (by omega)
      rw [fX12_claimedBy_L5]
      simp only [h.1, h.2.1, h.2.2, li_T, li_L, li_R, nm, bd, q_b, ne_eq, Nat.reduceEqDiff, reduceCtorEq, and_false, false_and, and_true, true_and, and_self, not_false_eq_true, not_true_eq_false, ↓reduceIte, mT_wJ, mL_wJ, mR_wJ, mI_wJ, mJ_wJ, sJ_wJ, Nat.reduceLT, l60.1, l60.2.1, l60.2.2, l61.1, l61.2.1, l61.2.2, l62.1, l62.2.1, l62.2.2, r_of6, r_oC0, r_oC1, r_oC2, r_oC3, r_oC4, bE1 e8, bE2 e8, bE3 e8, bC1 e8 i6, bC2 e8 i6, bC3 e8 i6, R.e6 he, hC, cv_ge, wd_le, e3, R.c2 he hk2 i6, R.c1 he hk2 i6, cv_eq, wd_eq]
      by_cases g1 : w.1 39 (60 * e + k) = nI a
      · by_cases g2 : w.1 38 (60 * e + k) = nI a
        · simp only [g1, g2, ↓reduceIte, fX12_claimedBy_L59, fX12_claimedBy_L94, h.1, h.2.1, h.2.2, li_T, li_L, li_R, nm, bd, q_b, ne_eq, Nat.reduceEqDiff, reduceCtorEq, and_false, false_and, and_true, true_and, and_self, not_false_eq_true, not_true_eq_false, ↓reduceIte, mT_wJ, mL_wJ, mR_wJ, mI_wJ, mJ_wJ, sJ_wJ, Nat.reduceLT, l60.1, l60.2.1, l60.2.2, l61.1, l61.2.1, l61.2.2, l62.1, l62.2.1, l62.2.2, r_oC0, r_oC1, r_oC2, r_oC3, r_oC4, bC1 e8 i6, bC2 e8 i6, bC3 e8 i6, R.c0 he hk2 i6, R.c2 he hk2 i6, cv_eq, wd_eq, nI_1, sB1]
        · simp only [g1, g2, ↓reduceIte, fX12_claimedBy_L59, fX12_claimedBy_L94, h.1, h.2.1, h.2.2, li_T, li_L, li_R, nm, bd, q_b, ne_eq, Nat.reduceEqDiff, reduceCtorEq, and_false, false_and, and_true, true_and, and_self, not_false_eq_true, not_true_eq_false, ↓reduceIte, mT_wJ, mL_wJ, mR_wJ, mI_wJ, mJ_wJ, sJ_wJ, Nat.reduceLT, l60.1, l60.2.1, l60.2.2, l61.1, l61.2.1, l61.2.2, l62.1, l62.2.1, l62.2.2, r_oC0, r_oC1, r_oC2, r_oC3, r_oC4, bC1 e8 i6, bC2 e8 i6, bC3 e8 i6, R.c0 he hk2 i6, R.c2 he hk2 i6, cv_eq, wd_eq, nI_1, sB1]
      · by_cases g2 : w.1 38 (60 * e + k) = nI a
        · simp only [g1, g2, ↓reduceIte, fX12_claimedBy_L59, fX12_claimedBy_L94, h.1, h.2.1, h.2.2, li_T, li_L, li_R, nm, bd, q_b, ne_eq, Nat.reduceEqDiff, reduceCtorEq, and_false, false_and, and_true, true_and, and_self, not_false_eq_true, not_true_eq_false, ↓reduceIte, mT_wJ, mL_wJ, mR_wJ, mI_wJ, mJ_wJ, sJ_wJ, Nat.reduceLT, l60.1, l60.2.1, l60.2.2, l61.1, l61.2.1, l61.2.2, l62.1, l62.2.1, l62.2.2, r_oC0, r_oC1, r_oC2, r_oC3, r_oC4, bC1 e8 i6, bC2 e8 i6, bC3 e8 i6, R.c0 he hk2 i6, R.c2 he hk2 i6, cv_eq, wd_eq, nI_1, sB1]
        · simp only [g1, g2, ↓reduceIte, fX12_claimedBy_L59, fX12_claimedBy_L94, h.1, h.2.1, h.2.2, li_T, li_L, li_R, nm, bd, q_b, ne_eq, Nat.reduceEqDiff, reduceCtorEq, and_false, false_and, and_true, true_and, and_self, not_false_eq_true, not_true_eq_false, ↓reduceIte, mT_wJ, mL_wJ, mR_wJ, mI_wJ, mJ_wJ, sJ_wJ, Nat.reduceLT, l60.1, l60.2.1, l60.2.2, l61.1, l61.2.1, l61.2.2, l62.1, l62.2.1, l62.2.2, r_oC0, r_oC1, r_oC2, r_oC3, r_oC4, bC1 e8 i6, bC2 e8 i6, bC3 e8 i6, R.c0 he hk2 i6, R.c2 he hk2 i6, cv_eq, wd_eq, nI_1, sB1])
    (fun _ _ _ _ => trivial)
    (fun j v _ => by
      have e3 : nI C ≤ nI C := nI_le (Nat.le_refl _) (by omega)
      rw [fX12_claimedBy_L5]
      simp only [h.1, h.2.1, h.2.2, li_T, li_L, li_R, nm, bd, q_b, ne_eq, Nat.reduceEqDiff, reduceCtorEq, and_false, false_and, and_true, true_and, and_self, not_false_eq_true, not_true_eq_false, ↓reduceIte, mT_wJ, mL_wJ, mR_wJ, mI_wJ, mJ_wJ, sJ_wJ, Nat.reduceLT, l60.1, l60.2.1, l60.2.2, l61.1, l61.2.1, l61.2.2, l62.1, l62.2.1, l62.2.2, r_of6, bE1 e8, bE2 e8, bE3 e8, R.e6 he, hC, cv_ge, wd_le, e3]) C 0 0 n (by omega) (by omega) trivial
  exact g.1
theorem m_waiting (h : Shp bk dr X) (R : Rl T G f w) {e C : Nat} (he : e < G) (hC : w.1 26 e = nI C) (hC6 : C ≤ 60) (hn : 64 ≤ n) : fX12_waiting n 366 (nI e) (wJ X 367 f) = some (nI (cn (fun i => w.1 42 (60 * e + i)) C), wJ X 367 f) := by
  have e8 : e < 8 := by have := R.2.1; omega
  have hCn : Cn w e = C := by unfold Cn; rw [hC, nI_clamp (by omega)]
  have g := loop_ga (F := fun j k (v : Nat) => fX12_waiting_L4 n j 366 (nI e) (nI v) k (wJ X 367 f)) (N := fun i v => v + if w.1 42 (60 * e + i) = 2 then 1 else 0) (I := fun i v => v = cn (fun i => w.1 42 (60 * e + i)) i) (out := fun v => some (nI v, wJ X 367 f)) C
    (fun j k v hk _ => by
      have i6 : k < 60 := by omega
      have hk2 : k < Cn w e := by omega
      have e3 : ¬ nI C ≤ nI k := nI_ge hk (by omega)
      rw [fX12_waiting_L4]
      simp only [h.1, h.2.1, h.2.2, li_T, li_L, li_R, nm, bd, q_b, ne_eq, Nat.reduceEqDiff, reduceCtorEq, and_false, false_and, and_true, true_and, and_self, not_false_eq_true, not_true_eq_false, ↓reduceIte, mT_wJ, mL_wJ, mR_wJ, mI_wJ, mJ_wJ, sJ_wJ, Nat.reduceLT, l60.1, l60.2.1, l60.2.2, l61.1, l61.2.1, l61.2.2, l62.1, l62.2.1, l62.2.2, r_of6, r_oC0, r_oC1, r_oC2, r_oC3, r_oC4, bE1 e8, bE2 e8, bE3 e8, bC1 e8 i6, bC2 e8 i6, bC3 e8 i6, R.e6 he, hC, cv_ge, wd_le, e3, R.c4 he hk2 i6, cv_eq, wd_2]
      by_cases g1 : w.1 42 (60 * e + k) = 2
      · simp only [g1, ↓reduceIte, fX12_waiting_L45, nm, nI_1]
      · simp only [g1, ↓reduceIte, fX12_waiting_L45, nm, nI_1, Nat.add_zero])
    (fun i v _ hv => by rw [hv, cn])
    (fun j v _ => by
      have e3 : nI C ≤ nI C := nI_le (Nat.le_refl _) (by omega)
      rw [fX12_waiting_L4]
      simp only [h.1, h.2.1, h.2.2, li_T, li_L, li_R, nm, bd, q_b, ne_eq, Nat.reduceEqDiff, reduceCtorEq, and_false, false_and, and_true, true_and, and_self, not_false_eq_true, not_true_eq_false, ↓reduceIte, mT_wJ, mL_wJ, mR_wJ, mI_wJ, mJ_wJ, sJ_wJ, Nat.reduceLT, l60.1, l60.2.1, l60.2.2, l61.1, l61.2.1, l61.2.2, l62.1, l62.2.1, l62.2.2, r_of6, bE1 e8, bE2 e8, bE3 e8, R.e6 he, hC, cv_ge, wd_le, e3]) C 0 0 n (by omega) (by omega) rfl
  have g1 := g.1
  rw [g.2] at g1
  exact g1
theorem q_clTo (h : Shp bk dr X) {e a C : Nat} (he : e < 8) (hC : (gW 16 X).1 26 e = nI C) (hC6 : C ≤ 60) (hn : 64 ≤ n) : fX8_claimedTo n 16 (nI e) (nI a) X = some (nf (sT1 e a (gW 16 X)) C 0 0, X) := by
  have z := c_clTo (w := gW 16 X) (a := a) h St.now he hC hC6 hn
  rw [pW_gW] at z
  exact z
theorem q_clFr (h : Shp bk dr X) {e a C : Nat} (he : e < 8) (hC : (gW 16 X).1 26 e = nI C) (hC6 : C ≤ 60) (hn : 64 ≤ n) : fX8_claimedFrom n 16 (nI e) (nI a) X = some (nf (sF1 e a (gW 16 X)) C 0 0, X) := by
  have z := c_clFr (w := gW 16 X) (a := a) h St.now he hC hC6 hn
  rw [pW_gW] at z
  exact z
theorem p_clBy (h : Shp bk dr X) (R : Rl T G (mJ X 367) w) {e a C : Nat} (he : e < G) (hC : w.1 26 e = nI C) (hC6 : C ≤ 60) (hn : 64 ≤ n) : fX12_claimedBy n 366 (nI e) (nI a) X = some (nf (sB1 e a w) C 0 0, X) := by
  have z := m_clBy (a := a) h R he hC hC6 hn
  rw [wJ_self] at z
  exact z
theorem p_waiting (h : Shp bk dr X) (R : Rl T G (mJ X 367) w) {e C : Nat} (he : e < G) (hC : w.1 26 e = nI C) (hC6 : C ≤ 60) (hn : 64 ≤ n) : fX12_waiting n 366 (nI e) X = some (nI (cn (fun i => w.1 42 (60 * e + i)) C), X) := by
  have z := m_waiting h R he hC hC6 hn
  rw [wJ_self] at z
  exact z
theorem s_event (h : Tp bk dr H P X) (hn : 24000 ≤ n) (v1 v2 : Int32) : ∃ r X1 X2, fX11_event 1 v1 v2 X = some (r, X1) ∧ fX12_event n 366 v1 v2 X1 = some (r, X2) ∧ Tp bk dr H P X2 := by
  have hT := h
  obtain ⟨h1, h2, h3, h4, h5, h6, ⟨T, G, R, iv, iw⟩, -, -, -, -, -, -⟩ := h
  have h := h1
  have hs := h1.sI 366 0 0
  have wG : mI X 29 16 = nI G := iv.1.2.2.1
  have w6 : mI X 16 6 = nI H := iv.1.2.2.2.2.1
  have y6 : mI (sI X 366 0 0) 366 6 = nI H := by rw [mI_sI, if_neg (by omega)]; exact h5
  have R' : Rl T G (mJ (sI X 366 0 0) 367) (gW 16 X) := R
  have hG8 := R.2.1
  by_cases g1 : 0 ≤ v1 ∧ v1 < nI G
  · obtain ⟨e, he, ee⟩ := nI_ex g1 (by omega)
    have e8 : e < 8 := by omega
    have e1 : (nI e).toNatClampNeg = e := nI_clamp (by omega)
    have e2 := inL_nI (j := e) (n := 8) e8 (by decide)
    rw [ee] at g1
    have hc := iv.cnt he
    have ev := iv.2 e he
    have wt : mI X 43 e = nI (cn (fun i => (gW 16 X).1 42 (60 * e + i)) (Cn (gW 16 X) e)) := ev.2.2.2.2.1
    have rd0 : mJ X 367 (aE e 0) = (mI X 30 e).toInt64 := R.e0 he
    have rd1 : mJ X 367 (aE e 1) = (mI X 31 e).toInt64 := R.e1 he
    have rd2 : mJ X 367 (aE e 2) = (mI X 38 e).toInt64 := R.e2 he
    have rd3 : mJ X 367 (aE e 3) = (mI X 39 e).toInt64 := R.e3 he
    have rd4 : mJ X 367 (aE e 4) = (mI X 40 e).toInt64 := R.e4 he
    have rd5 : mJ X 367 (aE e 5) = (mI X 41 e).toInt64 := R.e5 he
    have rd6 : mJ X 367 (aE e 6) = (mI X 42 e).toInt64 := R.e6 he
    by_cases g7 : v2 = 7
    · subst g7
      have z0 : ¬ (7 : Int32) = 0 := by decide
      have z1 : ¬ (7 : Int32) = 1 := by decide
      have z2 : ¬ (7 : Int32) = 2 := by decide
      have z3 : ¬ (7 : Int32) = 3 := by decide
      have z4 : ¬ (7 : Int32) = 4 := by decide
      have z5 : ¬ (7 : Int32) = 5 := by decide
      have z6 : ¬ (7 : Int32) = 6 := by decide
      refine ⟨mI X 43 e, X, sI X 366 0 0, ?_, ?_, hT.told 0⟩
      · simp only [fX11_event, fX3_partOf, h.1, h.2.1, h.2.2, li_T, li_L, li_R, nm, bd, q_b, ne_eq, Nat.reduceEqDiff, reduceCtorEq, and_false, false_and, and_true, true_and, and_self, not_false_eq_true, not_true_eq_false, ↓reduceIte, n16_T, n16_L, n16_R, ee, q_isE h wG, bo_t g1, b1, e1, e2.1, e2.2, z0, z1, z2, z3, z4, z5, z6]
      · simp only [fX12_event, h.1, h.2.1, h.2.2, li_T, li_L, li_R, nm, bd, q_b, ne_eq, Nat.reduceEqDiff, reduceCtorEq, and_false, false_and, and_true, true_and, and_self, not_false_eq_true, not_true_eq_false, ↓reduceIte, n16_T, n16_L, n16_R, ee, mT_sI, p_isE hs R' iv.1.2.2.1, bo_t g1, b1, p_waiting hs R' he hc.1 hc.2 (show 64 ≤ n by omega), wt]
    · by_cases g2 : 0 ≤ v2 ∧ v2 ≤ 6
      · have i9 := inL_cc (v := v2) (l := 0) (n := 6) (m := 7) g2 (by decide) (by decide) (by decide)
        obtain ⟨k, hk, ek⟩ := inL_of i9 (by decide)
        rcases (by omega : k = 0 ∨ k = 1 ∨ k = 2 ∨ k = 3 ∨ k = 4 ∨ k = 5 ∨ k = 6) with rfl | rfl | rfl | rfl | rfl | rfl | rfl
        · have ek2 : v2 = 0 := ek
          have g3 : (0 : Int32) ≤ 0 ∧ (0 : Int32) ≤ 6 := by decide
          have z7 : ¬ (0 : Int32) = 7 := by decide
          refine ⟨mI X 30 e, X, sI X 366 0 0, ?_, ?_, hT.told 0⟩
          · simp only [fX11_event, fX3_partOf, h.1, h.2.1, h.2.2, li_T, li_L, li_R, nm, bd, q_b, ne_eq, Nat.reduceEqDiff, reduceCtorEq, and_false, false_and, and_true, true_and, and_self, not_false_eq_true, not_true_eq_false, ↓reduceIte, n16_T, n16_L, n16_R, ee, ek2, q_isE h wG, bo_t g1, b1, e1, e2.1, e2.2]
          · simp only [fX12_event, h.1, h.2.1, h.2.2, li_T, li_L, li_R, nm, bd, q_b, ne_eq, Nat.reduceEqDiff, reduceCtorEq, and_false, false_and, and_true, true_and, and_self, not_false_eq_true, not_true_eq_false, ↓reduceIte, n16_T, n16_L, n16_R, ee, ek2, mT_sI, mR_sI, mL_sI, mJ_sI, p_isE hs R' iv.1.2.2.1, bo_t g1, b1, z7, r_inb (0) 0 6 (lo := 0) (hi := 6) (by decide) (by decide), bo_t g3, r_of0, bE1 e8, bE2 e8, bE3 e8, Nat.reduceLT, rd0, wd_back]
        · have ek2 : v2 = 1 := ek
          have g3 : (0 : Int32) ≤ 1 ∧ (1 : Int32) ≤ 6 := by decide
          have z7 : ¬ (1 : Int32) = 7 := by decide
          have z0 : ¬ (1 : Int32) = 0 := by decide
          refine ⟨mI X 31 e, X, sI X 366 0 0, ?_, ?_, hT.told 0⟩
          · simp only [fX11_event, fX3_partOf, h.1, h.2.1, h.2.2, li_T, li_L, li_R, nm, bd, q_b, ne_eq, Nat.reduceEqDiff, reduceCtorEq, and_false, false_and, and_true, true_and, and_self, not_false_eq_true, not_true_eq_false, ↓reduceIte, n16_T, n16_L, n16_R, ee, ek2, q_isE h wG, bo_t g1, b1, e1, e2.1, e2.2, z0]
          · simp only [fX12_event, h.1, h.2.1, h.2.2, li_T, li_L, li_R, nm, bd, q_b, ne_eq, Nat.reduceEqDiff, reduceCtorEq, and_false, false_and, and_true, true_and, and_self, not_false_eq_true, not_true_eq_false, ↓reduceIte, n16_T, n16_L, n16_R, ee, ek2, mT_sI, mR_sI, mL_sI, mJ_sI, p_isE hs R' iv.1.2.2.1, bo_t g1, b1, z7, r_inb (1) 0 6 (lo := 0) (hi := 6) (by decide) (by decide), bo_t g3, r_of1, bE1 e8, bE2 e8, bE3 e8, Nat.reduceLT, rd1, wd_back]
        · have ek2 : v2 = 2 := ek
          have g3 : (0 : Int32) ≤ 2 ∧ (2 : Int32) ≤ 6 := by decide
          have z7 : ¬ (2 : Int32) = 7 := by decide
          have z0 : ¬ (2 : Int32) = 0 := by decide
          have z1 : ¬ (2 : Int32) = 1 := by decide
          refine ⟨mI X 38 e, X, sI X 366 0 0, ?_, ?_, hT.told 0⟩
          · simp only [fX11_event, fX3_partOf, h.1, h.2.1, h.2.2, li_T, li_L, li_R, nm, bd, q_b, ne_eq, Nat.reduceEqDiff, reduceCtorEq, and_false, false_and, and_true, true_and, and_self, not_false_eq_true, not_true_eq_false, ↓reduceIte, n16_T, n16_L, n16_R, ee, ek2, q_isE h wG, bo_t g1, b1, e1, e2.1, e2.2, z0, z1]
          · simp only [fX12_event, h.1, h.2.1, h.2.2, li_T, li_L, li_R, nm, bd, q_b, ne_eq, Nat.reduceEqDiff, reduceCtorEq, and_false, false_and, and_true, true_and, and_self, not_false_eq_true, not_true_eq_false, ↓reduceIte, n16_T, n16_L, n16_R, ee, ek2, mT_sI, mR_sI, mL_sI, mJ_sI, p_isE hs R' iv.1.2.2.1, bo_t g1, b1, z7, r_inb (2) 0 6 (lo := 0) (hi := 6) (by decide) (by decide), bo_t g3, r_of2, bE1 e8, bE2 e8, bE3 e8, Nat.reduceLT, rd2, wd_back]
        · have ek2 : v2 = 3 := ek
          have g3 : (0 : Int32) ≤ 3 ∧ (3 : Int32) ≤ 6 := by decide
          have z7 : ¬ (3 : Int32) = 7 := by decide
          have z0 : ¬ (3 : Int32) = 0 := by decide
          have z1 : ¬ (3 : Int32) = 1 := by decide
          have z2 : ¬ (3 : Int32) = 2 := by decide
          refine ⟨mI X 39 e, X, sI X 366 0 0, ?_, ?_, hT.told 0⟩
          · simp only [fX11_event, fX3_partOf, h.1, h.2.1, h.2.2, li_T, li_L, li_R, nm, bd, q_b, ne_eq, Nat.reduceEqDiff, reduceCtorEq, and_false, false_and, and_true, true_and, and_self, not_false_eq_true, not_true_eq_false, ↓reduceIte, n16_T, n16_L, n16_R, ee, ek2, q_isE h wG, bo_t g1, b1, e1, e2.1, e2.2, z0, z1, z2]
          · simp only [fX12_event, h.1, h.2.1, h.2.2, li_T, li_L, li_R, nm, bd, q_b, ne_eq, Nat.reduceEqDiff, reduceCtorEq, and_false, false_and, and_true, true_and, and_self, not_false_eq_true, not_true_eq_false, ↓reduceIte, n16_T, n16_L, n16_R, ee, ek2, mT_sI, mR_sI, mL_sI, mJ_sI, p_isE hs R' iv.1.2.2.1, bo_t g1, b1, z7, r_inb (3) 0 6 (lo := 0) (hi := 6) (by decide) (by decide), bo_t g3, r_of3, bE1 e8, bE2 e8, bE3 e8, Nat.reduceLT, rd3, wd_back]
        · have ek2 : v2 = 4 := ek
          have g3 : (0 : Int32) ≤ 4 ∧ (4 : Int32) ≤ 6 := by decide
          have z7 : ¬ (4 : Int32) = 7 := by decide
          have z0 : ¬ (4 : Int32) = 0 := by decide
          have z1 : ¬ (4 : Int32) = 1 := by decide
          have z2 : ¬ (4 : Int32) = 2 := by decide
          have z3 : ¬ (4 : Int32) = 3 := by decide
          refine ⟨mI X 40 e, X, sI X 366 0 0, ?_, ?_, hT.told 0⟩
          · simp only [fX11_event, fX3_partOf, h.1, h.2.1, h.2.2, li_T, li_L, li_R, nm, bd, q_b, ne_eq, Nat.reduceEqDiff, reduceCtorEq, and_false, false_and, and_true, true_and, and_self, not_false_eq_true, not_true_eq_false, ↓reduceIte, n16_T, n16_L, n16_R, ee, ek2, q_isE h wG, bo_t g1, b1, e1, e2.1, e2.2, z0, z1, z2, z3]
          · simp only [fX12_event, h.1, h.2.1, h.2.2, li_T, li_L, li_R, nm, bd, q_b, ne_eq, Nat.reduceEqDiff, reduceCtorEq, and_false, false_and, and_true, true_and, and_self, not_false_eq_true, not_true_eq_false, ↓reduceIte, n16_T, n16_L, n16_R, ee, ek2, mT_sI, mR_sI, mL_sI, mJ_sI, p_isE hs R' iv.1.2.2.1, bo_t g1, b1, z7, r_inb (4) 0 6 (lo := 0) (hi := 6) (by decide) (by decide), bo_t g3, r_of4, bE1 e8, bE2 e8, bE3 e8, Nat.reduceLT, rd4, wd_back]
        · have ek2 : v2 = 5 := ek
          have g3 : (0 : Int32) ≤ 5 ∧ (5 : Int32) ≤ 6 := by decide
          have z7 : ¬ (5 : Int32) = 7 := by decide
          have z0 : ¬ (5 : Int32) = 0 := by decide
          have z1 : ¬ (5 : Int32) = 1 := by decide
          have z2 : ¬ (5 : Int32) = 2 := by decide
          have z3 : ¬ (5 : Int32) = 3 := by decide
          have z4 : ¬ (5 : Int32) = 4 := by decide
          refine ⟨mI X 41 e, X, sI X 366 0 0, ?_, ?_, hT.told 0⟩
          · simp only [fX11_event, fX3_partOf, h.1, h.2.1, h.2.2, li_T, li_L, li_R, nm, bd, q_b, ne_eq, Nat.reduceEqDiff, reduceCtorEq, and_false, false_and, and_true, true_and, and_self, not_false_eq_true, not_true_eq_false, ↓reduceIte, n16_T, n16_L, n16_R, ee, ek2, q_isE h wG, bo_t g1, b1, e1, e2.1, e2.2, z0, z1, z2, z3, z4]
          · simp only [fX12_event, h.1, h.2.1, h.2.2, li_T, li_L, li_R, nm, bd, q_b, ne_eq, Nat.reduceEqDiff, reduceCtorEq, and_false, false_and, and_true, true_and, and_self, not_false_eq_true, not_true_eq_false, ↓reduceIte, n16_T, n16_L, n16_R, ee, ek2, mT_sI, mR_sI, mL_sI, mJ_sI, p_isE hs R' iv.1.2.2.1, bo_t g1, b1, z7, r_inb (5) 0 6 (lo := 0) (hi := 6) (by decide) (by decide), bo_t g3, r_of5, bE1 e8, bE2 e8, bE3 e8, Nat.reduceLT, rd5, wd_back]
        · have ek2 : v2 = 6 := ek
          have g3 : (0 : Int32) ≤ 6 ∧ (6 : Int32) ≤ 6 := by decide
          have z7 : ¬ (6 : Int32) = 7 := by decide
          have z0 : ¬ (6 : Int32) = 0 := by decide
          have z1 : ¬ (6 : Int32) = 1 := by decide
          have z2 : ¬ (6 : Int32) = 2 := by decide
          have z3 : ¬ (6 : Int32) = 3 := by decide
          have z4 : ¬ (6 : Int32) = 4 := by decide
          have z5 : ¬ (6 : Int32) = 5 := by decide
          refine ⟨mI X 42 e, X, sI X 366 0 0, ?_, ?_, hT.told 0⟩
          · simp only [fX11_event, fX3_partOf, h.1, h.2.1, h.2.2, li_T, li_L, li_R, nm, bd, q_b, ne_eq, Nat.reduceEqDiff, reduceCtorEq, and_false, false_and, and_true, true_and, and_self, not_false_eq_true, not_true_eq_false, ↓reduceIte, n16_T, n16_L, n16_R, ee, ek2, q_isE h wG, bo_t g1, b1, e1, e2.1, e2.2, z0, z1, z2, z3, z4, z5]
          · simp only [fX12_event, h.1, h.2.1, h.2.2, li_T, li_L, li_R, nm, bd, q_b, ne_eq, Nat.reduceEqDiff, reduceCtorEq, and_false, false_and, and_true, true_and, and_self, not_false_eq_true, not_true_eq_false, ↓reduceIte, n16_T, n16_L, n16_R, ee, ek2, mT_sI, mR_sI, mL_sI, mJ_sI, p_isE hs R' iv.1.2.2.1, bo_t g1, b1, z7, r_inb (6) 0 6 (lo := 0) (hi := 6) (by decide) (by decide), bo_t g3, r_of6, bE1 e8, bE2 e8, bE3 e8, Nat.reduceLT, rd6, wd_back]
      · refine ⟨-1, X, sI X 366 0 0, ?_, ?_, hT.told 0⟩
        · have z0 : ¬ v2 = 0 := fun z => g2 (by rw [z]; decide)
          have z1 : ¬ v2 = 1 := fun z => g2 (by rw [z]; decide)
          have z2 : ¬ v2 = 2 := fun z => g2 (by rw [z]; decide)
          have z3 : ¬ v2 = 3 := fun z => g2 (by rw [z]; decide)
          have z4 : ¬ v2 = 4 := fun z => g2 (by rw [z]; decide)
          have z5 : ¬ v2 = 5 := fun z => g2 (by rw [z]; decide)
          have z6 : ¬ v2 = 6 := fun z => g2 (by rw [z]; decide)
          simp only [fX11_event, fX3_partOf, h.1, h.2.1, h.2.2, li_T, li_L, li_R, nm, bd, q_b, ne_eq, Nat.reduceEqDiff, reduceCtorEq, and_false, false_and, and_true, true_and, and_self, not_false_eq_true, not_true_eq_false, ↓reduceIte, n16_T, n16_L, n16_R, ee, q_isE h wG, bo_t g1, b1, g7, z0, z1, z2, z3, z4, z5, z6]
        · simp only [fX12_event, h.1, h.2.1, h.2.2, li_T, li_L, li_R, nm, bd, q_b, ne_eq, Nat.reduceEqDiff, reduceCtorEq, and_false, false_and, and_true, true_and, and_self, not_false_eq_true, not_true_eq_false, ↓reduceIte, n16_T, n16_L, n16_R, ee, mT_sI, p_isE hs R' iv.1.2.2.1, bo_t g1, b1, g7, r_inb v2 0 6 (lo := 0) (hi := 6) (by decide) (by decide), bo_f g2]
  · refine ⟨-1, X, sI X 366 0 0, ?_, ?_, hT.told 0⟩
    · simp only [fX11_event, h.1, h.2.1, h.2.2, li_T, li_L, li_R, nm, bd, q_b, ne_eq, Nat.reduceEqDiff, reduceCtorEq, and_false, false_and, and_true, true_and, and_self, not_false_eq_true, not_true_eq_false, ↓reduceIte, n16_T, n16_L, n16_R, q_isE h wG, bo_f g1]
    · simp only [fX12_event, h.1, h.2.1, h.2.2, li_T, li_L, li_R, nm, bd, q_b, ne_eq, Nat.reduceEqDiff, reduceCtorEq, and_false, false_and, and_true, true_and, and_self, not_false_eq_true, not_true_eq_false, ↓reduceIte, n16_T, n16_L, n16_R, mT_sI, p_isE hs R' iv.1.2.2.1, bo_f g1]
theorem s_written (h : Tp bk dr H P X) (hn : 24000 ≤ n) (v1 v2 v3 : Int32) : ∃ r X1 X2, fX11_written n 1 v1 v2 v3 X = some (r, X1) ∧ fX12_written n 366 v1 v2 v3 X1 = some (r, X2) ∧ Tp bk dr H P X2 := by
  have hT := h
  obtain ⟨h1, h2, h3, h4, h5, h6, ⟨T, G, R, iv, iw⟩, -, -, -, -, -, -⟩ := h
  have h := h1
  have hs := h1.sI 366 0 0
  have wG : mI X 29 16 = nI G := iv.1.2.2.1
  have w6 : mI X 16 6 = nI H := iv.1.2.2.2.2.1
  have y6 : mI (sI X 366 0 0) 366 6 = nI H := by rw [mI_sI, if_neg (by omega)]; exact h5
  have R' : Rl T G (mJ (sI X 366 0 0) 367) (gW 16 X) := R
  have hG8 := R.2.1
  by_cases g1 : 0 ≤ v1 ∧ v1 < nI G
  · obtain ⟨e, he, ee⟩ := nI_ex g1 (by omega)
    have e8 : e < 8 := by omega
    have e1 : (nI e).toNatClampNeg = e := nI_clamp (by omega)
    have e2 := inL_nI (j := e) (n := 8) e8 (by decide)
    rw [ee] at g1
    have hc := iv.cnt he
    have ev := iv.2 e he
    by_cases g2 : 0 ≤ v2 ∧ v2 < nI H
    · obtain ⟨i, hi, ei⟩ := nI_ex g2 (by omega)
      have i10 : i < 10 := by omega
      have k1 : (nI (10 * e + i)).toNatClampNeg = 10 * e + i := nI_clamp (by omega)
      have k2 := inL_nI (j := 10 * e + i) (n := 80) (by omega) (by decide)
      rw [ei] at g2
      have rd0 : mJ X 367 (aH e i 0) = mJ X 47 (10 * e + i) := R.h0 he i10
      have rd1 : mJ X 367 (aH e i 1) = mJ X 48 (10 * e + i) := R.h1 he i10
      have rd2 : mJ X 367 (aH e i 2) = mJ X 49 (10 * e + i) := R.h2 he i10
      have rd3 : mJ X 367 (aH e i 3) = mJ X 50 (10 * e + i) := R.h3 he i10
      have rd4 : mJ X 367 (aH e i 4) = mJ X 51 (10 * e + i) := R.h4 he i10
      have rd5 : mJ X 367 (aH e i 5) = mJ X 52 (10 * e + i) := R.h5 he i10
      by_cases q0 : v3 = 0
      · subst q0
        refine ⟨mJ X 47 (10 * e + i), X, sI X 366 0 0, ?_, ?_, hT.told 0⟩
        · simp only [fX11_written, fX8_entryOf, h.1, h.2.1, h.2.2, li_T, li_L, li_R, nm, bd, q_b, ne_eq, Nat.reduceEqDiff, reduceCtorEq, and_false, false_and, and_true, true_and, and_self, not_false_eq_true, not_true_eq_false, ↓reduceIte, n16_T, n16_L, n16_R, ee, ei, q_isE h wG, q_isH h w6, bo_t g1, bo_t g2, b1, fX6_at, at10, k1, k2.1, k2.2]
        · simp only [fX12_written, h.1, h.2.1, h.2.2, li_T, li_L, li_R, nm, bd, q_b, ne_eq, Nat.reduceEqDiff, reduceCtorEq, and_false, false_and, and_true, true_and, and_self, not_false_eq_true, not_true_eq_false, ↓reduceIte, n16_T, n16_L, n16_R, ee, ei, mT_sI, mR_sI, mL_sI, mJ_sI, p_isE hs R' iv.1.2.2.1, p_isH hs y6 h3, bo_t g1, bo_t g2, b1, r_oH0, bH1 e8 i10, bH2 e8 i10, bH3 e8 i10, Nat.reduceLT, rd0]
      · by_cases q1 : v3 = 1
        · subst q1
          have sums : nf (sB1 e i (gW 16 X)) (Cn (gW 16 X) e) 0 0 = nf (sT1 e i (gW 16 X)) (Cn (gW 16 X) e) 0 0 - nf (sF1 e i (gW 16 X)) (Cn (gW 16 X) e) 0 0 := by
            have z := sB_TF e i (gW 16 X) (Cn (gW 16 X) e) 0 0 0
            rw [Int64.sub_self] at z
            exact z
          refine ⟨mJ X 47 (10 * e + i) + nf (sT1 e i (gW 16 X)) (Cn (gW 16 X) e) 0 0 - nf (sF1 e i (gW 16 X)) (Cn (gW 16 X) e) 0 0, X, sI X 366 0 0, ?_, ?_, hT.told 0⟩
          · simp only [fX11_written, fX8_entryOf, h.1, h.2.1, h.2.2, li_T, li_L, li_R, nm, bd, q_b, ne_eq, Nat.reduceEqDiff, reduceCtorEq, and_false, false_and, and_true, true_and, and_self, not_false_eq_true, not_true_eq_false, ↓reduceIte, n16_T, n16_L, n16_R, ee, ei, q_isE h wG, q_isH h w6, bo_t g1, bo_t g2, b1, fX6_at, at10, k1, k2.1, k2.2, q_clTo h e8 hc.1 hc.2 (show 64 ≤ n by omega), q_clFr h e8 hc.1 hc.2 (show 64 ≤ n by omega)]
          · simp only [fX12_written, h.1, h.2.1, h.2.2, li_T, li_L, li_R, nm, bd, q_b, ne_eq, Nat.reduceEqDiff, reduceCtorEq, and_false, false_and, and_true, true_and, and_self, not_false_eq_true, not_true_eq_false, ↓reduceIte, n16_T, n16_L, n16_R, ee, ei, mT_sI, mR_sI, mL_sI, mJ_sI, p_isE hs R' iv.1.2.2.1, p_isH hs y6 h3, bo_t g1, bo_t g2, b1, r_oH0, bH1 e8 i10, bH2 e8 i10, bH3 e8 i10, Nat.reduceLT, rd0, p_clBy hs R' he hc.1 hc.2 (show 64 ≤ n by omega), sums]
            rw [Int64.sub_eq_add_neg, Int64.sub_eq_add_neg, Int64.add_assoc]
        · by_cases g3 : 2 ≤ v3 ∧ v3 ≤ 6
          · have i9 := inL_cc (v := v3) (l := 2) (n := 6) (m := 7) g3 (by decide) (by decide) (by decide)
            obtain ⟨k, hk, ek⟩ := inL_of i9 (by decide)
            rcases (by omega : k = 0 ∨ k = 1 ∨ k = 2 ∨ k = 3 ∨ k = 4 ∨ k = 5 ∨ k = 6) with rfl | rfl | rfl | rfl | rfl | rfl | rfl
            · exact absurd ek q0
            · exact absurd ek q1
            · have ek2 : v3 = 2 := ek
              have g4 : (2 : Int32) ≤ 2 ∧ (2 : Int32) ≤ 6 := by decide
              have dm : (2 : Int32) - 1 = 1 := by decide
              have z0 : ¬ (2 : Int32) = 0 := by decide
              have z1 : ¬ (2 : Int32) = 1 := by decide
              refine ⟨mJ X 48 (10 * e + i), X, sI X 366 0 0, ?_, ?_, hT.told 0⟩
              · simp only [fX11_written, fX8_entryOf, h.1, h.2.1, h.2.2, li_T, li_L, li_R, nm, bd, q_b, ne_eq, Nat.reduceEqDiff, reduceCtorEq, and_false, false_and, and_true, true_and, and_self, not_false_eq_true, not_true_eq_false, ↓reduceIte, n16_T, n16_L, n16_R, ee, ei, ek2, q_isE h wG, q_isH h w6, bo_t g1, bo_t g2, b1, fX6_at, at10, k1, k2.1, k2.2, z0, z1]
              · simp only [fX12_written, h.1, h.2.1, h.2.2, li_T, li_L, li_R, nm, bd, q_b, ne_eq, Nat.reduceEqDiff, reduceCtorEq, and_false, false_and, and_true, true_and, and_self, not_false_eq_true, not_true_eq_false, ↓reduceIte, n16_T, n16_L, n16_R, ee, ei, ek2, mT_sI, mR_sI, mL_sI, mJ_sI, p_isE hs R' iv.1.2.2.1, p_isH hs y6 h3, bo_t g1, bo_t g2, b1, r_oH0, r_inb (2) 2 6 (lo := 2) (hi := 6) (by decide) (by decide), bo_t g4, dm, r_oH1, bH1 e8 i10, bH2 e8 i10, bH3 e8 i10, Nat.reduceLT, rd1, z0, z1]
            · have ek2 : v3 = 3 := ek
              have g4 : (2 : Int32) ≤ 3 ∧ (3 : Int32) ≤ 6 := by decide
              have dm : (3 : Int32) - 1 = 2 := by decide
              have z0 : ¬ (3 : Int32) = 0 := by decide
              have z1 : ¬ (3 : Int32) = 1 := by decide
              have z2 : ¬ (3 : Int32) = 2 := by decide
              refine ⟨mJ X 49 (10 * e + i), X, sI X 366 0 0, ?_, ?_, hT.told 0⟩
              · simp only [fX11_written, fX8_entryOf, h.1, h.2.1, h.2.2, li_T, li_L, li_R, nm, bd, q_b, ne_eq, Nat.reduceEqDiff, reduceCtorEq, and_false, false_and, and_true, true_and, and_self, not_false_eq_true, not_true_eq_false, ↓reduceIte, n16_T, n16_L, n16_R, ee, ei, ek2, q_isE h wG, q_isH h w6, bo_t g1, bo_t g2, b1, fX6_at, at10, k1, k2.1, k2.2, z0, z1, z2]
              · simp only [fX12_written, h.1, h.2.1, h.2.2, li_T, li_L, li_R, nm, bd, q_b, ne_eq, Nat.reduceEqDiff, reduceCtorEq, and_false, false_and, and_true, true_and, and_self, not_false_eq_true, not_true_eq_false, ↓reduceIte, n16_T, n16_L, n16_R, ee, ei, ek2, mT_sI, mR_sI, mL_sI, mJ_sI, p_isE hs R' iv.1.2.2.1, p_isH hs y6 h3, bo_t g1, bo_t g2, b1, r_oH0, r_inb (3) 2 6 (lo := 2) (hi := 6) (by decide) (by decide), bo_t g4, dm, r_oH2, bH1 e8 i10, bH2 e8 i10, bH3 e8 i10, Nat.reduceLT, rd2, z0, z1, z2]
            · have ek2 : v3 = 4 := ek
              have g4 : (2 : Int32) ≤ 4 ∧ (4 : Int32) ≤ 6 := by decide
              have dm : (4 : Int32) - 1 = 3 := by decide
              have z0 : ¬ (4 : Int32) = 0 := by decide
              have z1 : ¬ (4 : Int32) = 1 := by decide
              have z2 : ¬ (4 : Int32) = 2 := by decide
              have z3 : ¬ (4 : Int32) = 3 := by decide
              refine ⟨mJ X 50 (10 * e + i), X, sI X 366 0 0, ?_, ?_, hT.told 0⟩
              · simp only [fX11_written, fX8_entryOf, h.1, h.2.1, h.2.2, li_T, li_L, li_R, nm, bd, q_b, ne_eq, Nat.reduceEqDiff, reduceCtorEq, and_false, false_and, and_true, true_and, and_self, not_false_eq_true, not_true_eq_false, ↓reduceIte, n16_T, n16_L, n16_R, ee, ei, ek2, q_isE h wG, q_isH h w6, bo_t g1, bo_t g2, b1, fX6_at, at10, k1, k2.1, k2.2, z0, z1, z2, z3]
              · simp only [fX12_written, h.1, h.2.1, h.2.2, li_T, li_L, li_R, nm, bd, q_b, ne_eq, Nat.reduceEqDiff, reduceCtorEq, and_false, false_and, and_true, true_and, and_self, not_false_eq_true, not_true_eq_false, ↓reduceIte, n16_T, n16_L, n16_R, ee, ei, ek2, mT_sI, mR_sI, mL_sI, mJ_sI, p_isE hs R' iv.1.2.2.1, p_isH hs y6 h3, bo_t g1, bo_t g2, b1, r_oH0, r_inb (4) 2 6 (lo := 2) (hi := 6) (by decide) (by decide), bo_t g4, dm, r_oH3, bH1 e8 i10, bH2 e8 i10, bH3 e8 i10, Nat.reduceLT, rd3, z0, z1, z2, z3]
            · have ek2 : v3 = 5 := ek
              have g4 : (2 : Int32) ≤ 5 ∧ (5 : Int32) ≤ 6 := by decide
              have dm : (5 : Int32) - 1 = 4 := by decide
              have z0 : ¬ (5 : Int32) = 0 := by decide
              have z1 : ¬ (5 : Int32) = 1 := by decide
              have z2 : ¬ (5 : Int32) = 2 := by decide
              have z3 : ¬ (5 : Int32) = 3 := by decide
              have z4 : ¬ (5 : Int32) = 4 := by decide
              refine ⟨mJ X 51 (10 * e + i), X, sI X 366 0 0, ?_, ?_, hT.told 0⟩
              · simp only [fX11_written, fX8_entryOf, h.1, h.2.1, h.2.2, li_T, li_L, li_R, nm, bd, q_b, ne_eq, Nat.reduceEqDiff, reduceCtorEq, and_false, false_and, and_true, true_and, and_self, not_false_eq_true, not_true_eq_false, ↓reduceIte, n16_T, n16_L, n16_R, ee, ei, ek2, q_isE h wG, q_isH h w6, bo_t g1, bo_t g2, b1, fX6_at, at10, k1, k2.1, k2.2, z0, z1, z2, z3, z4]
              · simp only [fX12_written, h.1, h.2.1, h.2.2, li_T, li_L, li_R, nm, bd, q_b, ne_eq, Nat.reduceEqDiff, reduceCtorEq, and_false, false_and, and_true, true_and, and_self, not_false_eq_true, not_true_eq_false, ↓reduceIte, n16_T, n16_L, n16_R, ee, ei, ek2, mT_sI, mR_sI, mL_sI, mJ_sI, p_isE hs R' iv.1.2.2.1, p_isH hs y6 h3, bo_t g1, bo_t g2, b1, r_oH0, r_inb (5) 2 6 (lo := 2) (hi := 6) (by decide) (by decide), bo_t g4, dm, r_oH4, bH1 e8 i10, bH2 e8 i10, bH3 e8 i10, Nat.reduceLT, rd4, z0, z1, z2, z3, z4]
            · have ek2 : v3 = 6 := ek
              have g4 : (2 : Int32) ≤ 6 ∧ (6 : Int32) ≤ 6 := by decide
              have dm : (6 : Int32) - 1 = 5 := by decide
              have z0 : ¬ (6 : Int32) = 0 := by decide
              have z1 : ¬ (6 : Int32) = 1 := by decide
              have z2 : ¬ (6 : Int32) = 2 := by decide
              have z3 : ¬ (6 : Int32) = 3 := by decide
              have z4 : ¬ (6 : Int32) = 4 := by decide
              have z5 : ¬ (6 : Int32) = 5 := by decide
              refine ⟨mJ X 52 (10 * e + i), X, sI X 366 0 0, ?_, ?_, hT.told 0⟩
              · simp only [fX11_written, fX8_entryOf, h.1, h.2.1, h.2.2, li_T, li_L, li_R, nm, bd, q_b, ne_eq, Nat.reduceEqDiff, reduceCtorEq, and_false, false_and, and_true, true_and, and_self, not_false_eq_true, not_true_eq_false, ↓reduceIte, n16_T, n16_L, n16_R, ee, ei, ek2, q_isE h wG, q_isH h w6, bo_t g1, bo_t g2, b1, fX6_at, at10, k1, k2.1, k2.2, z0, z1, z2, z3, z4, z5]
              · simp only [fX12_written, h.1, h.2.1, h.2.2, li_T, li_L, li_R, nm, bd, q_b, ne_eq, Nat.reduceEqDiff, reduceCtorEq, and_false, false_and, and_true, true_and, and_self, not_false_eq_true, not_true_eq_false, ↓reduceIte, n16_T, n16_L, n16_R, ee, ei, ek2, mT_sI, mR_sI, mL_sI, mJ_sI, p_isE hs R' iv.1.2.2.1, p_isH hs y6 h3, bo_t g1, bo_t g2, b1, r_oH0, r_inb (6) 2 6 (lo := 2) (hi := 6) (by decide) (by decide), bo_t g4, dm, r_oH5, bH1 e8 i10, bH2 e8 i10, bH3 e8 i10, Nat.reduceLT, rd5, z0, z1, z2, z3, z4, z5]
          · refine ⟨-9223372036854775808, X, sI X 366 0 0, ?_, ?_, hT.told 0⟩
            · have z2 : ¬ v3 = 2 := fun z => g3 (by rw [z]; decide)
              have z3 : ¬ v3 = 3 := fun z => g3 (by rw [z]; decide)
              have z4 : ¬ v3 = 4 := fun z => g3 (by rw [z]; decide)
              have z5 : ¬ v3 = 5 := fun z => g3 (by rw [z]; decide)
              have z6 : ¬ v3 = 6 := fun z => g3 (by rw [z]; decide)
              simp only [fX11_written, fX8_entryOf, h.1, h.2.1, h.2.2, li_T, li_L, li_R, nm, bd, q_b, ne_eq, Nat.reduceEqDiff, reduceCtorEq, and_false, false_and, and_true, true_and, and_self, not_false_eq_true, not_true_eq_false, ↓reduceIte, n16_T, n16_L, n16_R, ee, ei, q_isE h wG, q_isH h w6, bo_t g1, bo_t g2, b1, fX6_at, at10, q0, q1, z2, z3, z4, z5, z6]
            · simp only [fX12_written, h.1, h.2.1, h.2.2, li_T, li_L, li_R, nm, bd, q_b, ne_eq, Nat.reduceEqDiff, reduceCtorEq, and_false, false_and, and_true, true_and, and_self, not_false_eq_true, not_true_eq_false, ↓reduceIte, n16_T, n16_L, n16_R, ee, ei, mT_sI, mR_sI, mL_sI, mJ_sI, p_isE hs R' iv.1.2.2.1, p_isH hs y6 h3, bo_t g1, bo_t g2, b1, r_oH0, bH1 e8 i10, bH2 e8 i10, bH3 e8 i10, Nat.reduceLT, q0, q1, r_inb v3 2 6 (lo := 2) (hi := 6) (by decide) (by decide), bo_f g3]
    · refine ⟨-9223372036854775808, X, sI X 366 0 0, ?_, ?_, hT.told 0⟩
      · simp only [fX11_written, fX11_written_L38, h.1, h.2.1, h.2.2, li_T, li_L, li_R, nm, bd, q_b, ne_eq, Nat.reduceEqDiff, reduceCtorEq, and_false, false_and, and_true, true_and, and_self, not_false_eq_true, not_true_eq_false, ↓reduceIte, n16_T, n16_L, n16_R, ee, q_isE h wG, q_isH h w6, bo_t g1, bo_f g2, b1]
      · simp only [fX12_written, fX12_written_L21, h.1, h.2.1, h.2.2, li_T, li_L, li_R, nm, bd, q_b, ne_eq, Nat.reduceEqDiff, reduceCtorEq, and_false, false_and, and_true, true_and, and_self, not_false_eq_true, not_true_eq_false, ↓reduceIte, n16_T, n16_L, n16_R, ee, mT_sI, p_isE hs R' iv.1.2.2.1, p_isH hs y6 h3, bo_t g1, bo_f g2, b1]
  · refine ⟨-9223372036854775808, X, sI X 366 0 0, ?_, ?_, hT.told 0⟩
    · simp only [fX11_written, fX11_written_L38, h.1, h.2.1, h.2.2, li_T, li_L, li_R, nm, bd, q_b, ne_eq, Nat.reduceEqDiff, reduceCtorEq, and_false, false_and, and_true, true_and, and_self, not_false_eq_true, not_true_eq_false, ↓reduceIte, n16_T, n16_L, n16_R, q_isE h wG, bo_f g1]
    · simp only [fX12_written, fX12_written_L21, h.1, h.2.1, h.2.2, li_T, li_L, li_R, nm, bd, q_b, ne_eq, Nat.reduceEqDiff, reduceCtorEq, and_false, false_and, and_true, true_and, and_self, not_false_eq_true, not_true_eq_false, ↓reduceIte, n16_T, n16_L, n16_R, mT_sI, p_isE hs R' iv.1.2.2.1, bo_f g1]
end
