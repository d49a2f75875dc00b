/-! STATE: PAYING all EVENTS; what WAITS; a DAY -/
def N_prh (C e h : Nat) (w : Wt) : Wt := if 0 ≤ lg_cmp (N_ro C e h w) 0 then N_ur e h (N_ro C e h w) w else N_op e h (N_ro C e h w) w
def N_prc (e i : Nat) (w : Wt) : Wt := uI w 42 (60 * e + i) 1
def N_pr (H C e : Nat) (w : Wt) : Wt := nf (N_prc e) C 0 (nf (N_prh C e) H 0 w)
theorem N_prh_1 (C e h : Nat) (w : Wt) : (N_prh C e h w).1 = w.1 := by
  unfold N_prh
  split
  · rfl
  · rfl
theorem N_prc_1 (e i : Nat) (w : Wt) {a : Nat} (ha : a ≠ 42) (k : Nat) : (N_prc e i w).1 a k = w.1 a k := by
  unfold N_prc
  rw [uI_1, if_neg (fun h => ha h.1)]
theorem Ok.prc {T G H e i : Nat} {w : Wt} (h : Ok T G H w.1) : Ok T G H (N_prc e i w).1 := h.same fun a ha k _ => N_prc_1 e i w (by omega) k
noncomputable def N_pe (H e : Nat) (w : Wt) : Wt := if w.1 25 e = 1 then if w.1 24 e = w.1 0 8 then
  uI (if w.1 14 e = 2 then N_pr H (w.1 26 e).toNatClampNeg e w else N_po H (w.1 26 e).toNatClampNeg e w) 25 e 2 else w else w
noncomputable def N_pwi (e i : Nat) (w : Wt) : Wt := by
  classical
  exact if w.1 27 e ≤ 0 then w else if w.1 42 (60 * e + i) = 2 then if N_pcB e i w then uI (N_pc e i w) 27 e ((N_pc e i w).1 27 e - 1) else w else w
noncomputable def N_pw (e : Nat) (w : Wt) : Wt := nf (N_pwi e) (w.1 26 e).toNatClampNeg 0 w
noncomputable def N_day (T G H : Nat) (w : Wt) : Wt := nf N_pw G 0 (nf (N_pe H) G 0 (nf (N_we T G H) G 0 (nf N_settle T 0 (uI w 0 8 (w.1 0 8 + 1)))))
theorem nf_stay {A : Type} {f : Nat → A → A} {w : A} (h : ∀ i, f i w = w) : ∀ m i, nf f m i w = w := by
  intro m
  induction m with
  | zero => intro i; rfl
  | succ m ih => intro i; rw [nf, h]; exact ih (i + 1)
theorem N_pwi_1 (e i : Nat) (w : Wt) {a : Nat} (ha : a ≠ 42) (hb : a ≠ 27) (k : Nat) : (N_pwi e i w).1 a k = w.1 a k := by
  unfold N_pwi
  split
  · rfl
  · split
    · split
      · rw [uI_1, if_neg (fun h => hb h.1), N_pc_1 e i w ha]
      · rfl
    · rfl
theorem Ok.pwi {T G H e i : Nat} {w : Wt} (h : Ok T G H w.1) : Ok T G H (N_pwi e i w).1 := h.same fun a ha k _ => N_pwi_1 e i w (by omega) (by omega) k
theorem Ok.settle {T G H t : Nat} {w : Wt} (h : Ok T G H w.1) : Ok T G H (N_settle t w).1 := h.same fun a ha k _ => N_settle_1 t w (by omega) (by omega) k
theorem nf_ok {P : Wt → Prop} {f : Nat → Wt → Wt} (h : ∀ i w, P w → P (f i w)) : ∀ m i w, P w → P (nf f m i w) := by
  intro m
  induction m with
  | zero => intro i w hw; exact hw
  | succ m ih => intro i w hw; exact ih (i + 1) (f i w) (h i w hw)
theorem Ok.cnt {T G H e : Nat} {f : Nat → Nat → Int32} (h : Ok T G H f) (he : e < G) : f 26 e = nI (f 26 e).toNatClampNeg ∧ (f 26 e).toNatClampNeg ≤ 60 := by
  obtain ⟨-, -, c, hc6, hc, -⟩ := h.2.2.2.2.2.2.2 e he
  rw [hc, nI_clamp (by omega)]
  exact ⟨rfl, hc6⟩
section
variable {bk dr s : Nat} {X : Mm}
theorem c_payRights (h : Shp bk dr X) (hs : St s) {T G H e n C : Nat} {w : Wt} (ok : Ok T G H w.1) (he : e < G) (hC : w.1 26 e = nI C) (hC6 : C ≤ 60) (hn : 64 ≤ n) : fX8_payRights n s (nI e) (pW s w X) = some ((), pW s (N_pr H C e w) X) ∧ Ok T G H (N_pr H C e w).1 := by
  have hG := ok.2.2.2.1
  have hH := ok.2.2.2.2.2.1
  have e1 : (nI e).toNatClampNeg = e := nI_clamp (by omega)
  have e2 := inL_nI (j := e) (n := 8) (by omega) (by decide)
  have gH := loop_ga (F := fun j i v => fX8_payRights_L2 n j s (nI e) i (pW s v X)) (N := N_prh C e) (I := fun _ v => v.1 = w.1) (out := fun v => fX8_payRights_L48 n n s (nI e) 0 (pW s v X)) H
    (fun j i v hi hI => by
      have e3 : ¬ nI H ≤ nI i := nI_ge hi (by omega)
      have okv : Ok T G H v.1 := by rw [hI]; exact ok
      have hCv : v.1 26 e = nI C := by rw [hI]; exact hC
      have h5 : v.1 0 6 = nI H := okv.2.2.2.2.1
      rw [fX8_payRights_L2]
      simp only [h.1, h.2.1, h.2.2, st_T s hs, st_L s hs, st_R hs, mT_pW, mL_pW, mR_pW, mI_pW, mJ_pW, mI_pW0, mJ_pW0, sI_pW, sJ_pW, sI_pW0, nm, bd, q_b, ne_eq, Nat.add_eq_zero_iff, Nat.reduceEqDiff, Nat.reduceLeDiff, Nat.reduceAdd, and_false, false_and, and_true, true_and, and_self, not_false_eq_true, not_true_eq_false, reduceCtorEq, ↓reduceIte, h5, e3, c_rightsOf h hs okv he (show i < 10 by omega) hCv hC6 hn]
      by_cases g1 : 0 ≤ lg_cmp (N_ro C e i v) 0
      · simp only [g1, ↓reduceIte, c_use h hs (show e < 8 by omega) (show i < 10 by omega) (okv.2.2.2.2.2.2.2 e he).1, fX8_payRights_L40, nm, nI_1, N_prh]
      · simp only [g1, ↓reduceIte, c_owe h hs (show e < 8 by omega) (show i < 10 by omega), fX8_payRights_L40, nm, nI_1, N_prh])
    (fun i v hi hI => (N_prh_1 C e i v).trans hI)
    (fun j v hI => by
      have e3 : nI H ≤ nI H := nI_le (Nat.le_refl _) (by omega)
      have h5 : v.1 0 6 = nI H := by rw [hI]; exact ok.2.2.2.2.1
      rw [fX8_payRights_L2]
      simp only [h.1, h.2.1, h.2.2, st_T s hs, st_L s hs, st_R hs, mT_pW, mL_pW, mR_pW, mI_pW, mJ_pW, mI_pW0, mJ_pW0, sI_pW, sJ_pW, sI_pW0, nm, bd, q_b, ne_eq, Nat.add_eq_zero_iff, Nat.reduceEqDiff, Nat.reduceLeDiff, Nat.reduceAdd, and_false, false_and, and_true, true_and, and_self, not_false_eq_true, not_true_eq_false, reduceCtorEq, ↓reduceIte, h5, e3]) H 0 w n (by omega) (by omega) rfl
  have gC := loop_ga (F := fun j i v => fX8_payRights_L48 n j s (nI e) i (pW s v X)) (N := N_prc e) (I := fun _ v => Ok T G H v.1 ∧ v.1 26 e = nI C) (out := fun v => some ((), pW s v X)) C
    (fun j i v hi hI => by
      have e3 : ¬ nI C ≤ nI i := nI_ge hi (by omega)
      have k1 : (nI (60 * e + i)).toNatClampNeg = 60 * e + i := nI_clamp (by omega)
      have k2 := inL_nI (j := 60 * e + i) (n := 480) (by omega) (by decide)
      rw [fX8_payRights_L48]
      simp only [h.1, h.2.1, h.2.2, st_T s hs, st_L s hs, st_R hs, mT_pW, mL_pW, mR_pW, mI_pW, mJ_pW, mI_pW0, mJ_pW0, sI_pW, sJ_pW, sI_pW0, nm, bd, q_b, ne_eq, Nat.add_eq_zero_iff, Nat.reduceEqDiff, Nat.reduceLeDiff, Nat.reduceAdd, and_false, false_and, and_true, true_and, and_self, not_false_eq_true, not_true_eq_false, reduceCtorEq, ↓reduceIte, hI.2, e3, e1, e2.1, e2.2, fX1_at, at60, k1, k2.1, k2.2, nI_1, N_prc])
    (fun i v hi hI => ⟨hI.1.prc, by rw [N_prc_1 e i v (by omega)]; exact hI.2⟩)
    (fun j v hI => by
      have e3 : nI C ≤ nI C := nI_le (Nat.le_refl _) (by omega)
      rw [fX8_payRights_L48]
      simp only [h.1, h.2.1, h.2.2, st_T s hs, st_L s hs, st_R hs, mT_pW, mL_pW, mR_pW, mI_pW, mJ_pW, mI_pW0, mJ_pW0, sI_pW, sJ_pW, sI_pW0, nm, bd, q_b, ne_eq, Nat.add_eq_zero_iff, Nat.reduceEqDiff, Nat.reduceLeDiff, Nat.reduceAdd, and_false, false_and, and_true, true_and, and_self, not_false_eq_true, not_true_eq_false, reduceCtorEq, ↓reduceIte, hI.2, e3, e1, e2.1, e2.2]) C 0 (nf (N_prh C e) H 0 w) n (by omega) (by omega) ⟨by rw [gH.2]; exact ok, by rw [gH.2]; exact hC⟩
  exact ⟨gH.1.trans gC.1, gC.2.1⟩
theorem c_pe (h : Shp bk dr X) (hs : St s) {T G H e n : Nat} {w : Wt} (ok : Ok T G H w.1) (he : e < G) (hn : 64 ≤ n) (j : Nat) : fX8_payEvents_L2 n (j + 1) s (nI e) (pW s w X) = fX8_payEvents_L2 n j s (nI (e + 1)) (pW s (N_pe H e w) X) ∧ Ok T G H (N_pe H e w).1 := by
  have hG := ok.2.2.2.1
  have e1 : (nI e).toNatClampNeg = e := nI_clamp (by omega)
  have e2 := inL_nI (j := e) (n := 8) (by omega) (by decide)
  have e3 : ¬ nI G ≤ nI e := nI_ge he (by omega)
  have hc := ok.cnt he
  have hr := c_payRights (X := X) h hs ok he hc.1 hc.2 hn
  have ho := c_payOut (X := X) h hs ok he hc.1 hc.2 hn
  rw [fX8_payEvents_L2]
  simp only [h.1, h.2.1, h.2.2, st_T s hs, st_L s hs, st_R hs, mT_pW, mL_pW, mR_pW, mI_pW, mJ_pW, mI_pW0, mJ_pW0, sI_pW, sJ_pW, sI_pW0, nm, bd, q_b, ne_eq, Nat.add_eq_zero_iff, Nat.reduceEqDiff, Nat.reduceLeDiff, Nat.reduceAdd, and_false, false_and, and_true, true_and, and_self, not_false_eq_true, not_true_eq_false, reduceCtorEq, ↓reduceIte, ok.2.2.1, e3, e1, e2.1, e2.2]
  by_cases g1 : w.1 25 e = 1
  · by_cases g2 : w.1 24 e = w.1 0 8
    · by_cases g3 : w.1 14 e = 2
      · refine ⟨?_, ?_⟩
        · simp only [g1, g2, g3, ↓reduceIte, hr.1, fX8_payEvents_L68, fX8_payEvents_L78, h.1, h.2.1, h.2.2, st_T s hs, st_L s hs, st_R hs, mT_pW, mL_pW, mR_pW, mI_pW, mJ_pW, mI_pW0, mJ_pW0, sI_pW, sJ_pW, sI_pW0, nm, bd, q_b, ne_eq, Nat.add_eq_zero_iff, Nat.reduceEqDiff, Nat.reduceLeDiff, Nat.reduceAdd, and_false, false_and, and_true, true_and, and_self, not_false_eq_true, not_true_eq_false, reduceCtorEq, ↓reduceIte, e1, e2.1, e2.2, nI_1, N_pe]
        · simp only [N_pe, g1, g2, g3, ↓reduceIte]
          exact hr.2.uI (by omega) (fun q => by omega)
      · refine ⟨?_, ?_⟩
        · simp only [g1, g2, g3, ↓reduceIte, ho.1, fX8_payEvents_L68, fX8_payEvents_L78, h.1, h.2.1, h.2.2, st_T s hs, st_L s hs, st_R hs, mT_pW, mL_pW, mR_pW, mI_pW, mJ_pW, mI_pW0, mJ_pW0, sI_pW, sJ_pW, sI_pW0, nm, bd, q_b, ne_eq, Nat.add_eq_zero_iff, Nat.reduceEqDiff, Nat.reduceLeDiff, Nat.reduceAdd, and_false, false_and, and_true, true_and, and_self, not_false_eq_true, not_true_eq_false, reduceCtorEq, ↓reduceIte, e1, e2.1, e2.2, nI_1, N_pe]
        · simp only [N_pe, g1, g2, g3, ↓reduceIte]
          exact ho.2.uI (by omega) (fun q => by omega)
    · refine ⟨?_, ?_⟩
      · simp only [g1, g2, ↓reduceIte, fX8_payEvents_L78, nm, nI_1, N_pe]
      · simp only [N_pe, g1, g2, ↓reduceIte]
        exact ok
  · refine ⟨?_, ?_⟩
    · simp only [g1, ↓reduceIte, fX8_payEvents_L78, nm, nI_1, N_pe]
    · simp only [N_pe, g1, ↓reduceIte]
      exact ok
theorem c_payEvents (h : Shp bk dr X) (hs : St s) {T G H n : Nat} {w : Wt} (ok : Ok T G H w.1) (hn : 64 ≤ n) : fX8_payEvents n s (pW s w X) = some ((), pW s (nf (N_pe H) G 0 w) X) ∧ Ok T G H (nf (N_pe H) G 0 w).1 := by
  have hG := ok.2.2.2.1
  have g := loop_ga (F := fun j i w => fX8_payEvents_L2 n j s i (pW s w X)) (N := N_pe H) (I := fun _ w => Ok T G H w.1) (out := fun w => some ((), pW s w X)) G
    (fun j i w hi hI => (c_pe h hs hI hi hn j).1) (fun i w hi hI => (c_pe (X := X) h hs hI hi hn 0).2)
    (fun j w hI => by
      have e3 : nI G ≤ nI G := nI_le (Nat.le_refl _) (by omega)
      rw [fX8_payEvents_L2]
      simp only [h.1, h.2.1, h.2.2, st_T s hs, st_L s hs, st_R hs, mT_pW, mL_pW, mR_pW, mI_pW, mJ_pW, mI_pW0, mJ_pW0, sI_pW, sJ_pW, sI_pW0, nm, bd, q_b, ne_eq, Nat.add_eq_zero_iff, Nat.reduceEqDiff, Nat.reduceLeDiff, Nat.reduceAdd, and_false, false_and, and_true, true_and, and_self, not_false_eq_true, not_true_eq_false, reduceCtorEq, ↓reduceIte, hI.2.2.1, e3]) G 0 w n (by omega) (by omega) ok
  exact g
theorem c_pwi (h : Shp bk dr X) (hs : St s) {T G H e n C : Nat} (he : e < G) (hC6 : C ≤ 60) (k2 : Nat → Int32 → Mm → Option (Unit × Mm)) : ∀ (m i : Nat) (w : Wt) (j : Nat), i + m = C → m < j → Ok T G H w.1 → w.1 26 e = nI C →
    fX8_payWaiting_L15 n k2 j s (nI e) (nI i) (pW s w X) = k2 s (nI (e + 1)) (pW s (nf (N_pwi e) m i w) X) := by
  intro m
  induction m with
  | zero =>
    intro i w j h1 h2 ok hC
    have hG := ok.2.2.2.1
    have e1 : (nI e).toNatClampNeg = e := nI_clamp (by omega)
    have e2 := inL_nI (j := e) (n := 8) (by omega) (by decide)
    obtain ⟨j, rfl⟩ : ∃ k, j = k + 1 := ⟨j - 1, by omega⟩
    have e3 : nI C ≤ nI i := nI_le (by omega) (by omega)
    rw [fX8_payWaiting_L15]
    simp only [h.1, h.2.1, h.2.2, st_T s hs, st_L s hs, st_R hs, mT_pW, mL_pW, mR_pW, mI_pW, mJ_pW, mI_pW0, mJ_pW0, sI_pW, sJ_pW, sI_pW0, nm, bd, q_b, ne_eq, Nat.add_eq_zero_iff, Nat.reduceEqDiff, Nat.reduceLeDiff, Nat.reduceAdd, and_false, false_and, and_true, true_and, and_self, not_false_eq_true, not_true_eq_false, reduceCtorEq, ↓reduceIte, hC, e3, e1, e2.1, e2.2, fX8_payWaiting_L85, nI_1, nf]
  | succ m ih =>
    intro i w j h1 h2 ok hC
    have hG := ok.2.2.2.1
    have e1 : (nI e).toNatClampNeg = e := nI_clamp (by omega)
    have e2 := inL_nI (j := e) (n := 8) (by omega) (by decide)
    obtain ⟨j, rfl⟩ : ∃ k, j = k + 1 := ⟨j - 1, by omega⟩
    have e3 : ¬ nI C ≤ nI i := nI_ge (by omega) (by omega)
    have k1 : (nI (60 * e + i)).toNatClampNeg = 60 * e + i := nI_clamp (by omega)
    have q2 := inL_nI (j := 60 * e + i) (n := 480) (by omega) (by decide)
    have hp := c_paysClaim (X := X) h hs (e := e) (i := i) (w := w) (by omega) (by omega) (ok.at he hC hC6 (by omega)).1 (ok.at he hC hC6 (by omega)).2 (ok.2.2.2.2.2.2.2 e he).1
    have z1 : ¬ (1 : Int32) = 0 := by decide
    have next := ih (i + 1) (N_pwi e i w) j (by omega) (by omega) ok.pwi (by rw [N_pwi_1 e i w (by omega) (by omega)]; exact hC)
    rw [fX8_payWaiting_L15]
    simp only [h.1, h.2.1, h.2.2, st_T s hs, st_L s hs, st_R hs, mT_pW, mL_pW, mR_pW, mI_pW, mJ_pW, mI_pW0, mJ_pW0, sI_pW, sJ_pW, sI_pW0, nm, bd, q_b, ne_eq, Nat.add_eq_zero_iff, Nat.reduceEqDiff, Nat.reduceLeDiff, Nat.reduceAdd, and_false, false_and, and_true, true_and, and_self, not_false_eq_true, not_true_eq_false, reduceCtorEq, ↓reduceIte, hC, e3, e1, e2.1, e2.2]
    by_cases g1 : w.1 27 e ≤ 0
    · have hst : nf (N_pwi e) (m + 1) i w = w := nf_stay (fun i => by unfold N_pwi; rw [if_pos g1]) _ _
      simp only [g1, ↓reduceIte, fX8_payWaiting_L85, nm, nI_1, hst]
    · by_cases g2 : w.1 42 (60 * e + i) = 2
      · by_cases hB : N_pcB e i w
        · have hst : N_pwi e i w = uI (N_pc e i w) 27 e ((N_pc e i w).1 27 e - 1) := by unfold N_pwi; rw [if_neg g1, if_pos g2, if_pos hB]
          rw [hst] at next
          simp only [g1, g2, ↓reduceIte, fX1_at, at60, h.1, h.2.1, h.2.2, st_T s hs, st_L s hs, st_R hs, mT_pW, mL_pW, mR_pW, mI_pW, mJ_pW, mI_pW0, mJ_pW0, sI_pW, sJ_pW, sI_pW0, nm, bd, q_b, ne_eq, Nat.add_eq_zero_iff, Nat.reduceEqDiff, Nat.reduceLeDiff, Nat.reduceAdd, and_false, false_and, and_true, true_and, and_self, not_false_eq_true, not_true_eq_false, reduceCtorEq, ↓reduceIte, k1, q2.1, q2.2, hp.1 hB, z1, e1, e2.1, e2.2, fX8_payWaiting_L79, nI_1, nf, hst, next]
        · have hst : N_pwi e i w = w := by unfold N_pwi; rw [if_neg g1, if_pos g2, if_neg hB]
          rw [hst] at next
          simp only [g1, g2, ↓reduceIte, fX1_at, at60, h.1, h.2.1, h.2.2, st_T s hs, st_L s hs, st_R hs, mT_pW, mL_pW, mR_pW, mI_pW, mJ_pW, mI_pW0, mJ_pW0, sI_pW, sJ_pW, sI_pW0, nm, bd, q_b, ne_eq, Nat.add_eq_zero_iff, Nat.reduceEqDiff, Nat.reduceLeDiff, Nat.reduceAdd, and_false, false_and, and_true, true_and, and_self, not_false_eq_true, not_true_eq_false, reduceCtorEq, ↓reduceIte, k1, q2.1, q2.2, hp.2 hB, fX8_payWaiting_L79, nI_1, nf, hst, next]
      · have hst : N_pwi e i w = w := by unfold N_pwi; rw [if_neg g1, if_neg g2]
        rw [hst] at next
        simp only [g1, g2, ↓reduceIte, fX1_at, at60, h.1, h.2.1, h.2.2, st_T s hs, st_L s hs, st_R hs, mT_pW, mL_pW, mR_pW, mI_pW, mJ_pW, mI_pW0, mJ_pW0, sI_pW, sJ_pW, sI_pW0, nm, bd, q_b, ne_eq, Nat.add_eq_zero_iff, Nat.reduceEqDiff, Nat.reduceLeDiff, Nat.reduceAdd, and_false, false_and, and_true, true_and, and_self, not_false_eq_true, not_true_eq_false, reduceCtorEq, ↓reduceIte, k1, q2.1, q2.2, fX8_payWaiting_L79, nI_1, nf, hst, next]
theorem c_payWaiting (h : Shp bk dr X) (hs : St s) {T G H n : Nat} {w : Wt} (ok : Ok T G H w.1) (hn : 64 ≤ n) : fX8_payWaiting n s (pW s w X) = some ((), pW s (nf N_pw G 0 w) X) ∧ Ok T G H (nf N_pw G 0 w).1 := by
  have hG := ok.2.2.2.1
  have g := loop_ga (F := fun j i w => fX8_payWaiting_L2 n j s i (pW s w X)) (N := N_pw) (I := fun _ w => Ok T G H w.1) (out := fun w => some ((), pW s w X)) G
    (fun j i w hi hI => by
      have hc := hI.cnt hi
      have e3 : ¬ nI G ≤ nI i := nI_ge hi (by omega)
      have hin := c_pwi (X := X) (n := n) h hs hi hc.2 (fX8_payWaiting_L2 n j) (w.1 26 i).toNatClampNeg 0 w n (by omega) (by omega) hI hc.1
      rw [fX8_payWaiting_L2]
      simp only [h.1, h.2.1, h.2.2, st_T s hs, st_L s hs, st_R hs, mT_pW, mL_pW, mR_pW, mI_pW, mJ_pW, mI_pW0, mJ_pW0, sI_pW, sJ_pW, sI_pW0, nm, bd, q_b, ne_eq, Nat.add_eq_zero_iff, Nat.reduceEqDiff, Nat.reduceLeDiff, Nat.reduceAdd, and_false, false_and, and_true, true_and, and_self, not_false_eq_true, not_true_eq_false, reduceCtorEq, ↓reduceIte, hI.2.2.1, e3]
      exact hin)
    (fun i w hi hI => nf_ok (P := fun w => Ok T G H w.1) (fun q w hw => hw.pwi) _ _ w hI)
    (fun j w hI => by
      have e3 : nI G ≤ nI G := nI_le (Nat.le_refl _) (by omega)
      rw [fX8_payWaiting_L2]
      simp only [h.1, h.2.1, h.2.2, st_T s hs, st_L s hs, st_R hs, mT_pW, mL_pW, mR_pW, mI_pW, mJ_pW, mI_pW0, mJ_pW0, sI_pW, sJ_pW, sI_pW0, nm, bd, q_b, ne_eq, Nat.add_eq_zero_iff, Nat.reduceEqDiff, Nat.reduceLeDiff, Nat.reduceAdd, and_false, false_and, and_true, true_and, and_self, not_false_eq_true, not_true_eq_false, reduceCtorEq, ↓reduceIte, hI.2.2.1, e3]) G 0 w n (by omega) (by omega) ok
  exact g
theorem c_settleTrades (h : Shp bk dr X) (hs : St s) {T G H n : Nat} {w : Wt} (ok : Ok T G H w.1) (hn : 64 ≤ n) : fX8_settleTrades n s (pW s w X) = some ((), pW s (nf N_settle T 0 w) X) ∧ Ok T G H (nf N_settle T 0 w).1 :=
  ⟨c_settleL h hs ok.2.1 n T 0 w n (by omega) (by have := ok.2.1; omega) ok.1 (fun i hi => ok.2.2.2.2.2.2.1 i hi), nf_ok (P := fun w => Ok T G H w.1) (fun q w hw => hw.settle) _ _ w ok⟩
theorem c_day (h : Shp bk dr X) (hs : St s) {T G H n : Nat} {w : Wt} (ok : Ok T G H w.1) (hn : 64 ≤ n) (j m i : Nat) (hi : i < m) (hm : m < 2 ^ 31) : fX8_passDays_L2 n (j + 1) s (nI m) (nI i) (pW s w X) = fX8_passDays_L2 n j s (nI m) (nI (i + 1)) (pW s (N_day T G H w) X) ∧ Ok T G H (N_day T G H w).1 := by
  have ok0 : Ok T G H (uI w 0 8 (w.1 0 8 + 1)).1 := ok.uI (by omega) (fun _ => by omega)
  have g1 := c_settleTrades (X := X) h hs ok0 hn
  have g2 := c_writeEvents (X := X) h hs g1.2 hn
  have g3 := c_payEvents (X := X) h hs g2.2 hn
  have g4 := c_payWaiting (X := X) h hs g3.2 hn
  have e3 : ¬ nI m ≤ nI i := nI_ge hi hm
  refine ⟨?_, g4.2⟩
  rw [fX8_passDays_L2]
  simp only [h.1, h.2.1, h.2.2, st_T s hs, st_L s hs, st_R hs, mT_pW, mL_pW, mR_pW, mI_pW, mJ_pW, mI_pW0, mJ_pW0, sI_pW, sJ_pW, sI_pW0, nm, bd, q_b, ne_eq, Nat.add_eq_zero_iff, Nat.reduceEqDiff, Nat.reduceLeDiff, Nat.reduceAdd, and_false, false_and, and_true, true_and, and_self, not_false_eq_true, not_true_eq_false, reduceCtorEq, ↓reduceIte, e3, g1.1, g2.1, g3.1, g4.1, nI_1, N_day]
theorem c_passDays (h : Shp bk dr X) (hs : St s) {T G H n m : Nat} {w : Wt} (ok : Ok T G H w.1) (hn : 64 ≤ n) (hm : m < n) (hm2 : m < 2 ^ 31) : fX8_passDays n s (nI m) (pW s w X) = some ((nf (fun _ => N_day T G H) m 0 w).1 0 8, pW s (nf (fun _ => N_day T G H) m 0 w) X) ∧ Ok T G H (nf (fun _ => N_day T G H) m 0 w).1 := by
  have g := loop_ga (F := fun j i w => fX8_passDays_L2 n j s (nI m) i (pW s w X)) (N := fun _ => N_day T G H) (I := fun _ w => Ok T G H w.1) (out := fun w => some (w.1 0 8, pW s w X)) m
    (fun j i w hi hI => (c_day h hs hI hn j m i hi hm2).1) (fun i w hi hI => (c_day (X := X) h hs hI hn 0 m i hi hm2).2)
    (fun j w hI => by
      have e3 : nI m ≤ nI m := nI_le (Nat.le_refl _) hm2
      rw [fX8_passDays_L2]
      simp only [h.1, h.2.1, h.2.2, st_T s hs, st_L s hs, st_R hs, mT_pW, mL_pW, mR_pW, mI_pW, mJ_pW, mI_pW0, mJ_pW0, sI_pW, sJ_pW, sI_pW0, nm, bd, q_b, ne_eq, Nat.add_eq_zero_iff, Nat.reduceEqDiff, Nat.reduceLeDiff, Nat.reduceAdd, and_false, false_and, and_true, true_and, and_self, not_false_eq_true, not_true_eq_false, reduceCtorEq, ↓reduceIte, e3]) m 0 w n (by omega) (by omega) ok
  exact g
end
