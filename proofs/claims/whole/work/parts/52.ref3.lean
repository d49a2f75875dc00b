/-! THE REFERENCE, against a State: steps in a row; numbers of MONEY and SHARES -/
/-- it answers, and so that Q holds -/
def Ex {B : Type} (m : Option (B × Mm)) (Q : B → Mm → Prop) : Prop := ∃ b X', m = some (b, X') ∧ Q b X'
theorem Ex.bd {A B : Type} {m : Option (A × Mm)} {k : A → Mm → Option (B × Mm)} {Q : A → Mm → Prop} {Q2 : B → Mm → Prop} (h : Ex m Q) (g : ∀ a X', Q a X' → Ex (k a X') Q2) : Ex (bd m k) Q2 := by
  obtain ⟨a, X', h1, h2⟩ := h
  rw [h1]
  exact g a X' h2
theorem Ex.ret {B : Type} {b : B} {X : Mm} {Q : B → Mm → Prop} (h : Q b X) : Ex (some (b, X)) Q := ⟨b, X, rfl, h⟩
theorem Ex.mono {B : Type} {m : Option (B × Mm)} {Q Q2 : B → Mm → Prop} (h : Ex m Q) (g : ∀ b X, Q b X → Q2 b X) : Ex m Q2 := by
  obtain ⟨b, X', h1, h2⟩ := h
  exact ⟨b, X', h1, g _ _ h2⟩
theorem Ex.of {B : Type} {m : Option (B × Mm)} {b : B} {X : Mm} {Q : B → Mm → Prop} (e : m = some (b, X)) (h : Q b X) : Ex m Q := ⟨b, X, e, h⟩
theorem loop_ex {B A : Type} {F : Nat → Int32 → Mm → Option (B × Mm)} {N : Nat → A → A} {I : Nat → A → Mm → Prop} {Q : B → Mm → Prop} (T : Nat)
    (step : ∀ (j i : Nat) (X : Mm) (a : A), i < T → I i a X → (∀ X', I (i + 1) (N i a) X' → Ex (F j (nI (i + 1)) X') Q) → Ex (F (j + 1) (nI i) X) Q) :
    ∀ (m i : Nat) (X : Mm) (a : A) (j : Nat), i + m = T → m < j → I i a X → (∀ (j' : Nat) (X' : Mm), I T (nf N m i a) X' → Ex (F (j' + 1) (nI T) X') Q) → Ex (F j (nI i) X) Q := by
  intro m
  induction m with
  | zero =>
    intro i X a j h1 h2 hI hd
    obtain ⟨j, rfl⟩ : ∃ k, j = k + 1 := ⟨j - 1, by omega⟩
    have h3 : i = T := by omega
    subst h3
    exact hd j X hI
  | succ m ih =>
    intro i X a j h1 h2 hI hd
    obtain ⟨j, rfl⟩ : ∃ k, j = k + 1 := ⟨j - 1, by omega⟩
    exact step j i X a (by omega) hI fun X' h' => ih (i + 1) X' (N i a) j (by omega) (by omega) h' hd
/-- the row of the reference, for a State -/
def RX (X : Mm) (T G : Nat) (w : Wt) (X' : Mm) : Prop := ∃ f, X' = wJ X 367 f ∧ Rl T G f w
theorem bT1 {t : Nat} (h : t < 60) : ∀ k, k < 9 → 0 ≤ (nI (aT t k)).toInt := fun k hk => (inL_nI (n := 4604) (by unfold aT; omega) (by decide)).1
theorem bT2 {t : Nat} (h : t < 60) : ∀ k, k < 9 → (nI (aT t k)).toInt < ((4604 : Nat) : Int) := fun k hk => (inL_nI (n := 4604) (by unfold aT; omega) (by decide)).2
theorem bT3 {t : Nat} (h : t < 60) : ∀ k, k < 9 → (nI (aT t k)).toNatClampNeg = aT t k := fun k hk => nI_clamp (by unfold aT; omega)
theorem bE1 {e : Nat} (h : e < 8) : ∀ k, k < 15 → 0 ≤ (nI (aE e k)).toInt := fun k hk => (inL_nI (n := 4604) (by unfold aE; omega) (by decide)).1
theorem bE2 {e : Nat} (h : e < 8) : ∀ k, k < 15 → (nI (aE e k)).toInt < ((4604 : Nat) : Int) := fun k hk => (inL_nI (n := 4604) (by unfold aE; omega) (by decide)).2
theorem bE3 {e : Nat} (h : e < 8) : ∀ k, k < 15 → (nI (aE e k)).toNatClampNeg = aE e k := fun k hk => nI_clamp (by unfold aE; omega)
theorem bH1 {e i : Nat} (h : e < 8) (hi : i < 10) : ∀ k, k < 6 → 0 ≤ (nI (aH e i k)).toInt := fun k hk => (inL_nI (n := 4604) (by unfold aH; omega) (by decide)).1
theorem bH2 {e i : Nat} (h : e < 8) (hi : i < 10) : ∀ k, k < 6 → (nI (aH e i k)).toInt < ((4604 : Nat) : Int) := fun k hk => (inL_nI (n := 4604) (by unfold aH; omega) (by decide)).2
theorem bH3 {e i : Nat} (h : e < 8) (hi : i < 10) : ∀ k, k < 6 → (nI (aH e i k)).toNatClampNeg = aH e i k := fun k hk => nI_clamp (by unfold aH; omega)
theorem bC1 {e i : Nat} (h : e < 8) (hi : i < 60) : ∀ k, k < 5 → 0 ≤ (nI (aC e i k)).toInt := fun k hk => (inL_nI (n := 4604) (by unfold aC; omega) (by decide)).1
theorem bC2 {e i : Nat} (h : e < 8) (hi : i < 60) : ∀ k, k < 5 → (nI (aC e i k)).toInt < ((4604 : Nat) : Int) := fun k hk => (inL_nI (n := 4604) (by unfold aC; omega) (by decide)).2
theorem bC3 {e i : Nat} (h : e < 8) (hi : i < 60) : ∀ k, k < 5 → (nI (aC e i k)).toNatClampNeg = aC e i k := fun k hk => nI_clamp (by unfold aC; omega)
theorem l60 : 0 ≤ (60 : Int32).toInt ∧ (60 : Int32).toInt < ((4604 : Nat) : Int) ∧ (60 : Int32).toNatClampNeg = 60 := by decide
theorem l61 : 0 ≤ (61 : Int32).toInt ∧ (61 : Int32).toInt < ((4604 : Nat) : Int) ∧ (61 : Int32).toNatClampNeg = 61 := by decide
theorem l62 : 0 ≤ (62 : Int32).toInt ∧ (62 : Int32).toInt < ((4604 : Nat) : Int) ∧ (62 : Int32).toNatClampNeg = 62 := by decide
theorem N_pu_1 (a : Nat) (v : Int64) (w : Wt) : (N_pu a v w).1 = w.1 := rfl
theorem N_pu_2 (i : Nat) (v : Int64) (w : Wt) {a : Nat} (ha : a ≠ 2) (k : Nat) : (N_pu i v w).2 a k = w.2 a k := by
  unfold N_pu
  rw [uJ_2, if_neg (fun h => ha h.1)]
theorem N_mv_eq (a b : Nat) (v : Int64) (w : Wt) : N_mv a b v w = N_pu b v (N_pu a (-v) w) := by
  unfold N_mv N_pu
  rw [Int64.sub_eq_add_neg]
theorem i5_ix {a p : Int32} (ha : inL a 10) (hp : inL p 5) : inL (i5 a.toInt64 p.toInt64) 4604 ∧ (i5 a.toInt64 p.toInt64).toNatClampNeg = ix a p ∧ ix a p < 50 := by
  have e : i5 a.toInt64 p.toInt64 = a * 5 + p := wd_ix a p
  rw [e]
  refine ⟨?_, rfl, ?_⟩
  · have z := inL_ix ha hp
    exact ⟨z.1, by have := z.2; omega⟩
  · obtain ⟨j, hj, e2⟩ := inL_of (inL_ix ha hp) (by decide)
    unfold ix
    rw [e2, nI_clamp (by omega)]
    exact hj
theorem i50_pu {a : Int32} (ha : inL a 10) : inL (i50 a.toInt64) 4604 ∧ (i50 a.toInt64).toNatClampNeg = 50 + a.toNatClampNeg ∧ a.toNatClampNeg < 10 := by
  have e : i50 a.toInt64 = 50 + a := wd_pu a
  obtain ⟨j, hj, rfl⟩ := inL_of ha (by decide)
  rw [e, show (50 : Int32) = nI 50 from rfl, nI_add, nI_clamp (by omega), nI_clamp (by omega)]
  exact ⟨inL_nI (by omega) (by decide), rfl, hj⟩
section
variable {bk dr T G : Nat} {X : Mm} {f : Nat → Int64} {w : Wt}
theorem Rl.addS (R : Rl T G f w) {i : Nat} (hi : i < 50) (v : Int64) : Rl T G (M_add i v f) (N_add i v w) :=
  R.wJ (Pl.sh i hi) (by decide) (by rw [R.sh hi])
theorem Rl.addM (R : Rl T G f w) {i : Nat} (hi : i < 10) (v : Int64) : Rl T G (M_add (50 + i) v f) (N_pu i v w) :=
  R.wJ (Pl.pu i hi) (by decide) (by rw [R.pu hi])
theorem m_sharesOf (h : Shp bk dr X) (R : Rl T G f w) {a p : Int32} (ha : inL a 10) (hp : inL p 5) : fX12_sharesOf 366 a.toInt64 p.toInt64 (wJ X 367 f) = some (w.2 1 (ix a p), wJ X 367 f) := by
  have z := i5_ix ha hp
  rw [r_sharesOf h z.1, z.2.1, R.sh z.2.2]
theorem m_givesShares (h : Shp bk dr X) (R : Rl T G f w) {a p : Int32} (ha : inL a 10) (hp : inL p 5) (v : Int64) : Ex (fX12_givesShares 366 a.toInt64 p.toInt64 v (wJ X 367 f)) fun _ => RX X T G (N_add (ix a p) v w) := by
  have z := i5_ix ha hp
  rw [r_givesShares h z.1, z.2.1]
  exact .ret ⟨_, rfl, R.addS z.2.2 v⟩
theorem m_givesMoney (h : Shp bk dr X) (R : Rl T G f w) {a : Int32} (ha : inL a 10) (v : Int64) : Ex (fX12_givesMoney 366 a.toInt64 v (wJ X 367 f)) fun _ => RX X T G (N_pu a.toNatClampNeg v w) := by
  have z := i50_pu ha
  rw [r_givesMoney h z.1, z.2.1]
  exact .ret ⟨_, rfl, R.addM z.2.2 v⟩
theorem m_tm (h : Shp bk dr X) (R : Rl T G f w) : fX12_tradeMany 366 (wJ X 367 f) = some (w.1 3 9, wJ X 367 f) := by
  simp only [fX12_tradeMany, h.1, h.2.1, h.2.2, li_T, li_L, li_R, nm, bd, q_b, ne_eq, Nat.reduceEqDiff, reduceCtorEq, and_false, false_and, and_true, true_and, and_self, not_false_eq_true, not_true_eq_false, ↓reduceIte, mT_wJ, mL_wJ, mR_wJ, mI_wJ, mJ_wJ, sJ_wJ, Nat.reduceLT, l60.1, l60.2.1, l60.2.2, l61.1, l61.2.1, l61.2.2, l62.1, l62.2.1, l62.2.2, R.m0, wd_back]
theorem m_em (h : Shp bk dr X) (R : Rl T G f w) : fX12_eventMany 366 (wJ X 367 f) = some (w.1 13 16, wJ X 367 f) := by
  simp only [fX12_eventMany, h.1, h.2.1, h.2.2, li_T, li_L, li_R, nm, bd, q_b, ne_eq, Nat.reduceEqDiff, reduceCtorEq, and_false, false_and, and_true, true_and, and_self, not_false_eq_true, not_true_eq_false, ↓reduceIte, mT_wJ, mL_wJ, mR_wJ, mI_wJ, mJ_wJ, sJ_wJ, Nat.reduceLT, l60.1, l60.2.1, l60.2.2, l61.1, l61.2.1, l61.2.2, l62.1, l62.2.1, l62.2.2, R.m1, wd_back]
theorem m_today (h : Shp bk dr X) (R : Rl T G f w) : fX12_today 366 (wJ X 367 f) = some (w.1 0 8, wJ X 367 f) := by
  simp only [fX12_today, h.1, h.2.1, h.2.2, li_T, li_L, li_R, nm, bd, q_b, ne_eq, Nat.reduceEqDiff, reduceCtorEq, and_false, false_and, and_true, true_and, and_self, not_false_eq_true, not_true_eq_false, ↓reduceIte, mT_wJ, mL_wJ, mR_wJ, mI_wJ, mJ_wJ, sJ_wJ, Nat.reduceLT, l60.1, l60.2.1, l60.2.2, l61.1, l61.2.1, l61.2.2, l62.1, l62.2.1, l62.2.2, R.m2, wd_back]
theorem m_paysFor (h : Shp bk dr X) (R : Rl T G f w) {t : Nat} (ht : t < T) (ha : inL (w.1 4 t) 10) (hb : inL (w.1 5 t) 10) (s : Int32) : Ex (fX12_paysFor 366 (nI t) s (wJ X 367 f)) fun _ => RX X T G (N_fin t s (w.1 0 8) (N_mv (w.1 4 t).toNatClampNeg (w.1 5 t).toNatClampNeg (w.2 8 t) w)) := by
  have t6 : t < 60 := by have := R.1; omega
  rw [N_mv_eq]
  simp only [fX12_paysFor, h.1, h.2.1, h.2.2, li_T, li_L, li_R, nm, bd, q_b, ne_eq, Nat.reduceEqDiff, reduceCtorEq, and_false, false_and, and_true, true_and, and_self, not_false_eq_true, not_true_eq_false, ↓reduceIte, mT_wJ, mL_wJ, mR_wJ, mI_wJ, mJ_wJ, sJ_wJ, Nat.reduceLT, l60.1, l60.2.1, l60.2.2, l61.1, l61.2.1, l61.2.2, l62.1, l62.2.1, l62.2.2, r_at0, r_at4, bT1 t6, bT2 t6, bT3 t6, R.t0 ht, R.t4 ht]
  refine Ex.bd (m_givesMoney h R ha _) ?_
  rintro _ _ ⟨f1, rfl, R1⟩
  simp only [h.1, h.2.1, h.2.2, li_T, li_L, li_R, nm, bd, q_b, ne_eq, Nat.reduceEqDiff, reduceCtorEq, and_false, false_and, and_true, true_and, and_self, not_false_eq_true, not_true_eq_false, ↓reduceIte, mT_wJ, mL_wJ, mR_wJ, mI_wJ, mJ_wJ, sJ_wJ, Nat.reduceLT, l60.1, l60.2.1, l60.2.2, l61.1, l61.2.1, l61.2.2, l62.1, l62.2.1, l62.2.2, r_at1, r_at4, bT1 t6, bT2 t6, bT3 t6, R1.t1 ht, R1.t4 ht, N_pu_1, N_pu_2]
  refine Ex.bd (m_givesMoney h R1 hb _) ?_
  rintro _ _ ⟨f2, rfl, R2⟩
  have R3 : Rl T G (q_u1 f2 (aT t 7) s.toInt64) (uI (N_pu (w.1 5 t).toNatClampNeg (w.2 8 t) (N_pu (w.1 4 t).toNatClampNeg (-w.2 8 t) w)) 11 t s) := R2.wI (Pl.tr t 7 ht (by decide)) (by decide) (by decide) rfl
  have R4 := R3.wI (Pl.tr t 8 ht (by decide)) (by decide) (by decide) (v := w.1 0 8) (u := q_u1 f2 (aT t 7) s.toInt64 62) R3.m2
  simp only [h.1, h.2.1, h.2.2, li_T, li_L, li_R, nm, bd, q_b, ne_eq, Nat.reduceEqDiff, reduceCtorEq, and_false, false_and, and_true, true_and, and_self, not_false_eq_true, not_true_eq_false, ↓reduceIte, mT_wJ, mL_wJ, mR_wJ, mI_wJ, mJ_wJ, sJ_wJ, Nat.reduceLT, l60.1, l60.2.1, l60.2.2, l61.1, l61.2.1, l61.2.2, l62.1, l62.2.1, l62.2.2, r_at7, r_at8, bT1 t6, bT2 t6, bT3 t6]
  exact .ret ⟨_, rfl, R4⟩
theorem m_settles (h : Shp bk dr X) (R : Rl T G f w) {t : Nat} (ht : t < T) (ok : okF w.1 t) (h0 : w.1 11 t = 0) (hd : ¬ w.1 0 8 < w.1 10 t) : Ex (fX12_settles 366 (nI t) (wJ X 367 f)) fun _ => RX X T G (N_settle t w) := by
  have t6 : t < 60 := by have := R.1; omega
  obtain ⟨ha, hb, hp⟩ := ok
  have z := i5_ix ha hp
  have z2 := i5_ix hb hp
  unfold N_settle
  rw [if_pos h0, if_neg hd]
  simp only [fX12_settles, h.1, h.2.1, h.2.2, li_T, li_L, li_R, nm, bd, q_b, ne_eq, Nat.reduceEqDiff, reduceCtorEq, and_false, false_and, and_true, true_and, and_self, not_false_eq_true, not_true_eq_false, ↓reduceIte, mT_wJ, mL_wJ, mR_wJ, mI_wJ, mJ_wJ, sJ_wJ, Nat.reduceLT, l60.1, l60.2.1, l60.2.2, l61.1, l61.2.1, l61.2.2, l62.1, l62.2.1, l62.2.2, r_at0, r_at1, r_at2, r_at3, r_at4, bT1 t6, bT2 t6, bT3 t6, R.t1 ht, R.t2 ht, R.t3 ht, m_sharesOf h R hb hp, cv_lt, cv_ge]
  by_cases h1 : w.2 1 (ix (w.1 5 t) (w.1 6 t)) < w.2 7 t
  · have h2 : ¬ w.2 7 t ≤ w.2 1 (ix (w.1 5 t) (w.1 6 t)) := by
      rw [Int64.le_iff_toInt_le]
      rw [Int64.lt_iff_toInt_lt] at h1
      omega
    simp only [h1, h2, ↓reduceIte]
    exact .ret ⟨_, rfl, R⟩
  · have h2 : w.2 7 t ≤ w.2 1 (ix (w.1 5 t) (w.1 6 t)) := by
      rw [Int64.le_iff_toInt_le]
      rw [Int64.lt_iff_toInt_lt] at h1
      omega
    simp only [h1, h2, ↓reduceIte]
    refine Ex.bd (m_givesShares h R hb hp _) ?_
    rintro _ _ ⟨f1, rfl, R1⟩
    simp only [h.1, h.2.1, h.2.2, li_T, li_L, li_R, nm, bd, q_b, ne_eq, Nat.reduceEqDiff, reduceCtorEq, and_false, false_and, and_true, true_and, and_self, not_false_eq_true, not_true_eq_false, ↓reduceIte, mT_wJ, mL_wJ, mR_wJ, mI_wJ, mJ_wJ, sJ_wJ, Nat.reduceLT, l60.1, l60.2.1, l60.2.2, l61.1, l61.2.1, l61.2.2, l62.1, l62.2.1, l62.2.2, r_at0, r_at2, bT1 t6, bT2 t6, bT3 t6, R1.t0 ht, R1.t2 ht, N_add_1]
    refine Ex.bd (m_givesShares h R1 ha hp _) ?_
    rintro _ _ ⟨f2, rfl, R2⟩
    simp only [h.1, h.2.1, h.2.2, li_T, li_L, li_R, nm, bd, q_b, ne_eq, Nat.reduceEqDiff, reduceCtorEq, and_false, false_and, and_true, true_and, and_self, not_false_eq_true, not_true_eq_false, ↓reduceIte, mT_wJ, mL_wJ, mR_wJ, mI_wJ, mJ_wJ, sJ_wJ, Nat.reduceLT, l60.1, l60.2.1, l60.2.2, l61.1, l61.2.1, l61.2.2, l62.1, l62.2.1, l62.2.2]
    refine Ex.bd (m_paysFor h R2 ht ha hb _) ?_
    rintro _ _ ⟨f3, rfl, R3⟩
    exact .ret ⟨_, rfl, R3⟩
end
