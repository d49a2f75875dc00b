/-! TEXTS: the reference's next token -/
def FM (g : Nat → Int32) (c : Int64) (Z : Mm) : Mm := wJ (wI Z 366 g) 366 (fun k => if k = 21 then c else mJ Z 366 k)
theorem mI_wI {X : Mm} {c : Nat} {f : Nat → Int32} (a k : Nat) : mI (wI X c f) a k = if a = c then f k else mI X a k := by
  show q_u1 (mI X) c f a k = _
  by_cases e : a = c
  · subst e; rw [q_u1_s, if_pos rfl]
  · rw [q_u1_n _ _ e, if_neg e]
theorem FM_I (g : Nat → Int32) (c : Int64) (Z : Mm) (k : Nat) : mI (FM g c Z) 366 k = g k := by
  unfold FM
  rw [mI_wJ, mI_wI, if_pos rfl]
theorem FM_Io (g : Nat → Int32) (c : Int64) (Z : Mm) {a : Nat} (h : a ≠ 366) (k : Nat) : mI (FM g c Z) a k = mI Z a k := by
  unfold FM
  rw [mI_wJ, mI_wI, if_neg h]
theorem FM_J (g : Nat → Int32) (c : Int64) (Z : Mm) : mJ (FM g c Z) 366 21 = c := by
  unfold FM
  rw [mJ_wJ, if_pos rfl]
theorem FM_T (g : Nat → Int32) (c : Int64) (Z : Mm) : mT (FM g c Z) = mT Z ∧ mL (FM g c Z) = mL Z ∧ mR (FM g c Z) = mR Z := ⟨rfl, rfl, rfl⟩
theorem Mm_ext {X Y : Mm} (h1 : mN X = mN Y) (h2 : mT X = mT Y) (h3 : mL X = mL Y) (h4 : mI X = mI Y) (h5 : mJ X = mJ Y) (h6 : mR X = mR Y) (h7 : mS X = mS Y) : X = Y := by
  obtain ⟨a, b, c, d, e, f, g⟩ := X
  obtain ⟨a', b', c', d', e', f', g'⟩ := Y
  simp only [mN, mT, mL, mI, mJ, mR, mS] at *
  subst h1 h2 h3 h4 h5 h6 h7
  rfl
theorem sI_FM (g : Nat → Int32) (c : Int64) (Z : Mm) (k : Nat) (v : Int32) : sI (FM g c Z) 366 k v = FM (q_u1 g k v) c Z := by
  refine Mm_ext rfl rfl rfl ?_ rfl rfl rfl
  funext a j
  rw [mI_sI]
  by_cases e : a = 366
  · subst e
    rw [FM_I, FM_I, q_u1_is]
    by_cases e2 : j = k
    · rw [if_pos ⟨rfl, e2⟩, if_pos e2]
    · rw [if_neg (fun z => e2 z.2), if_neg e2]
  · rw [if_neg (fun z => e z.1), FM_Io _ _ _ e, FM_Io _ _ _ e]
theorem sJ_FM (g : Nat → Int32) (c : Int64) (Z : Mm) (v : Int64) : sJ (FM g c Z) 366 21 v = FM g v Z := by
  refine Mm_ext rfl rfl rfl rfl ?_ rfl rfl
  funext a j
  rw [mJ_sJ]
  by_cases e : a = 366
  · subst e
    unfold FM
    rw [mJ_wJ, mJ_wJ]
    by_cases e2 : j = 21
    · rw [if_pos ⟨rfl, e2⟩, if_pos e2]
    · rw [if_neg (fun z => e2 z.2), if_neg e2, if_neg e2]
  · rw [if_neg (fun z => e z.1)]
    unfold FM
    rw [mJ_wJo e, mJ_wJo e]
theorem FM_self (Z : Mm) : FM (mI Z 366) (mJ Z 366 21) Z = Z := by
  refine Mm_ext rfl rfl rfl ?_ ?_ rfl rfl
  · funext a j
    by_cases e : a = 366
    · subst e; rw [FM_I]
    · rw [FM_Io _ _ _ e]
  · funext a j
    unfold FM
    by_cases e : a = 366
    · subst e
      rw [mJ_wJ]
      by_cases e2 : j = 21
      · subst e2; rw [if_pos rfl]
      · rw [if_neg e2]
    · rw [mJ_wJo e]
      rfl
theorem q_u1_self {α : Type} (f : Nat → α) (k : Nat) : q_u1 f k (f k) = f := by
  funext j
  rw [q_u1_is]
  by_cases e : j = k
  · rw [if_pos e, e]
  · rw [if_neg e]
theorem q_u1_u {α : Type} (f : Nat → α) (k : Nat) (u v : α) : q_u1 (q_u1 f k u) k v = q_u1 f k v := by
  funext j
  rw [q_u1_is, q_u1_is, q_u1_is]
  by_cases e : j = k
  · rw [if_pos e, if_pos e]
  · rw [if_neg e, if_neg e, if_neg e]
theorem q_u1_c {α : Type} (f : Nat → α) {k j : Nat} (h : k ≠ j) (u v : α) : q_u1 (q_u1 f k u) j v = q_u1 (q_u1 f j v) k u := by
  funext i
  rw [q_u1_is, q_u1_is, q_u1_is, q_u1_is]
  by_cases e : i = j
  · rw [if_pos e, if_neg (fun z => h (z.symm.trans e)), if_pos e]
  · rw [if_neg e]
    by_cases e2 : i = k
    · rw [if_pos e2, if_pos e2]
    · rw [if_neg e2, if_neg e2, if_neg e]
section
variable {bk dr H P n : Nat} {X Z : Mm} {b : Nat → Int32} {L : Nat} {g : Nat → Int32} {c : Int64}
theorem Ref.fm (h : Ref bk dr b L Z) (g : Nat → Int32) (c : Int64) (hg : g 13 = nI L) : Ref bk dr b L (FM g c Z) := by
  obtain ⟨h1, h2, h3, h4, h5, h6⟩ := h
  exact ⟨⟨h1.1, h1.2.1, h1.2.2⟩, h2, (FM_I _ _ _ _).trans hg, fun i hi => (FM_Io _ _ _ (by decide) i).trans (h4 i hi), h5, fun i hi => (FM_Io _ _ _ (by decide) i).trans (h6 i hi)⟩
theorem m_295 (h : Ref bk dr b L Z) (hg : g 13 = nI L) (hn : 200 ≤ n) {q e t : Nat} (hqe : q ≤ e) (heL : e ≤ L) (g14 : g 14 = nI e) (g15 : g 15 = nI q) (g16 : g 16 = nI t) (ht : t < 4) (hl : t = 1 → ∀ j, q ≤ j → j < e → isL (b j) = true) :
    fX12_next_L295 n 366 (FM g c Z) = some ((), FM (if t = 1 then q_u1 (q_u1 g 18 (nI (e - q))) 20 (kw (lts b (e - q) q)) else q_u1 g 18 (nI (e - q))) c Z) := by
  have hR := h.fm g c hg
  have hs := hR.1
  have L7 := h.2.1
  have sub : nI e - nI q = nI (e - q) := pk_sub hqe
  have k14 := FM_I g c Z 14
  have k15 := FM_I g c Z 15
  rw [g14] at k14
  rw [g15] at k15
  have h2 := h.fm (q_u1 g 18 (nI (e - q))) c ((q_u1_n g _ (by decide)).trans hg)
  have s2 := h2.1
  have k16 : mI (FM (q_u1 g 18 (nI (e - q))) c Z) 366 16 = nI t := by rw [FM_I, q_u1_n _ _ (by decide)]; exact g16
  have k15' : mI (FM (q_u1 g 18 (nI (e - q))) c Z) 366 15 = nI q := by rw [FM_I, q_u1_n _ _ (by decide)]; exact g15
  have k18 : mI (FM (q_u1 g 18 (nI (e - q))) c Z) 366 18 = nI (e - q) := by rw [FM_I, q_u1_s]
  by_cases z : t = 1
  · subst z
    have wa := m_wordAt h2 n hn (q := q) (many := e - q) (by omega) (by omega) (fun j h1 h2 => hl rfl j h1 (by omega))
    have z1 : nI 1 = (1 : Int32) := rfl
    have h := hs
    simp only [fX12_next_L295, h.1, h.2.1, h.2.2, li_T, li_L, li_R, nm, bd, q_b, ne_eq, Nat.reduceEqDiff, reduceCtorEq, and_false, false_and, and_true, true_and, and_self, not_false_eq_true, not_true_eq_false, ↓reduceIte, s2.1, k14, k15, sub, sI_FM, k16, z1, k15', k18, wa]
  · have z1 : ¬ nI t = (1 : Int32) := fun y => z ((nI_eq (b := 1) (by omega) (by omega)).mp y)
    have h := hs
    simp only [fX12_next_L295, h.1, h.2.1, h.2.2, li_T, li_L, li_R, nm, bd, q_b, ne_eq, Nat.reduceEqDiff, reduceCtorEq, and_false, false_and, and_true, true_and, and_self, not_false_eq_true, not_true_eq_false, ↓reduceIte, s2.1, k14, k15, sub, sI_FM, k16, z1, z]
theorem m_222 (h : Ref bk dr b L Z) {q : Nat} : ∀ (m p : Nat) (g : Nat → Int32) (j : Nat), p + m = L → m < j → q ≤ p → g 13 = nI L → g 14 = nI p → g 15 = nI q → g 16 = 2 → g 19 = nI (dgs b (min (p - q) 9) q 0) → (∀ k, q ≤ k → k < p → isD (b k) = true) →
    fX12_next_L222 n j 366 (FM g c Z) = fX12_next_L295 n 366 (FM (q_u1 (q_u1 g 19 (nI (dgs b (min (rn isD b m p - q) 9) q 0))) 14 (nI (rn isD b m p))) c Z) := by
  have L7 := h.2.1
  have hr := h.2.2.2.2.1
  intro m
  induction m with
  | zero =>
    intro p g j hp hj hq g13 g14 g15 g16 g19 hd
    obtain ⟨j, rfl⟩ : ∃ k, j = k + 1 := ⟨j - 1, by omega⟩
    have hR := h.fm g c g13
    have see := m_see hR (k := p) (by omega)
    rw [if_neg (show ¬ p < L by omega)] at see
    have k14 := FM_I g c Z 14
    have k16 := FM_I g c Z 16
    rw [g14] at k14
    rw [g16] at k16
    have nd : ¬ (48 ≤ (-1 : Int32) ∧ (-1 : Int32) ≤ 57) := by decide
    have hs := hR.1
    rw [fX12_next_L222, rn, ← g19, ← g14, q_u1_self, q_u1_self]
    have h := hs
    simp only [h.1, h.2.1, h.2.2, li_T, li_L, li_R, nm, bd, q_b, ne_eq, Nat.reduceEqDiff, reduceCtorEq, and_false, false_and, and_true, true_and, and_self, not_false_eq_true, not_true_eq_false, ↓reduceIte, k14, k16, see, m_isD hs, bo_f nd]
  | succ m ih =>
    intro p g j hp hj hq g13 g14 g15 g16 g19 hd
    obtain ⟨j, rfl⟩ : ∃ k, j = k + 1 := ⟨j - 1, by omega⟩
    have hR := h.fm g c g13
    have see := m_see hR (k := p) (by omega)
    rw [if_pos (show p < L by omega)] at see
    have k14 := FM_I g c Z 14
    have k15 := FM_I g c Z 15
    have k16 := FM_I g c Z 16
    have k19 := FM_I g c Z 19
    rw [g14] at k14
    rw [g15] at k15
    rw [g16] at k16
    rw [g19] at k19
    have hs := hR.1
    have bb := hr p (by omega)
    obtain ⟨-, sD, -, -, -, -, -, sDe⟩ := sv_L bb.1 bb.2
    by_cases z : isD (b p) = true
    · obtain ⟨x, x1, x2, x3⟩ := isD_nI z
      have nd := sD.mpr z
      rw [sDe z] at nd see
      have sub : nI p - nI q = nI (p - q) := pk_sub hq
      have hd' : ∀ k, q ≤ k → k < p + 1 → isD (b k) = true := fun k h1 h2 => by
        by_cases e : k = p
        · subst e; exact z
        · exact hd k h1 (by omega)
      rw [fX12_next_L222, rn, if_pos z]
      by_cases y : p - q < 9
      · have e9 : ¬ (9 : Int32) ≤ nI (p - q) := nI_ge (a := p - q) (b := 9) y (by omega)
        have num : (((10 : Int32) * nI (dgs b (min (p - q) 9) q 0)) + b p) - (48 : Int32) = nI (dgs b (min (p + 1 - q) 9) q 0) := by
          rw [Nat.min_eq_left (by omega), Nat.min_eq_left (by omega), show p + 1 - q = p - q + 1 by omega, dgs_snoc, show q + (p - q) = p by omega, x3, x2, show (10 : Int32) = nI 10 from rfl, pk_mul, nI_add, show (48 : Int32) = nI 48 from rfl, pk_sub (by omega)]
          congr 1
          omega
        have ga : ∀ v, mI (FM (q_u1 g 19 v) c Z) 366 14 = nI p := fun v => by rw [FM_I, q_u1_n _ _ (by decide)]; exact g14
        have r := ih (p + 1) (q_u1 (q_u1 g 19 (nI (dgs b (min (p + 1 - q) 9) q 0))) 14 (nI (p + 1))) j (by omega) (by omega) (by omega) (by rw [q_u1_n _ _ (by decide), q_u1_n _ _ (by decide)]; exact g13) (q_u1_s _ _ _) (by rw [q_u1_n _ _ (by decide), q_u1_n _ _ (by decide)]; exact g15) (by rw [q_u1_n _ _ (by decide), q_u1_n _ _ (by decide)]; exact g16) (by rw [q_u1_n _ _ (by decide), q_u1_s]) hd'
        rw [q_u1_c _ (show 14 ≠ 19 by decide), q_u1_u, q_u1_u] at r
        have s2 := (h.fm (q_u1 g 19 (nI (dgs b (min (p + 1 - q) 9) q 0))) c ((q_u1_n g _ (by decide)).trans g13)).1
        have h := hs
        simp only [h.1, h.2.1, h.2.2, li_T, li_L, li_R, nm, bd, q_b, ne_eq, Nat.reduceEqDiff, reduceCtorEq, and_false, false_and, and_true, true_and, and_self, not_false_eq_true, not_true_eq_false, ↓reduceIte, k14, k15, k16, k19, see, m_isD hs, bo_t nd, b1, sub, e9, num, sI_FM, fX12_next_L282, s2.1, ga, nI_1]
        exact r
      · have e9 : (9 : Int32) ≤ nI (p - q) := nI_le (a := 9) (by omega) (by omega)
        have r := ih (p + 1) (q_u1 g 14 (nI (p + 1))) j (by omega) (by omega) (by omega) (by rw [q_u1_n _ _ (by decide)]; exact g13) (q_u1_s _ _ _) (by rw [q_u1_n _ _ (by decide)]; exact g15) (by rw [q_u1_n _ _ (by decide)]; exact g16) (by rw [q_u1_n _ _ (by decide), g19, Nat.min_eq_right (by omega), Nat.min_eq_right (by omega)]) hd'
        rw [q_u1_c _ (show 14 ≠ 19 by decide), q_u1_u] at r
        have h := hs
        simp only [h.1, h.2.1, h.2.2, li_T, li_L, li_R, nm, bd, q_b, ne_eq, Nat.reduceEqDiff, reduceCtorEq, and_false, false_and, and_true, true_and, and_self, not_false_eq_true, not_true_eq_false, ↓reduceIte, k14, k15, k16, see, m_isD hs, bo_t nd, b1, sub, e9, sI_FM, fX12_next_L282, nI_1]
        exact r
    · have nd : ¬ (48 ≤ sv (b p) ∧ sv (b p) ≤ 57) := fun y => z (sD.mp y)
      rw [fX12_next_L222, rn, if_neg z, ← g19, ← g14, q_u1_self, q_u1_self]
      have h := hs
      simp only [h.1, h.2.1, h.2.2, li_T, li_L, li_R, nm, bd, q_b, ne_eq, Nat.reduceEqDiff, reduceCtorEq, and_false, false_and, and_true, true_and, and_self, not_false_eq_true, not_true_eq_false, ↓reduceIte, k14, k16, see, m_isD hs, bo_f nd]
theorem m_222o (h : Ref bk dr b L Z) (g13 : g 13 = nI L) {t : Nat} (g16 : g 16 = nI t) (ht : t < 4) (hne : t ≠ 2) (hn : 1 ≤ n) : fX12_next_L222 n n 366 (FM g c Z) = fX12_next_L295 n 366 (FM g c Z) := by
  obtain ⟨m, rfl⟩ : ∃ k, n = k + 1 := ⟨n - 1, by omega⟩
  have hs := (h.fm g c g13).1
  have k16 := FM_I g c Z 16
  rw [g16] at k16
  have z : ¬ nI t = (2 : Int32) := fun y => hne ((nI_eq (b := 2) (by omega) (by omega)).mp y)
  rw [fX12_next_L222]
  have h := hs
  simp only [h.1, h.2.1, h.2.2, li_T, li_L, li_R, nm, bd, q_b, ne_eq, Nat.reduceEqDiff, reduceCtorEq, and_false, false_and, and_true, true_and, and_self, not_false_eq_true, not_true_eq_false, ↓reduceIte, k16, z]
theorem m_144 (h : Ref bk dr b L Z) {q : Nat} : ∀ (m p : Nat) (g : Nat → Int32) (c : Int64) (j : Nat), p + m = L → m < j → q ≤ p → g 13 = nI L → g 14 = nI p → g 15 = nI q → g 16 = 1 → c = lN (c27 (lts b (min (p - q) 6) q)) → (∀ k, q ≤ k → k < p → isL (b k) = true) →
    fX12_next_L144 n j 366 (FM g c Z) = fX12_next_L222 n n 366 (FM (q_u1 g 14 (nI (rn isL b m p))) (lN (c27 (lts b (min (rn isL b m p - q) 6) q))) Z) := by
  have L7 := h.2.1
  have hr := h.2.2.2.2.1
  intro m
  induction m with
  | zero =>
    intro p g c j hp hj hq g13 g14 g15 g16 hc hd
    obtain ⟨j, rfl⟩ : ∃ k, j = k + 1 := ⟨j - 1, by omega⟩
    have hR := h.fm g c g13
    have see := m_see hR (k := p) (by omega)
    rw [if_neg (show ¬ p < L by omega)] at see
    have k14 := FM_I g c Z 14
    have k16 := FM_I g c Z 16
    rw [g14] at k14
    rw [g16] at k16
    have nd : ¬ (97 ≤ (-1 : Int32) ∧ (-1 : Int32) ≤ 122) := by decide
    have hs := hR.1
    rw [fX12_next_L144, rn, ← g14, q_u1_self, ← hc]
    have h := hs
    simp only [h.1, h.2.1, h.2.2, li_T, li_L, li_R, nm, bd, q_b, ne_eq, Nat.reduceEqDiff, reduceCtorEq, and_false, false_and, and_true, true_and, and_self, not_false_eq_true, not_true_eq_false, ↓reduceIte, k14, k16, see, m_isL hs, bo_f nd]
  | succ m ih =>
    intro p g c j hp hj hq g13 g14 g15 g16 hc hd
    obtain ⟨j, rfl⟩ : ∃ k, j = k + 1 := ⟨j - 1, by omega⟩
    have hR := h.fm g c g13
    have see := m_see hR (k := p) (by omega)
    rw [if_pos (show p < L by omega)] at see
    have k14 := FM_I g c Z 14
    have k15 := FM_I g c Z 15
    have k16 := FM_I g c Z 16
    have k21 := FM_J g c Z
    rw [g14] at k14
    rw [g15] at k15
    rw [g16] at k16
    have hs := hR.1
    have bb := hr p (by omega)
    obtain ⟨sL, -, -, -, -, -, sLe, -⟩ := sv_L bb.1 bb.2
    by_cases z : isL (b p) = true
    · obtain ⟨x, x1, x1', x2, x3⟩ := isL_nI z
      have nd := sL.mpr z
      rw [sLe z] at nd see
      have sub : nI p - nI q = nI (p - q) := pk_sub hq
      have hd' : ∀ k, q ≤ k → k < p + 1 → isL (b k) = true := fun k h1 h2 => by
        by_cases e : k = p
        · subst e; exact z
        · exact hd k h1 (by omega)
      rw [fX12_next_L144, rn, if_pos z]
      by_cases y : p - q < 6
      · have e9 : ¬ (6 : Int32) ≤ nI (p - q) := nI_ge (a := p - q) (b := 6) y (by omega)
        have num : ((((27 : Int64) * c) + (b p).toInt64) - (97 : Int64)) + (1 : Int64) = lN (c27 (lts b (min (p + 1 - q) 6) q)) := by
          rw [hc, Nat.min_eq_left (by omega), Nat.min_eq_left (by omega), show p + 1 - q = p - q + 1 by omega, lts_snoc, c27_snoc, show q + (p - q) = p by omega, x3, x2, nI_l (by omega), show (27 : Int64) = lN 27 from rfl, lN_mul, lN_add, show (97 : Int64) = lN 97 from rfl, lN_sub (by omega), lN_1]
          congr 1
          omega
        have r := ih (p + 1) (q_u1 g 14 (nI (p + 1))) _ j (by omega) (by omega) (by omega) (by rw [q_u1_n _ _ (by decide)]; exact g13) (q_u1_s _ _ _) (by rw [q_u1_n _ _ (by decide)]; exact g15) (by rw [q_u1_n _ _ (by decide)]; exact g16) rfl hd'
        rw [q_u1_u] at r
        have s2 := (h.fm g (lN (c27 (lts b (min (p + 1 - q) 6) q))) g13).1
        have k14' := FM_I g (lN (c27 (lts b (min (p + 1 - q) 6) q))) Z 14
        rw [g14] at k14'
        have h := hs
        simp only [h.1, h.2.1, h.2.2, li_T, li_L, li_R, nm, bd, q_b, ne_eq, Nat.reduceEqDiff, reduceCtorEq, and_false, false_and, and_true, true_and, and_self, not_false_eq_true, not_true_eq_false, ↓reduceIte, k14, k15, k16, k21, see, m_isL hs, bo_t nd, b1, sub, e9, num, sJ_FM, sI_FM, fX12_next_L209, s2.1, k14', nI_1]
        exact r
      · have e9 : (6 : Int32) ≤ nI (p - q) := nI_le (a := 6) (by omega) (by omega)
        have r := ih (p + 1) (q_u1 g 14 (nI (p + 1))) c j (by omega) (by omega) (by omega) (by rw [q_u1_n _ _ (by decide)]; exact g13) (q_u1_s _ _ _) (by rw [q_u1_n _ _ (by decide)]; exact g15) (by rw [q_u1_n _ _ (by decide)]; exact g16) (by rw [hc, Nat.min_eq_right (by omega), Nat.min_eq_right (by omega)]) hd'
        rw [q_u1_u] at r
        have h := hs
        simp only [h.1, h.2.1, h.2.2, li_T, li_L, li_R, nm, bd, q_b, ne_eq, Nat.reduceEqDiff, reduceCtorEq, and_false, false_and, and_true, true_and, and_self, not_false_eq_true, not_true_eq_false, ↓reduceIte, k14, k15, k16, see, m_isL hs, bo_t nd, b1, sub, e9, sI_FM, fX12_next_L209, nI_1]
        exact r
    · have nd : ¬ (97 ≤ sv (b p) ∧ sv (b p) ≤ 122) := fun y => z (sL.mp y)
      rw [fX12_next_L144, rn, if_neg z, ← g14, q_u1_self, ← hc]
      have h := hs
      simp only [h.1, h.2.1, h.2.2, li_T, li_L, li_R, nm, bd, q_b, ne_eq, Nat.reduceEqDiff, reduceCtorEq, and_false, false_and, and_true, true_and, and_self, not_false_eq_true, not_true_eq_false, ↓reduceIte, k14, k16, see, m_isL hs, bo_f nd]
theorem m_144o (h : Ref bk dr b L Z) (g13 : g 13 = nI L) {t : Nat} (g16 : g 16 = nI t) (ht : t < 4) (hne : t ≠ 1) (hn : 1 ≤ n) : fX12_next_L144 n n 366 (FM g c Z) = fX12_next_L222 n n 366 (FM g c Z) := by
  obtain ⟨m, hm⟩ : ∃ k, n = k + 1 := ⟨n - 1, by omega⟩
  have hs := (h.fm g c g13).1
  have k16 := FM_I g c Z 16
  rw [g16] at k16
  have z : ¬ nI t = (1 : Int32) := fun y => hne ((nI_eq (b := 1) (by omega) (by omega)).mp y)
  have s : fX12_next_L144 n (m + 1) 366 (FM g c Z) = fX12_next_L222 n n 366 (FM g c Z) := by
    rw [fX12_next_L144]
    have h := hs
    simp only [h.1, h.2.1, h.2.2, li_T, li_L, li_R, nm, bd, q_b, ne_eq, Nat.reduceEqDiff, reduceCtorEq, and_false, false_and, and_true, true_and, and_self, not_false_eq_true, not_true_eq_false, ↓reduceIte, k16, z]
  rw [← hm] at s
  exact s
theorem m_96 (h : Ref bk dr b L Z) (g13 : g 13 = nI L) (v : Int32) {t : Nat} (ht : t < 4) : fX12_next_L96 n 366 v (nI t) 366 (FM g c Z) = fX12_next_L144 n n 366 (FM (if t = 3 then q_u1 (q_u1 (q_u1 (q_u1 g 16 (nI t)) 19 0) 17 v) 14 (g 14 + 1) else q_u1 (q_u1 (q_u1 g 16 (nI t)) 19 0) 17 0) 0 Z) := by
  have hs := (h.fm g c g13).1
  have sa : ∀ g c, mT (FM g c Z) = sh_T := fun g c => h.1.1
  have k16 : ∀ c', mI (FM (q_u1 (q_u1 g 16 (nI t)) 19 0) c' Z) 366 16 = nI t := fun c' => by rw [FM_I, q_u1_n _ _ (by decide), q_u1_s]
  have k16' : ∀ c' u, mI (FM (q_u1 (q_u1 (q_u1 g 16 (nI t)) 19 0) 17 u) c' Z) 366 16 = nI t := fun c' u => by rw [FM_I, q_u1_n _ _ (by decide), q_u1_n _ _ (by decide), q_u1_s]
  have k14 : ∀ c' u, mI (FM (q_u1 (q_u1 (q_u1 g 16 (nI t)) 19 0) 17 u) c' Z) 366 14 = g 14 := fun c' u => by rw [FM_I, q_u1_n _ _ (by decide), q_u1_n _ _ (by decide), q_u1_n _ _ (by decide)]
  by_cases z : t = 3
  · subst z
    have z3 : nI 3 = (3 : Int32) := rfl
    rw [z3] at k16 k16' k14
    have h := hs
    simp only [fX12_next_L96, fX12_next_L123, h.1, h.2.1, h.2.2, li_T, li_L, li_R, nm, bd, q_b, ne_eq, Nat.reduceEqDiff, reduceCtorEq, and_false, false_and, and_true, true_and, and_self, not_false_eq_true, not_true_eq_false, ↓reduceIte, sa, sI_FM, sJ_FM, k16, k16', k14, z3]
  · have z3 : ¬ nI t = (3 : Int32) := fun y => z ((nI_eq (b := 3) (by omega) (by omega)).mp y)
    have h := hs
    simp only [fX12_next_L96, fX12_next_L123, h.1, h.2.1, h.2.2, li_T, li_L, li_R, nm, bd, q_b, ne_eq, Nat.reduceEqDiff, reduceCtorEq, and_false, false_and, and_true, true_and, and_self, not_false_eq_true, not_true_eq_false, ↓reduceIte, sa, sI_FM, sJ_FM, k16, k16', k14, z3, z]
end
