/-! QUERIES: worst, class and reference -/
theorem N70_at (e : Nat) (w : Wt) (a : Nat) (ha : a < 10) : ∀ (m i : Nat) (g : Nat → Int64), (∀ k, k < i + m → ∃ b, b < 10 ∧ w.1 38 (60 * e + k) = nI b) → nf (N70 e w) m i g a = nf (sF1 e a w) m i (g a) := by
  intro m
  induction m with
  | zero => intro i g _; rfl
  | succ m ih =>
    intro i g hcl
    rw [nf, nf, ih (i + 1) _ (fun k hk => hcl k (by omega))]
    obtain ⟨b, hb, eb⟩ := hcl i (by omega)
    have e1 : (nI b).toNatClampNeg = b := nI_clamp (by omega)
    congr 1
    unfold N70 sF1
    rw [eb, e1]
    by_cases g1 : a = b
    · subst g1
      rw [q_u1_s, if_pos rfl]
    · rw [q_u1_n _ _ g1, if_neg (fun z => g1 (by
        have z2 := congrArg Int32.toNatClampNeg z
        rw [e1, nI_clamp (by omega)] at z2
        exact z2.symm))]
theorem z70_at (a : Nat) : ∀ (m i : Nat) (g : Nat → Int64), (a < i → g a = 0) → a < i + m → nf (fun i (g : Nat → Int64) => q_u1 g i 0) m i g a = 0 := by
  intro m
  induction m with
  | zero => intro i g h1 h2; exact h1 (by omega)
  | succ m ih =>
    intro i g h1 h2
    rw [nf]
    refine ih (i + 1) _ (fun h3 => ?_) (by omega)
    by_cases g1 : a = i
    · subst g1; rw [q_u1_s]
    · rw [q_u1_n _ _ g1]; exact h1 (by omega)
theorem wO_or (g : Nat → Int64) (i v : Nat) : wO g i v = v ∨ wO g i v = i := by
  unfold wO
  by_cases g1 : (lg_cmp (g i) (g v)) ≤ 0
  · rw [if_pos g1]; exact Or.inl rfl
  · rw [if_neg g1]; exact Or.inr rfl
theorem wO_cg {g g' : Nat → Int64} {i v : Nat} (h1 : g i = g' i) (h2 : g v = g' v) : wO g' i v = wO g i v := by
  unfold wO
  rw [h1, h2]
theorem wO_same {g g' : Nat → Int64} {H : Nat} (hg : ∀ a, a < H → g a = g' a) : ∀ (m i v : Nat), i + m ≤ H → v < H → nf (wO g) m i v = nf (wO g') m i v ∧ nf (wO g) m i v < H := by
  intro m
  induction m with
  | zero => intro i v h1 h2; exact ⟨(show v = v from rfl), h2⟩
  | succ m ih =>
    intro i v h1 h2
    have hi : i < H := by clear ih hg; omega
    have h3 : i + 1 + m ≤ H := by clear ih hg; omega
    have z : wO g' i v = wO g i v := wO_cg (hg i hi) (hg v h2)
    have b : wO g i v < H := by
      rcases wO_or g i v with r | r
      · rw [r]; exact h2
      · rw [r]; exact hi
    have q := ih (i + 1) (wO g i v) h3 b
    refine ⟨?_, q.2⟩
    refine q.1.trans ?_
    rw [← z, nf]
section
variable {bk dr s H P n T G : Nat} {X : Mm} {f : Nat → Int64} {w : Wt}
theorem Tp.owed (h : Tp bk dr H P X) (g : Nat → Int64) : Tp bk dr H P (wJ X 380 g) :=
  h.same (h.1.wJ _ _) (fun c k _ => by rw [mI_wJ]) (fun c hr k => by rw [mJ_wJo (by unfold rlJ at hr; omega)])
theorem q_wo (h : Shp bk dr X) {e C : Nat} (he : e < 8) (hC : (gW 16 X).1 26 e = nI C) (hC6 : C ≤ 60) (hn : 64 ≤ n) (hH : mI X 16 6 = nI H) (hH1 : 1 ≤ H) (hH2 : H ≤ 60) : fX8_worstOf n 16 (nI e) X = some (nI (nf (wO (fun a => nf (sF1 e a (gW 16 X)) C 0 0)) (H - 1) 1 0), X) := by
  have z := c_worstOf (w := gW 16 X) h St.now he hC hC6 hn hH hH1 hH2
  rw [pW_gW] at z
  exact z
theorem s_worst (h : Tp bk dr H P X) (hn : 24000 ≤ n) (v1 v2 : Int32) : ∃ r X1 X2, fX11_worst n 1 v1 v2 X = some (r, X1) ∧ fX12_worst n 366 v1 v2 X1 = some (r, X2) ∧ Tp bk dr H P X2 := by
  have hT := h
  obtain ⟨h1, h2, h3, h4, h5, h6, ⟨T, G, R, iv, iw⟩, -, -, -, -, -, -⟩ := h
  have h := h1
  have hs := h1.sI 366 0 0
  have wG : mI X 29 16 = nI G := iv.1.2.2.1
  have w6 : mI X 16 6 = nI H := iv.1.2.2.2.2.1
  have hH10 : H ≤ 10 := iv.1.2.2.2.2.2.1
  have y6 : mI (sI X 366 0 0) 366 6 = nI H := by rw [mI_sI, if_neg (by omega)]; exact h5
  have R' : Rl T G (mJ (sI X 366 0 0) 367) (gW 16 X) := R
  have hG8 := R.2.1
  by_cases g1 : 0 ≤ v1 ∧ v1 < nI G
  · obtain ⟨e, he, ee⟩ := nI_ex g1 (by omega)
    have e8 : e < 8 := by omega
    have e1 : (nI e).toNatClampNeg = e := nI_clamp (by omega)
    have e2 := inL_nI (j := e) (n := 8) e8 (by decide)
    rw [ee] at g1
    have hc := iv.cnt he
    have c6 : mI X 42 e = nI (Cn (gW 16 X) e) := hc.1
    have rc : mJ X 367 (aE e 6) = (nI (Cn (gW 16 X) e)).toInt64 := (R.e6 he).trans (congrArg Int32.toInt64 hc.1)
    have cz : lg_cmp (nI (Cn (gW 16 X) e)).toInt64 0 = 0 ↔ nI (Cn (gW 16 X) e) = 0 := cv_eq.trans (wd_eq (y := 0))
    by_cases g2 : nI (Cn (gW 16 X) e) = 0
    · have cz0 := cz.mpr g2
      refine ⟨-1, X, sI X 366 0 0, ?_, ?_, hT.told 0⟩
      · simp only [fX11_worst, fX11_worst_L29, h.1, h.2.1, h.2.2, li_T, li_L, li_R, nm, bd, q_b, ne_eq, Nat.reduceEqDiff, reduceCtorEq, and_false, false_and, and_true, true_and, and_self, not_false_eq_true, not_true_eq_false, ↓reduceIte, n16_T, n16_L, n16_R, ee, q_isE h wG, bo_t g1, b1, e1, e2.1, e2.2, c6, g2]
      · simp only [fX12_worst, fX12_worst_L41, h.1, h.2.1, h.2.2, li_T, li_L, li_R, nm, bd, q_b, ne_eq, Nat.reduceEqDiff, reduceCtorEq, and_false, false_and, and_true, true_and, and_self, not_false_eq_true, not_true_eq_false, ↓reduceIte, n16_T, n16_L, n16_R, ee, mT_sI, mR_sI, mL_sI, mJ_sI, p_isE hs R' iv.1.2.2.1, bo_t g1, b1, r_of6, bE1 e8, bE2 e8, bE3 e8, Nat.reduceLT, rc, cz0]
    · have cz0 : ¬ lg_cmp (nI (Cn (gW 16 X) e)).toInt64 0 = 0 := fun z => g2 (cz.mp z)
      have hp : 0 < Cn (gW 16 X) e := by
        rcases Nat.eq_zero_or_pos (Cn (gW 16 X) e) with z | z
        · exact absurd (by rw [z]; rfl) g2
        · exact z
      have hcl : ∀ i, i < Cn (gW 16 X) e → ∃ a, a < H ∧ (gW 16 X).1 38 (60 * e + i) = nI a := fun i hi => inL_of (iw.2.2.2.2.2.1 e he i hi).1 (by omega)
      have hH1 : 1 ≤ H := by
        obtain ⟨a, ha, -⟩ := hcl 0 hp
        omega
      have hcl2 : ∀ i, i < Cn (gW 16 X) e → ∃ a, a < 10 ∧ (gW 16 X).1 38 (60 * e + i) = nI a := fun i hi => by
        obtain ⟨a, ha, ea⟩ := hcl i hi
        exact ⟨a, by omega, ea⟩
      have z1 := m_worst1 (n := n) hs y6 hH10 (by omega) (nI e) v2 (mJ (sI X 366 0 0) 380)
      rw [wJ_self] at z1
      have z2 := m_worst2 (n := n) hs R' he hc.1 hc.2 hcl2 (by omega) v2 (nf (fun i (g : Nat → Int64) => q_u1 g i 0) H 0 (mJ (sI X 366 0 0) 380))
      have z4 : ∀ a, a < H → nf (sF1 e a (gW 16 X)) (Cn (gW 16 X) e) 0 0 = nf (N70 e (gW 16 X)) (Cn (gW 16 X) e) 0 (nf (fun i (g : Nat → Int64) => q_u1 g i 0) H 0 (mJ (sI X 366 0 0) 380)) a := fun a ha => by
        rw [N70_at e _ a (by omega) _ 0 _ (fun k hk => hcl2 k (by omega)), z70_at a H 0 _ (fun z => absurd z (Nat.not_lt_zero _)) (by omega)]
      generalize nf (N70 e (gW 16 X)) (Cn (gW 16 X) e) 0 (nf (fun i (g : Nat → Int64) => q_u1 g i 0) H 0 (mJ (sI X 366 0 0) 380)) = g2' at z2 z4
      have z3 := m_worst3 (n := n) (H := H) (hs.wJ 380 g2') (by rw [mI_wJ]; exact y6) hH1 hH10 (by omega) v2
      rw [mJ_wJ] at z3
      have zo := (wO_same (g := fun a => nf (sF1 e a (gW 16 X)) (Cn (gW 16 X) e) 0 0) (g' := g2') z4 (H - 1) 1 0 (by omega) (by omega)).1
      have qo := q_wo (n := n) h e8 hc.1 hc.2 (by omega) w6 hH1 (by omega)
      rw [zo] at qo
      obtain ⟨z3, z5⟩ := z3
      generalize nf (wO g2') (H - 1) 1 0 = m at qo z3 z5
      have qf := q_clFr (n := n) (a := m) h e8 hc.1 hc.2 (by omega)
      rw [z4 m z5] at qf
      rw [mJ_sI] at z1 z2
      by_cases g3 : 0 ≤ v2 ∧ v2 ≤ 1
      · refine ⟨if v2 = 0 then (nI m).toInt64 else g2' m, X, wJ (sI X 366 0 0) 380 g2', ?_, ?_, (hT.told 0).owed _⟩
        · by_cases g4 : v2 = 0
          · simp only [fX11_worst, h.1, h.2.1, h.2.2, li_T, li_L, li_R, nm, bd, q_b, ne_eq, Nat.reduceEqDiff, reduceCtorEq, and_false, false_and, and_true, true_and, and_self, not_false_eq_true, not_true_eq_false, ↓reduceIte, n16_T, n16_L, n16_R, ee, q_isE h wG, bo_t g1, b1, e1, e2.1, e2.2, c6, g2, qo, g4]
          · have g5 : v2 = 1 := by
              obtain ⟨k, hk, ek⟩ := inL_of (inL_cc (v := v2) (l := 0) (n := 1) (m := 2) g3 (by decide) (by decide) (by decide)) (by decide)
              rcases (by omega : k = 0 ∨ k = 1) with rfl | rfl
              · exact absurd ek g4
              · exact ek
            subst g5
            simp only [fX11_worst, h.1, h.2.1, h.2.2, li_T, li_L, li_R, nm, bd, q_b, ne_eq, Nat.reduceEqDiff, reduceCtorEq, and_false, false_and, and_true, true_and, and_self, not_false_eq_true, not_true_eq_false, ↓reduceIte, n16_T, n16_L, n16_R, ee, q_isE h wG, bo_t g1, b1, e1, e2.1, e2.2, c6, g2, qo, g4, qf]
        · simp only [fX12_worst, h.1, h.2.1, h.2.2, li_T, li_L, li_R, nm, bd, q_b, ne_eq, Nat.reduceEqDiff, reduceCtorEq, and_false, false_and, and_true, true_and, and_self, not_false_eq_true, not_true_eq_false, ↓reduceIte, n16_T, n16_L, n16_R, ee, mT_sI, mR_sI, mL_sI, mJ_sI, p_isE hs R' iv.1.2.2.1, bo_t g1, b1, r_of6, bE1 e8, bE2 e8, bE3 e8, Nat.reduceLT, rc, cz0, r_inb v2 0 1 (lo := 0) (hi := 1) (by decide) (by decide), bo_t g3, z1, z2, z3]
      · have g4 : ¬ v2 = 0 := fun z => g3 (by subst z; decide)
        have g5 : ¬ v2 = 1 := fun z => g3 (by subst z; decide)
        refine ⟨-1, X, sI X 366 0 0, ?_, ?_, hT.told 0⟩
        · simp only [fX11_worst, h.1, h.2.1, h.2.2, li_T, li_L, li_R, nm, bd, q_b, ne_eq, Nat.reduceEqDiff, reduceCtorEq, and_false, false_and, and_true, true_and, and_self, not_false_eq_true, not_true_eq_false, ↓reduceIte, n16_T, n16_L, n16_R, ee, q_isE h wG, bo_t g1, b1, e1, e2.1, e2.2, c6, g2, qo, g4, g5]
        · simp only [fX12_worst, fX12_worst_L41, h.1, h.2.1, h.2.2, li_T, li_L, li_R, nm, bd, q_b, ne_eq, Nat.reduceEqDiff, reduceCtorEq, and_false, false_and, and_true, true_and, and_self, not_false_eq_true, not_true_eq_false, ↓reduceIte, n16_T, n16_L, n16_R, ee, mT_sI, mR_sI, mL_sI, mJ_sI, p_isE hs R' iv.1.2.2.1, bo_t g1, b1, r_of6, bE1 e8, bE2 e8, bE3 e8, Nat.reduceLT, rc, cz0, r_inb v2 0 1 (lo := 0) (hi := 1) (by decide) (by decide), bo_f g3]
  · refine ⟨-1, X, sI X 366 0 0, ?_, ?_, hT.told 0⟩
    · simp only [fX11_worst, fX11_worst_L29, h.1, h.2.1, h.2.2, li_T, li_L, li_R, nm, bd, q_b, ne_eq, Nat.reduceEqDiff, reduceCtorEq, and_false, false_and, and_true, true_and, and_self, not_false_eq_true, not_true_eq_false, ↓reduceIte, n16_T, n16_L, n16_R, q_isE h wG, bo_f g1]
    · simp only [fX12_worst, fX12_worst_L41, h.1, h.2.1, h.2.2, li_T, li_L, li_R, nm, bd, q_b, ne_eq, Nat.reduceEqDiff, reduceCtorEq, and_false, false_and, and_true, true_and, and_self, not_false_eq_true, not_true_eq_false, ↓reduceIte, n16_T, n16_L, n16_R, mT_sI, p_isE hs R' iv.1.2.2.1, bo_f g1]
end
