/-! TEXTS: the class's tokens, all of them -/
def TokF (b : Nat → Int32) (L k : Nat) (Y : Mm) : Prop := mI Y 4 k = kd b L k ∧ ((kd b L k = 1 ∨ kd b L k = 2 ∨ kd b L k = 3) → mI Y 6 k = vl b L k) ∧ mI Y 5 k = nI (fr b L k)
theorem TokW.of3 {b : Nat → Int32} {L i : Nat} {X : Mm} {v w : Int32} (hv : v = kd b L i) (hw : (kd b L i = 1 ∨ kd b L i = 2 ∨ kd b L i = 3) → w = vl b L i) : TokW b L i X (sI (sI (sI X 5 i (nI (fr b L i))) 4 i v) 6 i w) := by
  refine ⟨?_, fun z => ?_, ?_, fun c k hk => ?_, rfl, rfl, rfl, rfl⟩
  · rw [mI_sI, if_neg (by omega), mI_sI, if_pos ⟨rfl, rfl⟩, hv]
  · rw [mI_sI, if_pos ⟨rfl, rfl⟩, hw z]
  · rw [mI_sI, if_neg (by omega), mI_sI, if_neg (by omega), mI_sI, if_pos ⟨rfl, rfl⟩]
  · rw [mI_sI, if_neg (by omega), mI_sI, if_neg (by omega), mI_sI, if_neg (by omega)]
theorem TokW.of2 {b : Nat → Int32} {L i : Nat} {X : Mm} {v : Int32} (hv : v = kd b L i) (hw : ¬ (kd b L i = 1 ∨ kd b L i = 2 ∨ kd b L i = 3)) : TokW b L i X (sI (sI X 5 i (nI (fr b L i))) 4 i v) := by
  refine ⟨?_, fun z => absurd z hw, ?_, fun c k hk => ?_, rfl, rfl, rfl, rfl⟩
  · rw [mI_sI, if_pos ⟨rfl, rfl⟩, hv]
  · rw [mI_sI, if_neg (by omega), mI_sI, if_pos ⟨rfl, rfl⟩]
  · rw [mI_sI, if_neg (by omega), mI_sI, if_neg (by omega)]
section
variable {bk dr H P n : Nat} {X : Mm}
theorem c_tok (h : Shp bk dr X) {L i : Nat} (hL : mI X 2 1 = nI L) (hL7 : L ≤ 700) (hn : 1000 ≤ n) (i7 : i < 701) {b : Nat → Int32} (hb : mI X 3 = b) (hq : fr b L i < L) : ∃ Y, fX9_scanToken n 2 (nI i) (nI (fr b L i)) X = some (nI (sp b L (i + 1)), Y) ∧ TokW b L i X Y := by
  have k1 : (nI i).toNatClampNeg = i := nI_clamp (by omega)
  have k2 := inL_nI (j := i) (n := 701) i7 (by decide)
  have q1 : (nI (fr b L i)).toNatClampNeg = fr b L i := nI_clamp (by omega)
  have q2 := inL_nI (j := fr b L i) (n := 700) (by omega) (by decide)
  have w := wd_pos hq
  have nL : ¬ L ≤ fr b L i := by omega
  have spn := sp_next (b := b) (L := L) i
  have hX1 := h.sI 5 i (nI (fr b L i))
  have b1' : mI (sI X 5 i (nI (fr b L i))) 3 = b := by
    rw [← hb]
    funext k
    rw [mI_sI, if_neg (by omega)]
  have L1 : mI (sI X 5 i (nI (fr b L i))) 2 1 = nI L := by rw [mI_sI, if_neg (by omega)]; exact hL
  have kd_ : kd b L i = if isL (b (fr b L i)) then (if 6 < wd b L i then 5 else if kw (wlt b L i) = -1 then 2 else 1) else if isD (b (fr b L i)) then (if 9 < wd b L i then 5 else 3) else if b (fr b L i) = 59 then 4 else 5 := by
    unfold kd
    rw [if_neg nL]
  have te_ : te b L (fr b L i) = if isL (b (fr b L i)) then rn isL b (L - fr b L i) (fr b L i) else if isD (b (fr b L i)) then rn isD b (L - fr b L i) (fr b L i) else fr b L i + 1 := by
    unfold te
    rw [if_neg nL]
  have sub : nI (sp b L (i + 1)) - nI (fr b L i) = nI (wd b L i) := by
    rw [pk_sub (by omega), ← w.2, show fr b L i + wd b L i - fr b L i = wd b L i by omega]
  have spL := (sp_le (b := b) (L := L) (i + 1)).1
  by_cases l : isL (b (fr b L i)) = true
  · rw [if_pos l] at kd_ te_
    have sw := c_swL hX1 L1 hL7 n (nI i) (nI (fr b L i)) (L - fr b L i) (fr b L i) 0 n (by omega) (by omega)
    rw [b1', ← te_, ← spn, show sp b L (i + 1) - fr b L i = wd b L i by omega] at sw
    have letters : ∀ j, fr b L i ≤ j → j < fr b L i + wd b L i → isL (b j) = true := fun j h1 h2 => by
      have r := (rn_b isL b (L - fr b L i) (fr b L i)).2.2.1 j h1
      rw [← te_, ← spn] at r
      exact r (by omega)
    by_cases w6 : wd b L i ≤ 6
    · have le6 : nI (wd b L i) ≤ (6 : Int32) := nI_le (b := 6) w6 (by decide)
      have nmw : Nm (wlt b L i) := ⟨by unfold wlt; rw [lts_len]; exact w.1, by unfold wlt; rw [lts_len]; exact w6, lts_ok _ _ letters⟩
      have cd : wlf b (wd b L i) (fr b L i) 0 = nI (c5 (wlt b L i)) := by
        have := wlf_c5 (b := b) (wd b L i) (fr b L i) 0 letters (Or.inr (Nat.pow_pos (by decide))) w6
        rw [Nat.zero_mul, Nat.zero_add] at this
        exact this
      rw [cd] at sw
      have kk := kwc_kw nmw
      rw [if_neg (show ¬ 6 < wd b L i by omega)] at kd_
      have vl_ : vl b L i = if kw (wlt b L i) = -1 then nI (c5 (wlt b L i)) else kw (wlt b L i) := by unfold vl; rw [if_pos l]
      by_cases kz : kw (wlt b L i) = -1
      · rw [if_pos kz] at kd_ vl_
        refine ⟨_, ?_, TokW.of3 (v := 2) (w := nI (c5 (wlt b L i))) kd_.symm (fun _ => vl_.symm)⟩
        simp only [fX9_scanToken, h.1, h.2.1, h.2.2, li_T, li_L, li_R, nm, bd, q_b, ne_eq, Nat.reduceEqDiff, reduceCtorEq, and_false, false_and, and_true, true_and, and_self, not_false_eq_true, not_true_eq_false, ↓reduceIte, k1, k2.1, k2.2, mT_sI, mL_sI, mR_sI, q1, q2.1, q2.2, b1', c_isL, l, b1, fX9_scanWord, sw, fX9_scanWord_L45, c_kw (n := n) (by omega), kk, kz, sub, le6, fX9_scanWord_L108]
      · rw [if_neg kz] at kd_ vl_
        refine ⟨_, ?_, TokW.of3 (v := 1) (w := kw (wlt b L i)) kd_.symm (fun _ => vl_.symm)⟩
        simp only [fX9_scanToken, h.1, h.2.1, h.2.2, li_T, li_L, li_R, nm, bd, q_b, ne_eq, Nat.reduceEqDiff, reduceCtorEq, and_false, false_and, and_true, true_and, and_self, not_false_eq_true, not_true_eq_false, ↓reduceIte, k1, k2.1, k2.2, mT_sI, mL_sI, mR_sI, q1, q2.1, q2.2, b1', c_isL, l, b1, fX9_scanWord, sw, fX9_scanWord_L45, c_kw (n := n) (by omega), kk, kz, sub, le6, fX9_scanWord_L108]
    · have le6 : ¬ nI (wd b L i) ≤ (6 : Int32) := nI_ge (a := 6) (b := wd b L i) (by omega) (by omega)
      rw [if_pos (show 6 < wd b L i by omega)] at kd_
      refine ⟨_, ?_, TokW.of2 (v := 5) kd_.symm (by rw [kd_]; decide)⟩
      simp only [fX9_scanToken, h.1, h.2.1, h.2.2, li_T, li_L, li_R, nm, bd, q_b, ne_eq, Nat.reduceEqDiff, reduceCtorEq, and_false, false_and, and_true, true_and, and_self, not_false_eq_true, not_true_eq_false, ↓reduceIte, k1, k2.1, k2.2, mT_sI, mL_sI, mR_sI, q1, q2.1, q2.2, b1', c_isL, l, b1, fX9_scanWord, sw, fX9_scanWord_L45, c_kw (n := n) (by omega), sub, le6, fX9_scanWord_L108]
  · rw [if_neg l] at kd_ te_
    have vl_ : vl b L i = nI (dgs b (wd b L i) (fr b L i) 0) := by unfold vl; rw [if_neg l]
    by_cases d : isD (b (fr b L i)) = true
    · rw [if_pos d] at kd_ te_
      obtain ⟨v', s1, s2⟩ := c_snL hX1 L1 hL7 n (nI i) (nI (fr b L i)) (L - fr b L i) (fr b L i) 0 n (by omega) (by omega)
      rw [b1', ← te_, ← spn] at s1 s2
      rw [show sp b L (i + 1) - fr b L i = wd b L i by omega] at s2
      have s1' : fX9_scanNumber_L5 n n 2 (nI i) (nI (fr b L i)) 0 (nI (fr b L i)) (sI X 5 i (nI (fr b L i))) = _ := s1
      by_cases w9 : wd b L i ≤ 9
      · have le9 : nI (wd b L i) ≤ (9 : Int32) := nI_le (b := 9) w9 (by decide)
        rw [if_neg (show ¬ 9 < wd b L i by omega)] at kd_
        refine ⟨_, ?_, TokW.of3 (v := 3) (w := v') kd_.symm (fun _ => by rw [vl_]; exact s2 w9 (Nat.pow_pos (by decide)))⟩
        simp only [fX9_scanToken, h.1, h.2.1, h.2.2, li_T, li_L, li_R, nm, bd, q_b, ne_eq, Nat.reduceEqDiff, reduceCtorEq, and_false, false_and, and_true, true_and, and_self, not_false_eq_true, not_true_eq_false, ↓reduceIte, k1, k2.1, k2.2, mT_sI, mL_sI, mR_sI, q1, q2.1, q2.2, b1', c_isL, c_isD, l, d, b1, fX9_scanNumber, s1', fX9_scanNumber_L49, fX9_scanNumber_L68, sub, le9]
      · have le9 : ¬ nI (wd b L i) ≤ (9 : Int32) := nI_ge (a := 9) (b := wd b L i) (by omega) (by omega)
        rw [if_pos (show 9 < wd b L i by omega)] at kd_
        refine ⟨_, ?_, TokW.of3 (v := 5) (w := v') kd_.symm (fun z => absurd z (by rw [kd_]; decide))⟩
        simp only [fX9_scanToken, h.1, h.2.1, h.2.2, li_T, li_L, li_R, nm, bd, q_b, ne_eq, Nat.reduceEqDiff, reduceCtorEq, and_false, false_and, and_true, true_and, and_self, not_false_eq_true, not_true_eq_false, ↓reduceIte, k1, k2.1, k2.2, mT_sI, mL_sI, mR_sI, q1, q2.1, q2.2, b1', c_isL, c_isD, l, d, b1, fX9_scanNumber, s1', fX9_scanNumber_L49, fX9_scanNumber_L68, sub, le9]
    · rw [if_neg d] at kd_ te_
      rw [spn, te_]
      have l59 : ¬ isL 59 = true := by decide
      have d59 : ¬ isD 59 = true := by decide
      by_cases z : b (fr b L i) = 59
      · rw [if_pos z] at kd_
        refine ⟨_, ?_, TokW.of2 (v := 4) kd_.symm (by rw [kd_]; decide)⟩
        simp only [fX9_scanToken, h.1, h.2.1, h.2.2, li_T, li_L, li_R, nm, bd, q_b, ne_eq, Nat.reduceEqDiff, reduceCtorEq, and_false, false_and, and_true, true_and, and_self, not_false_eq_true, not_true_eq_false, ↓reduceIte, k1, k2.1, k2.2, mT_sI, mL_sI, mR_sI, q1, q2.1, q2.2, b1', c_isL, c_isD, l, d, b1, l59, d59, z, fX9_scanToken_L66, nI_1]
      · rw [if_neg z] at kd_
        refine ⟨_, ?_, TokW.of2 (v := 5) kd_.symm (by rw [kd_]; decide)⟩
        simp only [fX9_scanToken, h.1, h.2.1, h.2.2, li_T, li_L, li_R, nm, bd, q_b, ne_eq, Nat.reduceEqDiff, reduceCtorEq, and_false, false_and, and_true, true_and, and_self, not_false_eq_true, not_true_eq_false, ↓reduceIte, k1, k2.1, k2.2, mT_sI, mL_sI, mR_sI, q1, q2.1, q2.2, b1', c_isL, c_isD, l, d, b1, l59, d59, z, fX9_scanToken_L66, nI_1]
theorem c_scL {L : Nat} (hL7 : L ≤ 700) (hn : 1000 ≤ n) {b : Nat → Int32} : ∀ (d p i : Nat) (X : Mm) (j : Nat), L - p ≤ d → d < j → p ≤ L → i ≤ p → sk b L p = fr b L i → Shp bk dr X → mI X 2 1 = nI L → mI X 3 = b →
    ∃ Y, fX9_scanAll_L4 n j 2 (nI i) (nI p) X = some ((), Y) ∧ (∀ k, i ≤ k → (∀ m, m < k → fr b L m < L) → TokF b L k Y) ∧ (∀ c k, ¬ ((c = 4 ∨ c = 5 ∨ c = 6) ∧ i ≤ k) → mI Y c k = mI X c k) ∧ mJ Y = mJ X ∧ mT Y = mT X ∧ mL Y = mL X ∧ mR Y = mR X := by
  intro d
  induction d with
  | zero =>
    intro p i X j hd hj hp hi hs h hL hb
    obtain ⟨j, rfl⟩ : ∃ k, j = k + 1 := ⟨j - 1, by omega⟩
    obtain rfl : p = L := by omega
    have k1 : (nI i).toNatClampNeg = i := nI_clamp (by omega)
    have k2 := inL_nI (j := i) (n := 701) (by omega) (by decide)
    have e3 : nI p ≤ nI p := nI_le (Nat.le_refl _) (by omega)
    have fi : fr b p i = p := by rw [← hs]; exact rn_e (Nat.le_refl _)
    have L1 : mI (sI X 4 i 0) 2 1 = nI p := by rw [mI_sI, if_neg (by omega)]; exact hL
    refine ⟨sI (sI X 4 i 0) 5 i (nI p), ?_, fun k h1 h2 => ?_, fun c k hk => ?_, rfl, rfl, rfl, rfl⟩
    · rw [fX9_scanAll_L4]
      simp only [h.1, h.2.1, h.2.2, li_T, li_L, li_R, nm, bd, q_b, ne_eq, Nat.reduceEqDiff, reduceCtorEq, and_false, false_and, and_true, true_and, and_self, not_false_eq_true, not_true_eq_false, ↓reduceIte, hL, e3, fX9_scanAll_L60, k1, k2.1, k2.2, mT_sI, mL_sI, mR_sI, L1]
    · have ki : k = i := by
        by_cases z : k = i
        · exact z
        · have := h2 i (by omega)
          omega
      subst ki
      have kz : kd b p k = 0 := by unfold kd; rw [if_pos (by omega)]
      refine ⟨by rw [mI_sI, if_neg (by omega), mI_sI, if_pos ⟨rfl, rfl⟩, kz], fun z => absurd z (by rw [kz]; decide), by rw [mI_sI, if_pos ⟨rfl, rfl⟩, fi]⟩
    · rw [mI_sI, if_neg (by omega), mI_sI, if_neg (by omega)]
  | succ d ih =>
    intro p i X j hd hj hp hi hs h hL hb
    by_cases pl : p = L
    · exact (by
        subst pl
        obtain ⟨j, rfl⟩ : ∃ k, j = k + 1 := ⟨j - 1, by omega⟩
        have k1 : (nI i).toNatClampNeg = i := nI_clamp (by omega)
        have k2 := inL_nI (j := i) (n := 701) (by omega) (by decide)
        have e3 : nI p ≤ nI p := nI_le (Nat.le_refl _) (by omega)
        have fi : fr b p i = p := by rw [← hs]; exact rn_e (Nat.le_refl _)
        have L1 : mI (sI X 4 i 0) 2 1 = nI p := by rw [mI_sI, if_neg (by omega)]; exact hL
        refine ⟨sI (sI X 4 i 0) 5 i (nI p), ?_, fun k h1 h2 => ?_, fun c k hk => ?_, rfl, rfl, rfl, rfl⟩
        · rw [fX9_scanAll_L4]
          simp only [h.1, h.2.1, h.2.2, li_T, li_L, li_R, nm, bd, q_b, ne_eq, Nat.reduceEqDiff, reduceCtorEq, and_false, false_and, and_true, true_and, and_self, not_false_eq_true, not_true_eq_false, ↓reduceIte, hL, e3, fX9_scanAll_L60, k1, k2.1, k2.2, mT_sI, mL_sI, mR_sI, L1]
        · have ki : k = i := by
            by_cases z : k = i
            · exact z
            · have := h2 i (by omega)
              omega
          subst ki
          have kz : kd b p k = 0 := by unfold kd; rw [if_pos (by omega)]
          refine ⟨by rw [mI_sI, if_neg (by omega), mI_sI, if_pos ⟨rfl, rfl⟩, kz], fun z => absurd z (by rw [kz]; decide), by rw [mI_sI, if_pos ⟨rfl, rfl⟩, fi]⟩
        · rw [mI_sI, if_neg (by omega), mI_sI, if_neg (by omega)])
    · obtain ⟨j, rfl⟩ : ∃ k, j = k + 1 := ⟨j - 1, by omega⟩
      have e3 : ¬ nI L ≤ nI p := nI_ge (by omega) (by omega)
      have e7 : ¬ (700 : Int32) ≤ nI i := nI_ge (a := i) (b := 700) (by omega) (by omega)
      have q1 : (nI p).toNatClampNeg = p := nI_clamp (by omega)
      have q2 := inL_nI (j := p) (n := 700) (by omega) (by decide)
      have hbp : mI X 3 p = b p := by rw [hb]
      by_cases bl : isB (b p) = true
      · have s1 : sk b L (p + 1) = fr b L i := by rw [← hs]; exact (rn_1 (by omega) bl).symm
        obtain ⟨Y, y1, y2⟩ := ih (p + 1) i X j (by omega) (by omega) (by omega) (by omega) s1 h hL hb
        refine ⟨Y, ?_, y2⟩
        rw [fX9_scanAll_L4]
        unfold isB at bl
        have bl := of_decide_eq_true bl
        by_cases c32 : b p = 32
        · simp only [h.1, h.2.1, h.2.2, li_T, li_L, li_R, nm, bd, q_b, ne_eq, Nat.reduceEqDiff, reduceCtorEq, and_false, false_and, and_true, true_and, and_self, not_false_eq_true, not_true_eq_false, ↓reduceIte, hL, e3, e7, q1, q2.1, q2.2, hbp, c32, fX9_scanAll_L41, nI_1]
          exact y1
        · have c10 := bl.resolve_left c32
          have n10 : ¬ (10 : Int32) = 32 := by decide
          simp only [h.1, h.2.1, h.2.2, li_T, li_L, li_R, nm, bd, q_b, ne_eq, Nat.reduceEqDiff, reduceCtorEq, and_false, false_and, and_true, true_and, and_self, not_false_eq_true, not_true_eq_false, ↓reduceIte, hL, e3, e7, q1, q2.1, q2.2, hbp, c10, n10, fX9_scanAll_L41, nI_1]
          exact y1
      · have fp : fr b L i = p := by rw [← hs]; exact rn_0 (by omega) bl
        obtain ⟨Z, z1, z2⟩ := c_tok h hL hL7 hn (i := i) (by omega) hb (by omega)
        obtain ⟨w1, w2, w3, w4, w5, w6, w7, w8⟩ := z2
        have t := te_b (b := b) (L := L) p (by omega)
        have t2 := t.2.2 (by omega)
        have spn : sp b L (i + 1) = te b L p := by rw [sp_next, fp]
        have hZ : Shp bk dr Z := ⟨w6.trans h.1, w7.trans h.2.1, w8.trans h.2.2⟩
        obtain ⟨Y, y1, y2, y3, y4, y5, y6, y7⟩ := ih (te b L p) (i + 1) Z j (by omega) (by omega) t.1 (by omega) (by rw [← spn]; rfl) hZ (by rw [w4 2 1 (by omega)]; exact hL) (by funext k; rw [w4 3 k (by omega), hb])
        refine ⟨Y, ?_, fun k h1 h2 => ?_, fun c k hk => ?_, y4.trans w5, y5.trans w6, y6.trans w7, y7.trans w8⟩
        · have c32 : ¬ b p = 32 := fun z => bl (by unfold isB; exact decide_eq_true (Or.inl z))
          have c10 : ¬ b p = 10 := fun z => bl (by unfold isB; exact decide_eq_true (Or.inr z))
          rw [fp, spn] at z1
          rw [fX9_scanAll_L4]
          simp only [h.1, h.2.1, h.2.2, li_T, li_L, li_R, nm, bd, q_b, ne_eq, Nat.reduceEqDiff, reduceCtorEq, and_false, false_and, and_true, true_and, and_self, not_false_eq_true, not_true_eq_false, ↓reduceIte, hL, e3, e7, q1, q2.1, q2.2, hbp, c32, c10, z1, nI_1]
          exact y1
        · by_cases ki : k = i
          · subst ki
            unfold TokF
            rw [y3 4 k (by omega), y3 5 k (by omega), y3 6 k (by omega)]
            exact ⟨w1, w2, w3⟩
          · exact y2 k (by omega) h2
        · rw [y3 c k (by omega), w4 c k (by omega)]
/-- all tokens are written down -/
theorem c_scan (h : Shp bk dr X) {L : Nat} (hL : mI X 2 1 = nI L) (hL7 : L ≤ 700) (hn : 1000 ≤ n) {b : Nat → Int32} (hb : mI X 3 = b) : ∃ Y, fX9_scanAll n 2 X = some ((), Y) ∧ (∀ k, (∀ m, m < k → fr b L m < L) → TokF b L k Y) ∧ (∀ c k, ¬ (c = 4 ∨ c = 5 ∨ c = 6) → mI Y c k = mI X c k) ∧ mJ Y = mJ X ∧ Shp bk dr Y := by
  obtain ⟨Y, y1, y2, y3, y4, y5, y6, y7⟩ := c_scL (bk := bk) (dr := dr) hL7 hn (b := b) 700 0 0 X n (by omega) (by omega) (by omega) (by omega) rfl h hL hb
  exact ⟨Y, y1, fun k hk => y2 k (Nat.zero_le _) hk, fun c k hk => y3 c k (fun z => hk z.1), y4, ⟨y5.trans h.1, y6.trans h.2.1, y7.trans h.2.2⟩⟩
end
