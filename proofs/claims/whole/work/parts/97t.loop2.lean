/-! TEXTS: the deeds are done, one behind another -/
section
variable {b : Nat → Int32} {L : Nat} {nh np : Nat → List Nat} {H P bk dr n m K : Nat} {W Z : Mm} {s t : St3}
theorem pW_I (q : Nat) (u : Wt) (X : Mm) (c k : Nat) : mI (pW q u X) c k = if q ≤ c ∧ c ≤ q + 42 then u.1 (c - q) k else mI X c k := rfl
theorem pW_J (q : Nat) (u : Wt) (X : Mm) (c k : Nat) : mJ (pW q u X) c k = if q ≤ c ∧ c ≤ q + 42 then u.2 (c - q) k else mJ X c k := rfl
theorem pW_N (q : Nat) (u : Wt) (X : Mm) : mN (pW q u X) = mN X := rfl
theorem pW_T (q : Nat) (u : Wt) (X : Mm) : mT (pW q u X) = mT X := rfl
theorem pW_L (q : Nat) (u : Wt) (X : Mm) : mL (pW q u X) = mL X := rfl
theorem pW_R (q : Nat) (u : Wt) (X : Mm) : mR (pW q u X) = mR X := rfl
theorem pW_S (q : Nat) (u : Wt) (X : Mm) : mS (pW q u X) = mS X := rfl
theorem wI_N (X : Mm) (c : Nat) (d : Nat → Int32) : mN (wI X c d) = mN X := rfl
theorem wI_T (X : Mm) (c : Nat) (d : Nat → Int32) : mT (wI X c d) = mT X := rfl
theorem wI_L (X : Mm) (c : Nat) (d : Nat → Int32) : mL (wI X c d) = mL X := rfl
theorem wI_R (X : Mm) (c : Nat) (d : Nat → Int32) : mR (wI X c d) = mR X := rfl
theorem wI_S (X : Mm) (c : Nat) (d : Nat → Int32) : mS (wI X c d) = mS X := rfl
theorem wI_J (X : Mm) (c : Nat) (d : Nat → Int32) : mJ (wI X c d) = mJ X := rfl
theorem pW_c {q : Nat} (hq : 15 < q) (u : Wt) (s : St3) (W : Mm) (d : Nat → Int32) : pW q u (U2 s (wI W 15 d)) = U2 s (wI (pW q u W) 15 d) := by
  refine Mm_ext ?_ ?_ ?_ (funext fun c => funext fun k => ?_) (funext fun c => funext fun k => ?_) ?_ ?_
  · rw [pW_N, U2_N, U2_N, wI_N, wI_N, pW_N]
  · rw [pW_T, U2_T, U2_T, wI_T, wI_T, pW_T]
  · rw [pW_L, U2_L, U2_L, wI_L, wI_L, pW_L]
  · rw [pW_I]
    by_cases e : q ≤ c ∧ c ≤ q + 42
    · rw [if_pos e, U2_Io _ _ (by omega), mI_wI, if_neg (by omega), pW_I, if_pos e]
    · rw [if_neg e, U2_I, U2_I, mI_wI, mI_wI, pW_I, if_neg e]
  · rw [pW_J, U2_jj, U2_jj, wI_J, wI_J, pW_J]
  · rw [pW_R, U2_R, U2_R, wI_R, wI_R, pW_R]
  · rw [pW_S, U2_S, U2_S, wI_S, wI_S, pW_S]
theorem CB.pw {q : Nat} (hq : 15 < q) (h : CB b L nh np H P bk dr W) (u : Wt) : CB b L nh np H P bk dr (pW q u W) := by
  have b7 : bk = 7 ∨ bk = 11 := by rcases h.2.1 with z | z <;> omega
  have e : ∀ c k, c ≤ 15 → mI (pW q u W) c k = mI W c k := fun c k hc => mI_pWo c k (by omega)
  obtain ⟨h1, h2, h3, h4, h5, h6, h7, h8⟩ := h
  refine ⟨⟨h1.1, h1.2.1, fun k hk => ?_⟩, h2, h3, h4, (e _ _ (by omega)).trans h5, (e _ _ (by omega)).trans h6, fun i hi => ?_, fun i hi => ?_⟩
  · obtain ⟨t1, t2, t3⟩ := h1.2.2 k hk
    exact ⟨(e _ _ (by omega)).trans t1, fun z => (e _ _ (by omega)).trans (t2 z), (e _ _ (by omega)).trans t3⟩
  · rw [e _ _ (by omega)]; exact h7 i hi
  · rw [e _ _ (by omega)]; exact h8 i hi
theorem gW_c {q : Nat} (hq : 15 < q) (s : St3) (W : Mm) (d : Nat → Int32) : gW q (U2 s (wI W 15 d)) = gW q W := by
  refine Prod.ext (funext fun a => funext fun k => ?_) (funext fun a => funext fun k => ?_)
  · show mI (U2 s (wI W 15 d)) (q + a) k = mI W (q + a) k
    rw [U2_Io _ _ (by omega), mI_wI, if_neg (by omega)]
  · show mJ (U2 s (wI W 15 d)) (q + a) k = mJ W (q + a) k
    rw [U2_jj, wI_J]
/-- the reference's memory with all deeds read -/
def RF (b : Nat → Int32) (L : Nat) (nh np : Nat → List Nat) (H P bk dr K : Nat) (Z : Mm) : Prop := Shp bk dr Z ∧ mI Z 366 6 = nI H ∧ mI Z 366 7 = nI P ∧ mI Z 366 31 = nI K ∧ ∀ j, j < K → mI Z 378 j = nI (dw b L (ds b L nh np H P j).1) ∧ RA (dw b L (ds b L nh np H P j).1) (VV b L nh np H P (ds b L nh np H P j)) (fun k => mI Z 379 (10 * j + k))
theorem both2 (hn : 1200 ≤ n) (hK : K ≤ 140) (k1 : ∀ i, i < K → Go b L nh np H P i ∧ i < 140) (k3 : ∀ i, i ≤ K → VI b L (ds b L nh np H P i).1) (kw : ∀ i, i < K → dw b L (ds b L nh np H P i).1 ≠ 0) (hZ : RF b L nh np H P bk dr K Z) :
    ∀ r i W d f, i + r = K → CB b L nh np H P bk dr W → SR H P f (gW 16 W) → ∃ s' W' d' e f', i ≤ e ∧ e ≤ K ∧ (s' = ds b L nh np H P e ∨ (e < K ∧ s' = ds b L nh np H P (e + 1))) ∧ CB b L nh np H P bk dr W' ∧ SR H P f' (gW 16 W') ∧ (∀ c, c < 16 ∨ 58 < c → mI W' c = mI W c ∧ mJ W' c = mJ W c) ∧
      (e = i → f' = f ∧ gW 16 W' = gW 16 W) ∧
      (∀ j, r < j → fX11_doWhatWasRead_L23 n j 1 (nI K) (nI i) (U2 (ds b L nh np H P i) (wI W 15 d)) = fX11_doWhatWasRead_L67 n 1 (nI e) (U2 s' (wI W' 15 d'))) ∧
      ∀ j, r < j → fX12_deeds_L64 n j 366 (nI i) (wJ Z 367 f) = fX12_deeds_L87 n 366 (nI e) (wJ Z 367 f') := by
  have z31 := hZ.2.2.2.1
  intro r
  induction r with
  | zero =>
    intro i W d f hi h sr
    obtain rfl : i = K := by omega
    refine ⟨ds b L nh np H P i, W, d, i, f, Nat.le_refl _, Nat.le_refl _, Or.inl rfl, h, sr, fun c _ => ⟨rfl, rfl⟩, fun _ => ⟨rfl, rfl⟩, fun j hj => ?_, fun j hj => ?_⟩
    · obtain ⟨j, rfl⟩ : ∃ k, j = k + 1 := ⟨j - 1, by omega⟩
      rw [fX11_doWhatWasRead_L23, if_pos (nI_le (by omega) (by omega))]
    · obtain ⟨j, rfl⟩ : ∃ k, j = k + 1 := ⟨j - 1, by omega⟩
      have c1 : nI i ≤ nI i := nI_le (by omega) (by omega)
      have h := hZ.1
      rw [fX12_deeds_L64]
      simp only [h.1, h.2.1, h.2.2, li_T, li_L, li_R, nm, bd, q_b, ne_eq, Nat.reduceEqDiff, reduceCtorEq, and_false, false_and, and_true, true_and, and_self, not_false_eq_true, not_true_eq_false, ↓reduceIte, mT_wJ, mI_wJ, z31, c1]
  | succ r ih =>
    intro i W d f hi h sr
    have b0 : bk ≠ 0 := by rcases h.2.1 with z | z <;> omega
    have gi := k1 i (by omega)
    have nle : ¬ nI K ≤ nI i := nI_ge (by omega) (by omega)
    obtain ⟨d2, e2, cd⟩ := c_deed (n := n) h (k3 i (by omega)) (by omega) gi.1.1 d
    have ne := kw i (by omega)
    have iw : isW (dw b L (ds b L nh np H P i).1) := by
      rcases dw_c (b := b) (L := L) (ds b L nh np H P i).1 with z | z
      · exact absurd z.1 ne
      · exact z.1
    have dd := dd_w (H := H) (P := P) (n := n) iw hn (cd ne)
    have hX := (h.at (ds b L nh np H P (i + 1)) d2).1
    have hX0 := (h.at (ds b L nh np H P i) d).1
    have x15 : mI (U2 (ds b L nh np H P (i + 1)) (wI W 15 d2)) 15 = d2 := funext fun k => U2_m15 _ _ _ _
    have D := dd bk dr (U2 (ds b L nh np H P (i + 1)) (wI W 15 d2)) f (gW 16 W) hX x15 h.2.2.1 h.2.2.2.1 sr
    have pid : pW 16 (gW 16 W) (U2 (ds b L nh np H P (i + 1)) (wI W 15 d2)) = U2 (ds b L nh np H P (i + 1)) (wI W 15 d2) := by
      rw [← gW_c (q := 16) (by decide) (ds b L nh np H P (i + 1)) W d2, pW_gW]
    rw [pid] at D
    have ed : dst b L nh np H P (ds b L nh np H P i) = ds b L nh np H P (i + 1) := rfl
    rw [ed] at e2
    have t16 : sh_T 16 = 8 := (st_T 16 St.now).1
    rcases D with ⟨r', u', r1, e3, e4⟩ | ⟨e3, e4⟩
    · rw [pW_c (by decide)] at e3
      have h2 := h.pw (q := 16) (by decide) u'
      obtain ⟨f2, g1, g2⟩ := e4 Z i hZ.1 hZ.2.1 hZ.2.2.1 gi.2 (hZ.2.2.2.2 i (by omega)).1 (hZ.2.2.2.2 i (by omega)).2
      obtain ⟨s', W', d', e, f', y1, y2, y3, y4, y5, y6, -, y7, y8⟩ := ih (i + 1) (pW 16 u' W) d2 f2 (by omega) h2 (g2.weq Weq.pW (fun _ _ => rfl))
      refine ⟨s', W', d', e, f', by omega, y2, y3, y4, y5, fun c hc => ?_, fun q => absurd q (by omega), fun j hj => ?_, fun j hj => ?_⟩
      · obtain ⟨a1, a2⟩ := y6 c hc
        exact ⟨a1.trans (funext fun k => mI_pWo c k (by omega)), a2.trans (funext fun k => mJ_pWo c k (by omega))⟩
      · obtain ⟨j, rfl⟩ : ∃ k, j = k + 1 := ⟨j - 1, by omega⟩
        rw [← y7 j (by omega)]
        have h := hX0
        rw [fX11_doWhatWasRead_L23]
        simp only [h.1, h.2.1, h.2.2, li_T, li_L, li_R, nm, bd, q_b, ne_eq, Nat.reduceEqDiff, reduceCtorEq, and_false, false_and, and_true, true_and, and_self, not_false_eq_true, not_true_eq_false, ↓reduceIte, nle, b0, e2, hX.1, hX.2.2, t16, e3, r1, nI_1]
      · obtain ⟨j, rfl⟩ : ∃ k, j = k + 1 := ⟨j - 1, by omega⟩
        rw [← y8 j (by omega)]
        have h := hZ.1
        rw [fX12_deeds_L64]
        simp only [h.1, h.2.1, h.2.2, li_T, li_L, li_R, nm, bd, q_b, ne_eq, Nat.reduceEqDiff, reduceCtorEq, and_false, false_and, and_true, true_and, and_self, not_false_eq_true, not_true_eq_false, ↓reduceIte, mT_wJ, mI_wJ, z31, nle, g1, b1, nI_1]
    · refine ⟨ds b L nh np H P (i + 1), W, d2, i, f, Nat.le_refl _, by omega, Or.inr ⟨by omega, rfl⟩, h, sr, fun c _ => ⟨rfl, rfl⟩, fun _ => ⟨rfl, rfl⟩, fun j hj => ?_, fun j hj => ?_⟩
      · obtain ⟨j, rfl⟩ : ∃ k, j = k + 1 := ⟨j - 1, by omega⟩
        have h := hX0
        rw [fX11_doWhatWasRead_L23]
        simp only [h.1, h.2.1, h.2.2, li_T, li_L, li_R, nm, bd, q_b, ne_eq, Nat.reduceEqDiff, reduceCtorEq, and_false, false_and, and_true, true_and, and_self, not_false_eq_true, not_true_eq_false, ↓reduceIte, nle, b0, e2, hX.1, hX.2.2, t16, e3]
      · obtain ⟨j, rfl⟩ : ∃ k, j = k + 1 := ⟨j - 1, by omega⟩
        have zd := e4 Z i hZ.1 hZ.2.1 hZ.2.2.1 gi.2 (hZ.2.2.2.2 i (by omega)).1 (hZ.2.2.2.2 i (by omega)).2
        have h := hZ.1
        rw [fX12_deeds_L64]
        simp only [h.1, h.2.1, h.2.2, li_T, li_L, li_R, nm, bd, q_b, ne_eq, Nat.reduceEqDiff, reduceCtorEq, and_false, false_and, and_true, true_and, and_self, not_false_eq_true, not_true_eq_false, ↓reduceIte, mT_wJ, mI_wJ, z31, nle, zd]
end
