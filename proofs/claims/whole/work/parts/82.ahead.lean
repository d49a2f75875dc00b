/-! QUERIES: ahead, purseAhead -/
section
variable {bk dr H P n T G : Nat} {X : Mm} {f : Nat → Int64} {w : Wt}
/-- the spare State counts for nothing -/
theorem q_spare (h : Tp bk dr H P X) : ∃ nx, nx < 7 ∧ mI X 59 1 = nI nx ∧ ∀ u, Tp bk dr H P (pW (sl nx) u X) := by
  have hT := h
  obtain ⟨h1, h2, h3, h4, h5, h6, h7, ⟨nx, c, g1, g2, g3, g4, g5, g6⟩, -, -, -, -, -⟩ := h
  refine ⟨nx, g1, g3, fun u => ?_⟩
  have hlo : sl nx = 61 + 43 * nx := rfl
  have hY : Shp bk dr (pW (sl nx) u X) := h1.pW
  have yI : ∀ c k, (c < sl nx ∨ sl nx + 42 < c) → mI (pW (sl nx) u X) c k = mI X c k := fun c k hc => mI_pWo c k hc
  have yJ : ∀ c k, (c < sl nx ∨ sl nx + 42 < c) → mJ (pW (sl nx) u X) c k = mJ X c k := fun c k hc => mJ_pWo c k hc
  generalize pW (sl nx) u X = Y at *
  refine hT.upd hY (fun a k _ ha _ => yI _ _ (by omega)) (fun a ha k => yJ _ _ (by omega)) ?_ ⟨nx, c, g1, g2, by rw [yI _ _ (by omega)]; exact g3, by rw [yI _ _ (by omega)]; exact g4, by rw [yI _ _ (by omega)]; exact g5, fun j hj => ?_⟩
  · exact h7.weq (Weq.of (fun a k ha => yI _ _ (by omega)) (fun a k ha => yJ _ _ (by omega))) (fun p _ => yJ _ _ (by omega))
  · have ne : (nx + 7 - c + j) % 7 ≠ nx := by omega
    have lt : (nx + 7 - c + j) % 7 < 7 := by omega
    have g := g6 j hj
    generalize (nx + 7 - c + j) % 7 = i at *
    exact g.weq (Weq.of (s := 61 + 43 * i) (s' := 61 + 43 * i) (fun a k ha => yI (61 + 43 * i + a) k (by omega)) (fun a k ha => yJ (61 + 43 * i + a) k (by omega))) (fun p _ => yJ 370 _ (by omega))
theorem q_isAhead (v : Int32) : fX11_isAhead v X = some (bo (0 ≤ v ∧ v ≤ 99), X) := by
  unfold fX11_isAhead fX11_isAhead_L14
  by_cases h1 : v < 0
  · rw [if_pos h1, bo_f (fun z => i32_nlt.mpr z.1 h1)]
  · rw [if_neg h1]
    by_cases h2 : 99 < v
    · rw [if_pos h2, bo_f (fun z => i32_nlt.mpr z.2 h2)]
    · rw [if_neg h2, bo_t ⟨i32_nlt.mp h1, i32_nlt.mp h2⟩]
theorem c_stateAhead (h : Shp bk dr X) {nx d v : Nat} (g1 : nx < 7) (g3 : mI X 59 1 = nI nx) (ok : Ok T G H (N_cp (gW 16 X) (gW (sl nx) X)).1) (hd : (N_cp (gW 16 X) (gW (sl nx) X)).1 0 8 = nI d) (d9 : d ≤ 999) (v9 : v ≤ 99) (hn : 1200 ≤ n) : fX11_stateAhead n 1 (nI v) X = some (sl nx, pW (sl nx) (nf (fun _ => N_day T G H) (min v (999 - d)) 0 (N_cp (gW 16 X) (gW (sl nx) X))) X) := by
  have hs := sl_St g1
  have hlo : sl nx = 61 + 43 * nx := rfl
  have cp := c_copy (u := gW (sl nx) X) h St.now hs (by omega)
  rw [pW_gW] at cp
  have mn : (if (999 : Int32) - nI d < nI v then (999 : Int32) - nI d else nI v) = nI (min v (999 - d)) := by
    have e : (999 : Int32) - nI d = nI (999 - d) := pk_sub (a := 999) (b := d) d9
    rw [e]
    by_cases z : nI (999 - d) < nI v
    · rw [if_pos z]
      rw [nI_ltI (by omega) (by omega)] at z
      rw [Nat.min_eq_right (by omega)]
    · rw [if_neg z]
      rw [nI_ltI (by omega) (by omega)] at z
      rw [Nat.min_eq_left (by omega)]
  have pd := (c_passDays (X := X) h hs ok (n := n) (m := min v (999 - d)) (by omega) (by omega) (by omega)).1
  have r8 : mI (pW (sl nx) (N_cp (gW 16 X) (gW (sl nx) X)) X) (sl nx) 8 = nI d := by rw [mI_pW0]; exact hd
  have hY : Shp bk dr (pW (sl nx) (N_cp (gW 16 X) (gW (sl nx) X)) X) := h.pW
  simp only [fX11_stateAhead, h.1, h.2.1, h.2.2, li_T, li_L, li_R, nm, bd, q_b, ne_eq, Nat.reduceEqDiff, reduceCtorEq, and_false, false_and, and_true, true_and, and_self, not_false_eq_true, not_true_eq_false, ↓reduceIte, c_spare h g1 g3, (st_T (sl nx) hs).1, cp, hY.1, r8, mn, pd]
theorem m_goesAhead (h : Shp bk dr X) (R : Rl T G f w) (hH : mI X 366 6 = nI H) (iv : Iv T G H w) {d v : Nat} (hd : w.1 0 8 = nI d) (d9 : d ≤ 999) (v9 : v ≤ 99) (hn : 128 ≤ n) : Ex (fX12_goesAhead n 366 (nI v) (wJ X 367 f)) fun _ Y => RX X T G (nf (fun _ => N_day T G H) (min v (999 - d)) 0 w) Y := by
  refine loop_ex (F := fun j i Y => fX12_goesAhead_L2 n j 366 (nI v) i Y) (N := fun _ => N_day T G H) (I := fun i a Y => RX X T G a Y ∧ Iv T G H a ∧ a.1 0 8 = nI (d + i)) (min v (999 - d)) ?_ (min v (999 - d)) 0 (wJ X 367 f) w n (by omega) (by omega) ⟨⟨_, rfl, R⟩, iv, hd⟩ ?_
  · rintro j i Y a hi ⟨⟨g, rfl, Ra⟩, hv, hda⟩ nxt
    have e3 : ¬ nI v ≤ nI i := nI_ge (by omega) (by omega)
    have e4 : ¬ (999 : Int32) ≤ nI (d + i) := nI_ge (a := d + i) (b := 999) (by omega) (by decide)
    show Ex (fX12_goesAhead_L2 n (j + 1) 366 (nI v) (nI i) (wJ X 367 g)) _
    rw [fX12_goesAhead_L2]
    simp only [h.1, h.2.1, h.2.2, li_T, li_L, li_R, nm, bd, q_b, ne_eq, Nat.reduceEqDiff, reduceCtorEq, and_false, false_and, and_true, true_and, and_self, not_false_eq_true, not_true_eq_false, ↓reduceIte, mT_wJ, mL_wJ, mR_wJ, mI_wJ, mJ_wJ, sJ_wJ, Nat.reduceLT, l60.1, l60.2.1, l60.2.2, l61.1, l61.2.1, l61.2.2, l62.1, l62.2.1, l62.2.2, e3, m_today h Ra, hda, e4]
    refine Ex.bd (m_oneDay h Ra hH hv hda (by omega) (by omega)) ?_
    rintro _ Y' ⟨hR, hv'⟩
    simp only [nI_1]
    refine nxt Y' ⟨hR, hv', ?_⟩
    rw [N_day_fr.2, hda, nI_1]
    rfl
  · rintro j Y ⟨⟨g, rfl, Ra⟩, hv, hda⟩
    show Ex (fX12_goesAhead_L2 n (j + 1) 366 (nI v) (nI (min v (999 - d))) (wJ X 367 g)) _
    rw [fX12_goesAhead_L2]
    by_cases z : v ≤ 999 - d
    · have e3 : nI v ≤ nI (min v (999 - d)) := nI_le (by omega) (by omega)
      simp only [h.1, h.2.1, h.2.2, li_T, li_L, li_R, nm, bd, q_b, ne_eq, Nat.reduceEqDiff, reduceCtorEq, and_false, false_and, and_true, true_and, and_self, not_false_eq_true, not_true_eq_false, ↓reduceIte, mT_wJ, mL_wJ, mR_wJ, mI_wJ, mJ_wJ, sJ_wJ, Nat.reduceLT, l60.1, l60.2.1, l60.2.2, l61.1, l61.2.1, l61.2.2, l62.1, l62.2.1, l62.2.2, e3]
      exact .ret ⟨_, rfl, Ra⟩
    · have e3 : ¬ nI v ≤ nI (min v (999 - d)) := nI_ge (by omega) (by omega)
      have e4 : (999 : Int32) ≤ nI (d + min v (999 - d)) := nI_le (a := 999) (by omega) (by omega)
      simp only [h.1, h.2.1, h.2.2, li_T, li_L, li_R, nm, bd, q_b, ne_eq, Nat.reduceEqDiff, reduceCtorEq, and_false, false_and, and_true, true_and, and_self, not_false_eq_true, not_true_eq_false, ↓reduceIte, mT_wJ, mL_wJ, mR_wJ, mI_wJ, mJ_wJ, sJ_wJ, Nat.reduceLT, l60.1, l60.2.1, l60.2.2, l61.1, l61.2.1, l61.2.2, l62.1, l62.2.1, l62.2.2, e3, m_today h Ra, hda, e4]
      exact .ret ⟨_, rfl, Ra⟩
/-- the reference: aside, so many DAYS, back again -/
theorem m_aside (h : Shp bk dr X) (hn : 24000 ≤ n) : ∃ g, fX12_copies n 366 367 0 369 0 (sI X 366 0 0) = some ((), wJ (sI X 366 0 0) 369 g) ∧ ∀ k, k < 4604 → g k = mJ X 367 k := by
  obtain ⟨g, e, g1, -⟩ := r_copies (h.sI 366 0 0) (a := 367) (b := 369) (by omega) (by omega) (by decide) (p := 0) (q := 0) (n := n) (by decide) (by decide) (by omega)
  refine ⟨g, e, fun k hk => ?_⟩
  have z := g1 k hk
  rw [Nat.zero_add, mJ_sI] at z
  exact z
theorem m_back (h : Shp bk dr X) (hn : 24000 ≤ n) : ∃ g, fX12_copies n 366 369 0 367 0 X = some ((), wJ X 367 g) ∧ ∀ k, k < 4604 → g k = mJ X 369 k := by
  obtain ⟨g, e, g1, -⟩ := r_copies h (a := 369) (b := 367) (by omega) (by omega) (by decide) (p := 0) (q := 0) (n := n) (by decide) (by decide) (by omega)
  refine ⟨g, e, fun k hk => ?_⟩
  have z := g1 k hk
  rw [Nat.zero_add] at z
  exact z
theorem Tp.back (h : Tp bk dr H P X) {ga f' g2 : Nat → Int64} (hg : ∀ k, k < 4604 → g2 k = mJ X 367 k) : Tp bk dr H P (wJ (wJ (wJ (sI X 366 0 0) 369 ga) 367 f') 367 g2) := by
  have h0 := h.told 0
  have hS : Shp bk dr (wJ (wJ (wJ (sI X 366 0 0) 369 ga) 367 f') 367 g2) := (((h.1.sI 366 0 0).wJ _ _).wJ _ _).wJ _ _
  have hY : Tp bk dr H P (wJ (sI X 366 0 0) 367 g2) := by
    have hI : ∀ c k, mI (wJ (sI X 366 0 0) 367 g2) c k = mI (sI X 366 0 0) c k := fun c k => by rw [mI_wJ]
    have hJ : ∀ c, c ≠ 367 → mJ (wJ (sI X 366 0 0) 367 g2) c = mJ (sI X 366 0 0) c := fun c hc => mJ_wJo hc
    have h7 : mJ (wJ (sI X 366 0 0) 367 g2) 367 = g2 := mJ_wJ
    have hS0 : Shp bk dr (wJ (sI X 366 0 0) 367 g2) := (h.1.sI 366 0 0).wJ _ _
    obtain ⟨-, -, -, -, -, -, sr, ⟨nx, c, g1, g2', g3, g4, g5, g6⟩, -⟩ := id h0
    have e0 : mJ (sI X 366 0 0) = mJ X := by rw [mJ_sI]
    refine h0.upd hS0 (fun c k _ _ _ => hI c k) (fun c hc k => by rw [hJ c (by omega)]) ?_ ⟨nx, c, g1, g2', by rw [hI]; exact g3, by rw [hI]; exact g4, by rw [hI]; exact g5, fun j hj => ?_⟩
    · rw [h7]
      refine sr.weq (Weq.of (fun a k _ => hI _ k) (fun a k ha => by rw [hJ _ (by omega)])) (fun p hp => ?_)
      rw [e0]
      exact hg p hp
    · have lt : (nx + 7 - c + j) % 7 < 7 := by omega
      have g := g6 j hj
      generalize (nx + 7 - c + j) % 7 = m at *
      exact g.weq (Weq.of (s := 61 + 43 * m) (s' := 61 + 43 * m) (fun a k _ => hI _ k) (fun a k ha => by rw [hJ _ (by omega)])) (fun p hp => by rw [hJ _ (by decide)])
  exact hY.same hS (fun c k _ => by rw [mI_wJ, mI_wJ, mI_wJ, mI_wJ]) (fun c hc k => by
    by_cases z : c = 367
    · subst z
      rw [mJ_wJ, mJ_wJ]
    · rw [mJ_wJo z, mJ_wJo z, mJ_wJo (by unfold rlJ at hc; omega), mJ_wJo z])
theorem p_canGo (h : Shp bk dr X) (v : Int32) : fX12_canGo 366 v X = some (bo (0 ≤ v ∧ v ≤ 99), X) := by
  simp only [fX12_canGo, h.1, h.2.1, h.2.2, li_T, li_L, li_R, nm, bd, q_b, ne_eq, Nat.reduceEqDiff, reduceCtorEq, and_false, false_and, and_true, true_and, and_self, not_false_eq_true, not_true_eq_false, ↓reduceIte, r_inb v 0 99 (lo := 0) (hi := 99) (by decide) (by decide), bo_01]
theorem s_ahead (h : Tp bk dr H P X) (hn : 24000 ≤ n) (v1 v2 v3 : Int32) : ∃ r X1 X2, fX11_ahead n 1 v1 v2 v3 X = some (r, X1) ∧ fX12_ahead n 366 v1 v2 v3 X1 = some (r, X2) ∧ Tp bk dr H P X2 := by
  have hT := h
  obtain ⟨nx, g1, g3, hsp⟩ := q_spare hT
  obtain ⟨h1, h2, h3, h4, h5, h6, ⟨T, G, R, iv, iw⟩, -, -, -, -, -, -⟩ := h
  have h := h1
  have hs := h1.sI 366 0 0
  have w6 : mI X 16 6 = nI H := iv.1.2.2.2.2.1
  have w7 : mI X 16 7 = nI P := iw.1
  have y6 : mI (sI X 366 0 0) 366 6 = nI H := by rw [mI_sI, if_neg (by omega)]; exact h5
  have y7 : mI (sI X 366 0 0) 366 7 = nI P := by rw [mI_sI, if_neg (by omega)]; exact h6
  by_cases q1 : 0 ≤ v1 ∧ v1 < nI H
  · by_cases q2 : 0 ≤ v2 ∧ v2 < nI P
    · by_cases q3 : 0 ≤ v3 ∧ v3 ≤ 99
      · have ha : inL v1 10 := inL_le q1 (by omega) h3
        have hp : inL v2 5 := inL_le q2 (by omega) h4
        obtain ⟨v, hv, ev⟩ := inL_of (inL_cc (v := v3) (l := 0) (n := 99) (m := 100) q3 (by decide) (by decide) (by decide)) (by decide)
        have wq : Weq (gW 16 X) (N_cp (gW 16 X) (gW (sl nx) X)) := (N_cp_eq _ _).symm
        have ivc := iv.weq wq
        have iwc := iw.weq wq R.1 R.2.1 (fun e he => (iv.cnt he).2)
        obtain ⟨d, d9, hd⟩ := iwc.2.2.1
        have sa := c_stateAhead (n := n) h g1 g3 ivc.1 hd d9 (v := v) (by omega) (by omega)
        have hslT := sl_St g1
        have Rc : Rl T G (mJ X 367) (N_cp (gW 16 X) (gW (sl nx) X)) := R.weq wq (fun _ _ => rfl)
        generalize hu : nf (fun _ => N_day T G H) (min v (999 - d)) 0 (N_cp (gW 16 X) (gW (sl nx) X)) = u at sa
        have hlo : sl nx = 61 + 43 * nx := rfl
        have t1 := hsp u
        have cs : fX8_sharesOf (sl nx) v1 v2 (pW (sl nx) u X) = some (u.2 1 (ix v1 v2), pW (sl nx) u X) := c_sharesOf h hslT (inL_ix ha hp)
        have c1 : ∀ a k, (a < sl nx ∨ sl nx + 42 < a) → mI (pW (sl nx) u X) a k = mI X a k := fun a k ha => mI_pWo a k ha
        have c2 : mJ (pW (sl nx) u X) 367 = mJ X 367 := mJ_pWor 367 (by omega)
        have hX1 : Shp bk dr (pW (sl nx) u X) := h1.pW
        have class_ : fX11_ahead n 1 v1 v2 v3 X = some (u.2 1 (ix v1 v2), pW (sl nx) u X) := by
          rw [ev] at q3 ⊢
          simp only [fX11_ahead, h.1, h.2.1, h.2.2, li_T, li_L, li_R, nm, bd, q_b, ne_eq, Nat.reduceEqDiff, reduceCtorEq, and_false, false_and, and_true, true_and, and_self, not_false_eq_true, not_true_eq_false, ↓reduceIte, n16_T, n16_L, n16_R, q_isH h w6, q_isP h w7, q_isAhead, bo_t q1, bo_t q2, bo_t q3, b1, sa, hX1.1, (st_T (sl nx) hslT).1, cs]
        generalize pW (sl nx) u X = X1 at *
        have hs1 := hX1.sI 366 0 0
        have z6 : mI (sI X1 366 0 0) 366 6 = nI H := by rw [mI_sI, if_neg (by omega), c1 _ _ (by omega)]; exact h5
        have z7 : mI (sI X1 366 0 0) 366 7 = nI P := by rw [mI_sI, if_neg (by omega), c1 _ _ (by omega)]; exact h6
        obtain ⟨ga, e1, a1⟩ := m_aside (n := n) hX1 hn
        have hM := hs1.wJ 369 ga
        have RM : Rl T G (mJ (wJ (sI X1 366 0 0) 369 ga) 367) (N_cp (gW 16 X) (gW (sl nx) X)) := by
          rw [mJ_wJo (by decide), mJ_sI, c2]
          exact Rc
        have M6 : mI (wJ (sI X1 366 0 0) 369 ga) 366 6 = nI H := by rw [mI_wJ]; exact z6
        obtain ⟨_, Y, e2, f', rfl, Rf⟩ := m_goesAhead (n := n) hM RM M6 ivc hd d9 (v := v) (by omega) (by omega)
        rw [wJ_self] at e2
        rw [hu] at Rf
        have hM2 := hM.wJ 367 f'
        have sh := m_sharesOf hM Rf ha hp
        obtain ⟨g2, e3, a3⟩ := m_back (n := n) hM2 hn
        refine ⟨u.2 1 (ix v1 v2), X1, wJ (wJ (wJ (sI X1 366 0 0) 369 ga) 367 f') 367 g2, class_, ?_, t1.back (fun k hk => ?_)⟩
        · rw [ev] at q3 ⊢
          simp only [fX12_ahead, h.1, h.2.1, h.2.2, li_T, li_L, li_R, nm, bd, q_b, ne_eq, Nat.reduceEqDiff, reduceCtorEq, and_false, false_and, and_true, true_and, and_self, not_false_eq_true, not_true_eq_false, ↓reduceIte, n16_T, n16_L, n16_R, hX1.1, hX1.2.1, hX1.2.2, mT_sI, mR_sI, mT_wJ, mR_wJ, p_isH hs1 z6 h3, p_isP hs1 z7 h4, p_canGo hs1, bo_t q1, bo_t q2, bo_t q3, b1, e1, e2, sh, e3]
        · rw [a3 k hk, mJ_wJo (by decide), mJ_wJ, a1 k hk]
      · refine ⟨-1, X, sI X 366 0 0, ?_, ?_, hT.told 0⟩
        · simp only [fX11_ahead, fX11_ahead_L29, h.1, h.2.1, h.2.2, li_T, li_L, li_R, nm, bd, q_b, ne_eq, Nat.reduceEqDiff, reduceCtorEq, and_false, false_and, and_true, true_and, and_self, not_false_eq_true, not_true_eq_false, ↓reduceIte, n16_T, n16_L, n16_R, q_isH h w6, q_isP h w7, q_isAhead, bo_t q1, bo_t q2, bo_f q3, b1]
        · simp only [fX12_ahead, fX12_ahead_L29, h.1, h.2.1, h.2.2, li_T, li_L, li_R, nm, bd, q_b, ne_eq, Nat.reduceEqDiff, reduceCtorEq, and_false, false_and, and_true, true_and, and_self, not_false_eq_true, not_true_eq_false, ↓reduceIte, n16_T, n16_L, n16_R, mT_sI, p_isH hs y6 h3, p_isP hs y7 h4, p_canGo hs, bo_t q1, bo_t q2, bo_f q3, b1]
    · refine ⟨-1, X, sI X 366 0 0, ?_, ?_, hT.told 0⟩
      · simp only [fX11_ahead, fX11_ahead_L29, h.1, h.2.1, h.2.2, li_T, li_L, li_R, nm, bd, q_b, ne_eq, Nat.reduceEqDiff, reduceCtorEq, and_false, false_and, and_true, true_and, and_self, not_false_eq_true, not_true_eq_false, ↓reduceIte, n16_T, n16_L, n16_R, q_isH h w6, q_isP h w7, bo_t q1, bo_f q2, b1]
      · simp only [fX12_ahead, fX12_ahead_L29, h.1, h.2.1, h.2.2, li_T, li_L, li_R, nm, bd, q_b, ne_eq, Nat.reduceEqDiff, reduceCtorEq, and_false, false_and, and_true, true_and, and_self, not_false_eq_true, not_true_eq_false, ↓reduceIte, n16_T, n16_L, n16_R, mT_sI, p_isH hs y6 h3, p_isP hs y7 h4, bo_t q1, bo_f q2, b1]
  · refine ⟨-1, X, sI X 366 0 0, ?_, ?_, hT.told 0⟩
    · simp only [fX11_ahead, fX11_ahead_L29, h.1, h.2.1, h.2.2, li_T, li_L, li_R, nm, bd, q_b, ne_eq, Nat.reduceEqDiff, reduceCtorEq, and_false, false_and, and_true, true_and, and_self, not_false_eq_true, not_true_eq_false, ↓reduceIte, n16_T, n16_L, n16_R, q_isH h w6, bo_f q1]
    · simp only [fX12_ahead, fX12_ahead_L29, h.1, h.2.1, h.2.2, li_T, li_L, li_R, nm, bd, q_b, ne_eq, Nat.reduceEqDiff, reduceCtorEq, and_false, false_and, and_true, true_and, and_self, not_false_eq_true, not_true_eq_false, ↓reduceIte, n16_T, n16_L, n16_R, mT_sI, p_isH hs y6 h3, bo_f q1]
end
