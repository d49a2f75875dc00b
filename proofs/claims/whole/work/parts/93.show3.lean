/-! QUERIES: show -/
theorem by8_l : by8 32 = 32 ∧ by8 44 = 44 ∧ by8 46 = 46 ∧ by8 58 = 58 := by decide
theorem nmB_len {l : List Nat} (h : Nm l) : (nmB l).length ≤ 6 := by
  unfold nmB
  rw [List.length_map]
  exact h.2.1
theorem App.J {c b k L : Nat} {l : List Int32} {X Y : Mm} (h : App c b k L l X Y) : mJ Y = mJ X := h.2.2.2.2.2.1
theorem App.I {c b k L : Nat} {l : List Int32} {X Y : Mm} (h : App c b k L l X Y) {c' k' : Nat} (h1 : c' ≠ b) (h2 : ¬ (c' = c ∧ k' = k)) : mI Y c' k' = mI X c' k' := h.2.2.2.2.1 c' k' h1 h2
theorem App.L2 {c b k L : Nat} {l : List Int32} {X Y : Mm} (h : App c b k L l X Y) : mI Y c k = nI (L + l.length) := h.2.1
section
variable {bk dr H P n T G L : Nat} {X : Mm} {w : Wt} {J : Nat → Nat → Int64}
theorem bk_i (hb : Bks bk dr) : sh_T bk = 0 ∧ sh_T (bk + 1) = 14 ∧ sh_T (bk + 2) = 14 ∧ sh_L (bk + 1) = 10 ∧ sh_L (bk + 2) = 5 ∧ sh_R bk dr bk 0 = bk + 1 ∧ sh_R bk dr bk 1 = bk + 2 ∧ ¬ bk = 0 := by
  rcases hb with ⟨rfl, rfl⟩ | ⟨rfl, rfl⟩
  · decide
  · decide
theorem sh_loop (hb : Bks bk dr) (hP : P ≤ 5) (hn : 64 ≤ n) {a : Nat} (ha : a < 10) (R : Rl T G (J 367) w) (hJ1 : ∀ i, w.2 1 i = J 17 i) (hJ2 : ∀ i, w.2 2 i = J 18 i) (hs : ∀ i, i < 50 → 0 ≤ (J 17 i).toInt) {np : Nat → List Nat} (hnp : ∀ p, p < P → Nm (np p) ∧ J 372 p = lN (c27 (np p))) :
    ∀ m p, p + m = P → ∃ l : List Int32, l.length ≤ 29 * m + 22 ∧
      (∀ (X : Mm) (L j : Nat), Shp bk dr X → mJ X = J → mI X 16 7 = nI P → (∀ p, p < P → mI X (bk + 2) p = nI (c5 (np p))) → mI X 362 1 = nI L → L + 29 * m + 22 ≤ 300 → m < j → ∃ Y, fX7_tell_L24 n j 362 16 bk (nI a) (nI p) X = some ((), Y) ∧ App 362 363 1 L l X Y) ∧
      ∀ (X : Mm) (L j : Nat), Shp bk dr X → mJ X = J → mI X 366 7 = nI P → mI X 366 34 = nI L → L + 29 * m + 22 ≤ 300 → m < j → ∃ Y, fX12_show_L38 n j 366 (nI a) (nI p) X = some (nI (L + l.length), Y) ∧ App 366 381 34 L l X Y := by
  have a1 : (nI a).toNatClampNeg = a := nI_clamp (by omega)
  have a2 := inL_nI (j := a) (n := 10) ha (by decide)
  have p1 : (nI (50 + a)).toNatClampNeg = 50 + a := nI_clamp (by omega)
  have p2 := inL_nI (j := 50 + a) (n := 4604) (by omega) (by decide)
  have p3 : (50 : Int32) + nI a = nI (50 + a) := nI_add 50 a
  obtain ⟨k1, k2, k3, k4, k5, k6, k7, k8⟩ := bk_i hb
  have kb : bk + 2 ≠ 363 ∧ bk + 2 ≠ 362 := by rcases hb with ⟨rfl, rfl⟩ | ⟨rfl, rfl⟩ <;> decide
  intro m
  induction m with
  | zero =>
    intro p hp
    obtain ⟨l, l1, l2, l3⟩ := b_num bk dr hn (J 18 a)
    refine ⟨[32] ++ l ++ [46], by rw [List.length_append, List.length_append]; show 1 + l.length + 1 ≤ _; omega, fun X L j h hX h7 hN hL hL3 hj => ?_, fun X L j h hX h7 hL hL3 hj => ?_⟩
    · obtain ⟨j, rfl⟩ : ∃ k, j = k + 1 := ⟨j - 1, by omega⟩
      have e3 : nI P ≤ nI p := nI_le (by omega) (by omega)
      obtain ⟨Y, y1, y2⟩ := c_ab h hL (by omega) 32
      rw [by8_l.1] at y2
      have hY := y2.shp h
      obtain ⟨Z, z1, z2⟩ := l2 Y (L + 1) hY y2.L2 (by omega)
      have hZ := z2.shp hY
      have yz := y2.trans z2
      obtain ⟨V, v1, v2⟩ := c_ab (L := L + ([32] ++ l).length) hZ yz.L2 (by rw [List.length_append]; show L + (1 + l.length) < 300; omega) 46
      rw [by8_l.2.2.1] at v2
      refine ⟨V, ?_, yz.trans v2⟩
      have r18 : mJ Y 18 a = J 18 a := by rw [y2.J, hX]
      rw [fX7_tell_L24]
      simp only [h.1, h.2.1, h.2.2, li_T, li_L, li_R, nm, bd, q_b, ne_eq, Nat.reduceEqDiff, reduceCtorEq, and_false, false_and, and_true, true_and, and_self, not_false_eq_true, not_true_eq_false, ↓reduceIte, n16_T, n16_L, n16_R, h7, e3, y1, hY.1, hY.2.1, hY.2.2, hZ.1, a1, a2.1, a2.2, r18, z1, v1]
    · obtain ⟨j, rfl⟩ : ∃ k, j = k + 1 := ⟨j - 1, by omega⟩
      have e3 : nI P ≤ nI p := nI_le (by omega) (by omega)
      obtain ⟨Y, y1, y2⟩ := m_ps h hL (by omega) 32
      rw [by8_l.1] at y2
      have hY := y2.shp h
      obtain ⟨Z, z1, z2⟩ := l3 Y (L + 1) hY y2.L2 (by omega)
      have hZ := z2.shp hY
      have yz := y2.trans z2
      obtain ⟨V, v1, v2⟩ := m_ps (L := L + ([32] ++ l).length) hZ yz.L2 (by rw [List.length_append]; show L + (1 + l.length) < 400; omega) 46
      rw [by8_l.2.2.1] at v2
      have hV := v2.shp hZ
      have yv := yz.trans v2
      refine ⟨V, ?_, yv⟩
      have r18 : mJ Y 367 (50 + a) = J 18 a := by rw [y2.J, hX, R.pu ha, hJ2]
      have rV := yv.L2
      rw [fX12_show_L38]
      simp only [h.1, h.2.1, h.2.2, li_T, li_L, li_R, nm, bd, q_b, ne_eq, Nat.reduceEqDiff, reduceCtorEq, and_false, false_and, and_true, true_and, and_self, not_false_eq_true, not_true_eq_false, ↓reduceIte, h7, e3, y1, hY.1, hY.2.1, hY.2.2, hZ.1, hV.1, p3, p1, p2.1, p2.2, r18, z1, v1, rV]
  | succ m ih =>
    intro p hp
    obtain ⟨lr, r1, r2, r3⟩ := ih (p + 1) (by omega)
    obtain ⟨l, l1, l2, l3⟩ := b_num bk dr hn (J 17 (ix (nI a) (nI p)))
    obtain ⟨nm1, nm2⟩ := hnp p (by omega)
    have nl := nmB_len nm1
    have i50 : ix (nI a) (nI p) < 50 := by rw [ix_nI ha (by omega)]; omega
    have hp5 := inL_nI (j := p) (n := 5) (by omega) (by decide)
    have q1 : (nI p).toNatClampNeg = p := nI_clamp (by omega)
    have s0 := hs _ i50
    by_cases z : J 17 (ix (nI a) (nI p)) = 0
    · refine ⟨lr, by omega, fun X L j h hX h7 hN hL hL3 hj => ?_, fun X L j h hX h7 hL hL3 hj => ?_⟩
      · obtain ⟨j, rfl⟩ : ∃ k, j = k + 1 := ⟨j - 1, by omega⟩
        have e3 : ¬ nI P ≤ nI p := nI_ge (by omega) (by omega)
        obtain ⟨Y, y1, y2⟩ := r2 X L j h hX h7 hN hL (by omega) (by omega)
        refine ⟨Y, ?_, y2⟩
        have sh : fX8_sharesOf 16 (nI a) (nI p) X = some (0, X) := (q_sh h a2 hp5).trans (by show some (mJ X 17 _, X) = _; rw [hX, z])
        have g : lg_cmp 0 0 ≤ 0 := by decide
        rw [fX7_tell_L24]
        simp only [h.1, h.2.1, h.2.2, li_T, li_L, li_R, nm, bd, q_b, ne_eq, Nat.reduceEqDiff, reduceCtorEq, and_false, false_and, and_true, true_and, and_self, not_false_eq_true, not_true_eq_false, ↓reduceIte, n16_T, n16_L, n16_R, h7, e3, sh, g, fX7_tell_L85, nI_1]
        exact y1
      · obtain ⟨j, rfl⟩ : ∃ k, j = k + 1 := ⟨j - 1, by omega⟩
        have e3 : ¬ nI P ≤ nI p := nI_ge (by omega) (by omega)
        obtain ⟨Y, y1, y2⟩ := r3 X L j h hX h7 hL (by omega) (by omega)
        refine ⟨Y, ?_, y2⟩
        have RX' : Rl T G (mJ X 367) w := by rw [hX]; exact R
        have sh : fX12_sharesOf 366 (nI a).toInt64 (nI p).toInt64 X = some (0, X) := (p_sh h RX' a2 hp5).trans (by rw [hJ1, z])
        have g : lg_cmp 0 0 = 0 := by decide
        rw [fX12_show_L38]
        simp only [h.1, h.2.1, h.2.2, li_T, li_L, li_R, nm, bd, q_b, ne_eq, Nat.reduceEqDiff, reduceCtorEq, and_false, false_and, and_true, true_and, and_self, not_false_eq_true, not_true_eq_false, ↓reduceIte, h7, e3, sh, g, fX12_show_L102, nI_1]
        exact y1
    · refine ⟨[32] ++ l ++ [32] ++ nmB (np p) ++ [44] ++ lr, by simp only [List.length_append, List.length_singleton]; omega, fun X L j h hX h7 hN hL hL3 hj => ?_, fun X L j h hX h7 hL hL3 hj => ?_⟩
      · obtain ⟨j, rfl⟩ : ∃ k, j = k + 1 := ⟨j - 1, by omega⟩
        have e3 : ¬ nI P ≤ nI p := nI_ge (by omega) (by omega)
        have sh : ∀ X, Shp bk dr X → mJ X = J → fX8_sharesOf 16 (nI a) (nI p) X = some (J 17 (ix (nI a) (nI p)), X) := fun X h hX => (q_sh h a2 hp5).trans (by show some (mJ X 17 _, X) = _; rw [hX])
        have g : ¬ lg_cmp (J 17 (ix (nI a) (nI p))) 0 ≤ 0 := fun y => by
          have := Int64.le_iff_toInt_le.mp (cv_le.mp y)
          rw [i64_z] at this
          exact z (Int64.toInt_inj.mp (by rw [i64_z]; omega))
        obtain ⟨Y, y1, y2⟩ := c_ab h hL (by omega) 32
        rw [by8_l.1] at y2
        have hY := y2.shp h
        obtain ⟨Z, z1, z2⟩ := l2 Y (L + 1) hY y2.L2 (by omega)
        have hZ := z2.shp hY
        have c1 := y2.trans z2
        obtain ⟨V, v1, v2⟩ := c_ab hZ c1.L2 (by simp only [List.length_append, List.length_singleton]; omega) 32
        rw [by8_l.1] at v2
        have hV := v2.shp hZ
        have c2 := c1.trans v2
        obtain ⟨U, u1, u2⟩ := c_nm (n := n) hV hn nm1 c2.L2 (by simp only [List.length_append, List.length_singleton]; omega)
        have hU := u2.shp hV
        have c3 := c2.trans u2
        obtain ⟨S, s1, s2⟩ := c_ab hU c3.L2 (by simp only [List.length_append, List.length_singleton]; omega) 44
        rw [by8_l.2.1] at s2
        have hS := s2.shp hU
        have c4 := c3.trans s2
        obtain ⟨W, w1, w2⟩ := r2 S _ j hS (c4.J.trans hX) (by rw [c4.I (by decide) (by decide)]; exact h7) (fun p hp => by rw [c4.I kb.1 (fun y => kb.2 y.1)]; exact hN p hp) c4.L2 (by simp only [List.length_append, List.length_singleton]; omega) (by omega)
        refine ⟨W, ?_, c4.trans w2⟩
        have rV : mI V (bk + 2) p = nI (c5 (np p)) := by rw [c2.I kb.1 (fun y => kb.2 y.1)]; exact hN p (by omega)
        rw [fX7_tell_L24]
        simp only [h.1, h.2.1, h.2.2, li_T, li_L, li_R, nm, bd, q_b, ne_eq, Nat.reduceEqDiff, reduceCtorEq, and_false, false_and, and_true, true_and, and_self, not_false_eq_true, not_true_eq_false, ↓reduceIte, n16_T, n16_L, n16_R, h7, e3, sh X h hX, g, y1, hY.1, hY.2.1, hY.2.2, sh Y hY (y2.J.trans hX), hZ.1, z1, v1, hV.1, hV.2.1, hV.2.2, k1, k2, k3, k4, k5, k6, k7, k8, Nat.add_eq_zero_iff, q1, hp5.1, hp5.2, rV, u1, hU.1, s1, fX7_tell_L85, nI_1]
        exact w1
      · obtain ⟨j, rfl⟩ : ∃ k, j = k + 1 := ⟨j - 1, by omega⟩
        have e3 : ¬ nI P ≤ nI p := nI_ge (by omega) (by omega)
        have sh : ∀ X, Shp bk dr X → mJ X = J → fX12_sharesOf 366 (nI a).toInt64 (nI p).toInt64 X = some (J 17 (ix (nI a) (nI p)), X) := fun X h hX => (p_sh h (by rw [hX]; exact R) a2 hp5).trans (by rw [hJ1])
        have g : ¬ lg_cmp (J 17 (ix (nI a) (nI p))) 0 = 0 := fun y => z (cv_eq.mp y)
        obtain ⟨Y, y1, y2⟩ := m_ps h hL (by omega) 32
        rw [by8_l.1] at y2
        have hY := y2.shp h
        obtain ⟨Z, z1, z2⟩ := l3 Y (L + 1) hY y2.L2 (by omega)
        have hZ := z2.shp hY
        have c1 := y2.trans z2
        obtain ⟨V, v1, v2⟩ := m_ps hZ c1.L2 (by simp only [List.length_append, List.length_singleton]; omega) 32
        rw [by8_l.1] at v2
        have hV := v2.shp hZ
        have c2 := c1.trans v2
        obtain ⟨U, u1, u2⟩ := m_nm (n := n) hV hn nm1 c2.L2 (by simp only [List.length_append, List.length_singleton]; omega)
        have hU := u2.shp hV
        have c3 := c2.trans u2
        obtain ⟨S, s1, s2⟩ := m_ps hU c3.L2 (by simp only [List.length_append, List.length_singleton]; omega) 44
        rw [by8_l.2.1] at s2
        have hS := s2.shp hU
        have c4 := c3.trans s2
        obtain ⟨W, w1, w2⟩ := r3 S _ j hS (c4.J.trans hX) (by rw [c4.I (by decide) (by decide)]; exact h7) c4.L2 (by simp only [List.length_append, List.length_singleton]; omega) (by omega)
        have c5' := c4.trans w2
        refine ⟨W, ?_, c5'⟩
        have rV : mJ V 372 p = lN (c27 (np p)) := by rw [c2.J, hX]; exact nm2
        rw [fX12_show_L38]
        simp only [h.1, h.2.1, h.2.2, li_T, li_L, li_R, nm, bd, q_b, ne_eq, Nat.reduceEqDiff, reduceCtorEq, and_false, false_and, and_true, true_and, and_self, not_false_eq_true, not_true_eq_false, ↓reduceIte, h7, e3, sh X h hX, g, y1, hY.1, hY.2.1, hY.2.2, sh Y hY (y2.J.trans hX), hZ.1, z1, v1, hV.1, hV.2.1, hV.2.2, q1, hp5.1, hp5.2, rV, u1, hU.1, s1, fX12_show_L102, nI_1]
        rw [w1, List.length_append (as := [32] ++ l ++ [32] ++ nmB (np p) ++ [44]) (bs := lr), Nat.add_assoc]
theorem Tp.shw {Y : Mm} (h : Tp bk dr H P X) (hS : Shp bk dr Y) (hI : ∀ c k, c ≠ 363 → ¬ (c = 362 ∧ k = 1) → c ≠ 381 → ¬ (c = 366 ∧ k = 34) → ¬ (c = 366 ∧ k = 0) → mI Y c k = mI X c k) (hJ : mJ Y = mJ X) (hs : ShR Y) : Tp bk dr H P Y := by
  obtain ⟨h1, h2, h3, h4, h5, h6, h7, ⟨nx, c, g1, g2, g3, g4, g5, g6⟩, ⟨n1, n2, ⟨nh, n3⟩, ⟨np, n4⟩⟩, ⟨L, t1, t2, t3, t4⟩, ⟨f1, f2⟩, -, l⟩ := h
  have hb : bk = 7 ∨ bk = 11 := by rcases h2 with z | z <;> omega
  have q : ∀ c k, c < 362 → mI Y c k = mI X c k := fun c k hc => hI c k (by omega) (by omega) (by omega) (by omega) (by omega)
  refine ⟨hS, h2, h3, h4, by rw [hI _ _ (by omega) (by omega) (by omega) (by omega) (by omega)]; exact h5, by rw [hI _ _ (by omega) (by omega) (by omega) (by omega) (by omega)]; exact h6, ?_, ⟨nx, c, g1, g2, by rw [q _ _ (by omega)]; exact g3, by rw [q _ _ (by omega)]; exact g4, by rw [hI _ _ (by omega) (by omega) (by omega) (by omega) (by omega)]; exact g5, fun j hj => ?_⟩, ⟨by rw [q _ _ (by omega)]; exact n1, by rw [q _ _ (by omega)]; exact n2, ⟨nh, fun i hi => ?_⟩, ⟨np, fun i hi => ?_⟩⟩, ⟨L, t1, by rw [q _ _ (by omega)]; exact t2, by rw [hI _ _ (by omega) (by omega) (by omega) (by omega) (by omega)]; exact t3, fun i hi => ?_⟩, ⟨?_, ?_⟩, hs, fun i hi => ?_⟩
  · rw [hJ]
    exact h7.weq (Weq.of (fun a k ha => q _ _ (by omega)) (fun a k ha => by rw [hJ])) (fun p _ => rfl)
  · have lt : (nx + 7 - c + j) % 7 < 7 := by omega
    have g := g6 j hj
    generalize (nx + 7 - c + j) % 7 = m at *
    exact g.weq (Weq.of (s := 61 + 43 * m) (s' := 61 + 43 * m) (fun a k _ => q _ _ (by omega)) (fun a k ha => by rw [hJ])) (fun p hp => by rw [hJ])
  · rw [q _ _ (by omega), hJ]; exact n3 i hi
  · rw [q _ _ (by omega), hJ]; exact n4 i hi
  · rw [hI 374 _ (by omega) (by omega) (by omega) (by omega) (by omega), q 3 _ (by omega)]; exact t4 i hi
  · rw [q _ _ (by omega), hI _ _ (by omega) (by omega) (by omega) (by omega) (by omega)]; exact f1
  · rw [q _ _ (by omega), hI _ _ (by omega) (by omega) (by omega) (by omega) (by omega)]; exact f2
  · rw [hI 373 _ (by omega) (by omega) (by omega) (by omega) (by omega)]; exact l i hi
theorem s_show (h : Tp bk dr H P X) (hn : 24000 ≤ n) (v1 : Int32) : ∃ r X1 X2, fX11_show n 1 v1 X = some (r, X1) ∧ fX12_show n 366 v1 X1 = some (r, X2) ∧ Tp bk dr H P X2 := by
  have hT := h
  obtain ⟨h1, h2, h3, h4, h5, h6, ⟨T, G, R, iv, iw⟩, h8, ⟨n1, n2, ⟨nh, n3⟩, ⟨np, n4⟩⟩, h10, h11, h12, h13⟩ := h
  have h := h1
  have hs := h1.sI 366 0 0
  have w6 : mI X 16 6 = nI H := iv.1.2.2.2.2.1
  have w7 : mI X 16 7 = nI P := iw.1
  have y6 : mI (sI X 366 0 0) 366 6 = nI H := by rw [mI_sI, if_neg (by omega)]; exact h5
  by_cases q1 : 0 ≤ v1 ∧ v1 < nI H
  · obtain ⟨a, ha, rfl⟩ := nI_ex q1 (by omega)
    have a1 : (nI a).toNatClampNeg = a := nI_clamp (by omega)
    have a2 := inL_nI (j := a) (n := 10) (by omega) (by decide)
    obtain ⟨k1, k2, k3, k4, k5, k6, k7, k8⟩ := bk_i h2
    have kb : bk + 1 ≠ 363 ∧ bk + 1 ≠ 362 ∧ bk + 2 ≠ 363 ∧ bk + 2 ≠ 362 := by rcases h2 with ⟨rfl, rfl⟩ | ⟨rfl, rfl⟩ <;> decide
    obtain ⟨nm1, nm2, nm3⟩ := n3 a ha
    have nl := nmB_len nm1
    obtain ⟨l, l1, l2, l3⟩ := sh_loop (J := mJ X) (n := n) (a := a) (w := gW 16 X) (T := T) (G := G) h2 h4 (by omega) (by omega) R (fun _ => rfl) (fun _ => rfl) iw.2.2.2.2.2.2.1 (fun p hp => ⟨(n4 p hp).1, (n4 p hp).2.2⟩) P 0 (by omega)
    -- the class
    have hc0 := h1.sI 362 1 0
    have r0 : mI (sI X 362 1 0) 362 1 = nI 0 := by rw [mI_sI, if_pos ⟨rfl, rfl⟩]; rfl
    obtain ⟨Y, y1, y2⟩ := c_nm (n := n) hc0 (by omega) nm1 r0 (by omega)
    have hY := y2.shp hc0
    obtain ⟨Z, z1, z2⟩ := c_ab hY y2.L2 (by omega) 58
    rw [by8_l.2.2.2] at z2
    have hZ := z2.shp hY
    have c1 := y2.trans z2
    have iZ : ∀ c k, c ≠ 363 → ¬ (c = 362 ∧ k = 1) → mI Z c k = mI X c k := fun c k x1 x2 => by rw [c1.I x1 x2, mI_sI, if_neg x2]
    obtain ⟨V, v1', v2⟩ := l2 Z _ n hZ c1.J (by rw [iZ _ _ (by decide) (by decide)]; exact w7) (fun p hp => by rw [iZ _ _ kb.2.2.1 (fun y => kb.2.2.2 y.1)]; exact (n4 p hp).2.1) c1.L2 (by simp only [List.length_append, List.length_singleton]; omega) (by omega)
    have hV := v2.shp hZ
    have c2 := c1.trans v2
    have rY : mI (sI X 362 1 0) (bk + 1) a = nI (c5 (nh a)) := by rw [mI_sI, if_neg (fun y => kb.2.1 y.1)]; exact nm2
    have rV := c2.L2
    have iV : ∀ c k, c ≠ 363 → ¬ (c = 362 ∧ k = 1) → mI V c k = mI X c k := fun c k x1 x2 => by rw [c2.I x1 x2, mI_sI, if_neg x2]
    have jV : mJ V = mJ X := c2.J
    have class_ : fX11_show n 1 (nI a) X = some (nI (0 + ((nmB (nh a)) ++ [58] ++ l).length), V) := by
      simp only [fX11_show, fX7_tell, h.1, h.2.1, h.2.2, li_T, li_L, li_R, nm, bd, q_b, ne_eq, Nat.reduceEqDiff, reduceCtorEq, and_false, false_and, and_true, true_and, and_self, not_false_eq_true, not_true_eq_false, ↓reduceIte, n16_T, n16_L, n16_R, q_isH h w6, bo_t q1, b1, mT_sI, mR_sI, mL_sI, k1, k2, k3, k4, k5, k6, k7, k8, Nat.add_eq_zero_iff, a1, a2.1, a2.2, rY, y1, hY.1, z1, hV.1, hV.2.2]
      rw [show (0 : Int32) = nI 0 from rfl, v1']
      simp only [h.1, h.2.1, h.2.2, li_T, li_L, li_R, nm, bd, q_b, ne_eq, Nat.reduceEqDiff, reduceCtorEq, and_false, false_and, and_true, true_and, and_self, not_false_eq_true, not_true_eq_false, ↓reduceIte, n16_T, n16_L, n16_R, hV.1, hV.2.2, rV]
    -- the reference
    have hs0 := hV.sI 366 0 0
    have hm0 := hs0.sI 366 34 0
    have ym : mI (sI V 366 0 0) 366 6 = nI H := by rw [mI_sI, if_neg (by omega), iV _ _ (by decide) (by decide)]; exact h5
    have m0 : mI (sI (sI V 366 0 0) 366 34 0) 366 34 = nI 0 := by rw [mI_sI, if_pos ⟨rfl, rfl⟩]; rfl
    obtain ⟨A, A1, A2⟩ := m_nm (n := n) hm0 (by omega) nm1 m0 (by omega)
    have hA := A2.shp hm0
    obtain ⟨B, B1, B2⟩ := m_ps hA A2.L2 (by omega) 58
    rw [by8_l.2.2.2] at B2
    have hB := B2.shp hA
    have d1 := A2.trans B2
    have iB : ∀ c k, c ≠ 381 → ¬ (c = 366 ∧ k = 34) → ¬ (c = 366 ∧ k = 0) → mI B c k = mI V c k := fun c k x1 x2 x3 => by rw [d1.I x1 x2, mI_sI, if_neg x2, mI_sI, if_neg x3]
    obtain ⟨E, E1, E2⟩ := l3 B _ n hB (d1.J.trans jV) (by rw [iB _ _ (by decide) (by decide) (by decide), iV _ _ (by decide) (by decide)]; exact h6) d1.L2 (by simp only [List.length_append, List.length_singleton]; omega) (by omega)
    have d2 := d1.trans E2
    have rA : mJ (sI (sI V 366 0 0) 366 34 0) 371 a = lN (c27 (nh a)) := by rw [mJ_sI, mJ_sI, jV]; exact nm3
    have ref_ : fX12_show n 366 (nI a) V = some (nI (0 + ((nmB (nh a)) ++ [58] ++ l).length), E) := by
      simp only [fX12_show, h.1, h.2.1, h.2.2, li_T, li_L, li_R, nm, bd, q_b, ne_eq, Nat.reduceEqDiff, reduceCtorEq, and_false, false_and, and_true, true_and, and_self, not_false_eq_true, not_true_eq_false, ↓reduceIte, n16_T, n16_L, n16_R, hV.1, hV.2.1, hV.2.2, mT_sI, mR_sI, mL_sI, p_isH hs0 ym h3, bo_t q1, b1, a1, a2.1, a2.2, rA, A1, hA.1, B1]
      rw [show (0 : Int32) = nI 0 from rfl, E1, List.length_append (as := nmB (nh a) ++ [58]) (bs := l), Nat.add_assoc]
    have ll : (nmB (nh a) ++ [58] ++ l).length ≤ 174 := by simp only [List.length_append, List.length_singleton]; omega
    refine ⟨_, V, E, class_, ref_, ?_⟩
    have iE : ∀ c k, c ≠ 381 → ¬ (c = 366 ∧ k = 34) → ¬ (c = 366 ∧ k = 0) → mI E c k = mI V c k := fun c k x1 x2 x3 => by rw [d2.I x1 x2, mI_sI, if_neg x2, mI_sI, if_neg x3]
    have jE : mJ E = mJ X := d2.J.trans jV
    have hE := E2.shp hB
    generalize hl : nmB (nh a) ++ [58] ++ l = ls at *
    exact hT.shw hE (fun c k x1 x2 x3 x4 x5 => by rw [iE _ _ x3 x4 x5, iV _ _ x1 x2]) jE ⟨ls.length, by omega, by rw [iE _ _ (by decide) (by decide) (by decide), rV, Nat.zero_add], by rw [d2.L2, Nat.zero_add], fun i hi => by
      have x := c2.2.2.2.1 i hi
      have y := d2.2.2.2.1 i hi
      rw [Nat.zero_add] at x y
      rw [y, iE _ _ (by decide) (by omega) (by omega), x]⟩
  · refine ⟨-1, X, sI X 366 0 0, ?_, ?_, hT.told 0⟩
    · simp only [fX11_show, h.1, h.2.1, h.2.2, li_T, li_L, li_R, nm, bd, q_b, ne_eq, Nat.reduceEqDiff, reduceCtorEq, and_false, false_and, and_true, true_and, and_self, not_false_eq_true, not_true_eq_false, ↓reduceIte, n16_T, n16_L, n16_R, q_isH h w6, bo_f q1]
    · simp only [fX12_show, h.1, h.2.1, h.2.2, li_T, li_L, li_R, nm, bd, q_b, ne_eq, Nat.reduceEqDiff, reduceCtorEq, and_false, false_and, and_true, true_and, and_self, not_false_eq_true, not_true_eq_false, ↓reduceIte, n16_T, n16_L, n16_R, mT_sI, p_isH hs y6 h3, bo_f q1]
end
