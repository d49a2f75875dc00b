/-! TEXTS: book, both -/
section
variable {b : Nat → Int32} {L : Nat} {bk dr n K H P : Nat} {X V W Z : Mm} {s t : St3} {D : Bk} {f g : Nat → Int64}
theorem Tp.mk3 {bk' dr' H' P' : Nat} {Y : Mm} (h : Tp bk dr H P X) (hS : Shp bk' dr' Y) (hb : Bks bk' dr') (hH : H' ≤ 10) (hP : P' ≤ 5) (y6 : mI Y 366 6 = nI H') (y7 : mI Y 366 7 = nI P') (hN : SR H' P' (mJ Y 367) (gW 16 Y)) (hR : HiR H' P' Y) (hM : NmR bk' H' P' Y) (hI : ∀ c k, c = 3 ∨ c = 374 ∨ c = 363 ∨ c = 381 ∨ c = 373 ∨ (c = 362 ∧ k = 1) ∨ (c = 366 ∧ k = 34) → mI Y c k = mI X c k) (y1 : mI Y 2 1 = 0) (y2 : mI Y 366 12 = 0) (y3 : FaR Y) : Tp bk' dr' H' P' Y := by
  obtain ⟨-, -, -, -, -, -, -, -, -, ⟨L, t1, t2, t3, t4⟩, -, ⟨M, s1, s2, s3, s4⟩, l⟩ := h
  refine ⟨hS, hb, hH, hP, y6, y7, hN, hR, hM, ⟨0, by omega, y1, y2, fun i hi => ?_⟩, y3, ⟨M, s1, by rw [hI _ _ (by omega)]; exact s2, by rw [hI _ _ (by omega)]; exact s3, fun i hi => ?_⟩, fun i hi => ?_⟩
  · rw [hI _ _ (by omega), hI _ _ (by omega)]; exact t4 i hi
  · rw [hI _ _ (by omega), hI _ _ (by omega)]; exact s4 i hi
  · rw [hI _ _ (by omega)]; exact l i hi
theorem s_book (h : Tp bk dr H P X) (hn : 24000 ≤ n) : ∃ r X1 X2 bk2 dr2 H2 P2, fX11_book n 1 X = some (r, X1) ∧ fX12_book n 366 X1 = some (r, X2) ∧ Tp bk2 dr2 H2 P2 X2 := by
  have hT := h
  obtain ⟨L, L7, hL, rb⟩ := h.rb
  obtain ⟨h1, hb, hH, hP, h6, h7, sr, ⟨nx, c, g1, g2, g3, g4, g5, g6⟩, ⟨n1, n2, ⟨nh, n3⟩, ⟨np, n4⟩⟩, -, -, -, -⟩ := h
  obtain ⟨b, eb⟩ : ∃ b, b = mI X 3 := ⟨_, rfl⟩
  rw [← eb] at rb
  have b7 : (bk = 7 ∧ dr = 11) ∨ (bk = 11 ∧ dr = 7) := hb
  obtain ⟨K, hK, k1, k2, k3, k4⟩ := K_lines (b := b) L7
  obtain ⟨W, e1, wS, wI_, wJ_, bdW⟩ := c_book (n := n) h1 hb hL L7 eb.symm (by omega) hK (fun i hi => ⟨(k1 i hi).1, (k1 i hi).2.1⟩) k2 k3
  have M26 : mI (U2 (ls b L K).1 W) 2 6 = (ls b L K).1.2.1 := by rw [U2_I, if_neg (by omega), if_pos ⟨rfl, rfl⟩]
  have M27 : mI (U2 (ls b L K).1 W) 2 7 = (ls b L K).1.2.2 := by rw [U2_I, if_pos ⟨rfl, rfl⟩]
  have MI : ∀ a k, a ≠ 2 → mI (U2 (ls b L K).1 W) a k = mI W a k := fun a k ha => U2_Io _ _ ha k
  have MJ : mJ (U2 (ls b L K).1 W) = mJ W := U2_jj _ _
  have MS : Shp bk dr (U2 (ls b L K).1 W) := ⟨by rw [U2_T]; exact wS.1, by rw [U2_L]; exact wS.2.1, by rw [U2_R]; exact wS.2.2⟩
  generalize U2 (ls b L K).1 W = M at *
  by_cases hf : (ls b L K).1.2.1 = 0
  · rw [if_pos hf] at e1
    obtain ⟨kH, kP⟩ := k4 hf
    have bd := bdW hf
    have sho := ls_sh K (fun j hj => (k1 j hj).1) hf
    obtain ⟨D, eD⟩ : ∃ D, D = (ls b L K).2 := ⟨_, rfl⟩
    rw [← eD] at kH kP bd sho
    obtain ⟨q1, q2, q3, q4, q5, q6, q7⟩ := bd
    have d0 : dr ≠ 0 := by omega
    have b0 : bk ≠ 0 := by omega
    have tb := (dr_R hb).1
    have nKm : nI K ≠ -1 := nI_nm1 (by omega)
    have AS : Shp bk dr (sI M 2 1 0) := MS.sI _ _ _
    have BS := sw_shp AS
    have hb' : Bks dr bk := hb.elim (fun q => Or.inr ⟨q.2, q.1⟩) (fun q => Or.inl ⟨q.2, q.1⟩)
    have AI : ∀ a k, a ≠ 2 → mI (sI M 2 1 0) a k = mI W a k := fun a k ha => by rw [mI_sI, if_neg (by omega), MI _ _ ha]
    have A21 : mI (sI M 2 1 0) 2 1 = 0 := by rw [mI_sI, if_pos ⟨rfl, rfl⟩]
    have A26 : mI (sI M 2 1 0) 2 6 = (ls b L K).1.2.1 := by rw [mI_sI, if_neg (by omega), M26]
    have A27 : mI (sI M 2 1 0) 2 7 = (ls b L K).1.2.2 := by rw [mI_sI, if_neg (by omega), M27]
    have AJ : mJ (sI M 2 1 0) = mJ W := by rw [mJ_sI, MJ]
    have tA2 : mT (sR (sI M 2 1 0) 1 2 bk) = sh_T := by rw [mT_sR]; exact AS.1
    have BI : mI (sR (sR (sI M 2 1 0) 1 2 bk) 1 1 dr) = mI (sI M 2 1 0) := by rw [mI_sR, mI_sR]
    have BJ : mJ (sR (sR (sI M 2 1 0) 1 2 bk) 1 1 dr) = mJ (sI M 2 1 0) := by rw [mJ_sR, mJ_sR]
    obtain ⟨C, eC, cS, cI, cJ, c17, c18, c19, c29, c6, c7, c8⟩ := c_startWith (n := n) BS hb' (by omega)
    have eX : fX11_book n 1 X = some (nI K, sI C 59 2 0) := by
      have h0 := h1
      have t16 := now_T.1
      have h := h1
      simp only [fX11_book, fX11_book_L62, h.1, h.2.1, h.2.2, li_T, li_L, li_R, nm, bd, q_b, ne_eq, Nat.reduceEqDiff, reduceCtorEq, and_false, false_and, and_true, true_and, and_self, not_false_eq_true, not_true_eq_false, ↓reduceIte, d0, b0, tb, e1, MS.1, MS.2.2, AS.1, AS.2.2, nKm, tA2, BS.1, BS.2.2, t16, eC, cS.1, cS.2.2]
    have xS : Shp dr bk (sI C 59 2 0) := cS.sI _ _ _
    have xC : ∀ a k, a ≠ 59 → mI (sI C 59 2 0) a k = mI C a k := fun a k ha => by rw [mI_sI, if_neg (fun q => ha q.1)]
    have xI : ∀ a k, (a < 16 ∨ 58 < a) → a ≠ 59 → a ≠ 2 → mI (sI C 59 2 0) a k = mI W a k := fun a k h1 h2 h3 => by rw [xC _ _ h2, cI _ _ h1, BI, AI _ _ h3]
    have x2 : ∀ k, mI (sI C 59 2 0) 2 k = mI (sI M 2 1 0) 2 k := fun k => by rw [xC _ _ (by omega), cI _ _ (by omega), BI]
    have xJ : ∀ a k, mJ (sI C 59 2 0) a k = mJ C a k := fun a k => by rw [mJ_sI]
    have xX : ∀ a k, (a < 16 ∨ 58 < a) → a ≠ 59 → a ≠ 2 → a ≠ 4 → a ≠ 5 → a ≠ 6 → a ≠ dr → a ≠ dr + 1 → a ≠ dr + 2 → mI (sI C 59 2 0) a k = mI X a k := fun a k h1 h2 h3 h4 h5 h6 h7 h8 h9 => by rw [xI _ _ h1 h2 h3, wI_ _ _ h4 h5 h6 h7 h8 h9]
    have x59 : mI (sI C 59 2 0) 59 1 = nI nx := by rw [mI_sI, if_neg (by omega), cI _ _ (by omega), BI, AI _ _ (by omega), wI_ _ _ (by omega) (by omega) (by omega) (by omega) (by omega) (by omega)]; exact g3
    have x592 : mI (sI C 59 2 0) 59 2 = 0 := by rw [mI_sI, if_pos ⟨rfl, rfl⟩]
    generalize sI C 59 2 0 = X1 at *
    have rb2 : Rb dr bk b L X1 := by
      obtain ⟨-, b2, b3, b4, b5, b6⟩ := rb
      refine ⟨xS, b2, ?_, fun i hi => ?_, b5, fun i hi => ?_⟩
      · rw [xX _ _ (by omega) (by omega) (by omega) (by omega) (by omega) (by omega) (by omega) (by omega) (by omega)]; exact b3
      · rw [xX _ _ (by omega) (by omega) (by omega) (by omega) (by omega) (by omega) (by omega) (by omega) (by omega)]; exact b4 i hi
      · rw [xX _ _ (by omega) (by omega) (by omega) (by omega) (by omega) (by omega) (by omega) (by omega) (by omega)]; exact b6 i hi
    obtain ⟨Z, ez, rf, zI, z12, zJ, bdZ⟩ := m_book0 (n := n) (V := X1) (K := K) rb2 (by omega) hK k1 k2
    have bz := bdZ hf
    rw [← eD] at bz
    obtain ⟨p1, p2, p3, p4, p5⟩ := bz
    have fi := m_fine rf (ls b L K).1
    rw [bo_t hf] at fi
    have zS := (rf.rs (ls b L K).1).1
    have rI : ∀ a k, a ≠ 366 → a ≠ 377 → mI (RS b L (ls b L K).1 Z) a k = mI X1 a k := fun a k q1 q2 => by rw [RS_Io _ _ q1, zI _ _ q2 (by omega)]
    have r377 : ∀ k, k < 50 → mI (RS b L (ls b L K).1 Z) 377 k = D.2.2.2.2 k := fun k hk => by rw [RS_Io _ _ (by decide)]; exact p5 k hk
    have r6 : mI (RS b L (ls b L K).1 Z) 366 34 = mI X1 366 34 := by rw [RS_o _ _ (by omega), zI _ _ (by omega) (by omega)]
    have r27 : mI (RS b L (ls b L K).1 Z) 366 27 = nI D.2.1 := by rw [RS_o _ _ (by omega)]; exact p1
    have r28 : mI (RS b L (ls b L K).1 Z) 366 28 = nI D.2.2.2.1 := by rw [RS_o _ _ (by omega)]; exact p2
    have r12 : mI (RS b L (ls b L K).1 Z) 366 12 = 0 := by rw [RS_o _ _ (by omega)]; exact z12
    have r22 : mI (RS b L (ls b L K).1 Z) 366 22 = (ls b L K).1.2.1 := by rw [RS_I, if_pos rfl]
    have r23 : mI (RS b L (ls b L K).1 Z) 366 23 = (ls b L K).1.2.2 := by rw [RS_I, if_neg (by omega), if_pos rfl]
    have rJ : ∀ a k, a ≠ 366 → mJ (RS b L (ls b L K).1 Z) a k = mJ Z a k := fun a k q1 => by
      show mJ (FM _ _ _) a k = _
      rw [FM_Jo _ _ _ q1]
    generalize RS b L (ls b L K).1 Z = R at *
    obtain ⟨f1, u1, -, w1⟩ := m_L82 (n := n) zS (nI K) 4604 0 (mJ R 367) n (by omega) (by omega)
    rw [wJ_self] at u1
    obtain ⟨f2, u2, v2, w2⟩ := m_L104 (n := n) zS (nI K) 50 0 f1 n (by omega) (by omega)
    obtain ⟨Z3, u3, s3, i3, j3, -, w3⟩ := m_L147 (n := n) (nI K) 10 0 (sI (sI (wJ R 367 f2) 366 6 (mI R 366 27)) 366 7 (mI R 366 28)) n (by omega) (by omega) (((zS.wJ _ _).sI _ _ _).sI _ _ _)
    obtain ⟨Z4, u4, s4, i4, j4, -, w4⟩ := m_L173 (n := n) (nI K) 5 0 Z3 n (by omega) (by omega) s3
    have eR : fX12_book n 366 X1 = some (nI K, sI Z4 366 5 0) := by
      have u1' : fX12_book_L82 n n 366 (nI K) 0 R = _ := u1
      have u2' : fX12_book_L104 n n 366 (nI K) 0 (wJ R 367 f1) = _ := u2
      have u3' : fX12_book_L147 n n 366 (nI K) 0 (sI (sI (wJ R 367 f2) 366 6 (mI R 366 27)) 366 7 (mI R 366 28)) = _ := u3
      have u4' : fX12_book_L173 n n 366 (nI K) 0 Z3 = _ := u4
      rw [ez, ← u4', ← u3', ← u2', ← u1']
      have h := zS
      simp only [fX12_book_L71, h.1, h.2.1, h.2.2, li_T, li_L, li_R, nm, bd, q_b, ne_eq, Nat.reduceEqDiff, reduceCtorEq, and_false, false_and, and_true, true_and, and_self, not_false_eq_true, not_true_eq_false, ↓reduceIte, fi, b1]
    have YI : ∀ a k, ¬ (a = 366 ∧ (k = 5 ∨ k = 6 ∨ k = 7)) → mI (sI Z4 366 5 0) a k = mI R a k := fun a k ha => by rw [mI_sI, if_neg (by omega), i4, i3, mI_sI, if_neg (by omega), mI_sI, if_neg (by omega), mI_wJ]
    have Y6 : mI (sI Z4 366 5 0) 366 6 = nI D.2.1 := by rw [mI_sI, if_neg (by omega), i4, i3, mI_sI, if_neg (by omega), mI_sI, if_pos ⟨rfl, rfl⟩]; exact r27
    have Y7 : mI (sI Z4 366 5 0) 366 7 = nI D.2.2.2.1 := by rw [mI_sI, if_neg (by omega), i4, i3, mI_sI, if_pos ⟨rfl, rfl⟩]; exact r28
    have Y5 : mI (sI Z4 366 5 0) 366 5 = 0 := by rw [mI_sI, if_pos ⟨rfl, rfl⟩]
    have YJ : ∀ a k, a ≠ 366 → a ≠ 367 → a ≠ 371 → a ≠ 372 → mJ (sI Z4 366 5 0) a k = mJ Z a k := fun a k q1 q2 q3 q4 => by rw [mJ_sI, j4 _ _ q4, j3 _ _ q3, mJ_sI, mJ_sI, mJ_wJo q2, rJ _ _ q1]
    have Y67 : ∀ k, mJ (sI Z4 366 5 0) 367 k = f2 k := fun k => by rw [mJ_sI, j4 _ _ (by omega), j3 _ _ (by omega), mJ_sI, mJ_sI, mJ_wJ]
    have Y71 : ∀ k, k < 10 → mJ (sI Z4 366 5 0) 371 k = mJ Z 375 k := fun k hk => by rw [mJ_sI, j4 _ _ (by omega), w3 k (Nat.zero_le _) hk, mJ_sI, mJ_sI, mJ_wJo (by omega), rJ _ _ (by omega)]
    have Y72 : ∀ k, k < 5 → mJ (sI Z4 366 5 0) 372 k = mJ Z 376 k := fun k hk => by rw [mJ_sI, w4 k (Nat.zero_le _) hk, j3 _ _ (by omega), mJ_sI, mJ_sI, mJ_wJo (by omega), rJ _ _ (by omega)]
    have YS : Shp dr bk (sI Z4 366 5 0) := s4.sI _ _ _
    generalize sI Z4 366 5 0 = Y at *
    have sh17 : ∀ k, k < 50 → mJ Y 17 k = (D.2.2.2.2 k).toInt64 := fun k hk => by
      rw [YJ _ _ (by omega) (by omega) (by omega) (by omega), zJ _ (by omega) (by omega), xJ, c17 k hk, BJ, AJ]; exact q7 k hk
    have cI' : ∀ a k, a ≠ 366 → a ≠ 377 → a ≠ 59 → mI Y a k = mI C a k := fun a k h1 h2 h3 => by rw [YI _ _ (by omega), rI _ _ h1 h2, xC _ _ h3]
    refine ⟨nI K, X1, Y, dr, bk, D.2.1, D.2.2.2.1, eX, eR, hT.mk3 YS hb' kH kP Y6 Y7 ?_ ?_ ?_ (fun a k ha => ?_) ?_ ?_ ⟨?_, ?_⟩⟩
    · refine SR0 kH kP ?_ ?_ ?_ ?_ ?_ (fun k hk => ?_) (fun k hk => ?_) (fun k h1 h2 => ?_) (fun k hk => ?_)
      · show mI Y (16 + 3) 9 = 0
        rw [cI' _ _ (by omega) (by omega) (by omega)]; exact c19
      · show mI Y (16 + 13) 16 = 0
        rw [cI' _ _ (by omega) (by omega) (by omega)]; exact c29
      · show mI Y (16 + 0) 6 = _
        rw [cI' _ _ (by omega) (by omega) (by omega)]
        exact c6.trans (by rw [BI, AI _ _ (by omega)]; exact q3)
      · show mI Y (16 + 0) 7 = _
        rw [cI' _ _ (by omega) (by omega) (by omega)]
        exact c7.trans (by rw [BI, AI _ _ (by omega)]; exact q4)
      · show mI Y (16 + 0) 8 = _
        rw [cI' _ _ (by omega) (by omega) (by omega)]; exact c8
      · show mJ Y 367 k = mJ Y (16 + 1) k
        rw [Y67, w2 k (Nat.zero_le _) hk, r377 k hk]
        exact (sh17 k hk).symm
      · show mJ Y (16 + 2) k = 0
        rw [YJ _ _ (by omega) (by omega) (by omega) (by omega), zJ _ (by omega) (by omega), xJ]
        exact c18 k hk
      · show mJ Y 367 k = 0
        rw [Y67, v2 k (by omega), w1 k (Nat.zero_le _) h2]
      · show 0 ≤ (mJ Y 17 k).toInt ∧ (mJ Y 17 k).toInt ≤ 100000
        rw [sh17 k hk, Int32.toInt_toInt64]
        exact sho k hk
    · refine ⟨nx, 0, g1, by omega, ?_, ?_, Y5, fun j hj => absurd hj (Nat.not_lt_zero j)⟩
      · rw [YI _ _ (by omega), rI _ _ (by omega) (by omega)]; exact x59
      · rw [YI _ _ (by omega), rI _ _ (by omega) (by omega)]; exact x592
    · refine ⟨?_, ?_, ⟨D.1, fun i hi => ⟨(q5 i hi).1, ?_, ?_⟩⟩, ⟨D.2.2.1, fun i hi => ⟨(q6 i hi).1, ?_, ?_⟩⟩⟩
      · rw [YI _ _ (by omega), rI _ _ (by omega) (by omega), xI _ _ (by omega) (by omega) (by omega)]; exact q3
      · rw [YI _ _ (by omega), rI _ _ (by omega) (by omega), xI _ _ (by omega) (by omega) (by omega)]; exact q4
      · rw [YI _ _ (by omega), rI _ _ (by omega) (by omega), xI _ _ (by omega) (by omega) (by omega)]; exact (q5 i hi).2
      · rw [Y71 i (by omega)]; exact (p3 i hi).2
      · rw [YI _ _ (by omega), rI _ _ (by omega) (by omega), xI _ _ (by omega) (by omega) (by omega)]; exact (q6 i hi).2
      · rw [Y72 i (by omega)]; exact (p4 i hi).2
    · by_cases e6 : a = 366
      · have k34 : k = 34 := by omega
        rw [e6, k34, YI _ _ (by omega), r6, xX _ _ (by omega) (by omega) (by omega) (by omega) (by omega) (by omega) (by omega) (by omega) (by omega)]
      · rw [YI _ _ (by omega), rI _ _ e6 (by omega), xX _ _ (by omega) (by omega) (by omega) (by omega) (by omega) (by omega) (by omega) (by omega) (by omega)]
    · rw [YI _ _ (by omega), rI _ _ (by omega) (by omega), x2]; exact A21
    · rw [YI _ _ (by omega)]; exact r12
    · rw [YI _ _ (by omega), rI _ _ (by omega) (by omega), x2, A26, YI _ _ (by omega), r22]
    · rw [YI _ _ (by omega), rI _ _ (by omega) (by omega), x2, A27, YI _ _ (by omega), r23]
  · rw [if_neg hf] at e1
    have eC : fX11_book n 1 X = some (-1, sI M 2 1 0) := by
      have tb := (dr_R hb).1
      have d0 : dr ≠ 0 := by omega
      have h0 := h1
      have h := h1
      simp only [fX11_book, fX11_book_L62, h.1, h.2.1, h.2.2, li_T, li_L, li_R, nm, bd, q_b, ne_eq, Nat.reduceEqDiff, reduceCtorEq, and_false, false_and, and_true, true_and, and_self, not_false_eq_true, not_true_eq_false, ↓reduceIte, d0, tb, e1, MS.1, MS.2.2]
    have xS : Shp bk dr (sI M 2 1 0) := MS.sI _ _ _
    have xI : ∀ a k, a ≠ 2 → a ≠ 4 → a ≠ 5 → a ≠ 6 → a ≠ dr → a ≠ dr + 1 → a ≠ dr + 2 → mI (sI M 2 1 0) a k = mI X a k := fun a k a2 a4 a5 a6 d0 d1 d2 => by rw [mI_sI, if_neg (by omega), MI _ _ a2, wI_ _ _ a4 a5 a6 d0 d1 d2]
    have xJ : ∀ a k, a ≠ dr + 3 → mJ (sI M 2 1 0) a k = mJ X a k := fun a k ha => by rw [mJ_sI, MJ, wJ_ _ _ ha]
    have x21 : mI (sI M 2 1 0) 2 1 = 0 := by rw [mI_sI, if_pos ⟨rfl, rfl⟩]
    have x26 : mI (sI M 2 1 0) 2 6 = (ls b L K).1.2.1 := by rw [mI_sI, if_neg (by omega), M26]
    have x27 : mI (sI M 2 1 0) 2 7 = (ls b L K).1.2.2 := by rw [mI_sI, if_neg (by omega), M27]
    generalize sI M 2 1 0 = X1 at *
    obtain ⟨Z, ez, rf, zI, z12, zJ, -⟩ := m_book0 (n := n) (V := X1) (rb.cg xS (fun a k ha => xI a k (by omega) (by omega) (by omega) (by omega) (by omega) (by omega) (by omega))) (by omega) hK k1 k2
    have fi := m_fine rf (ls b L K).1
    rw [bo_f hf] at fi
    have zS := (rf.rs (ls b L K).1).1
    have rI : ∀ a k, a ≠ 366 → a ≠ 377 → a ≠ 2 → a ≠ 4 → a ≠ 5 → a ≠ 6 → a ≠ dr → a ≠ dr + 1 → a ≠ dr + 2 → mI (RS b L (ls b L K).1 Z) a k = mI X a k := fun a k q1 q2 a2 a4 a5 a6 d0 d1 d2 => by rw [RS_Io _ _ q1, zI _ _ q2 (by omega), xI _ _ a2 a4 a5 a6 d0 d1 d2]
    have r6 : ∀ k, k = 5 ∨ k = 6 ∨ k = 7 ∨ k = 34 → mI (RS b L (ls b L K).1 Z) 366 k = mI X 366 k := fun k hk => by rw [RS_o _ _ (by omega), zI _ _ (by omega) (by omega), xI _ _ (by omega) (by omega) (by omega) (by omega) (by omega) (by omega) (by omega)]
    have rJ : ∀ a k, a ≠ 366 → a ≠ 375 → a ≠ 376 → a ≠ dr + 3 → mJ (RS b L (ls b L K).1 Z) a k = mJ X a k := fun a k q1 q2 q3 q4 => by
      show mJ (FM _ _ _) a k = _
      rw [FM_Jo _ _ _ q1, zJ _ q2 q3, xJ _ _ q4]
    refine ⟨-1, X1, RS b L (ls b L K).1 Z, bk, dr, H, P, eC, ?_, ?_⟩
    · rw [ez]
      have h := zS
      simp only [fX12_book_L71, h.1, h.2.1, h.2.2, li_T, li_L, li_R, nm, bd, q_b, ne_eq, Nat.reduceEqDiff, reduceCtorEq, and_false, false_and, and_true, true_and, and_self, not_false_eq_true, not_true_eq_false, ↓reduceIte, fi]
    · refine hT.mk3 zS hb hH hP (by rw [r6 _ (by omega)]; exact h6) (by rw [r6 _ (by omega)]; exact h7) ?_ ?_ ?_ (fun a k ha => ?_) ?_ ?_ ⟨?_, ?_⟩
      · refine sr.weq (Weq.of (fun a k ha => ?_) (fun a k ha => ?_)) (fun p _ => ?_)
        · rw [rI _ _ (by omega) (by omega) (by omega) (by omega) (by omega) (by omega) (by omega) (by omega) (by omega)]
        · rw [rJ _ _ (by omega) (by omega) (by omega) (by omega)]
        · rw [rJ _ _ (by omega) (by omega) (by omega) (by omega)]
      · refine ⟨nx, c, g1, g2, by rw [rI _ _ (by omega) (by omega) (by omega) (by omega) (by omega) (by omega) (by omega) (by omega) (by omega)]; exact g3, by rw [rI _ _ (by omega) (by omega) (by omega) (by omega) (by omega) (by omega) (by omega) (by omega) (by omega)]; exact g4, by rw [r6 _ (by omega)]; exact g5, fun j hj => ?_⟩
        refine (g6 j hj).weq (Weq.of (fun a k ha => ?_) (fun a k ha => ?_)) (fun p _ => ?_)
        · rw [rI _ _ (by omega) (by omega) (by omega) (by omega) (by omega) (by omega) (by omega) (by omega) (by omega)]
        · rw [rJ _ _ (by omega) (by omega) (by omega) (by omega)]
        · rw [rJ _ _ (by omega) (by omega) (by omega) (by omega)]
      · refine ⟨by rw [rI _ _ (by omega) (by omega) (by omega) (by omega) (by omega) (by omega) (by omega) (by omega) (by omega)]; exact n1, by rw [rI _ _ (by omega) (by omega) (by omega) (by omega) (by omega) (by omega) (by omega) (by omega) (by omega)]; exact n2, ⟨nh, fun i hi => ?_⟩, ⟨np, fun i hi => ?_⟩⟩
        · rw [rI _ _ (by omega) (by omega) (by omega) (by omega) (by omega) (by omega) (by omega) (by omega) (by omega), rJ _ _ (by omega) (by omega) (by omega) (by omega)]; exact n3 i hi
        · rw [rI _ _ (by omega) (by omega) (by omega) (by omega) (by omega) (by omega) (by omega) (by omega) (by omega), rJ _ _ (by omega) (by omega) (by omega) (by omega)]; exact n4 i hi
      · by_cases e6 : a = 366
        · rw [e6]; exact r6 k (by omega)
        · rw [rI _ _ e6 (by omega) (by omega) (by omega) (by omega) (by omega) (by omega) (by omega) (by omega)]
      · rw [RS_Io _ _ (by decide), zI _ _ (by omega) (by omega)]; exact x21
      · rw [RS_o _ _ (by omega)]; exact z12
      · rw [RS_Io _ _ (by decide), zI _ _ (by omega) (by omega), x26, RS_I, if_pos rfl]
      · rw [RS_Io _ _ (by decide), zI _ _ (by omega) (by omega), x27, RS_I, if_neg (by omega), if_pos rfl]
end
