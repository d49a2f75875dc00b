/-! TEXTS: book, both -/
section
variable {b : Nat → Int32} {L : Nat} {bk dr n K H P : Nat} {X V W Z : Mm} {s t : St3} {D : Bk} {f g : Nat → Int64}
theorem Tp.mk3 {bk' dr' H' P' : Nat} {Y : Mm} (h : Tp bk dr H P X) (hS : Shp bk' dr' Y) (hb : Bks bk' dr') (hH : H' ≤ 10) (hP : P' ≤ 5) (y6 : mI Y 366 6 = nI H') (y7 : mI Y 366 7 = nI P') (hN : SR H' P' (mJ Y 367) (gW 16 Y)) (hR : HiR H' P' Y) (hM : NmR bk' H' P' Y) (hI : ∀ c k, c = 3 ∨ c = 374 ∨ c = 363 ∨ c = 381 ∨ c = 373 ∨ (c = 362 ∧ k = 1) ∨ (c = 366 ∧ k = 34) → mI Y c k = mI X c k) (y1 : mI Y 2 1 = 0) (y2 : mI Y 366 12 = 0) (y3 : FaR Y) : Tp bk' dr' H' P' Y := by
  obtain ⟨-, -, -, -, -, -, -, -, -, ⟨L, t1, t2, t3, t4⟩, -, ⟨M, s1, s2, s3, s4⟩, l⟩ := h
  refine ⟨hS, hb, hH, hP, y6, y7, hN, hR, hM, ⟨0, by omega, y1, y2, fun i hi => ?_⟩, y3, ⟨M, s1, by rw [hI _ _ (by omega)]; exact s2, by rw [hI _ _ (by omega)]; exact s3, fun i hi => ?_⟩, fun i hi => ?_⟩
  · rw [hI _ _ (by omega), hI _ _ (by omega)]; exact t4 i hi
  · rw [hI _ _ (by omega), hI _ _ (by omega)]; exact s4 i hi
  · rw [hI _ _ (by omega)]; exact l i hi
theorem s_book (h : Tp bk dr H P X) (hn : 24000 ≤ n) : ∃ r X1 X2 bk2 dr2 H2 P2, fX11_book n 1 X = some (r, X1) ∧ fX12_book n 366 X1 = some (r, X2) ∧ Tp bk2 dr2 H2 P2 X2 := by
  have hT := h
  obtain ⟨L, L7, hL, rb⟩ := h.rb
  obtain ⟨h1, hb, hH, hP, h6, h7, sr, ⟨nx, c, g1, g2, g3, g4, g5, g6⟩, ⟨n1, n2, ⟨nh, n3⟩, ⟨np, n4⟩⟩, -, -, -, -⟩ := h
  obtain ⟨b, eb⟩ : ∃ b, b = mI X 3 := ⟨_, rfl⟩
  rw [← eb] at rb
  have b7 : (bk = 7 ∧ dr = 11) ∨ (bk = 11 ∧ dr = 7) := hb
  obtain ⟨K, hK, k1, k2, k3, k4⟩ := K_lines (b := b) L7
  obtain ⟨W, e1, wS, wI_, wJ_, bdW⟩ := c_book (n := n) h1 hb hL L7 eb.symm (by omega) hK (fun i hi => ⟨(k1 i hi).1, (k1 i hi).2.1⟩) k2 k3
  have M26 : mI (U2 (ls b L K).1 W) 2 6 = (ls b L K).1.2.1 := by rw [U2_I, if_neg (by omega), if_pos ⟨rfl, rfl⟩]
  have M27 : mI (U2 (ls b L K).1 W) 2 7 = (ls b L K).1.2.2 := by rw [U2_I, if_pos ⟨rfl, rfl⟩]
  have MI : ∀ a k, a ≠ 2 → mI (U2 (ls b L K).1 W) a k = mI W a k := fun a k ha => U2_Io _ _ ha k
  have MJ : mJ (U2 (ls b L K).1 W) = mJ W := U2_jj _ _
  have MS : Shp bk dr (U2 (ls b L K).1 W) := ⟨by rw [U2_T]; exact wS.1, by rw [U2_L]; exact wS.2.1, by rw [U2_R]; exact wS.2.2⟩
  generalize U2 (ls b L K).1 W = M at *
  by_cases hf : (ls b L K).1.2.1 = 0
  · sorry
  · rw [if_neg hf] at e1
    have eC : fX11_book n 1 X = some (-1, sI M 2 1 0) := by
      have tb := (dr_R hb).1
      have d0 : dr ≠ 0 := by omega
      have h0 := h1
      have h := h1
      simp only [fX11_book, fX11_book_L62, h.1, h.2.1, h.2.2, li_T, li_L, li_R, nm, bd, q_b, ne_eq, Nat.reduceEqDiff, reduceCtorEq, and_false, false_and, and_true, true_and, and_self, not_false_eq_true, not_true_eq_false, ↓reduceIte, d0, tb, e1, MS.1, MS.2.2]
    have xS : Shp bk dr (sI M 2 1 0) := MS.sI _ _ _
    have xI : ∀ a k, a ≠ 2 → a ≠ 4 → a ≠ 5 → a ≠ 6 → a ≠ dr → a ≠ dr + 1 → a ≠ dr + 2 → mI (sI M 2 1 0) a k = mI X a k := fun a k a2 a4 a5 a6 d0 d1 d2 => by rw [mI_sI, if_neg (by omega), MI _ _ a2, wI_ _ _ a4 a5 a6 d0 d1 d2]
    have xJ : ∀ a k, a ≠ dr + 3 → mJ (sI M 2 1 0) a k = mJ X a k := fun a k ha => by rw [mJ_sI, MJ, wJ_ _ _ ha]
    have x21 : mI (sI M 2 1 0) 2 1 = 0 := by rw [mI_sI, if_pos ⟨rfl, rfl⟩]
    have x26 : mI (sI M 2 1 0) 2 6 = (ls b L K).1.2.1 := by rw [mI_sI, if_neg (by omega), M26]
    have x27 : mI (sI M 2 1 0) 2 7 = (ls b L K).1.2.2 := by rw [mI_sI, if_neg (by omega), M27]
    generalize sI M 2 1 0 = X1 at *
    obtain ⟨Z, ez, rf, zI, z12, zJ, -⟩ := m_book0 (n := n) (V := X1) (rb.cg xS (fun a k ha => xI a k (by omega) (by omega) (by omega) (by omega) (by omega) (by omega) (by omega))) (by omega) hK k1 k2
    have fi := m_fine rf (ls b L K).1
    rw [bo_f hf] at fi
    have zS := (rf.rs (ls b L K).1).1
    have rI : ∀ a k, a ≠ 366 → a ≠ 377 → a ≠ 2 → a ≠ 4 → a ≠ 5 → a ≠ 6 → a ≠ dr → a ≠ dr + 1 → a ≠ dr + 2 → mI (RS b L (ls b L K).1 Z) a k = mI X a k := fun a k q1 q2 a2 a4 a5 a6 d0 d1 d2 => by rw [RS_Io _ _ q1, zI _ _ q2 (by omega), xI _ _ a2 a4 a5 a6 d0 d1 d2]
    have r6 : ∀ k, k = 5 ∨ k = 6 ∨ k = 7 ∨ k = 34 → mI (RS b L (ls b L K).1 Z) 366 k = mI X 366 k := fun k hk => by rw [RS_o _ _ (by omega), zI _ _ (by omega) (by omega), xI _ _ (by omega) (by omega) (by omega) (by omega) (by omega) (by omega) (by omega)]
    have rJ : ∀ a k, a ≠ 366 → a ≠ 375 → a ≠ 376 → a ≠ dr + 3 → mJ (RS b L (ls b L K).1 Z) a k = mJ X a k := fun a k q1 q2 q3 q4 => by
      show mJ (FM _ _ _) a k = _
      rw [FM_Jo _ _ _ q1, zJ _ q2 q3, xJ _ _ q4]
    refine ⟨-1, X1, RS b L (ls b L K).1 Z, bk, dr, H, P, eC, ?_, ?_⟩
    · rw [ez]
      have h := zS
      simp only [fX12_book_L71, h.1, h.2.1, h.2.2, li_T, li_L, li_R, nm, bd, q_b, ne_eq, Nat.reduceEqDiff, reduceCtorEq, and_false, false_and, and_true, true_and, and_self, not_false_eq_true, not_true_eq_false, ↓reduceIte, fi]
    · refine hT.mk3 zS hb hH hP (by rw [r6 _ (by omega)]; exact h6) (by rw [r6 _ (by omega)]; exact h7) ?_ ?_ ?_ (fun a k ha => ?_) ?_ ?_ ⟨?_, ?_⟩
      · refine sr.weq (Weq.of (fun a k ha => ?_) (fun a k ha => ?_)) (fun p _ => ?_)
        · rw [rI _ _ (by omega) (by omega) (by omega) (by omega) (by omega) (by omega) (by omega) (by omega) (by omega)]
        · rw [rJ _ _ (by omega) (by omega) (by omega) (by omega)]
        · rw [rJ _ _ (by omega) (by omega) (by omega) (by omega)]
      · refine ⟨nx, c, g1, g2, by rw [rI _ _ (by omega) (by omega) (by omega) (by omega) (by omega) (by omega) (by omega) (by omega) (by omega)]; exact g3, by rw [rI _ _ (by omega) (by omega) (by omega) (by omega) (by omega) (by omega) (by omega) (by omega) (by omega)]; exact g4, by rw [r6 _ (by omega)]; exact g5, fun j hj => ?_⟩
        refine (g6 j hj).weq (Weq.of (fun a k ha => ?_) (fun a k ha => ?_)) (fun p _ => ?_)
        · rw [rI _ _ (by omega) (by omega) (by omega) (by omega) (by omega) (by omega) (by omega) (by omega) (by omega)]
        · rw [rJ _ _ (by omega) (by omega) (by omega) (by omega)]
        · rw [rJ _ _ (by omega) (by omega) (by omega) (by omega)]
      · refine ⟨by rw [rI _ _ (by omega) (by omega) (by omega) (by omega) (by omega) (by omega) (by omega) (by omega) (by omega)]; exact n1, by rw [rI _ _ (by omega) (by omega) (by omega) (by omega) (by omega) (by omega) (by omega) (by omega) (by omega)]; exact n2, ⟨nh, fun i hi => ?_⟩, ⟨np, fun i hi => ?_⟩⟩
        · rw [rI _ _ (by omega) (by omega) (by omega) (by omega) (by omega) (by omega) (by omega) (by omega) (by omega), rJ _ _ (by omega) (by omega) (by omega) (by omega)]; exact n3 i hi
        · rw [rI _ _ (by omega) (by omega) (by omega) (by omega) (by omega) (by omega) (by omega) (by omega) (by omega), rJ _ _ (by omega) (by omega) (by omega) (by omega)]; exact n4 i hi
      · by_cases e6 : a = 366
        · rw [e6]; exact r6 k (by omega)
        · rw [rI _ _ e6 (by omega) (by omega) (by omega) (by omega) (by omega) (by omega) (by omega) (by omega)]
      · rw [RS_Io _ _ (by decide), zI _ _ (by omega) (by omega)]; exact x21
      · rw [RS_o _ _ (by omega)]; exact z12
      · rw [RS_Io _ _ (by decide), zI _ _ (by omega) (by omega), x26, RS_I, if_pos rfl]
      · rw [RS_Io _ _ (by decide), zI _ _ (by omega) (by omega), x27, RS_I, if_neg (by omega), if_pos rfl]
end
