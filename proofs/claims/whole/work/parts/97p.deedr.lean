/-! TEXTS: the reference reads a deed, kind by kind (printed by mk97p.py) -/
section
variable {b : Nat → Int32} {L : Nat} {nh np : Nat → List Nat} {H P bk dr n m : Nat} {W Z : Mm} {s : St3}
theorem r_rdTrade (h : RB b L nh np H P bk dr m Z) (hn : 1000 ≤ n) (hf : s.2.1 = 0) : ∃ e, fX12_readsDeed_L51 n 366 3 (RS b L s Z) = some ((), RS b L (sts b L nh np H P [0, 0, 1, 2, 2, 3] (s.1 + 1, s.2.1, s.2.2)) (Zd m 3 (sts b L nh np H P [0, 0, 1, 2, 2, 3] (s.1 + 1, s.2.1, s.2.2)) e Z)) ∧ ((sts b L nh np H P [0, 0, 1, 2, 2, 3] (s.1 + 1, s.2.1, s.2.2)).2.1 = 0 → e (10 * m + 0) = vat b L nh np H P [0, 0, 1, 2, 2, 3] 0 (s.1 + 1, s.2.1, s.2.2) ∧ e (10 * m + 1) = vat b L nh np H P [0, 0, 1, 2, 2, 3] 1 (s.1 + 1, s.2.1, s.2.2) ∧ e (10 * m + 2) = vat b L nh np H P [0, 0, 1, 2, 2, 3] 2 (s.1 + 1, s.2.1, s.2.2) ∧ e (10 * m + 3) = vat b L nh np H P [0, 0, 1, 2, 2, 3] 3 (s.1 + 1, s.2.1, s.2.2) ∧ e (10 * m + 4) = vat b L nh np H P [0, 0, 1, 2, 2, 3] 4 (s.1 + 1, s.2.1, s.2.2) ∧ e (10 * m + 5) = vat b L nh np H P [0, 0, 1, 2, 2, 3] 5 (s.1 + 1, s.2.1, s.2.2)) ∧ ∀ j, j < 10 * m → e j = mI Z 379 j := by
  obtain ⟨q1, q2, q3, q4⟩ := r_head (n := n) h hn hf 3
  have g := h.s78 m 3
  have m140 := h.2.2.2.2.2.2.1
  have i1 : (nI m).toNatClampNeg = m := nI_clamp (by omega)
  have i2 := inL_nI (j := m) (n := 140) m140 (by decide)
  have hs0 := (h.1.rs s).1
  have hs1 := (h.1.rs (s.1 + 1, s.2.1, s.2.2)).1
  have T : ∀ s e, mT (RS b L s (wI (sI Z 378 m 3) 379 e)) = sh_T := fun s e => (g.at s e).1.1
  have R : ∀ s e, mR (RS b L s (wI (sI Z 378 m 3) 379 e)) = sh_R bk dr := fun s e => (g.at s e).1.2.2
  have i6 : ∀ s e, mI (RS b L s (wI (sI Z 378 m 3) 379 e)) 366 6 = nI H := fun s e => (g.at s e).2.1
  have i7 : ∀ s e, mI (RS b L s (wI (sI Z 378 m 3) 379 e)) 366 7 = nI P := fun s e => (g.at s e).2.2.1
  have l5 : ¬ (3 : Int32) = 5 := by decide
  have l6 : ¬ (3 : Int32) = 6 := by decide
  have l8 : ¬ (3 : Int32) = 8 := by decide
  have l19 : ¬ (3 : Int32) = 19 := by decide
  have l20 : ¬ (3 : Int32) = 20 := by decide
  obtain ⟨s0, e0⟩ : ∃ t, t = (s.1 + 1, s.2.1, s.2.2) := ⟨_, rfl⟩
  obtain ⟨x0, y0⟩ : ∃ t, t = mI Z 379 := ⟨_, rfl⟩
  rw [← e0] at q2 q3 q4 hs1
  rw [← e0, ← y0]
  rw [← y0] at q4
  have k0 := r_kh (n := n) g hn s0 x0
  have bb1 := fun z => ((aK_go (b := b) (L := L) nh H s0).2.1 z).1
  obtain ⟨s1, e1⟩ : ∃ t, t = aK b L nh H s0 := ⟨_, rfl⟩
  obtain ⟨v0, f0⟩ : ∃ t, t = vK b L nh H s0 := ⟨_, rfl⟩
  rw [← e1] at k0 bb1
  rw [← f0] at k0
  have a0 := r_arg g s1 x0 (j := 0) (jI := 0) (by decide) (by decide) v0
  obtain ⟨z0, w0⟩ : ∃ t, t = q_u1 x0 (10 * m + 0) v0 := ⟨_, rfl⟩
  rw [← w0] at a0
  have k1 := r_kh (n := n) g hn s1 z0
  have bb2 := fun z => ((aK_go (b := b) (L := L) nh H s1).2.1 z).1
  obtain ⟨s2, e2⟩ : ∃ t, t = aK b L nh H s1 := ⟨_, rfl⟩
  obtain ⟨v1, f1⟩ : ∃ t, t = vK b L nh H s1 := ⟨_, rfl⟩
  rw [← e2] at k1 bb2
  rw [← f1] at k1
  have a1 := r_arg g s2 z0 (j := 1) (jI := 1) (by decide) (by decide) v1
  obtain ⟨z1, w1⟩ : ∃ t, t = q_u1 z0 (10 * m + 1) v1 := ⟨_, rfl⟩
  rw [← w1] at a1
  have k2 := r_kp (n := n) g hn s2 z1
  have bb3 := fun z => ((aK_go (b := b) (L := L) np P s2).2.1 z).1
  obtain ⟨s3, e3⟩ : ∃ t, t = aK b L np P s2 := ⟨_, rfl⟩
  obtain ⟨v2, f2⟩ : ∃ t, t = vK b L np P s2 := ⟨_, rfl⟩
  rw [← e3] at k2 bb3
  rw [← f2] at k2
  have a2 := r_arg g s3 z1 (j := 2) (jI := 2) (by decide) (by decide) v2
  obtain ⟨z2, w2⟩ : ∃ t, t = q_u1 z1 (10 * m + 2) v2 := ⟨_, rfl⟩
  rw [← w2] at a2
  obtain ⟨v3, k3, c3⟩ := r_nn (n := n) g hn s3 z2
  have bb4 := fun z => ((aN_go (b := b) (L := L) s3).2.1 z).1
  obtain ⟨s4, e4⟩ : ∃ t, t = aN b L s3 := ⟨_, rfl⟩
  rw [← e4] at k3 c3 bb4
  have a3 := r_arg g s4 z2 (j := 3) (jI := 3) (by decide) (by decide) v3
  obtain ⟨z3, w3⟩ : ∃ t, t = q_u1 z2 (10 * m + 3) v3 := ⟨_, rfl⟩
  rw [← w3] at a3
  obtain ⟨v4, k4, c4⟩ := r_nn (n := n) g hn s4 z3
  have bb5 := fun z => ((aN_go (b := b) (L := L) s4).2.1 z).1
  obtain ⟨s5, e5⟩ : ∃ t, t = aN b L s4 := ⟨_, rfl⟩
  rw [← e5] at k4 c4 bb5
  have a4 := r_arg g s5 z3 (j := 4) (jI := 4) (by decide) (by decide) v4
  obtain ⟨z4, w4⟩ : ∃ t, t = q_u1 z3 (10 * m + 4) v4 := ⟨_, rfl⟩
  rw [← w4] at a4
  have kp := r_pp (n := n) g hn s5 (k := 4) (by decide) z4
  by_cases zw : s5.2.1 = 0 ∧ AW b L 4 s5.1
  · rw [bo_t zw] at kp
    obtain ⟨v5, k5, c5x⟩ := r_nn (n := n) g hn (aP b L 4 s5) z4
    have a5 := r_arg g (aN b L (aP b L 4 s5)) z4 (j := 5) (jI := 5) (by decide) (by decide) v5
    obtain ⟨z5, w5⟩ : ∃ t, t = q_u1 z4 (10 * m + 5) v5 := ⟨_, rfl⟩
    rw [← w5] at a5
    have es : sts b L nh np H P [0, 0, 1, 2, 2, 3] s0 = aN b L (aP b L 4 s5) := by
      subst e5 e4 e3 e2 e1
      simp only [sts, stp_0, stp_1, stp_2, stp_w9, stp_w10, stp_w11, stp_w12, stp_w13, stp_w14, stp_w15, stp_w16, stp_w17, stp_w18, (stp_3t zw).1]
    have fin := r_307 (n := n) h (aN b L (aP b L 4 s5)) 3 z5
    rw [es]
    refine ⟨z5, ?_, fun z => ?_, fun j hj => ?_⟩
    · have h := hs0
      simp only [fX12_readsDeed_L51, fX12_readsDeed_L203, fX12_readsOther, fX12_readsWhen, h.1, h.2.1, h.2.2, li_T, li_L, li_R, nm, bd, q_b, ne_eq, Nat.reduceEqDiff, reduceCtorEq, and_false, false_and, and_true, true_and, and_self, not_false_eq_true, not_true_eq_false, ↓reduceIte, hs1.1, hs1.2.1, hs1.2.2, q1, q2, q3, q4, i1, i2.1, i2.2, b1, T, R, i6, i7, l5, l6, l8, l19, l20, k0, a0, k1, a1, k2, a2, k3, a3, k4, a4, kp, k5, a5, fin]
    · have z5s := zw.1
      have z4s := bb5 z5s
      have z3s := bb4 z4s
      have z2s := bb3 z3s
      have z1s := bb2 z2s
      have z0s := bb1 z1s
      have t0 : vat b L nh np H P [0, 0, 1, 2, 2, 3] 0 s0 = vK b L nh H s0 := by
        subst e5 e4 e3 e2 e1
        simp only [vat, stp_0, stp_1, stp_2, val_0, val_1, val_2, stp_w9, stp_w10, stp_w11, stp_w12, stp_w13, stp_w14, stp_w15, stp_w16, stp_w17, stp_w18]
      have u0 : v0 = vK b L nh H s0 := f0
      have t1 : vat b L nh np H P [0, 0, 1, 2, 2, 3] 1 s0 = vK b L nh H s1 := by
        subst e5 e4 e3 e2 e1
        simp only [vat, stp_0, stp_1, stp_2, val_0, val_1, val_2, stp_w9, stp_w10, stp_w11, stp_w12, stp_w13, stp_w14, stp_w15, stp_w16, stp_w17, stp_w18]
      have u1 : v1 = vK b L nh H s1 := f1
      have t2 : vat b L nh np H P [0, 0, 1, 2, 2, 3] 2 s0 = vK b L np P s2 := by
        subst e5 e4 e3 e2 e1
        simp only [vat, stp_0, stp_1, stp_2, val_0, val_1, val_2, stp_w9, stp_w10, stp_w11, stp_w12, stp_w13, stp_w14, stp_w15, stp_w16, stp_w17, stp_w18]
      have u2 : v2 = vK b L np P s2 := f2
      have t3 : vat b L nh np H P [0, 0, 1, 2, 2, 3] 3 s0 = vN b L s3 := by
        subst e5 e4 e3 e2 e1
        simp only [vat, stp_0, stp_1, stp_2, val_0, val_1, val_2, stp_w9, stp_w10, stp_w11, stp_w12, stp_w13, stp_w14, stp_w15, stp_w16, stp_w17, stp_w18]
      have u3 : v3 = vN b L s3 := c3 z4s
      have t4 : vat b L nh np H P [0, 0, 1, 2, 2, 3] 4 s0 = vN b L s4 := by
        subst e5 e4 e3 e2 e1
        simp only [vat, stp_0, stp_1, stp_2, val_0, val_1, val_2, stp_w9, stp_w10, stp_w11, stp_w12, stp_w13, stp_w14, stp_w15, stp_w16, stp_w17, stp_w18]
      have u4 : v4 = vN b L s4 := c4 z5s
      have t5 : vat b L nh np H P [0, 0, 1, 2, 2, 3] 5 s0 = vN b L (aP b L 4 s5) := by
        subst e5 e4 e3 e2 e1
        simp only [vat, stp_0, stp_1, stp_2, (stp_3t zw).2]
      have u5 := c5x z
      refine ⟨?_, ?_, ?_, ?_, ?_, ?_⟩
      · rw [t0]
        rw [← u0, w5, w4, w3, w2, w1, w0]
        simp only [q_u1_is, Nat.add_left_cancel_iff, Nat.reduceEqDiff, ↓reduceIte]
      · rw [t1]
        rw [← u1, w5, w4, w3, w2, w1, w0]
        simp only [q_u1_is, Nat.add_left_cancel_iff, Nat.reduceEqDiff, ↓reduceIte]
      · rw [t2]
        rw [← u2, w5, w4, w3, w2, w1, w0]
        simp only [q_u1_is, Nat.add_left_cancel_iff, Nat.reduceEqDiff, ↓reduceIte]
      · rw [t3]
        rw [← u3, w5, w4, w3, w2, w1, w0]
        simp only [q_u1_is, Nat.add_left_cancel_iff, Nat.reduceEqDiff, ↓reduceIte]
      · rw [t4]
        rw [← u4, w5, w4, w3, w2, w1, w0]
        simp only [q_u1_is, Nat.add_left_cancel_iff, Nat.reduceEqDiff, ↓reduceIte]
      · rw [t5]
        rw [← u5, w5, w4, w3, w2, w1, w0]
        simp only [q_u1_is, Nat.add_left_cancel_iff, Nat.reduceEqDiff, ↓reduceIte]
    · rw [w5, w4, w3, w2, w1, w0]
      rw [q_u1_n _ _ (by omega), q_u1_n _ _ (by omega), q_u1_n _ _ (by omega), q_u1_n _ _ (by omega), q_u1_n _ _ (by omega), q_u1_n _ _ (by omega)]
  · rw [bo_f zw, aP_n zw] at kp
    have a5 := r_arg g s5 z4 (j := 5) (jI := 5) (by decide) (by decide) 2
    obtain ⟨z5, w5⟩ : ∃ t, t = q_u1 z4 (10 * m + 5) 2 := ⟨_, rfl⟩
    rw [← w5] at a5
    have es : sts b L nh np H P [0, 0, 1, 2, 2, 3] s0 = s5 := by
      subst e5 e4 e3 e2 e1
      simp only [sts, stp_0, stp_1, stp_2, stp_w9, stp_w10, stp_w11, stp_w12, stp_w13, stp_w14, stp_w15, stp_w16, stp_w17, stp_w18, (stp_3f zw).1]
    have fin := r_307 (n := n) h (s5) 3 z5
    rw [es]
    refine ⟨z5, ?_, fun z => ?_, fun j hj => ?_⟩
    · have h := hs0
      simp only [fX12_readsDeed_L51, fX12_readsDeed_L203, fX12_readsOther, fX12_readsWhen, h.1, h.2.1, h.2.2, li_T, li_L, li_R, nm, bd, q_b, ne_eq, Nat.reduceEqDiff, reduceCtorEq, and_false, false_and, and_true, true_and, and_self, not_false_eq_true, not_true_eq_false, ↓reduceIte, hs1.1, hs1.2.1, hs1.2.2, q1, q2, q3, q4, i1, i2.1, i2.2, b1, T, R, i6, i7, l5, l6, l8, l19, l20, k0, a0, k1, a1, k2, a2, k3, a3, k4, a4, kp, a5, fin]
    · have z5s := z
      have z4s := bb5 z5s
      have z3s := bb4 z4s
      have z2s := bb3 z3s
      have z1s := bb2 z2s
      have z0s := bb1 z1s
      have t0 : vat b L nh np H P [0, 0, 1, 2, 2, 3] 0 s0 = vK b L nh H s0 := by
        subst e5 e4 e3 e2 e1
        simp only [vat, stp_0, stp_1, stp_2, val_0, val_1, val_2, stp_w9, stp_w10, stp_w11, stp_w12, stp_w13, stp_w14, stp_w15, stp_w16, stp_w17, stp_w18]
      have u0 : v0 = vK b L nh H s0 := f0
      have t1 : vat b L nh np H P [0, 0, 1, 2, 2, 3] 1 s0 = vK b L nh H s1 := by
        subst e5 e4 e3 e2 e1
        simp only [vat, stp_0, stp_1, stp_2, val_0, val_1, val_2, stp_w9, stp_w10, stp_w11, stp_w12, stp_w13, stp_w14, stp_w15, stp_w16, stp_w17, stp_w18]
      have u1 : v1 = vK b L nh H s1 := f1
      have t2 : vat b L nh np H P [0, 0, 1, 2, 2, 3] 2 s0 = vK b L np P s2 := by
        subst e5 e4 e3 e2 e1
        simp only [vat, stp_0, stp_1, stp_2, val_0, val_1, val_2, stp_w9, stp_w10, stp_w11, stp_w12, stp_w13, stp_w14, stp_w15, stp_w16, stp_w17, stp_w18]
      have u2 : v2 = vK b L np P s2 := f2
      have t3 : vat b L nh np H P [0, 0, 1, 2, 2, 3] 3 s0 = vN b L s3 := by
        subst e5 e4 e3 e2 e1
        simp only [vat, stp_0, stp_1, stp_2, val_0, val_1, val_2, stp_w9, stp_w10, stp_w11, stp_w12, stp_w13, stp_w14, stp_w15, stp_w16, stp_w17, stp_w18]
      have u3 : v3 = vN b L s3 := c3 z4s
      have t4 : vat b L nh np H P [0, 0, 1, 2, 2, 3] 4 s0 = vN b L s4 := by
        subst e5 e4 e3 e2 e1
        simp only [vat, stp_0, stp_1, stp_2, val_0, val_1, val_2, stp_w9, stp_w10, stp_w11, stp_w12, stp_w13, stp_w14, stp_w15, stp_w16, stp_w17, stp_w18]
      have u4 : v4 = vN b L s4 := c4 z5s
      have t5 : vat b L nh np H P [0, 0, 1, 2, 2, 3] 5 s0 = 2 := by
        subst e5 e4 e3 e2 e1
        simp only [vat, stp_0, stp_1, stp_2, (stp_3f zw).2]
      refine ⟨?_, ?_, ?_, ?_, ?_, ?_⟩
      · rw [t0]
        rw [← u0, w5, w4, w3, w2, w1, w0]
        simp only [q_u1_is, Nat.add_left_cancel_iff, Nat.reduceEqDiff, ↓reduceIte]
      · rw [t1]
        rw [← u1, w5, w4, w3, w2, w1, w0]
        simp only [q_u1_is, Nat.add_left_cancel_iff, Nat.reduceEqDiff, ↓reduceIte]
      · rw [t2]
        rw [← u2, w5, w4, w3, w2, w1, w0]
        simp only [q_u1_is, Nat.add_left_cancel_iff, Nat.reduceEqDiff, ↓reduceIte]
      · rw [t3]
        rw [← u3, w5, w4, w3, w2, w1, w0]
        simp only [q_u1_is, Nat.add_left_cancel_iff, Nat.reduceEqDiff, ↓reduceIte]
      · rw [t4]
        rw [← u4, w5, w4, w3, w2, w1, w0]
        simp only [q_u1_is, Nat.add_left_cancel_iff, Nat.reduceEqDiff, ↓reduceIte]
      · rw [t5]
        rw [w5, w4, w3, w2, w1, w0]
        simp only [q_u1_is, Nat.add_left_cancel_iff, Nat.reduceEqDiff, ↓reduceIte]
    · rw [w5, w4, w3, w2, w1, w0]
      rw [q_u1_n _ _ (by omega), q_u1_n _ _ (by omega), q_u1_n _ _ (by omega), q_u1_n _ _ (by omega), q_u1_n _ _ (by omega), q_u1_n _ _ (by omega)]
theorem r_rdMoney (h : RB b L nh np H P bk dr m Z) (hn : 1000 ≤ n) (hf : s.2.1 = 0) : ∃ e, fX12_readsDeed_L51 n 366 5 (RS b L s Z) = some ((), RS b L (sts b L nh np H P [1, 2, 20, 2, 21, 2, 22, 2] (s.1 + 1, s.2.1, s.2.2)) (Zd m 5 (sts b L nh np H P [1, 2, 20, 2, 21, 2, 22, 2] (s.1 + 1, s.2.1, s.2.2)) e Z)) ∧ ((sts b L nh np H P [1, 2, 20, 2, 21, 2, 22, 2] (s.1 + 1, s.2.1, s.2.2)).2.1 = 0 → e (10 * m + 0) = vat b L nh np H P [1, 2, 20, 2, 21, 2, 22, 2] 0 (s.1 + 1, s.2.1, s.2.2) ∧ e (10 * m + 1) = vat b L nh np H P [1, 2, 20, 2, 21, 2, 22, 2] 1 (s.1 + 1, s.2.1, s.2.2) ∧ e (10 * m + 2) = vat b L nh np H P [1, 2, 20, 2, 21, 2, 22, 2] 3 (s.1 + 1, s.2.1, s.2.2) ∧ e (10 * m + 3) = vat b L nh np H P [1, 2, 20, 2, 21, 2, 22, 2] 5 (s.1 + 1, s.2.1, s.2.2) ∧ e (10 * m + 4) = vat b L nh np H P [1, 2, 20, 2, 21, 2, 22, 2] 7 (s.1 + 1, s.2.1, s.2.2)) ∧ ∀ j, j < 10 * m → e j = mI Z 379 j := by
  obtain ⟨q1, q2, q3, q4⟩ := r_head (n := n) h hn hf 5
  have g := h.s78 m 5
  have m140 := h.2.2.2.2.2.2.1
  have i1 : (nI m).toNatClampNeg = m := nI_clamp (by omega)
  have i2 := inL_nI (j := m) (n := 140) m140 (by decide)
  have hs0 := (h.1.rs s).1
  have hs1 := (h.1.rs (s.1 + 1, s.2.1, s.2.2)).1
  have T : ∀ s e, mT (RS b L s (wI (sI Z 378 m 5) 379 e)) = sh_T := fun s e => (g.at s e).1.1
  have R : ∀ s e, mR (RS b L s (wI (sI Z 378 m 5) 379 e)) = sh_R bk dr := fun s e => (g.at s e).1.2.2
  have i6 : ∀ s e, mI (RS b L s (wI (sI Z 378 m 5) 379 e)) 366 6 = nI H := fun s e => (g.at s e).2.1
  have i7 : ∀ s e, mI (RS b L s (wI (sI Z 378 m 5) 379 e)) 366 7 = nI P := fun s e => (g.at s e).2.2.1
  have l3 : ¬ (5 : Int32) = 3 := by decide
  have l6 : ¬ (5 : Int32) = 6 := by decide
  have l8 : ¬ (5 : Int32) = 8 := by decide
  have l19 : ¬ (5 : Int32) = 19 := by decide
  have l20 : ¬ (5 : Int32) = 20 := by decide
  obtain ⟨s0, e0⟩ : ∃ t, t = (s.1 + 1, s.2.1, s.2.2) := ⟨_, rfl⟩
  obtain ⟨x0, y0⟩ : ∃ t, t = mI Z 379 := ⟨_, rfl⟩
  rw [← e0] at q2 q3 q4 hs1
  rw [← e0, ← y0]
  rw [← y0] at q4
  have k0 := r_kp (n := n) g hn s0 x0
  have bb1 := fun z => ((aK_go (b := b) (L := L) np P s0).2.1 z).1
  obtain ⟨s1, e1⟩ : ∃ t, t = aK b L np P s0 := ⟨_, rfl⟩
  obtain ⟨v0, f0⟩ : ∃ t, t = vK b L np P s0 := ⟨_, rfl⟩
  rw [← e1] at k0 bb1
  rw [← f0] at k0
  have a0 := r_arg g s1 x0 (j := 0) (jI := 0) (by decide) (by decide) v0
  obtain ⟨z0, w0⟩ : ∃ t, t = q_u1 x0 (10 * m + 0) v0 := ⟨_, rfl⟩
  rw [← w0] at a0
  obtain ⟨v1, k1, c1⟩ := r_nn (n := n) g hn s1 z0
  have bb2 := fun z => ((aN_go (b := b) (L := L) s1).2.1 z).1
  obtain ⟨s2, e2⟩ : ∃ t, t = aN b L s1 := ⟨_, rfl⟩
  rw [← e2] at k1 c1 bb2
  have a1 := r_arg g s2 z0 (j := 1) (jI := 1) (by decide) (by decide) v1
  obtain ⟨z1, w1⟩ : ∃ t, t = q_u1 z0 (10 * m + 1) v1 := ⟨_, rfl⟩
  rw [← w1] at a1
  obtain ⟨v3, k2, c3⟩ := r_bb (n := n) g hn s2 (k := 16) (by decide) z1
  have bb4 := fun z => ((aW_go (b := b) (L := L) 16 s2).2.1 ((aN_go (b := b) (L := L) (aW b L 16 s2)).2.1 z).1).1
  obtain ⟨s4, e4⟩ : ∃ t, t = aN b L (aW b L 16 s2) := ⟨_, rfl⟩
  rw [← e4] at k2 c3 bb4
  have a2 := r_arg g s4 z1 (j := 2) (jI := 2) (by decide) (by decide) v3
  obtain ⟨z2, w2⟩ : ∃ t, t = q_u1 z1 (10 * m + 2) v3 := ⟨_, rfl⟩
  rw [← w2] at a2
  obtain ⟨v5, k4, c5⟩ := r_bb (n := n) g hn s4 (k := 17) (by decide) z2
  have bb6 := fun z => ((aW_go (b := b) (L := L) 17 s4).2.1 ((aN_go (b := b) (L := L) (aW b L 17 s4)).2.1 z).1).1
  obtain ⟨s6, e6⟩ : ∃ t, t = aN b L (aW b L 17 s4) := ⟨_, rfl⟩
  rw [← e6] at k4 c5 bb6
  have a3 := r_arg g s6 z2 (j := 3) (jI := (2 + 1)) (by decide) (by decide) v5
  obtain ⟨z3, w3⟩ : ∃ t, t = q_u1 z2 (10 * m + 3) v5 := ⟨_, rfl⟩
  rw [← w3] at a3
  obtain ⟨v7, k6, c7⟩ := r_bb (n := n) g hn s6 (k := 18) (by decide) z3
  have bb8 := fun z => ((aW_go (b := b) (L := L) 18 s6).2.1 ((aN_go (b := b) (L := L) (aW b L 18 s6)).2.1 z).1).1
  obtain ⟨s8, e8⟩ : ∃ t, t = aN b L (aW b L 18 s6) := ⟨_, rfl⟩
  rw [← e8] at k6 c7 bb8
  have a4 := r_arg g s8 z3 (j := 4) (jI := (2 + 2)) (by decide) (by decide) v7
  obtain ⟨z4, w4⟩ : ∃ t, t = q_u1 z3 (10 * m + 4) v7 := ⟨_, rfl⟩
  rw [← w4] at a4
  have es : sts b L nh np H P [1, 2, 20, 2, 21, 2, 22, 2] s0 = s8 := by
    subst e8 e6 e4 e2 e1
    simp only [sts, stp_0, stp_1, stp_2, stp_w9, stp_w10, stp_w11, stp_w12, stp_w13, stp_w14, stp_w15, stp_w16, stp_w17, stp_w18]
  have fin := r_307 (n := n) h (s8) 5 z4
  rw [es]
  refine ⟨z4, ?_, fun z => ?_, fun j hj => ?_⟩
  · have h := hs0
    simp only [fX12_readsDeed_L51, fX12_readsDeed_L203, fX12_readsOther, fX12_readsWhen, h.1, h.2.1, h.2.2, li_T, li_L, li_R, nm, bd, q_b, ne_eq, Nat.reduceEqDiff, reduceCtorEq, and_false, false_and, and_true, true_and, and_self, not_false_eq_true, not_true_eq_false, ↓reduceIte, hs1.1, hs1.2.1, hs1.2.2, q1, q2, q3, q4, i1, i2.1, i2.2, b1, T, R, i6, i7, l3, l6, l8, l19, l20, k0, a0, k1, a1, k2, a2, k4, a3, k6, a4, fin]
  · have z6s := bb8 z
    have z4s := bb6 z6s
    have z2s := bb4 z4s
    have z1s := bb2 z2s
    have z0s := bb1 z1s
    have t0 : vat b L nh np H P [1, 2, 20, 2, 21, 2, 22, 2] 0 s0 = vK b L np P s0 := by
      subst e8 e6 e4 e2 e1
      simp only [vat, stp_0, stp_1, stp_2, val_0, val_1, val_2, stp_w9, stp_w10, stp_w11, stp_w12, stp_w13, stp_w14, stp_w15, stp_w16, stp_w17, stp_w18]
    have u0 : v0 = vK b L np P s0 := f0
    have t1 : vat b L nh np H P [1, 2, 20, 2, 21, 2, 22, 2] 1 s0 = vN b L s1 := by
      subst e8 e6 e4 e2 e1
      simp only [vat, stp_0, stp_1, stp_2, val_0, val_1, val_2, stp_w9, stp_w10, stp_w11, stp_w12, stp_w13, stp_w14, stp_w15, stp_w16, stp_w17, stp_w18]
    have u1 : v1 = vN b L s1 := c1 z2s
    have t3 : vat b L nh np H P [1, 2, 20, 2, 21, 2, 22, 2] 3 s0 = vN b L (aW b L 16 s2) := by
      subst e8 e6 e4 e2 e1
      simp only [vat, stp_0, stp_1, stp_2, val_0, val_1, val_2, stp_w9, stp_w10, stp_w11, stp_w12, stp_w13, stp_w14, stp_w15, stp_w16, stp_w17, stp_w18]
    have u3 : v3 = vN b L (aW b L 16 s2) := c3 z4s
    have t5 : vat b L nh np H P [1, 2, 20, 2, 21, 2, 22, 2] 5 s0 = vN b L (aW b L 17 s4) := by
      subst e8 e6 e4 e2 e1
      simp only [vat, stp_0, stp_1, stp_2, val_0, val_1, val_2, stp_w9, stp_w10, stp_w11, stp_w12, stp_w13, stp_w14, stp_w15, stp_w16, stp_w17, stp_w18]
    have u5 : v5 = vN b L (aW b L 17 s4) := c5 z6s
    have t7 : vat b L nh np H P [1, 2, 20, 2, 21, 2, 22, 2] 7 s0 = vN b L (aW b L 18 s6) := by
      subst e8 e6 e4 e2 e1
      simp only [vat, stp_0, stp_1, stp_2, val_0, val_1, val_2, stp_w9, stp_w10, stp_w11, stp_w12, stp_w13, stp_w14, stp_w15, stp_w16, stp_w17, stp_w18]
    have u7 : v7 = vN b L (aW b L 18 s6) := c7 z
    refine ⟨?_, ?_, ?_, ?_, ?_⟩
    · rw [t0]
      rw [← u0, w4, w3, w2, w1, w0]
      simp only [q_u1_is, Nat.add_left_cancel_iff, Nat.reduceEqDiff, ↓reduceIte]
    · rw [t1]
      rw [← u1, w4, w3, w2, w1, w0]
      simp only [q_u1_is, Nat.add_left_cancel_iff, Nat.reduceEqDiff, ↓reduceIte]
    · rw [t3]
      rw [← u3, w4, w3, w2, w1, w0]
      simp only [q_u1_is, Nat.add_left_cancel_iff, Nat.reduceEqDiff, ↓reduceIte]
    · rw [t5]
      rw [← u5, w4, w3, w2, w1, w0]
      simp only [q_u1_is, Nat.add_left_cancel_iff, Nat.reduceEqDiff, ↓reduceIte]
    · rw [t7]
      rw [← u7, w4, w3, w2, w1, w0]
      simp only [q_u1_is, Nat.add_left_cancel_iff, Nat.reduceEqDiff, ↓reduceIte]
  · rw [w4, w3, w2, w1, w0]
    rw [q_u1_n _ _ (by omega), q_u1_n _ _ (by omega), q_u1_n _ _ (by omega), q_u1_n _ _ (by omega), q_u1_n _ _ (by omega)]
theorem r_rdGift (h : RB b L nh np H P bk dr m Z) (hn : 1000 ≤ n) (hf : s.2.1 = 0) : ∃ e, fX12_readsDeed_L51 n 366 6 (RS b L s Z) = some ((), RS b L (sts b L nh np H P [1, 2, 14, 2, 19, 2, 20, 2, 21, 2, 22, 2] (s.1 + 1, s.2.1, s.2.2)) (Zd m 6 (sts b L nh np H P [1, 2, 14, 2, 19, 2, 20, 2, 21, 2, 22, 2] (s.1 + 1, s.2.1, s.2.2)) e Z)) ∧ ((sts b L nh np H P [1, 2, 14, 2, 19, 2, 20, 2, 21, 2, 22, 2] (s.1 + 1, s.2.1, s.2.2)).2.1 = 0 → e (10 * m + 0) = vat b L nh np H P [1, 2, 14, 2, 19, 2, 20, 2, 21, 2, 22, 2] 0 (s.1 + 1, s.2.1, s.2.2) ∧ e (10 * m + 1) = vat b L nh np H P [1, 2, 14, 2, 19, 2, 20, 2, 21, 2, 22, 2] 1 (s.1 + 1, s.2.1, s.2.2) ∧ e (10 * m + 2) = vat b L nh np H P [1, 2, 14, 2, 19, 2, 20, 2, 21, 2, 22, 2] 3 (s.1 + 1, s.2.1, s.2.2) ∧ e (10 * m + 3) = vat b L nh np H P [1, 2, 14, 2, 19, 2, 20, 2, 21, 2, 22, 2] 5 (s.1 + 1, s.2.1, s.2.2) ∧ e (10 * m + 4) = vat b L nh np H P [1, 2, 14, 2, 19, 2, 20, 2, 21, 2, 22, 2] 7 (s.1 + 1, s.2.1, s.2.2) ∧ e (10 * m + 5) = vat b L nh np H P [1, 2, 14, 2, 19, 2, 20, 2, 21, 2, 22, 2] 9 (s.1 + 1, s.2.1, s.2.2) ∧ e (10 * m + 6) = vat b L nh np H P [1, 2, 14, 2, 19, 2, 20, 2, 21, 2, 22, 2] 11 (s.1 + 1, s.2.1, s.2.2)) ∧ ∀ j, j < 10 * m → e j = mI Z 379 j := by
  obtain ⟨q1, q2, q3, q4⟩ := r_head (n := n) h hn hf 6
  have g := h.s78 m 6
  have m140 := h.2.2.2.2.2.2.1
  have i1 : (nI m).toNatClampNeg = m := nI_clamp (by omega)
  have i2 := inL_nI (j := m) (n := 140) m140 (by decide)
  have hs0 := (h.1.rs s).1
  have hs1 := (h.1.rs (s.1 + 1, s.2.1, s.2.2)).1
  have T : ∀ s e, mT (RS b L s (wI (sI Z 378 m 6) 379 e)) = sh_T := fun s e => (g.at s e).1.1
  have R : ∀ s e, mR (RS b L s (wI (sI Z 378 m 6) 379 e)) = sh_R bk dr := fun s e => (g.at s e).1.2.2
  have i6 : ∀ s e, mI (RS b L s (wI (sI Z 378 m 6) 379 e)) 366 6 = nI H := fun s e => (g.at s e).2.1
  have i7 : ∀ s e, mI (RS b L s (wI (sI Z 378 m 6) 379 e)) 366 7 = nI P := fun s e => (g.at s e).2.2.1
  have l3 : ¬ (6 : Int32) = 3 := by decide
  have l5 : ¬ (6 : Int32) = 5 := by decide
  have l8 : ¬ (6 : Int32) = 8 := by decide
  have l19 : ¬ (6 : Int32) = 19 := by decide
  have l20 : ¬ (6 : Int32) = 20 := by decide
  obtain ⟨s0, e0⟩ : ∃ t, t = (s.1 + 1, s.2.1, s.2.2) := ⟨_, rfl⟩
  obtain ⟨x0, y0⟩ : ∃ t, t = mI Z 379 := ⟨_, rfl⟩
  rw [← e0] at q2 q3 q4 hs1
  rw [← e0, ← y0]
  rw [← y0] at q4
  have k0 := r_kp (n := n) g hn s0 x0
  have bb1 := fun z => ((aK_go (b := b) (L := L) np P s0).2.1 z).1
  obtain ⟨s1, e1⟩ : ∃ t, t = aK b L np P s0 := ⟨_, rfl⟩
  obtain ⟨v0, f0⟩ : ∃ t, t = vK b L np P s0 := ⟨_, rfl⟩
  rw [← e1] at k0 bb1
  rw [← f0] at k0
  have a0 := r_arg g s1 x0 (j := 0) (jI := 0) (by decide) (by decide) v0
  obtain ⟨z0, w0⟩ : ∃ t, t = q_u1 x0 (10 * m + 0) v0 := ⟨_, rfl⟩
  rw [← w0] at a0
  obtain ⟨v1, k1, c1⟩ := r_nn (n := n) g hn s1 z0
  have bb2 := fun z => ((aN_go (b := b) (L := L) s1).2.1 z).1
  obtain ⟨s2, e2⟩ : ∃ t, t = aN b L s1 := ⟨_, rfl⟩
  rw [← e2] at k1 c1 bb2
  have a1 := r_arg g s2 z0 (j := 1) (jI := 1) (by decide) (by decide) v1
  obtain ⟨z1, w1⟩ : ∃ t, t = q_u1 z0 (10 * m + 1) v1 := ⟨_, rfl⟩
  rw [← w1] at a1
  obtain ⟨v3, k2, c3⟩ := r_bb (n := n) g hn s2 (k := 10) (by decide) z1
  have bb4 := fun z => ((aW_go (b := b) (L := L) 10 s2).2.1 ((aN_go (b := b) (L := L) (aW b L 10 s2)).2.1 z).1).1
  obtain ⟨s4, e4⟩ : ∃ t, t = aN b L (aW b L 10 s2) := ⟨_, rfl⟩
  rw [← e4] at k2 c3 bb4
  have a2 := r_arg g s4 z1 (j := 2) (jI := 2) (by decide) (by decide) v3
  obtain ⟨z2, w2⟩ : ∃ t, t = q_u1 z1 (10 * m + 2) v3 := ⟨_, rfl⟩
  rw [← w2] at a2
  obtain ⟨v5, k4, c5⟩ := r_bb (n := n) g hn s4 (k := 15) (by decide) z2
  have bb6 := fun z => ((aW_go (b := b) (L := L) 15 s4).2.1 ((aN_go (b := b) (L := L) (aW b L 15 s4)).2.1 z).1).1
  obtain ⟨s6, e6⟩ : ∃ t, t = aN b L (aW b L 15 s4) := ⟨_, rfl⟩
  rw [← e6] at k4 c5 bb6
  have a3 := r_arg g s6 z2 (j := 3) (jI := 3) (by decide) (by decide) v5
  obtain ⟨z3, w3⟩ : ∃ t, t = q_u1 z2 (10 * m + 3) v5 := ⟨_, rfl⟩
  rw [← w3] at a3
  obtain ⟨v7, k6, c7⟩ := r_bb (n := n) g hn s6 (k := 16) (by decide) z3
  have bb8 := fun z => ((aW_go (b := b) (L := L) 16 s6).2.1 ((aN_go (b := b) (L := L) (aW b L 16 s6)).2.1 z).1).1
  obtain ⟨s8, e8⟩ : ∃ t, t = aN b L (aW b L 16 s6) := ⟨_, rfl⟩
  rw [← e8] at k6 c7 bb8
  have a4 := r_arg g s8 z3 (j := 4) (jI := 4) (by decide) (by decide) v7
  obtain ⟨z4, w4⟩ : ∃ t, t = q_u1 z3 (10 * m + 4) v7 := ⟨_, rfl⟩
  rw [← w4] at a4
  obtain ⟨v9, k8, c9⟩ := r_bb (n := n) g hn s8 (k := 17) (by decide) z4
  have bb10 := fun z => ((aW_go (b := b) (L := L) 17 s8).2.1 ((aN_go (b := b) (L := L) (aW b L 17 s8)).2.1 z).1).1
  obtain ⟨s10, e10⟩ : ∃ t, t = aN b L (aW b L 17 s8) := ⟨_, rfl⟩
  rw [← e10] at k8 c9 bb10
  have a5 := r_arg g s10 z4 (j := 5) (jI := (4 + 1)) (by decide) (by decide) v9
  obtain ⟨z5, w5⟩ : ∃ t, t = q_u1 z4 (10 * m + 5) v9 := ⟨_, rfl⟩
  rw [← w5] at a5
  obtain ⟨v11, k10, c11⟩ := r_bb (n := n) g hn s10 (k := 18) (by decide) z5
  have bb12 := fun z => ((aW_go (b := b) (L := L) 18 s10).2.1 ((aN_go (b := b) (L := L) (aW b L 18 s10)).2.1 z).1).1
  obtain ⟨s12, e12⟩ : ∃ t, t = aN b L (aW b L 18 s10) := ⟨_, rfl⟩
  rw [← e12] at k10 c11 bb12
  have a6 := r_arg g s12 z5 (j := 6) (jI := (4 + 2)) (by decide) (by decide) v11
  obtain ⟨z6, w6⟩ : ∃ t, t = q_u1 z5 (10 * m + 6) v11 := ⟨_, rfl⟩
  rw [← w6] at a6
  have es : sts b L nh np H P [1, 2, 14, 2, 19, 2, 20, 2, 21, 2, 22, 2] s0 = s12 := by
    subst e12 e10 e8 e6 e4 e2 e1
    simp only [sts, stp_0, stp_1, stp_2, stp_w9, stp_w10, stp_w11, stp_w12, stp_w13, stp_w14, stp_w15, stp_w16, stp_w17, stp_w18]
  have fin := r_307 (n := n) h (s12) 6 z6
  rw [es]
  refine ⟨z6, ?_, fun z => ?_, fun j hj => ?_⟩
  · have h := hs0
    simp only [fX12_readsDeed_L51, fX12_readsDeed_L203, fX12_readsOther, fX12_readsWhen, h.1, h.2.1, h.2.2, li_T, li_L, li_R, nm, bd, q_b, ne_eq, Nat.reduceEqDiff, reduceCtorEq, and_false, false_and, and_true, true_and, and_self, not_false_eq_true, not_true_eq_false, ↓reduceIte, hs1.1, hs1.2.1, hs1.2.2, q1, q2, q3, q4, i1, i2.1, i2.2, b1, T, R, i6, i7, l3, l5, l8, l19, l20, k0, a0, k1, a1, k2, a2, k4, a3, k6, a4, k8, a5, k10, a6, fin]
  · have z10s := bb12 z
    have z8s := bb10 z10s
    have z6s := bb8 z8s
    have z4s := bb6 z6s
    have z2s := bb4 z4s
    have z1s := bb2 z2s
    have z0s := bb1 z1s
    have t0 : vat b L nh np H P [1, 2, 14, 2, 19, 2, 20, 2, 21, 2, 22, 2] 0 s0 = vK b L np P s0 := by
      subst e12 e10 e8 e6 e4 e2 e1
      simp only [vat, stp_0, stp_1, stp_2, val_0, val_1, val_2, stp_w9, stp_w10, stp_w11, stp_w12, stp_w13, stp_w14, stp_w15, stp_w16, stp_w17, stp_w18]
    have u0 : v0 = vK b L np P s0 := f0
    have t1 : vat b L nh np H P [1, 2, 14, 2, 19, 2, 20, 2, 21, 2, 22, 2] 1 s0 = vN b L s1 := by
      subst e12 e10 e8 e6 e4 e2 e1
      simp only [vat, stp_0, stp_1, stp_2, val_0, val_1, val_2, stp_w9, stp_w10, stp_w11, stp_w12, stp_w13, stp_w14, stp_w15, stp_w16, stp_w17, stp_w18]
    have u1 : v1 = vN b L s1 := c1 z2s
    have t3 : vat b L nh np H P [1, 2, 14, 2, 19, 2, 20, 2, 21, 2, 22, 2] 3 s0 = vN b L (aW b L 10 s2) := by
      subst e12 e10 e8 e6 e4 e2 e1
      simp only [vat, stp_0, stp_1, stp_2, val_0, val_1, val_2, stp_w9, stp_w10, stp_w11, stp_w12, stp_w13, stp_w14, stp_w15, stp_w16, stp_w17, stp_w18]
    have u3 : v3 = vN b L (aW b L 10 s2) := c3 z4s
    have t5 : vat b L nh np H P [1, 2, 14, 2, 19, 2, 20, 2, 21, 2, 22, 2] 5 s0 = vN b L (aW b L 15 s4) := by
      subst e12 e10 e8 e6 e4 e2 e1
      simp only [vat, stp_0, stp_1, stp_2, val_0, val_1, val_2, stp_w9, stp_w10, stp_w11, stp_w12, stp_w13, stp_w14, stp_w15, stp_w16, stp_w17, stp_w18]
    have u5 : v5 = vN b L (aW b L 15 s4) := c5 z6s
    have t7 : vat b L nh np H P [1, 2, 14, 2, 19, 2, 20, 2, 21, 2, 22, 2] 7 s0 = vN b L (aW b L 16 s6) := by
      subst e12 e10 e8 e6 e4 e2 e1
      simp only [vat, stp_0, stp_1, stp_2, val_0, val_1, val_2, stp_w9, stp_w10, stp_w11, stp_w12, stp_w13, stp_w14, stp_w15, stp_w16, stp_w17, stp_w18]
    have u7 : v7 = vN b L (aW b L 16 s6) := c7 z8s
    have t9 : vat b L nh np H P [1, 2, 14, 2, 19, 2, 20, 2, 21, 2, 22, 2] 9 s0 = vN b L (aW b L 17 s8) := by
      subst e12 e10 e8 e6 e4 e2 e1
      simp only [vat, stp_0, stp_1, stp_2, val_0, val_1, val_2, stp_w9, stp_w10, stp_w11, stp_w12, stp_w13, stp_w14, stp_w15, stp_w16, stp_w17, stp_w18]
    have u9 : v9 = vN b L (aW b L 17 s8) := c9 z10s
    have t11 : vat b L nh np H P [1, 2, 14, 2, 19, 2, 20, 2, 21, 2, 22, 2] 11 s0 = vN b L (aW b L 18 s10) := by
      subst e12 e10 e8 e6 e4 e2 e1
      simp only [vat, stp_0, stp_1, stp_2, val_0, val_1, val_2, stp_w9, stp_w10, stp_w11, stp_w12, stp_w13, stp_w14, stp_w15, stp_w16, stp_w17, stp_w18]
    have u11 : v11 = vN b L (aW b L 18 s10) := c11 z
    refine ⟨?_, ?_, ?_, ?_, ?_, ?_, ?_⟩
    · rw [t0]
      rw [← u0, w6, w5, w4, w3, w2, w1, w0]
      simp only [q_u1_is, Nat.add_left_cancel_iff, Nat.reduceEqDiff, ↓reduceIte]
    · rw [t1]
      rw [← u1, w6, w5, w4, w3, w2, w1, w0]
      simp only [q_u1_is, Nat.add_left_cancel_iff, Nat.reduceEqDiff, ↓reduceIte]
    · rw [t3]
      rw [← u3, w6, w5, w4, w3, w2, w1, w0]
      simp only [q_u1_is, Nat.add_left_cancel_iff, Nat.reduceEqDiff, ↓reduceIte]
    · rw [t5]
      rw [← u5, w6, w5, w4, w3, w2, w1, w0]
      simp only [q_u1_is, Nat.add_left_cancel_iff, Nat.reduceEqDiff, ↓reduceIte]
    · rw [t7]
      rw [← u7, w6, w5, w4, w3, w2, w1, w0]
      simp only [q_u1_is, Nat.add_left_cancel_iff, Nat.reduceEqDiff, ↓reduceIte]
    · rw [t9]
      rw [← u9, w6, w5, w4, w3, w2, w1, w0]
      simp only [q_u1_is, Nat.add_left_cancel_iff, Nat.reduceEqDiff, ↓reduceIte]
    · rw [t11]
      rw [← u11, w6, w5, w4, w3, w2, w1, w0]
      simp only [q_u1_is, Nat.add_left_cancel_iff, Nat.reduceEqDiff, ↓reduceIte]
  · rw [w6, w5, w4, w3, w2, w1, w0]
    rw [q_u1_n _ _ (by omega), q_u1_n _ _ (by omega), q_u1_n _ _ (by omega), q_u1_n _ _ (by omega), q_u1_n _ _ (by omega), q_u1_n _ _ (by omega), q_u1_n _ _ (by omega)]
theorem r_rdRights (h : RB b L nh np H P bk dr m Z) (hn : 1000 ≤ n) (hf : s.2.1 = 0) : ∃ e, fX12_readsDeed_L51 n 366 7 (RS b L s Z) = some ((), RS b L (sts b L nh np H P [1, 2, 14, 2, 15, 2, 16, 2, 17, 2, 20, 2, 21, 2, 22, 2] (s.1 + 1, s.2.1, s.2.2)) (Zd m 7 (sts b L nh np H P [1, 2, 14, 2, 15, 2, 16, 2, 17, 2, 20, 2, 21, 2, 22, 2] (s.1 + 1, s.2.1, s.2.2)) e Z)) ∧ ((sts b L nh np H P [1, 2, 14, 2, 15, 2, 16, 2, 17, 2, 20, 2, 21, 2, 22, 2] (s.1 + 1, s.2.1, s.2.2)).2.1 = 0 → e (10 * m + 0) = vat b L nh np H P [1, 2, 14, 2, 15, 2, 16, 2, 17, 2, 20, 2, 21, 2, 22, 2] 0 (s.1 + 1, s.2.1, s.2.2) ∧ e (10 * m + 1) = vat b L nh np H P [1, 2, 14, 2, 15, 2, 16, 2, 17, 2, 20, 2, 21, 2, 22, 2] 1 (s.1 + 1, s.2.1, s.2.2) ∧ e (10 * m + 2) = vat b L nh np H P [1, 2, 14, 2, 15, 2, 16, 2, 17, 2, 20, 2, 21, 2, 22, 2] 3 (s.1 + 1, s.2.1, s.2.2) ∧ e (10 * m + 3) = vat b L nh np H P [1, 2, 14, 2, 15, 2, 16, 2, 17, 2, 20, 2, 21, 2, 22, 2] 5 (s.1 + 1, s.2.1, s.2.2) ∧ e (10 * m + 4) = vat b L nh np H P [1, 2, 14, 2, 15, 2, 16, 2, 17, 2, 20, 2, 21, 2, 22, 2] 7 (s.1 + 1, s.2.1, s.2.2) ∧ e (10 * m + 5) = vat b L nh np H P [1, 2, 14, 2, 15, 2, 16, 2, 17, 2, 20, 2, 21, 2, 22, 2] 9 (s.1 + 1, s.2.1, s.2.2) ∧ e (10 * m + 6) = vat b L nh np H P [1, 2, 14, 2, 15, 2, 16, 2, 17, 2, 20, 2, 21, 2, 22, 2] 11 (s.1 + 1, s.2.1, s.2.2) ∧ e (10 * m + 7) = vat b L nh np H P [1, 2, 14, 2, 15, 2, 16, 2, 17, 2, 20, 2, 21, 2, 22, 2] 13 (s.1 + 1, s.2.1, s.2.2) ∧ e (10 * m + 8) = vat b L nh np H P [1, 2, 14, 2, 15, 2, 16, 2, 17, 2, 20, 2, 21, 2, 22, 2] 15 (s.1 + 1, s.2.1, s.2.2)) ∧ ∀ j, j < 10 * m → e j = mI Z 379 j := by
  obtain ⟨q1, q2, q3, q4⟩ := r_head (n := n) h hn hf 7
  have g := h.s78 m 7
  have m140 := h.2.2.2.2.2.2.1
  have i1 : (nI m).toNatClampNeg = m := nI_clamp (by omega)
  have i2 := inL_nI (j := m) (n := 140) m140 (by decide)
  have hs0 := (h.1.rs s).1
  have hs1 := (h.1.rs (s.1 + 1, s.2.1, s.2.2)).1
  have T : ∀ s e, mT (RS b L s (wI (sI Z 378 m 7) 379 e)) = sh_T := fun s e => (g.at s e).1.1
  have R : ∀ s e, mR (RS b L s (wI (sI Z 378 m 7) 379 e)) = sh_R bk dr := fun s e => (g.at s e).1.2.2
  have i6 : ∀ s e, mI (RS b L s (wI (sI Z 378 m 7) 379 e)) 366 6 = nI H := fun s e => (g.at s e).2.1
  have i7 : ∀ s e, mI (RS b L s (wI (sI Z 378 m 7) 379 e)) 366 7 = nI P := fun s e => (g.at s e).2.2.1
  have l3 : ¬ (7 : Int32) = 3 := by decide
  have l5 : ¬ (7 : Int32) = 5 := by decide
  have l6 : ¬ (7 : Int32) = 6 := by decide
  have l8 : ¬ (7 : Int32) = 8 := by decide
  have l19 : ¬ (7 : Int32) = 19 := by decide
  have l20 : ¬ (7 : Int32) = 20 := by decide
  obtain ⟨s0, e0⟩ : ∃ t, t = (s.1 + 1, s.2.1, s.2.2) := ⟨_, rfl⟩
  obtain ⟨x0, y0⟩ : ∃ t, t = mI Z 379 := ⟨_, rfl⟩
  rw [← e0] at q2 q3 q4 hs1
  rw [← e0, ← y0]
  rw [← y0] at q4
  have k0 := r_kp (n := n) g hn s0 x0
  have bb1 := fun z => ((aK_go (b := b) (L := L) np P s0).2.1 z).1
  obtain ⟨s1, e1⟩ : ∃ t, t = aK b L np P s0 := ⟨_, rfl⟩
  obtain ⟨v0, f0⟩ : ∃ t, t = vK b L np P s0 := ⟨_, rfl⟩
  rw [← e1] at k0 bb1
  rw [← f0] at k0
  have a0 := r_arg g s1 x0 (j := 0) (jI := 0) (by decide) (by decide) v0
  obtain ⟨z0, w0⟩ : ∃ t, t = q_u1 x0 (10 * m + 0) v0 := ⟨_, rfl⟩
  rw [← w0] at a0
  obtain ⟨v1, k1, c1⟩ := r_nn (n := n) g hn s1 z0
  have bb2 := fun z => ((aN_go (b := b) (L := L) s1).2.1 z).1
  obtain ⟨s2, e2⟩ : ∃ t, t = aN b L s1 := ⟨_, rfl⟩
  rw [← e2] at k1 c1 bb2
  have a1 := r_arg g s2 z0 (j := 1) (jI := 1) (by decide) (by decide) v1
  obtain ⟨z1, w1⟩ : ∃ t, t = q_u1 z0 (10 * m + 1) v1 := ⟨_, rfl⟩
  rw [← w1] at a1
  obtain ⟨v3, k2, c3⟩ := r_bb (n := n) g hn s2 (k := 10) (by decide) z1
  have bb4 := fun z => ((aW_go (b := b) (L := L) 10 s2).2.1 ((aN_go (b := b) (L := L) (aW b L 10 s2)).2.1 z).1).1
  obtain ⟨s4, e4⟩ : ∃ t, t = aN b L (aW b L 10 s2) := ⟨_, rfl⟩
  rw [← e4] at k2 c3 bb4
  have a2 := r_arg g s4 z1 (j := 2) (jI := 2) (by decide) (by decide) v3
  obtain ⟨z2, w2⟩ : ∃ t, t = q_u1 z1 (10 * m + 2) v3 := ⟨_, rfl⟩
  rw [← w2] at a2
  obtain ⟨v5, k4, c5⟩ := r_bb (n := n) g hn s4 (k := 11) (by decide) z2
  have bb6 := fun z => ((aW_go (b := b) (L := L) 11 s4).2.1 ((aN_go (b := b) (L := L) (aW b L 11 s4)).2.1 z).1).1
  obtain ⟨s6, e6⟩ : ∃ t, t = aN b L (aW b L 11 s4) := ⟨_, rfl⟩
  rw [← e6] at k4 c5 bb6
  have a3 := r_arg g s6 z2 (j := 3) (jI := 3) (by decide) (by decide) v5
  obtain ⟨z3, w3⟩ : ∃ t, t = q_u1 z2 (10 * m + 3) v5 := ⟨_, rfl⟩
  rw [← w3] at a3
  obtain ⟨v7, k6, c7⟩ := r_bb (n := n) g hn s6 (k := 12) (by decide) z3
  have bb8 := fun z => ((aW_go (b := b) (L := L) 12 s6).2.1 ((aN_go (b := b) (L := L) (aW b L 12 s6)).2.1 z).1).1
  obtain ⟨s8, e8⟩ : ∃ t, t = aN b L (aW b L 12 s6) := ⟨_, rfl⟩
  rw [← e8] at k6 c7 bb8
  have a4 := r_arg g s8 z3 (j := 4) (jI := 4) (by decide) (by decide) v7
  obtain ⟨z4, w4⟩ : ∃ t, t = q_u1 z3 (10 * m + 4) v7 := ⟨_, rfl⟩
  rw [← w4] at a4
  obtain ⟨v9, k8, c9⟩ := r_bb (n := n) g hn s8 (k := 13) (by decide) z4
  have bb10 := fun z => ((aW_go (b := b) (L := L) 13 s8).2.1 ((aN_go (b := b) (L := L) (aW b L 13 s8)).2.1 z).1).1
  obtain ⟨s10, e10⟩ : ∃ t, t = aN b L (aW b L 13 s8) := ⟨_, rfl⟩
  rw [← e10] at k8 c9 bb10
  have a5 := r_arg g s10 z4 (j := 5) (jI := 5) (by decide) (by decide) v9
  obtain ⟨z5, w5⟩ : ∃ t, t = q_u1 z4 (10 * m + 5) v9 := ⟨_, rfl⟩
  rw [← w5] at a5
  obtain ⟨v11, k10, c11⟩ := r_bb (n := n) g hn s10 (k := 16) (by decide) z5
  have bb12 := fun z => ((aW_go (b := b) (L := L) 16 s10).2.1 ((aN_go (b := b) (L := L) (aW b L 16 s10)).2.1 z).1).1
  obtain ⟨s12, e12⟩ : ∃ t, t = aN b L (aW b L 16 s10) := ⟨_, rfl⟩
  rw [← e12] at k10 c11 bb12
  have a6 := r_arg g s12 z5 (j := 6) (jI := 6) (by decide) (by decide) v11
  obtain ⟨z6, w6⟩ : ∃ t, t = q_u1 z5 (10 * m + 6) v11 := ⟨_, rfl⟩
  rw [← w6] at a6
  obtain ⟨v13, k12, c13⟩ := r_bb (n := n) g hn s12 (k := 17) (by decide) z6
  have bb14 := fun z => ((aW_go (b := b) (L := L) 17 s12).2.1 ((aN_go (b := b) (L := L) (aW b L 17 s12)).2.1 z).1).1
  obtain ⟨s14, e14⟩ : ∃ t, t = aN b L (aW b L 17 s12) := ⟨_, rfl⟩
  rw [← e14] at k12 c13 bb14
  have a7 := r_arg g s14 z6 (j := 7) (jI := (6 + 1)) (by decide) (by decide) v13
  obtain ⟨z7, w7⟩ : ∃ t, t = q_u1 z6 (10 * m + 7) v13 := ⟨_, rfl⟩
  rw [← w7] at a7
  obtain ⟨v15, k14, c15⟩ := r_bb (n := n) g hn s14 (k := 18) (by decide) z7
  have bb16 := fun z => ((aW_go (b := b) (L := L) 18 s14).2.1 ((aN_go (b := b) (L := L) (aW b L 18 s14)).2.1 z).1).1
  obtain ⟨s16, e16⟩ : ∃ t, t = aN b L (aW b L 18 s14) := ⟨_, rfl⟩
  rw [← e16] at k14 c15 bb16
  have a8 := r_arg g s16 z7 (j := 8) (jI := (6 + 2)) (by decide) (by decide) v15
  obtain ⟨z8, w8⟩ : ∃ t, t = q_u1 z7 (10 * m + 8) v15 := ⟨_, rfl⟩
  rw [← w8] at a8
  have es : sts b L nh np H P [1, 2, 14, 2, 15, 2, 16, 2, 17, 2, 20, 2, 21, 2, 22, 2] s0 = s16 := by
    subst e16 e14 e12 e10 e8 e6 e4 e2 e1
    simp only [sts, stp_0, stp_1, stp_2, stp_w9, stp_w10, stp_w11, stp_w12, stp_w13, stp_w14, stp_w15, stp_w16, stp_w17, stp_w18]
  have fin := r_307 (n := n) h (s16) 7 z8
  rw [es]
  refine ⟨z8, ?_, fun z => ?_, fun j hj => ?_⟩
  · have h := hs0
    simp only [fX12_readsDeed_L51, fX12_readsDeed_L203, fX12_readsOther, fX12_readsWhen, h.1, h.2.1, h.2.2, li_T, li_L, li_R, nm, bd, q_b, ne_eq, Nat.reduceEqDiff, reduceCtorEq, and_false, false_and, and_true, true_and, and_self, not_false_eq_true, not_true_eq_false, ↓reduceIte, hs1.1, hs1.2.1, hs1.2.2, q1, q2, q3, q4, i1, i2.1, i2.2, b1, T, R, i6, i7, l3, l5, l6, l8, l19, l20, k0, a0, k1, a1, k2, a2, k4, a3, k6, a4, k8, a5, k10, a6, k12, a7, k14, a8, fin]
  · have z14s := bb16 z
    have z12s := bb14 z14s
    have z10s := bb12 z12s
    have z8s := bb10 z10s
    have z6s := bb8 z8s
    have z4s := bb6 z6s
    have z2s := bb4 z4s
    have z1s := bb2 z2s
    have z0s := bb1 z1s
    have t0 : vat b L nh np H P [1, 2, 14, 2, 15, 2, 16, 2, 17, 2, 20, 2, 21, 2, 22, 2] 0 s0 = vK b L np P s0 := by
      subst e16 e14 e12 e10 e8 e6 e4 e2 e1
      simp only [vat, stp_0, stp_1, stp_2, val_0, val_1, val_2, stp_w9, stp_w10, stp_w11, stp_w12, stp_w13, stp_w14, stp_w15, stp_w16, stp_w17, stp_w18]
    have u0 : v0 = vK b L np P s0 := f0
    have t1 : vat b L nh np H P [1, 2, 14, 2, 15, 2, 16, 2, 17, 2, 20, 2, 21, 2, 22, 2] 1 s0 = vN b L s1 := by
      subst e16 e14 e12 e10 e8 e6 e4 e2 e1
      simp only [vat, stp_0, stp_1, stp_2, val_0, val_1, val_2, stp_w9, stp_w10, stp_w11, stp_w12, stp_w13, stp_w14, stp_w15, stp_w16, stp_w17, stp_w18]
    have u1 : v1 = vN b L s1 := c1 z2s
    have t3 : vat b L nh np H P [1, 2, 14, 2, 15, 2, 16, 2, 17, 2, 20, 2, 21, 2, 22, 2] 3 s0 = vN b L (aW b L 10 s2) := by
      subst e16 e14 e12 e10 e8 e6 e4 e2 e1
      simp only [vat, stp_0, stp_1, stp_2, val_0, val_1, val_2, stp_w9, stp_w10, stp_w11, stp_w12, stp_w13, stp_w14, stp_w15, stp_w16, stp_w17, stp_w18]
    have u3 : v3 = vN b L (aW b L 10 s2) := c3 z4s
    have t5 : vat b L nh np H P [1, 2, 14, 2, 15, 2, 16, 2, 17, 2, 20, 2, 21, 2, 22, 2] 5 s0 = vN b L (aW b L 11 s4) := by
      subst e16 e14 e12 e10 e8 e6 e4 e2 e1
      simp only [vat, stp_0, stp_1, stp_2, val_0, val_1, val_2, stp_w9, stp_w10, stp_w11, stp_w12, stp_w13, stp_w14, stp_w15, stp_w16, stp_w17, stp_w18]
    have u5 : v5 = vN b L (aW b L 11 s4) := c5 z6s
    have t7 : vat b L nh np H P [1, 2, 14, 2, 15, 2, 16, 2, 17, 2, 20, 2, 21, 2, 22, 2] 7 s0 = vN b L (aW b L 12 s6) := by
      subst e16 e14 e12 e10 e8 e6 e4 e2 e1
      simp only [vat, stp_0, stp_1, stp_2, val_0, val_1, val_2, stp_w9, stp_w10, stp_w11, stp_w12, stp_w13, stp_w14, stp_w15, stp_w16, stp_w17, stp_w18]
    have u7 : v7 = vN b L (aW b L 12 s6) := c7 z8s
    have t9 : vat b L nh np H P [1, 2, 14, 2, 15, 2, 16, 2, 17, 2, 20, 2, 21, 2, 22, 2] 9 s0 = vN b L (aW b L 13 s8) := by
      subst e16 e14 e12 e10 e8 e6 e4 e2 e1
      simp only [vat, stp_0, stp_1, stp_2, val_0, val_1, val_2, stp_w9, stp_w10, stp_w11, stp_w12, stp_w13, stp_w14, stp_w15, stp_w16, stp_w17, stp_w18]
    have u9 : v9 = vN b L (aW b L 13 s8) := c9 z10s
    have t11 : vat b L nh np H P [1, 2, 14, 2, 15, 2, 16, 2, 17, 2, 20, 2, 21, 2, 22, 2] 11 s0 = vN b L (aW b L 16 s10) := by
      subst e16 e14 e12 e10 e8 e6 e4 e2 e1
      simp only [vat, stp_0, stp_1, stp_2, val_0, val_1, val_2, stp_w9, stp_w10, stp_w11, stp_w12, stp_w13, stp_w14, stp_w15, stp_w16, stp_w17, stp_w18]
    have u11 : v11 = vN b L (aW b L 16 s10) := c11 z12s
    have t13 : vat b L nh np H P [1, 2, 14, 2, 15, 2, 16, 2, 17, 2, 20, 2, 21, 2, 22, 2] 13 s0 = vN b L (aW b L 17 s12) := by
      subst e16 e14 e12 e10 e8 e6 e4 e2 e1
      simp only [vat, stp_0, stp_1, stp_2, val_0, val_1, val_2, stp_w9, stp_w10, stp_w11, stp_w12, stp_w13, stp_w14, stp_w15, stp_w16, stp_w17, stp_w18]
    have u13 : v13 = vN b L (aW b L 17 s12) := c13 z14s
    have t15 : vat b L nh np H P [1, 2, 14, 2, 15, 2, 16, 2, 17, 2, 20, 2, 21, 2, 22, 2] 15 s0 = vN b L (aW b L 18 s14) := by
      subst e16 e14 e12 e10 e8 e6 e4 e2 e1
      simp only [vat, stp_0, stp_1, stp_2, val_0, val_1, val_2, stp_w9, stp_w10, stp_w11, stp_w12, stp_w13, stp_w14, stp_w15, stp_w16, stp_w17, stp_w18]
    have u15 : v15 = vN b L (aW b L 18 s14) := c15 z
    refine ⟨?_, ?_, ?_, ?_, ?_, ?_, ?_, ?_, ?_⟩
    · rw [t0]
      rw [← u0, w8, w7, w6, w5, w4, w3, w2, w1, w0]
      simp only [q_u1_is, Nat.add_left_cancel_iff, Nat.reduceEqDiff, ↓reduceIte]
    · rw [t1]
      rw [← u1, w8, w7, w6, w5, w4, w3, w2, w1, w0]
      simp only [q_u1_is, Nat.add_left_cancel_iff, Nat.reduceEqDiff, ↓reduceIte]
    · rw [t3]
      rw [← u3, w8, w7, w6, w5, w4, w3, w2, w1, w0]
      simp only [q_u1_is, Nat.add_left_cancel_iff, Nat.reduceEqDiff, ↓reduceIte]
    · rw [t5]
      rw [← u5, w8, w7, w6, w5, w4, w3, w2, w1, w0]
      simp only [q_u1_is, Nat.add_left_cancel_iff, Nat.reduceEqDiff, ↓reduceIte]
    · rw [t7]
      rw [← u7, w8, w7, w6, w5, w4, w3, w2, w1, w0]
      simp only [q_u1_is, Nat.add_left_cancel_iff, Nat.reduceEqDiff, ↓reduceIte]
    · rw [t9]
      rw [← u9, w8, w7, w6, w5, w4, w3, w2, w1, w0]
      simp only [q_u1_is, Nat.add_left_cancel_iff, Nat.reduceEqDiff, ↓reduceIte]
    · rw [t11]
      rw [← u11, w8, w7, w6, w5, w4, w3, w2, w1, w0]
      simp only [q_u1_is, Nat.add_left_cancel_iff, Nat.reduceEqDiff, ↓reduceIte]
    · rw [t13]
      rw [← u13, w8, w7, w6, w5, w4, w3, w2, w1, w0]
      simp only [q_u1_is, Nat.add_left_cancel_iff, Nat.reduceEqDiff, ↓reduceIte]
    · rw [t15]
      rw [← u15, w8, w7, w6, w5, w4, w3, w2, w1, w0]
      simp only [q_u1_is, Nat.add_left_cancel_iff, Nat.reduceEqDiff, ↓reduceIte]
  · rw [w8, w7, w6, w5, w4, w3, w2, w1, w0]
    rw [q_u1_n _ _ (by omega), q_u1_n _ _ (by omega), q_u1_n _ _ (by omega), q_u1_n _ _ (by omega), q_u1_n _ _ (by omega), q_u1_n _ _ (by omega), q_u1_n _ _ (by omega), q_u1_n _ _ (by omega), q_u1_n _ _ (by omega)]
theorem r_rdTurn (h : RB b L nh np H P bk dr m Z) (hn : 1000 ≤ n) (hf : s.2.1 = 0) : ∃ e, fX12_readsDeed_L51 n 366 8 (RS b L s Z) = some ((), RS b L (sts b L nh np H P [1, 13, 1, 2, 14, 2, 18, 2, 19, 2, 21, 2] (s.1 + 1, s.2.1, s.2.2)) (Zd m 8 (sts b L nh np H P [1, 13, 1, 2, 14, 2, 18, 2, 19, 2, 21, 2] (s.1 + 1, s.2.1, s.2.2)) e Z)) ∧ ((sts b L nh np H P [1, 13, 1, 2, 14, 2, 18, 2, 19, 2, 21, 2] (s.1 + 1, s.2.1, s.2.2)).2.1 = 0 → e (10 * m + 0) = vat b L nh np H P [1, 13, 1, 2, 14, 2, 18, 2, 19, 2, 21, 2] 0 (s.1 + 1, s.2.1, s.2.2) ∧ e (10 * m + 1) = vat b L nh np H P [1, 13, 1, 2, 14, 2, 18, 2, 19, 2, 21, 2] 2 (s.1 + 1, s.2.1, s.2.2) ∧ e (10 * m + 2) = vat b L nh np H P [1, 13, 1, 2, 14, 2, 18, 2, 19, 2, 21, 2] 3 (s.1 + 1, s.2.1, s.2.2) ∧ e (10 * m + 3) = vat b L nh np H P [1, 13, 1, 2, 14, 2, 18, 2, 19, 2, 21, 2] 5 (s.1 + 1, s.2.1, s.2.2) ∧ e (10 * m + 4) = vat b L nh np H P [1, 13, 1, 2, 14, 2, 18, 2, 19, 2, 21, 2] 7 (s.1 + 1, s.2.1, s.2.2) ∧ e (10 * m + 5) = vat b L nh np H P [1, 13, 1, 2, 14, 2, 18, 2, 19, 2, 21, 2] 9 (s.1 + 1, s.2.1, s.2.2) ∧ e (10 * m + 6) = vat b L nh np H P [1, 13, 1, 2, 14, 2, 18, 2, 19, 2, 21, 2] 11 (s.1 + 1, s.2.1, s.2.2)) ∧ ∀ j, j < 10 * m → e j = mI Z 379 j := by
  obtain ⟨q1, q2, q3, q4⟩ := r_head (n := n) h hn hf 8
  have g := h.s78 m 8
  have m140 := h.2.2.2.2.2.2.1
  have i1 : (nI m).toNatClampNeg = m := nI_clamp (by omega)
  have i2 := inL_nI (j := m) (n := 140) m140 (by decide)
  have hs0 := (h.1.rs s).1
  have hs1 := (h.1.rs (s.1 + 1, s.2.1, s.2.2)).1
  have T : ∀ s e, mT (RS b L s (wI (sI Z 378 m 8) 379 e)) = sh_T := fun s e => (g.at s e).1.1
  have R : ∀ s e, mR (RS b L s (wI (sI Z 378 m 8) 379 e)) = sh_R bk dr := fun s e => (g.at s e).1.2.2
  have i6 : ∀ s e, mI (RS b L s (wI (sI Z 378 m 8) 379 e)) 366 6 = nI H := fun s e => (g.at s e).2.1
  have i7 : ∀ s e, mI (RS b L s (wI (sI Z 378 m 8) 379 e)) 366 7 = nI P := fun s e => (g.at s e).2.2.1
  have l3 : ¬ (8 : Int32) = 3 := by decide
  have l5 : ¬ (8 : Int32) = 5 := by decide
  have l6 : ¬ (8 : Int32) = 6 := by decide
  have l19 : ¬ (8 : Int32) = 19 := by decide
  have l20 : ¬ (8 : Int32) = 20 := by decide
  obtain ⟨s0, e0⟩ : ∃ t, t = (s.1 + 1, s.2.1, s.2.2) := ⟨_, rfl⟩
  obtain ⟨x0, y0⟩ : ∃ t, t = mI Z 379 := ⟨_, rfl⟩
  rw [← e0] at q2 q3 q4 hs1
  rw [← e0, ← y0]
  rw [← y0] at q4
  have k0 := r_kp (n := n) g hn s0 x0
  have bb1 := fun z => ((aK_go (b := b) (L := L) np P s0).2.1 z).1
  obtain ⟨s1, e1⟩ : ∃ t, t = aK b L np P s0 := ⟨_, rfl⟩
  obtain ⟨v0, f0⟩ : ∃ t, t = vK b L np P s0 := ⟨_, rfl⟩
  rw [← e1] at k0 bb1
  rw [← f0] at k0
  have a0 := r_arg g s1 x0 (j := 0) (jI := 0) (by decide) (by decide) v0
  obtain ⟨z0, w0⟩ : ∃ t, t = q_u1 x0 (10 * m + 0) v0 := ⟨_, rfl⟩
  rw [← w0] at a0
  have k1 := r_ww (n := n) g hn s1 (k := 9) (by decide) z0
  have bb2 := fun z => ((aW_go (b := b) (L := L) 9 s1).2.1 z).1
  obtain ⟨s2, e2⟩ : ∃ t, t = aW b L 9 s1 := ⟨_, rfl⟩
  rw [← e2] at k1 bb2
  have k2 := r_kp (n := n) g hn s2 z0
  have bb3 := fun z => ((aK_go (b := b) (L := L) np P s2).2.1 z).1
  obtain ⟨s3, e3⟩ : ∃ t, t = aK b L np P s2 := ⟨_, rfl⟩
  obtain ⟨v2, f2⟩ : ∃ t, t = vK b L np P s2 := ⟨_, rfl⟩
  rw [← e3] at k2 bb3
  rw [← f2] at k2
  have a1 := r_arg g s3 z0 (j := 1) (jI := 1) (by decide) (by decide) v2
  obtain ⟨z1, w1⟩ : ∃ t, t = q_u1 z0 (10 * m + 1) v2 := ⟨_, rfl⟩
  rw [← w1] at a1
  obtain ⟨v3, k3, c3⟩ := r_nn (n := n) g hn s3 z1
  have bb4 := fun z => ((aN_go (b := b) (L := L) s3).2.1 z).1
  obtain ⟨s4, e4⟩ : ∃ t, t = aN b L s3 := ⟨_, rfl⟩
  rw [← e4] at k3 c3 bb4
  have a2 := r_arg g s4 z1 (j := 2) (jI := 2) (by decide) (by decide) v3
  obtain ⟨z2, w2⟩ : ∃ t, t = q_u1 z1 (10 * m + 2) v3 := ⟨_, rfl⟩
  rw [← w2] at a2
  obtain ⟨v5, k4, c5⟩ := r_bb (n := n) g hn s4 (k := 10) (by decide) z2
  have bb6 := fun z => ((aW_go (b := b) (L := L) 10 s4).2.1 ((aN_go (b := b) (L := L) (aW b L 10 s4)).2.1 z).1).1
  obtain ⟨s6, e6⟩ : ∃ t, t = aN b L (aW b L 10 s4) := ⟨_, rfl⟩
  rw [← e6] at k4 c5 bb6
  have a3 := r_arg g s6 z2 (j := 3) (jI := 3) (by decide) (by decide) v5
  obtain ⟨z3, w3⟩ : ∃ t, t = q_u1 z2 (10 * m + 3) v5 := ⟨_, rfl⟩
  rw [← w3] at a3
  obtain ⟨v7, k6, c7⟩ := r_bb (n := n) g hn s6 (k := 14) (by decide) z3
  have bb8 := fun z => ((aW_go (b := b) (L := L) 14 s6).2.1 ((aN_go (b := b) (L := L) (aW b L 14 s6)).2.1 z).1).1
  obtain ⟨s8, e8⟩ : ∃ t, t = aN b L (aW b L 14 s6) := ⟨_, rfl⟩
  rw [← e8] at k6 c7 bb8
  have a4 := r_arg g s8 z3 (j := 4) (jI := 4) (by decide) (by decide) v7
  obtain ⟨z4, w4⟩ : ∃ t, t = q_u1 z3 (10 * m + 4) v7 := ⟨_, rfl⟩
  rw [← w4] at a4
  obtain ⟨v9, k8, c9⟩ := r_bb (n := n) g hn s8 (k := 15) (by decide) z4
  have bb10 := fun z => ((aW_go (b := b) (L := L) 15 s8).2.1 ((aN_go (b := b) (L := L) (aW b L 15 s8)).2.1 z).1).1
  obtain ⟨s10, e10⟩ : ∃ t, t = aN b L (aW b L 15 s8) := ⟨_, rfl⟩
  rw [← e10] at k8 c9 bb10
  have a5 := r_arg g s10 z4 (j := 5) (jI := 5) (by decide) (by decide) v9
  obtain ⟨z5, w5⟩ : ∃ t, t = q_u1 z4 (10 * m + 5) v9 := ⟨_, rfl⟩
  rw [← w5] at a5
  obtain ⟨v11, k10, c11⟩ := r_bb (n := n) g hn s10 (k := 17) (by decide) z5
  have bb12 := fun z => ((aW_go (b := b) (L := L) 17 s10).2.1 ((aN_go (b := b) (L := L) (aW b L 17 s10)).2.1 z).1).1
  obtain ⟨s12, e12⟩ : ∃ t, t = aN b L (aW b L 17 s10) := ⟨_, rfl⟩
  rw [← e12] at k10 c11 bb12
  have a6 := r_arg g s12 z5 (j := 6) (jI := 6) (by decide) (by decide) v11
  obtain ⟨z6, w6⟩ : ∃ t, t = q_u1 z5 (10 * m + 6) v11 := ⟨_, rfl⟩
  rw [← w6] at a6
  have es : sts b L nh np H P [1, 13, 1, 2, 14, 2, 18, 2, 19, 2, 21, 2] s0 = s12 := by
    subst e12 e10 e8 e6 e4 e3 e2 e1
    simp only [sts, stp_0, stp_1, stp_2, stp_w9, stp_w10, stp_w11, stp_w12, stp_w13, stp_w14, stp_w15, stp_w16, stp_w17, stp_w18]
  have fin := r_307 (n := n) h (s12) 8 z6
  rw [es]
  refine ⟨z6, ?_, fun z => ?_, fun j hj => ?_⟩
  · have h := hs0
    simp only [fX12_readsDeed_L51, fX12_readsDeed_L203, fX12_readsOther, fX12_readsWhen, h.1, h.2.1, h.2.2, li_T, li_L, li_R, nm, bd, q_b, ne_eq, Nat.reduceEqDiff, reduceCtorEq, and_false, false_and, and_true, true_and, and_self, not_false_eq_true, not_true_eq_false, ↓reduceIte, hs1.1, hs1.2.1, hs1.2.2, q1, q2, q3, q4, i1, i2.1, i2.2, b1, T, R, i6, i7, l3, l5, l6, l19, l20, k0, a0, k1, k2, a1, k3, a2, k4, a3, k6, a4, k8, a5, k10, a6, fin]
  · have z10s := bb12 z
    have z8s := bb10 z10s
    have z6s := bb8 z8s
    have z4s := bb6 z6s
    have z3s := bb4 z4s
    have z2s := bb3 z3s
    have z1s := bb2 z2s
    have z0s := bb1 z1s
    have t0 : vat b L nh np H P [1, 13, 1, 2, 14, 2, 18, 2, 19, 2, 21, 2] 0 s0 = vK b L np P s0 := by
      subst e12 e10 e8 e6 e4 e3 e2 e1
      simp only [vat, stp_0, stp_1, stp_2, val_0, val_1, val_2, stp_w9, stp_w10, stp_w11, stp_w12, stp_w13, stp_w14, stp_w15, stp_w16, stp_w17, stp_w18]
    have u0 : v0 = vK b L np P s0 := f0
    have t2 : vat b L nh np H P [1, 13, 1, 2, 14, 2, 18, 2, 19, 2, 21, 2] 2 s0 = vK b L np P s2 := by
      subst e12 e10 e8 e6 e4 e3 e2 e1
      simp only [vat, stp_0, stp_1, stp_2, val_0, val_1, val_2, stp_w9, stp_w10, stp_w11, stp_w12, stp_w13, stp_w14, stp_w15, stp_w16, stp_w17, stp_w18]
    have u2 : v2 = vK b L np P s2 := f2
    have t3 : vat b L nh np H P [1, 13, 1, 2, 14, 2, 18, 2, 19, 2, 21, 2] 3 s0 = vN b L s3 := by
      subst e12 e10 e8 e6 e4 e3 e2 e1
      simp only [vat, stp_0, stp_1, stp_2, val_0, val_1, val_2, stp_w9, stp_w10, stp_w11, stp_w12, stp_w13, stp_w14, stp_w15, stp_w16, stp_w17, stp_w18]
    have u3 : v3 = vN b L s3 := c3 z4s
    have t5 : vat b L nh np H P [1, 13, 1, 2, 14, 2, 18, 2, 19, 2, 21, 2] 5 s0 = vN b L (aW b L 10 s4) := by
      subst e12 e10 e8 e6 e4 e3 e2 e1
      simp only [vat, stp_0, stp_1, stp_2, val_0, val_1, val_2, stp_w9, stp_w10, stp_w11, stp_w12, stp_w13, stp_w14, stp_w15, stp_w16, stp_w17, stp_w18]
    have u5 : v5 = vN b L (aW b L 10 s4) := c5 z6s
    have t7 : vat b L nh np H P [1, 13, 1, 2, 14, 2, 18, 2, 19, 2, 21, 2] 7 s0 = vN b L (aW b L 14 s6) := by
      subst e12 e10 e8 e6 e4 e3 e2 e1
      simp only [vat, stp_0, stp_1, stp_2, val_0, val_1, val_2, stp_w9, stp_w10, stp_w11, stp_w12, stp_w13, stp_w14, stp_w15, stp_w16, stp_w17, stp_w18]
    have u7 : v7 = vN b L (aW b L 14 s6) := c7 z8s
    have t9 : vat b L nh np H P [1, 13, 1, 2, 14, 2, 18, 2, 19, 2, 21, 2] 9 s0 = vN b L (aW b L 15 s8) := by
      subst e12 e10 e8 e6 e4 e3 e2 e1
      simp only [vat, stp_0, stp_1, stp_2, val_0, val_1, val_2, stp_w9, stp_w10, stp_w11, stp_w12, stp_w13, stp_w14, stp_w15, stp_w16, stp_w17, stp_w18]
    have u9 : v9 = vN b L (aW b L 15 s8) := c9 z10s
    have t11 : vat b L nh np H P [1, 13, 1, 2, 14, 2, 18, 2, 19, 2, 21, 2] 11 s0 = vN b L (aW b L 17 s10) := by
      subst e12 e10 e8 e6 e4 e3 e2 e1
      simp only [vat, stp_0, stp_1, stp_2, val_0, val_1, val_2, stp_w9, stp_w10, stp_w11, stp_w12, stp_w13, stp_w14, stp_w15, stp_w16, stp_w17, stp_w18]
    have u11 : v11 = vN b L (aW b L 17 s10) := c11 z
    refine ⟨?_, ?_, ?_, ?_, ?_, ?_, ?_⟩
    · rw [t0]
      rw [← u0, w6, w5, w4, w3, w2, w1, w0]
      simp only [q_u1_is, Nat.add_left_cancel_iff, Nat.reduceEqDiff, ↓reduceIte]
    · rw [t2]
      rw [← u2, w6, w5, w4, w3, w2, w1, w0]
      simp only [q_u1_is, Nat.add_left_cancel_iff, Nat.reduceEqDiff, ↓reduceIte]
    · rw [t3]
      rw [← u3, w6, w5, w4, w3, w2, w1, w0]
      simp only [q_u1_is, Nat.add_left_cancel_iff, Nat.reduceEqDiff, ↓reduceIte]
    · rw [t5]
      rw [← u5, w6, w5, w4, w3, w2, w1, w0]
      simp only [q_u1_is, Nat.add_left_cancel_iff, Nat.reduceEqDiff, ↓reduceIte]
    · rw [t7]
      rw [← u7, w6, w5, w4, w3, w2, w1, w0]
      simp only [q_u1_is, Nat.add_left_cancel_iff, Nat.reduceEqDiff, ↓reduceIte]
    · rw [t9]
      rw [← u9, w6, w5, w4, w3, w2, w1, w0]
      simp only [q_u1_is, Nat.add_left_cancel_iff, Nat.reduceEqDiff, ↓reduceIte]
    · rw [t11]
      rw [← u11, w6, w5, w4, w3, w2, w1, w0]
      simp only [q_u1_is, Nat.add_left_cancel_iff, Nat.reduceEqDiff, ↓reduceIte]
  · rw [w6, w5, w4, w3, w2, w1, w0]
    rw [q_u1_n _ _ (by omega), q_u1_n _ _ (by omega), q_u1_n _ _ (by omega), q_u1_n _ _ (by omega), q_u1_n _ _ (by omega), q_u1_n _ _ (by omega), q_u1_n _ _ (by omega)]
theorem r_rdChoice (h : RB b L nh np H P bk dr m Z) (hn : 1000 ≤ n) (hf : s.2.1 = 0) : ∃ e, fX12_readsDeed_L51 n 366 19 (RS b L s Z) = some ((), RS b L (sts b L nh np H P [2, 0, 2, 2] (s.1 + 1, s.2.1, s.2.2)) (Zd m 19 (sts b L nh np H P [2, 0, 2, 2] (s.1 + 1, s.2.1, s.2.2)) e Z)) ∧ ((sts b L nh np H P [2, 0, 2, 2] (s.1 + 1, s.2.1, s.2.2)).2.1 = 0 → e (10 * m + 0) = vat b L nh np H P [2, 0, 2, 2] 0 (s.1 + 1, s.2.1, s.2.2) ∧ e (10 * m + 1) = vat b L nh np H P [2, 0, 2, 2] 1 (s.1 + 1, s.2.1, s.2.2) ∧ e (10 * m + 2) = vat b L nh np H P [2, 0, 2, 2] 2 (s.1 + 1, s.2.1, s.2.2) ∧ e (10 * m + 3) = vat b L nh np H P [2, 0, 2, 2] 3 (s.1 + 1, s.2.1, s.2.2)) ∧ ∀ j, j < 10 * m → e j = mI Z 379 j := by
  obtain ⟨q1, q2, q3, q4⟩ := r_head (n := n) h hn hf 19
  have g := h.s78 m 19
  have m140 := h.2.2.2.2.2.2.1
  have i1 : (nI m).toNatClampNeg = m := nI_clamp (by omega)
  have i2 := inL_nI (j := m) (n := 140) m140 (by decide)
  have hs0 := (h.1.rs s).1
  have hs1 := (h.1.rs (s.1 + 1, s.2.1, s.2.2)).1
  have T : ∀ s e, mT (RS b L s (wI (sI Z 378 m 19) 379 e)) = sh_T := fun s e => (g.at s e).1.1
  have R : ∀ s e, mR (RS b L s (wI (sI Z 378 m 19) 379 e)) = sh_R bk dr := fun s e => (g.at s e).1.2.2
  have i6 : ∀ s e, mI (RS b L s (wI (sI Z 378 m 19) 379 e)) 366 6 = nI H := fun s e => (g.at s e).2.1
  have i7 : ∀ s e, mI (RS b L s (wI (sI Z 378 m 19) 379 e)) 366 7 = nI P := fun s e => (g.at s e).2.2.1
  have l3 : ¬ (19 : Int32) = 3 := by decide
  have l5 : ¬ (19 : Int32) = 5 := by decide
  have l6 : ¬ (19 : Int32) = 6 := by decide
  have l8 : ¬ (19 : Int32) = 8 := by decide
  have l20 : ¬ (19 : Int32) = 20 := by decide
  obtain ⟨s0, e0⟩ : ∃ t, t = (s.1 + 1, s.2.1, s.2.2) := ⟨_, rfl⟩
  obtain ⟨x0, y0⟩ : ∃ t, t = mI Z 379 := ⟨_, rfl⟩
  rw [← e0] at q2 q3 q4 hs1
  rw [← e0, ← y0]
  rw [← y0] at q4
  obtain ⟨v0, k0, c0⟩ := r_nn (n := n) g hn s0 x0
  have bb1 := fun z => ((aN_go (b := b) (L := L) s0).2.1 z).1
  obtain ⟨s1, e1⟩ : ∃ t, t = aN b L s0 := ⟨_, rfl⟩
  rw [← e1] at k0 c0 bb1
  have a0 := r_arg g s1 x0 (j := 0) (jI := 0) (by decide) (by decide) v0
  obtain ⟨z0, w0⟩ : ∃ t, t = q_u1 x0 (10 * m + 0) v0 := ⟨_, rfl⟩
  rw [← w0] at a0
  have k1 := r_kh (n := n) g hn s1 z0
  have bb2 := fun z => ((aK_go (b := b) (L := L) nh H s1).2.1 z).1
  obtain ⟨s2, e2⟩ : ∃ t, t = aK b L nh H s1 := ⟨_, rfl⟩
  obtain ⟨v1, f1⟩ : ∃ t, t = vK b L nh H s1 := ⟨_, rfl⟩
  rw [← e2] at k1 bb2
  rw [← f1] at k1
  have a1 := r_arg g s2 z0 (j := 1) (jI := 1) (by decide) (by decide) v1
  obtain ⟨z1, w1⟩ : ∃ t, t = q_u1 z0 (10 * m + 1) v1 := ⟨_, rfl⟩
  rw [← w1] at a1
  obtain ⟨v2, k2, c2⟩ := r_nn (n := n) g hn s2 z1
  have bb3 := fun z => ((aN_go (b := b) (L := L) s2).2.1 z).1
  obtain ⟨s3, e3⟩ : ∃ t, t = aN b L s2 := ⟨_, rfl⟩
  rw [← e3] at k2 c2 bb3
  have a2 := r_arg g s3 z1 (j := 2) (jI := 2) (by decide) (by decide) v2
  obtain ⟨z2, w2⟩ : ∃ t, t = q_u1 z1 (10 * m + 2) v2 := ⟨_, rfl⟩
  rw [← w2] at a2
  obtain ⟨v3, k3, c3⟩ := r_nn (n := n) g hn s3 z2
  have bb4 := fun z => ((aN_go (b := b) (L := L) s3).2.1 z).1
  obtain ⟨s4, e4⟩ : ∃ t, t = aN b L s3 := ⟨_, rfl⟩
  rw [← e4] at k3 c3 bb4
  have a3 := r_arg g s4 z2 (j := 3) (jI := 3) (by decide) (by decide) v3
  obtain ⟨z3, w3⟩ : ∃ t, t = q_u1 z2 (10 * m + 3) v3 := ⟨_, rfl⟩
  rw [← w3] at a3
  have es : sts b L nh np H P [2, 0, 2, 2] s0 = s4 := by
    subst e4 e3 e2 e1
    simp only [sts, stp_0, stp_1, stp_2, stp_w9, stp_w10, stp_w11, stp_w12, stp_w13, stp_w14, stp_w15, stp_w16, stp_w17, stp_w18]
  have fin := r_307 (n := n) h (s4) 19 z3
  rw [es]
  refine ⟨z3, ?_, fun z => ?_, fun j hj => ?_⟩
  · have h := hs0
    simp only [fX12_readsDeed_L51, fX12_readsDeed_L203, fX12_readsOther, fX12_readsWhen, h.1, h.2.1, h.2.2, li_T, li_L, li_R, nm, bd, q_b, ne_eq, Nat.reduceEqDiff, reduceCtorEq, and_false, false_and, and_true, true_and, and_self, not_false_eq_true, not_true_eq_false, ↓reduceIte, hs1.1, hs1.2.1, hs1.2.2, q1, q2, q3, q4, i1, i2.1, i2.2, b1, T, R, i6, i7, l3, l5, l6, l8, l20, k0, a0, k1, a1, k2, a2, k3, a3, fin]
  · have z3s := bb4 z
    have z2s := bb3 z3s
    have z1s := bb2 z2s
    have z0s := bb1 z1s
    have t0 : vat b L nh np H P [2, 0, 2, 2] 0 s0 = vN b L s0 := by
      subst e4 e3 e2 e1
      simp only [vat, stp_0, stp_1, stp_2, val_0, val_1, val_2, stp_w9, stp_w10, stp_w11, stp_w12, stp_w13, stp_w14, stp_w15, stp_w16, stp_w17, stp_w18]
    have u0 : v0 = vN b L s0 := c0 z1s
    have t1 : vat b L nh np H P [2, 0, 2, 2] 1 s0 = vK b L nh H s1 := by
      subst e4 e3 e2 e1
      simp only [vat, stp_0, stp_1, stp_2, val_0, val_1, val_2, stp_w9, stp_w10, stp_w11, stp_w12, stp_w13, stp_w14, stp_w15, stp_w16, stp_w17, stp_w18]
    have u1 : v1 = vK b L nh H s1 := f1
    have t2 : vat b L nh np H P [2, 0, 2, 2] 2 s0 = vN b L s2 := by
      subst e4 e3 e2 e1
      simp only [vat, stp_0, stp_1, stp_2, val_0, val_1, val_2, stp_w9, stp_w10, stp_w11, stp_w12, stp_w13, stp_w14, stp_w15, stp_w16, stp_w17, stp_w18]
    have u2 : v2 = vN b L s2 := c2 z3s
    have t3 : vat b L nh np H P [2, 0, 2, 2] 3 s0 = vN b L s3 := by
      subst e4 e3 e2 e1
      simp only [vat, stp_0, stp_1, stp_2, val_0, val_1, val_2, stp_w9, stp_w10, stp_w11, stp_w12, stp_w13, stp_w14, stp_w15, stp_w16, stp_w17, stp_w18]
    have u3 : v3 = vN b L s3 := c3 z
    refine ⟨?_, ?_, ?_, ?_⟩
    · rw [t0]
      rw [← u0, w3, w2, w1, w0]
      simp only [q_u1_is, Nat.add_left_cancel_iff, Nat.reduceEqDiff, ↓reduceIte]
    · rw [t1]
      rw [← u1, w3, w2, w1, w0]
      simp only [q_u1_is, Nat.add_left_cancel_iff, Nat.reduceEqDiff, ↓reduceIte]
    · rw [t2]
      rw [← u2, w3, w2, w1, w0]
      simp only [q_u1_is, Nat.add_left_cancel_iff, Nat.reduceEqDiff, ↓reduceIte]
    · rw [t3]
      rw [← u3, w3, w2, w1, w0]
      simp only [q_u1_is, Nat.add_left_cancel_iff, Nat.reduceEqDiff, ↓reduceIte]
  · rw [w3, w2, w1, w0]
    rw [q_u1_n _ _ (by omega), q_u1_n _ _ (by omega), q_u1_n _ _ (by omega), q_u1_n _ _ (by omega)]
theorem r_rdDays (h : RB b L nh np H P bk dr m Z) (hn : 1000 ≤ n) (hf : s.2.1 = 0) : ∃ e, fX12_readsDeed_L51 n 366 20 (RS b L s Z) = some ((), RS b L (sts b L nh np H P [2] (s.1 + 1, s.2.1, s.2.2)) (Zd m 20 (sts b L nh np H P [2] (s.1 + 1, s.2.1, s.2.2)) e Z)) ∧ ((sts b L nh np H P [2] (s.1 + 1, s.2.1, s.2.2)).2.1 = 0 → e (10 * m + 0) = vat b L nh np H P [2] 0 (s.1 + 1, s.2.1, s.2.2)) ∧ ∀ j, j < 10 * m → e j = mI Z 379 j := by
  obtain ⟨q1, q2, q3, q4⟩ := r_head (n := n) h hn hf 20
  have g := h.s78 m 20
  have m140 := h.2.2.2.2.2.2.1
  have i1 : (nI m).toNatClampNeg = m := nI_clamp (by omega)
  have i2 := inL_nI (j := m) (n := 140) m140 (by decide)
  have hs0 := (h.1.rs s).1
  have hs1 := (h.1.rs (s.1 + 1, s.2.1, s.2.2)).1
  have T : ∀ s e, mT (RS b L s (wI (sI Z 378 m 20) 379 e)) = sh_T := fun s e => (g.at s e).1.1
  have R : ∀ s e, mR (RS b L s (wI (sI Z 378 m 20) 379 e)) = sh_R bk dr := fun s e => (g.at s e).1.2.2
  have i6 : ∀ s e, mI (RS b L s (wI (sI Z 378 m 20) 379 e)) 366 6 = nI H := fun s e => (g.at s e).2.1
  have i7 : ∀ s e, mI (RS b L s (wI (sI Z 378 m 20) 379 e)) 366 7 = nI P := fun s e => (g.at s e).2.2.1
  have l3 : ¬ (20 : Int32) = 3 := by decide
  have l5 : ¬ (20 : Int32) = 5 := by decide
  have l6 : ¬ (20 : Int32) = 6 := by decide
  have l8 : ¬ (20 : Int32) = 8 := by decide
  have l19 : ¬ (20 : Int32) = 19 := by decide
  obtain ⟨s0, e0⟩ : ∃ t, t = (s.1 + 1, s.2.1, s.2.2) := ⟨_, rfl⟩
  obtain ⟨x0, y0⟩ : ∃ t, t = mI Z 379 := ⟨_, rfl⟩
  rw [← e0] at q2 q3 q4 hs1
  rw [← e0, ← y0]
  rw [← y0] at q4
  obtain ⟨v0, k0, c0⟩ := r_nn (n := n) g hn s0 x0
  have bb1 := fun z => ((aN_go (b := b) (L := L) s0).2.1 z).1
  obtain ⟨s1, e1⟩ : ∃ t, t = aN b L s0 := ⟨_, rfl⟩
  rw [← e1] at k0 c0 bb1
  have a0 := r_arg g s1 x0 (j := 0) (jI := 0) (by decide) (by decide) v0
  obtain ⟨z0, w0⟩ : ∃ t, t = q_u1 x0 (10 * m + 0) v0 := ⟨_, rfl⟩
  rw [← w0] at a0
  have es : sts b L nh np H P [2] s0 = s1 := by
    subst e1
    simp only [sts, stp_0, stp_1, stp_2, stp_w9, stp_w10, stp_w11, stp_w12, stp_w13, stp_w14, stp_w15, stp_w16, stp_w17, stp_w18]
  have fin := r_307 (n := n) h (s1) 20 z0
  rw [es]
  refine ⟨z0, ?_, fun z => ?_, fun j hj => ?_⟩
  · have h := hs0
    simp only [fX12_readsDeed_L51, fX12_readsDeed_L203, fX12_readsOther, fX12_readsWhen, h.1, h.2.1, h.2.2, li_T, li_L, li_R, nm, bd, q_b, ne_eq, Nat.reduceEqDiff, reduceCtorEq, and_false, false_and, and_true, true_and, and_self, not_false_eq_true, not_true_eq_false, ↓reduceIte, hs1.1, hs1.2.1, hs1.2.2, q1, q2, q3, q4, i1, i2.1, i2.2, b1, T, R, i6, i7, l3, l5, l6, l8, l19, k0, a0, fin]
  · have z0s := bb1 z
    have t0 : vat b L nh np H P [2] 0 s0 = vN b L s0 := by
      subst e1
      simp only [vat, stp_0, stp_1, stp_2, val_0, val_1, val_2, stp_w9, stp_w10, stp_w11, stp_w12, stp_w13, stp_w14, stp_w15, stp_w16, stp_w17, stp_w18]
    have u0 : v0 = vN b L s0 := c0 z
    skip
    · rw [t0]
      rw [← u0, w0]
      simp only [q_u1_is, Nat.add_left_cancel_iff, Nat.reduceEqDiff, ↓reduceIte]
  · rw [w0]
    rw [q_u1_n _ _ (by omega)]
end
