/-! TEXTS: the class reads a deed (printed by mk97m.py) -/
section
variable {b : Nat → Int32} {L : Nat} {nh np : Nat → List Nat} {H P bk dr n : Nat} {W Z : Mm} {s : St3}
theorem stp_0 : stp b L nh np H P 0 s = aK b L nh H s := by unfold stp; rw [if_pos rfl]
theorem val_0 : val b L nh np H P 0 s = vK b L nh H s := by unfold val; rw [if_pos rfl]
theorem stp_1 : stp b L nh np H P 1 s = aK b L np P s := by unfold stp; rw [if_neg (by decide)]; rw [if_pos rfl]
theorem val_1 : val b L nh np H P 1 s = vK b L np P s := by unfold val; rw [if_neg (by decide)]; rw [if_pos rfl]
theorem stp_2 : stp b L nh np H P 2 s = aN b L s := by unfold stp; rw [if_neg (by decide)]; rw [if_neg (by decide)]; rw [if_pos rfl]
theorem val_2 : val b L nh np H P 2 s = vN b L s := by unfold val; rw [if_neg (by decide)]; rw [if_neg (by decide)]; rw [if_pos rfl]
theorem stp_w9 : stp b L nh np H P 13 s = aW b L 9 s := by unfold stp; rw [if_neg (by decide), if_neg (by decide), if_neg (by decide), if_neg (by decide)]; rfl
theorem stp_w10 : stp b L nh np H P 14 s = aW b L 10 s := by unfold stp; rw [if_neg (by decide), if_neg (by decide), if_neg (by decide), if_neg (by decide)]; rfl
theorem stp_w11 : stp b L nh np H P 15 s = aW b L 11 s := by unfold stp; rw [if_neg (by decide), if_neg (by decide), if_neg (by decide), if_neg (by decide)]; rfl
theorem stp_w12 : stp b L nh np H P 16 s = aW b L 12 s := by unfold stp; rw [if_neg (by decide), if_neg (by decide), if_neg (by decide), if_neg (by decide)]; rfl
theorem stp_w13 : stp b L nh np H P 17 s = aW b L 13 s := by unfold stp; rw [if_neg (by decide), if_neg (by decide), if_neg (by decide), if_neg (by decide)]; rfl
theorem stp_w14 : stp b L nh np H P 18 s = aW b L 14 s := by unfold stp; rw [if_neg (by decide), if_neg (by decide), if_neg (by decide), if_neg (by decide)]; rfl
theorem stp_w15 : stp b L nh np H P 19 s = aW b L 15 s := by unfold stp; rw [if_neg (by decide), if_neg (by decide), if_neg (by decide), if_neg (by decide)]; rfl
theorem stp_w16 : stp b L nh np H P 20 s = aW b L 16 s := by unfold stp; rw [if_neg (by decide), if_neg (by decide), if_neg (by decide), if_neg (by decide)]; rfl
theorem stp_w17 : stp b L nh np H P 21 s = aW b L 17 s := by unfold stp; rw [if_neg (by decide), if_neg (by decide), if_neg (by decide), if_neg (by decide)]; rfl
theorem stp_w18 : stp b L nh np H P 22 s = aW b L 18 s := by unfold stp; rw [if_neg (by decide), if_neg (by decide), if_neg (by decide), if_neg (by decide)]; rfl
theorem stp_3t (z : s.2.1 = 0 ∧ AW b L 4 s.1) : stp b L nh np H P 3 s = aN b L (aP b L 4 s) ∧ val b L nh np H P 3 s = vN b L (aP b L 4 s) := by
  unfold stp val
  refine ⟨?_, ?_⟩ <;> rw [if_neg (by decide), if_neg (by decide), if_neg (by decide), if_pos rfl, if_pos z]
theorem stp_3f (z : ¬ (s.2.1 = 0 ∧ AW b L 4 s.1)) : stp b L nh np H P 3 s = s ∧ val b L nh np H P 3 s = 2 := by
  unfold stp val
  refine ⟨?_, ?_⟩ <;> rw [if_neg (by decide), if_neg (by decide), if_neg (by decide), if_pos rfl, if_neg z]
theorem aP_t {k : Int32} (z : s.2.1 = 0 ∧ AW b L k s.1) : aP b L k s = (s.1 + 1, s.2.1, s.2.2) := by unfold aP; rw [if_pos z]
theorem aP_n {k : Int32} (z : ¬ (s.2.1 = 0 ∧ AW b L k s.1)) : aP b L k s = s := by unfold aP; rw [if_neg z]
theorem c_rdTrade (h : CB b L nh np H P bk dr W) (hv : VI b L s.1) (hn : 1000 ≤ n) (d : Nat → Int32) : ∃ d', fX2_readTrade n 15 2 bk (U2 s (wI W 15 d)) = some ((), U2 (sts b L nh np H P [0, 0, 1, 2, 2, 3] s) (wI W 15 d')) ∧ d' 0 = 4 ∧ d' 2 = vat b L nh np H P [0, 0, 1, 2, 2, 3] 0 s ∧ d' 3 = vat b L nh np H P [0, 0, 1, 2, 2, 3] 1 s ∧ d' 1 = vat b L nh np H P [0, 0, 1, 2, 2, 3] 2 s ∧ d' 4 = vat b L nh np H P [0, 0, 1, 2, 2, 3] 3 s ∧ d' 5 = vat b L nh np H P [0, 0, 1, 2, 2, 3] 4 s ∧ d' 6 = vat b L nh np H P [0, 0, 1, 2, 2, 3] 5 s := by
  have T : ∀ s d, mT (U2 s (wI W 15 d)) = sh_T := fun s d => (h.at s d).1.1
  have tb := (bk_T h.2.1).1
  have v0 := hv
  have k0 := fun d => c_kh h v0 hn d
  have v1 := (aK_go nh H s).1 v0
  obtain ⟨s1, e1⟩ : ∃ t, t = aK b L nh H s := ⟨_, rfl⟩
  obtain ⟨x0, f0⟩ : ∃ t, t = vK b L nh H s := ⟨_, rfl⟩
  rw [← e1] at v1
  rw [← e1, ← f0] at k0
  have k1 := fun d => c_kh h v1 hn d
  have v2 := (aK_go nh H s1).1 v1
  obtain ⟨s2, e2⟩ : ∃ t, t = aK b L nh H s1 := ⟨_, rfl⟩
  obtain ⟨x1, f1⟩ : ∃ t, t = vK b L nh H s1 := ⟨_, rfl⟩
  rw [← e2] at v2
  rw [← e2, ← f1] at k1
  have k2 := fun d => c_kp h v2 hn d
  have v3 := (aK_go np P s2).1 v2
  obtain ⟨s3, e3⟩ : ∃ t, t = aK b L np P s2 := ⟨_, rfl⟩
  obtain ⟨x2, f2⟩ : ∃ t, t = vK b L np P s2 := ⟨_, rfl⟩
  rw [← e3] at v3
  rw [← e3, ← f2] at k2
  have k3 := fun d => c_nn h v3 d
  have v4 := (aN_go s3).1 v3
  obtain ⟨s4, e4⟩ : ∃ t, t = aN b L s3 := ⟨_, rfl⟩
  obtain ⟨x3, f3⟩ : ∃ t, t = vN b L s3 := ⟨_, rfl⟩
  rw [← e4] at v4
  rw [← e4, ← f3] at k3
  have k4 := fun d => c_nn h v4 d
  have v5 := (aN_go s4).1 v4
  obtain ⟨s5, e5⟩ : ∃ t, t = aN b L s4 := ⟨_, rfl⟩
  obtain ⟨x4, f4⟩ : ∃ t, t = vN b L s4 := ⟨_, rfl⟩
  rw [← e5] at v5
  rw [← e5, ← f4] at k4
  have k5 := fun d => c_pp h v5 4 d
  by_cases z : s5.2.1 = 0 ∧ AW b L 4 s5.1
  · rw [bo_t z] at k5
    have v6 : VI b L (aP b L 4 s5).1 := by rw [aP_t z]; exact v5.kd0 (by rw [z.2.1]; decide)
    have k6 := fun d => c_nn h v6 d
    have es : sts b L nh np H P [0, 0, 1, 2, 2, 3] s = aN b L (aP b L 4 s5) := by
      subst e5 e4 e3 e2 e1
      simp only [sts, stp_0, stp_1, stp_2, (stp_3t z).1]
    have g0 : vat b L nh np H P [0, 0, 1, 2, 2, 3] 0 s = x0 := by
      subst f4 f3 f2 f1 f0 e5 e4 e3 e2 e1
      simp only [vat, stp_0, stp_1, stp_2, val_0, val_1, val_2]
    have g1 : vat b L nh np H P [0, 0, 1, 2, 2, 3] 1 s = x1 := by
      subst f4 f3 f2 f1 f0 e5 e4 e3 e2 e1
      simp only [vat, stp_0, stp_1, stp_2, val_0, val_1, val_2]
    have g2 : vat b L nh np H P [0, 0, 1, 2, 2, 3] 2 s = x2 := by
      subst f4 f3 f2 f1 f0 e5 e4 e3 e2 e1
      simp only [vat, stp_0, stp_1, stp_2, val_0, val_1, val_2]
    have g3 : vat b L nh np H P [0, 0, 1, 2, 2, 3] 3 s = x3 := by
      subst f4 f3 f2 f1 f0 e5 e4 e3 e2 e1
      simp only [vat, stp_0, stp_1, stp_2, val_0, val_1, val_2]
    have g4 : vat b L nh np H P [0, 0, 1, 2, 2, 3] 4 s = x4 := by
      subst f4 f3 f2 f1 f0 e5 e4 e3 e2 e1
      simp only [vat, stp_0, stp_1, stp_2, val_0, val_1, val_2]
    have g5 : vat b L nh np H P [0, 0, 1, 2, 2, 3] 5 s = vN b L (aP b L 4 s5) := by
      subst f4 f3 f2 f1 f0 e5 e4 e3 e2 e1
      simp only [vat, stp_0, stp_1, stp_2, val_0, val_1, val_2, (stp_3t z).2]
    refine ⟨(q_u1 (q_u1 (q_u1 (q_u1 (q_u1 (q_u1 (q_u1 (q_u1 (q_u1 (q_u1 (q_u1 (q_u1 (q_u1 (q_u1 d 0 4) 1 (-1)) 7 (-1)) 8 0) 9 1) 10 0) 11 0) 12 (-1)) 2 x0) 3 x1) 1 x2) 4 x3) 5 x4) 6 (vN b L (aP b L 4 s5))), ?_, ?_, ?_, ?_, ?_, ?_, ?_, ?_⟩
    · rw [es]
      have h := (h.at s d).1
      simp only [fX2_readTrade, fX2_readTrade_L66, fX2_begin, h.1, h.2.1, h.2.2, li_T, li_L, li_R, nm, bd, q_b, ne_eq, Nat.reduceEqDiff, reduceCtorEq, and_false, false_and, and_true, true_and, and_self, not_false_eq_true, not_true_eq_false, ↓reduceIte, T, tb, b1, U2_15, U2_m15, q_u1_s, k0, k1, k2, k3, k4, k5, k6]
    all_goals simp only [q_u1_is, Nat.reduceEqDiff, ↓reduceIte, g0, g1, g2, g3, g4, g5]
  · rw [bo_f z, aP_n z] at k5
    have es : sts b L nh np H P [0, 0, 1, 2, 2, 3] s = s5 := by
      subst e5 e4 e3 e2 e1
      simp only [sts, stp_0, stp_1, stp_2, (stp_3f z).1]
    have g0 : vat b L nh np H P [0, 0, 1, 2, 2, 3] 0 s = x0 := by
      subst f4 f3 f2 f1 f0 e5 e4 e3 e2 e1
      simp only [vat, stp_0, stp_1, stp_2, val_0, val_1, val_2]
    have g1 : vat b L nh np H P [0, 0, 1, 2, 2, 3] 1 s = x1 := by
      subst f4 f3 f2 f1 f0 e5 e4 e3 e2 e1
      simp only [vat, stp_0, stp_1, stp_2, val_0, val_1, val_2]
    have g2 : vat b L nh np H P [0, 0, 1, 2, 2, 3] 2 s = x2 := by
      subst f4 f3 f2 f1 f0 e5 e4 e3 e2 e1
      simp only [vat, stp_0, stp_1, stp_2, val_0, val_1, val_2]
    have g3 : vat b L nh np H P [0, 0, 1, 2, 2, 3] 3 s = x3 := by
      subst f4 f3 f2 f1 f0 e5 e4 e3 e2 e1
      simp only [vat, stp_0, stp_1, stp_2, val_0, val_1, val_2]
    have g4 : vat b L nh np H P [0, 0, 1, 2, 2, 3] 4 s = x4 := by
      subst f4 f3 f2 f1 f0 e5 e4 e3 e2 e1
      simp only [vat, stp_0, stp_1, stp_2, val_0, val_1, val_2]
    have g5 : vat b L nh np H P [0, 0, 1, 2, 2, 3] 5 s = 2 := by
      subst f4 f3 f2 f1 f0 e5 e4 e3 e2 e1
      simp only [vat, stp_0, stp_1, stp_2, val_0, val_1, val_2, (stp_3f z).2]
    refine ⟨(q_u1 (q_u1 (q_u1 (q_u1 (q_u1 (q_u1 (q_u1 (q_u1 (q_u1 (q_u1 (q_u1 (q_u1 (q_u1 (q_u1 d 0 4) 1 (-1)) 7 (-1)) 8 0) 9 1) 10 0) 11 0) 12 (-1)) 2 x0) 3 x1) 1 x2) 4 x3) 5 x4) 6 2), ?_, ?_, ?_, ?_, ?_, ?_, ?_, ?_⟩
    · rw [es]
      have h := (h.at s d).1
      simp only [fX2_readTrade, fX2_readTrade_L66, fX2_begin, h.1, h.2.1, h.2.2, li_T, li_L, li_R, nm, bd, q_b, ne_eq, Nat.reduceEqDiff, reduceCtorEq, and_false, false_and, and_true, true_and, and_self, not_false_eq_true, not_true_eq_false, ↓reduceIte, T, tb, b1, U2_15, U2_m15, q_u1_s, k0, k1, k2, k3, k4, k5]
    all_goals simp only [q_u1_is, Nat.reduceEqDiff, ↓reduceIte, g0, g1, g2, g3, g4, g5]
theorem c_rdMoney (h : CB b L nh np H P bk dr W) (hv : VI b L s.1) (hn : 1000 ≤ n) (d : Nat → Int32) : ∃ d', fX2_readMoney n 15 2 bk (U2 s (wI W 15 d)) = some ((), U2 (sts b L nh np H P [1, 2, 20, 2, 21, 2, 22, 2] s) (wI W 15 d')) ∧ d' 0 = 0 ∧ d' 1 = vat b L nh np H P [1, 2, 20, 2, 21, 2, 22, 2] 0 s ∧ d' 10 = vat b L nh np H P [1, 2, 20, 2, 21, 2, 22, 2] 1 s ∧ d' 13 = vat b L nh np H P [1, 2, 20, 2, 21, 2, 22, 2] 3 s ∧ d' 14 = vat b L nh np H P [1, 2, 20, 2, 21, 2, 22, 2] 5 s ∧ d' 15 = vat b L nh np H P [1, 2, 20, 2, 21, 2, 22, 2] 7 s ∧ d' 8 = 0 ∧ d' 9 = 1 ∧ d' 11 = 0 := by
  have T : ∀ s d, mT (U2 s (wI W 15 d)) = sh_T := fun s d => (h.at s d).1.1
  have tb := (bk_T h.2.1).1
  have v0 := hv
  have k0 := fun d => c_kp h v0 hn d
  have v1 := (aK_go np P s).1 v0
  obtain ⟨s1, e1⟩ : ∃ t, t = aK b L np P s := ⟨_, rfl⟩
  obtain ⟨x0, f0⟩ : ∃ t, t = vK b L np P s := ⟨_, rfl⟩
  rw [← e1] at v1
  rw [← e1, ← f0] at k0
  have k1 := fun d => c_nn h v1 d
  have v2 := (aN_go s1).1 v1
  obtain ⟨s2, e2⟩ : ∃ t, t = aN b L s1 := ⟨_, rfl⟩
  obtain ⟨x1, f1⟩ : ∃ t, t = vN b L s1 := ⟨_, rfl⟩
  rw [← e2] at v2
  rw [← e2, ← f1] at k1
  have k2 := fun d => c_bb h v2 16 d
  have v4 := (aN_go (aW b L 16 s2)).1 ((aW_go 16 s2).1 v2)
  obtain ⟨s4, e4⟩ : ∃ t, t = aN b L (aW b L 16 s2) := ⟨_, rfl⟩
  obtain ⟨x3, f3⟩ : ∃ t, t = vN b L (aW b L 16 s2) := ⟨_, rfl⟩
  rw [← e4] at v4
  rw [← e4, ← f3] at k2
  have k4 := fun d => c_bb h v4 17 d
  have v6 := (aN_go (aW b L 17 s4)).1 ((aW_go 17 s4).1 v4)
  obtain ⟨s6, e6⟩ : ∃ t, t = aN b L (aW b L 17 s4) := ⟨_, rfl⟩
  obtain ⟨x5, f5⟩ : ∃ t, t = vN b L (aW b L 17 s4) := ⟨_, rfl⟩
  rw [← e6] at v6
  rw [← e6, ← f5] at k4
  have k6 := fun d => c_bb h v6 18 d
  have v8 := (aN_go (aW b L 18 s6)).1 ((aW_go 18 s6).1 v6)
  obtain ⟨s8, e8⟩ : ∃ t, t = aN b L (aW b L 18 s6) := ⟨_, rfl⟩
  obtain ⟨x7, f7⟩ : ∃ t, t = vN b L (aW b L 18 s6) := ⟨_, rfl⟩
  rw [← e8] at v8
  rw [← e8, ← f7] at k6
  have es : sts b L nh np H P [1, 2, 20, 2, 21, 2, 22, 2] s = s8 := by
    subst e8 e6 e4 e2 e1
    simp only [sts, stp_0, stp_1, stp_2, stp_w9, stp_w10, stp_w11, stp_w12, stp_w13, stp_w14, stp_w15, stp_w16, stp_w17, stp_w18]
  have g0 : vat b L nh np H P [1, 2, 20, 2, 21, 2, 22, 2] 0 s = x0 := by
    subst f7 f5 f3 f1 f0 e8 e6 e4 e2 e1
    simp only [vat, stp_0, stp_1, stp_2, val_0, val_1, val_2, stp_w9, stp_w10, stp_w11, stp_w12, stp_w13, stp_w14, stp_w15, stp_w16, stp_w17, stp_w18]
  have g1 : vat b L nh np H P [1, 2, 20, 2, 21, 2, 22, 2] 1 s = x1 := by
    subst f7 f5 f3 f1 f0 e8 e6 e4 e2 e1
    simp only [vat, stp_0, stp_1, stp_2, val_0, val_1, val_2, stp_w9, stp_w10, stp_w11, stp_w12, stp_w13, stp_w14, stp_w15, stp_w16, stp_w17, stp_w18]
  have g3 : vat b L nh np H P [1, 2, 20, 2, 21, 2, 22, 2] 3 s = x3 := by
    subst f7 f5 f3 f1 f0 e8 e6 e4 e2 e1
    simp only [vat, stp_0, stp_1, stp_2, val_0, val_1, val_2, stp_w9, stp_w10, stp_w11, stp_w12, stp_w13, stp_w14, stp_w15, stp_w16, stp_w17, stp_w18]
  have g5 : vat b L nh np H P [1, 2, 20, 2, 21, 2, 22, 2] 5 s = x5 := by
    subst f7 f5 f3 f1 f0 e8 e6 e4 e2 e1
    simp only [vat, stp_0, stp_1, stp_2, val_0, val_1, val_2, stp_w9, stp_w10, stp_w11, stp_w12, stp_w13, stp_w14, stp_w15, stp_w16, stp_w17, stp_w18]
  have g7 : vat b L nh np H P [1, 2, 20, 2, 21, 2, 22, 2] 7 s = x7 := by
    subst f7 f5 f3 f1 f0 e8 e6 e4 e2 e1
    simp only [vat, stp_0, stp_1, stp_2, val_0, val_1, val_2, stp_w9, stp_w10, stp_w11, stp_w12, stp_w13, stp_w14, stp_w15, stp_w16, stp_w17, stp_w18]
  refine ⟨(q_u1 (q_u1 (q_u1 (q_u1 (q_u1 (q_u1 (q_u1 (q_u1 (q_u1 (q_u1 (q_u1 (q_u1 d 0 0) 1 x0) 7 (-1)) 8 0) 9 1) 10 0) 11 0) 12 (-1)) 10 x1) 13 x3) 14 x5) 15 x7), ?_, ?_, ?_, ?_, ?_, ?_, ?_, ?_, ?_, ?_⟩
  · rw [es]
    have h := (h.at s d).1
    simp only [fX2_readMoney, fX2_begin, fX2_readRatio, fX2_readWhen, h.1, h.2.1, h.2.2, li_T, li_L, li_R, nm, bd, q_b, ne_eq, Nat.reduceEqDiff, reduceCtorEq, and_false, false_and, and_true, true_and, and_self, not_false_eq_true, not_true_eq_false, ↓reduceIte, T, tb, U2_15, U2_m15, q_u1_s, k0, k1, k2, k4, k6]
  all_goals simp only [q_u1_is, Nat.reduceEqDiff, ↓reduceIte, g0, g1, g3, g5, g7]
theorem c_rdGift (h : CB b L nh np H P bk dr W) (hv : VI b L s.1) (hn : 1000 ≤ n) (d : Nat → Int32) : ∃ d', fX2_readGift n 15 2 bk (U2 s (wI W 15 d)) = some ((), U2 (sts b L nh np H P [1, 2, 14, 2, 19, 2, 20, 2, 21, 2, 22, 2] s) (wI W 15 d')) ∧ d' 0 = 1 ∧ d' 1 = vat b L nh np H P [1, 2, 14, 2, 19, 2, 20, 2, 21, 2, 22, 2] 0 s ∧ d' 8 = vat b L nh np H P [1, 2, 14, 2, 19, 2, 20, 2, 21, 2, 22, 2] 1 s ∧ d' 9 = vat b L nh np H P [1, 2, 14, 2, 19, 2, 20, 2, 21, 2, 22, 2] 3 s ∧ d' 11 = vat b L nh np H P [1, 2, 14, 2, 19, 2, 20, 2, 21, 2, 22, 2] 5 s ∧ d' 13 = vat b L nh np H P [1, 2, 14, 2, 19, 2, 20, 2, 21, 2, 22, 2] 7 s ∧ d' 14 = vat b L nh np H P [1, 2, 14, 2, 19, 2, 20, 2, 21, 2, 22, 2] 9 s ∧ d' 15 = vat b L nh np H P [1, 2, 14, 2, 19, 2, 20, 2, 21, 2, 22, 2] 11 s ∧ d' 10 = 0 := by
  have T : ∀ s d, mT (U2 s (wI W 15 d)) = sh_T := fun s d => (h.at s d).1.1
  have tb := (bk_T h.2.1).1
  have v0 := hv
  have k0 := fun d => c_kp h v0 hn d
  have v1 := (aK_go np P s).1 v0
  obtain ⟨s1, e1⟩ : ∃ t, t = aK b L np P s := ⟨_, rfl⟩
  obtain ⟨x0, f0⟩ : ∃ t, t = vK b L np P s := ⟨_, rfl⟩
  rw [← e1] at v1
  rw [← e1, ← f0] at k0
  have k1 := fun d => c_nn h v1 d
  have v2 := (aN_go s1).1 v1
  obtain ⟨s2, e2⟩ : ∃ t, t = aN b L s1 := ⟨_, rfl⟩
  obtain ⟨x1, f1⟩ : ∃ t, t = vN b L s1 := ⟨_, rfl⟩
  rw [← e2] at v2
  rw [← e2, ← f1] at k1
  have k2 := fun d => c_bb h v2 10 d
  have v4 := (aN_go (aW b L 10 s2)).1 ((aW_go 10 s2).1 v2)
  obtain ⟨s4, e4⟩ : ∃ t, t = aN b L (aW b L 10 s2) := ⟨_, rfl⟩
  obtain ⟨x3, f3⟩ : ∃ t, t = vN b L (aW b L 10 s2) := ⟨_, rfl⟩
  rw [← e4] at v4
  rw [← e4, ← f3] at k2
  have k4 := fun d => c_bb h v4 15 d
  have v6 := (aN_go (aW b L 15 s4)).1 ((aW_go 15 s4).1 v4)
  obtain ⟨s6, e6⟩ : ∃ t, t = aN b L (aW b L 15 s4) := ⟨_, rfl⟩
  obtain ⟨x5, f5⟩ : ∃ t, t = vN b L (aW b L 15 s4) := ⟨_, rfl⟩
  rw [← e6] at v6
  rw [← e6, ← f5] at k4
  have k6 := fun d => c_bb h v6 16 d
  have v8 := (aN_go (aW b L 16 s6)).1 ((aW_go 16 s6).1 v6)
  obtain ⟨s8, e8⟩ : ∃ t, t = aN b L (aW b L 16 s6) := ⟨_, rfl⟩
  obtain ⟨x7, f7⟩ : ∃ t, t = vN b L (aW b L 16 s6) := ⟨_, rfl⟩
  rw [← e8] at v8
  rw [← e8, ← f7] at k6
  have k8 := fun d => c_bb h v8 17 d
  have v10 := (aN_go (aW b L 17 s8)).1 ((aW_go 17 s8).1 v8)
  obtain ⟨s10, e10⟩ : ∃ t, t = aN b L (aW b L 17 s8) := ⟨_, rfl⟩
  obtain ⟨x9, f9⟩ : ∃ t, t = vN b L (aW b L 17 s8) := ⟨_, rfl⟩
  rw [← e10] at v10
  rw [← e10, ← f9] at k8
  have k10 := fun d => c_bb h v10 18 d
  have v12 := (aN_go (aW b L 18 s10)).1 ((aW_go 18 s10).1 v10)
  obtain ⟨s12, e12⟩ : ∃ t, t = aN b L (aW b L 18 s10) := ⟨_, rfl⟩
  obtain ⟨x11, f11⟩ : ∃ t, t = vN b L (aW b L 18 s10) := ⟨_, rfl⟩
  rw [← e12] at v12
  rw [← e12, ← f11] at k10
  have es : sts b L nh np H P [1, 2, 14, 2, 19, 2, 20, 2, 21, 2, 22, 2] s = s12 := by
    subst e12 e10 e8 e6 e4 e2 e1
    simp only [sts, stp_0, stp_1, stp_2, stp_w9, stp_w10, stp_w11, stp_w12, stp_w13, stp_w14, stp_w15, stp_w16, stp_w17, stp_w18]
  have g0 : vat b L nh np H P [1, 2, 14, 2, 19, 2, 20, 2, 21, 2, 22, 2] 0 s = x0 := by
    subst f11 f9 f7 f5 f3 f1 f0 e12 e10 e8 e6 e4 e2 e1
    simp only [vat, stp_0, stp_1, stp_2, val_0, val_1, val_2, stp_w9, stp_w10, stp_w11, stp_w12, stp_w13, stp_w14, stp_w15, stp_w16, stp_w17, stp_w18]
  have g1 : vat b L nh np H P [1, 2, 14, 2, 19, 2, 20, 2, 21, 2, 22, 2] 1 s = x1 := by
    subst f11 f9 f7 f5 f3 f1 f0 e12 e10 e8 e6 e4 e2 e1
    simp only [vat, stp_0, stp_1, stp_2, val_0, val_1, val_2, stp_w9, stp_w10, stp_w11, stp_w12, stp_w13, stp_w14, stp_w15, stp_w16, stp_w17, stp_w18]
  have g3 : vat b L nh np H P [1, 2, 14, 2, 19, 2, 20, 2, 21, 2, 22, 2] 3 s = x3 := by
    subst f11 f9 f7 f5 f3 f1 f0 e12 e10 e8 e6 e4 e2 e1
    simp only [vat, stp_0, stp_1, stp_2, val_0, val_1, val_2, stp_w9, stp_w10, stp_w11, stp_w12, stp_w13, stp_w14, stp_w15, stp_w16, stp_w17, stp_w18]
  have g5 : vat b L nh np H P [1, 2, 14, 2, 19, 2, 20, 2, 21, 2, 22, 2] 5 s = x5 := by
    subst f11 f9 f7 f5 f3 f1 f0 e12 e10 e8 e6 e4 e2 e1
    simp only [vat, stp_0, stp_1, stp_2, val_0, val_1, val_2, stp_w9, stp_w10, stp_w11, stp_w12, stp_w13, stp_w14, stp_w15, stp_w16, stp_w17, stp_w18]
  have g7 : vat b L nh np H P [1, 2, 14, 2, 19, 2, 20, 2, 21, 2, 22, 2] 7 s = x7 := by
    subst f11 f9 f7 f5 f3 f1 f0 e12 e10 e8 e6 e4 e2 e1
    simp only [vat, stp_0, stp_1, stp_2, val_0, val_1, val_2, stp_w9, stp_w10, stp_w11, stp_w12, stp_w13, stp_w14, stp_w15, stp_w16, stp_w17, stp_w18]
  have g9 : vat b L nh np H P [1, 2, 14, 2, 19, 2, 20, 2, 21, 2, 22, 2] 9 s = x9 := by
    subst f11 f9 f7 f5 f3 f1 f0 e12 e10 e8 e6 e4 e2 e1
    simp only [vat, stp_0, stp_1, stp_2, val_0, val_1, val_2, stp_w9, stp_w10, stp_w11, stp_w12, stp_w13, stp_w14, stp_w15, stp_w16, stp_w17, stp_w18]
  have g11 : vat b L nh np H P [1, 2, 14, 2, 19, 2, 20, 2, 21, 2, 22, 2] 11 s = x11 := by
    subst f11 f9 f7 f5 f3 f1 f0 e12 e10 e8 e6 e4 e2 e1
    simp only [vat, stp_0, stp_1, stp_2, val_0, val_1, val_2, stp_w9, stp_w10, stp_w11, stp_w12, stp_w13, stp_w14, stp_w15, stp_w16, stp_w17, stp_w18]
  refine ⟨(q_u1 (q_u1 (q_u1 (q_u1 (q_u1 (q_u1 (q_u1 (q_u1 (q_u1 (q_u1 (q_u1 (q_u1 (q_u1 (q_u1 d 0 1) 1 x0) 7 (-1)) 8 0) 9 1) 10 0) 11 0) 12 (-1)) 8 x1) 9 x3) 11 x5) 13 x7) 14 x9) 15 x11), ?_, ?_, ?_, ?_, ?_, ?_, ?_, ?_, ?_, ?_⟩
  · rw [es]
    have h := (h.at s d).1
    simp only [fX2_readGift, fX2_begin, fX2_readRatio, fX2_readWhen, h.1, h.2.1, h.2.2, li_T, li_L, li_R, nm, bd, q_b, ne_eq, Nat.reduceEqDiff, reduceCtorEq, and_false, false_and, and_true, true_and, and_self, not_false_eq_true, not_true_eq_false, ↓reduceIte, T, tb, U2_15, U2_m15, q_u1_s, k0, k1, k2, k4, k6, k8, k10]
  all_goals simp only [q_u1_is, Nat.reduceEqDiff, ↓reduceIte, g0, g1, g3, g5, g7, g9, g11]
theorem c_rdRights (h : CB b L nh np H P bk dr W) (hv : VI b L s.1) (hn : 1000 ≤ n) (d : Nat → Int32) : ∃ d', fX2_readRights n 15 2 bk (U2 s (wI W 15 d)) = some ((), U2 (sts b L nh np H P [1, 2, 14, 2, 15, 2, 16, 2, 17, 2, 20, 2, 21, 2, 22, 2] s) (wI W 15 d')) ∧ d' 0 = 2 ∧ d' 1 = vat b L nh np H P [1, 2, 14, 2, 15, 2, 16, 2, 17, 2, 20, 2, 21, 2, 22, 2] 0 s ∧ d' 8 = vat b L nh np H P [1, 2, 14, 2, 15, 2, 16, 2, 17, 2, 20, 2, 21, 2, 22, 2] 1 s ∧ d' 9 = vat b L nh np H P [1, 2, 14, 2, 15, 2, 16, 2, 17, 2, 20, 2, 21, 2, 22, 2] 3 s ∧ d' 10 = vat b L nh np H P [1, 2, 14, 2, 15, 2, 16, 2, 17, 2, 20, 2, 21, 2, 22, 2] 5 s ∧ d' 11 = vat b L nh np H P [1, 2, 14, 2, 15, 2, 16, 2, 17, 2, 20, 2, 21, 2, 22, 2] 7 s ∧ d' 12 = vat b L nh np H P [1, 2, 14, 2, 15, 2, 16, 2, 17, 2, 20, 2, 21, 2, 22, 2] 9 s ∧ d' 13 = vat b L nh np H P [1, 2, 14, 2, 15, 2, 16, 2, 17, 2, 20, 2, 21, 2, 22, 2] 11 s ∧ d' 14 = vat b L nh np H P [1, 2, 14, 2, 15, 2, 16, 2, 17, 2, 20, 2, 21, 2, 22, 2] 13 s ∧ d' 15 = vat b L nh np H P [1, 2, 14, 2, 15, 2, 16, 2, 17, 2, 20, 2, 21, 2, 22, 2] 15 s := by
  have T : ∀ s d, mT (U2 s (wI W 15 d)) = sh_T := fun s d => (h.at s d).1.1
  have tb := (bk_T h.2.1).1
  have v0 := hv
  have k0 := fun d => c_kp h v0 hn d
  have v1 := (aK_go np P s).1 v0
  obtain ⟨s1, e1⟩ : ∃ t, t = aK b L np P s := ⟨_, rfl⟩
  obtain ⟨x0, f0⟩ : ∃ t, t = vK b L np P s := ⟨_, rfl⟩
  rw [← e1] at v1
  rw [← e1, ← f0] at k0
  have k1 := fun d => c_nn h v1 d
  have v2 := (aN_go s1).1 v1
  obtain ⟨s2, e2⟩ : ∃ t, t = aN b L s1 := ⟨_, rfl⟩
  obtain ⟨x1, f1⟩ : ∃ t, t = vN b L s1 := ⟨_, rfl⟩
  rw [← e2] at v2
  rw [← e2, ← f1] at k1
  have k2 := fun d => c_bb h v2 10 d
  have v4 := (aN_go (aW b L 10 s2)).1 ((aW_go 10 s2).1 v2)
  obtain ⟨s4, e4⟩ : ∃ t, t = aN b L (aW b L 10 s2) := ⟨_, rfl⟩
  obtain ⟨x3, f3⟩ : ∃ t, t = vN b L (aW b L 10 s2) := ⟨_, rfl⟩
  rw [← e4] at v4
  rw [← e4, ← f3] at k2
  have k4 := fun d => c_bb h v4 11 d
  have v6 := (aN_go (aW b L 11 s4)).1 ((aW_go 11 s4).1 v4)
  obtain ⟨s6, e6⟩ : ∃ t, t = aN b L (aW b L 11 s4) := ⟨_, rfl⟩
  obtain ⟨x5, f5⟩ : ∃ t, t = vN b L (aW b L 11 s4) := ⟨_, rfl⟩
  rw [← e6] at v6
  rw [← e6, ← f5] at k4
  have k6 := fun d => c_bb h v6 12 d
  have v8 := (aN_go (aW b L 12 s6)).1 ((aW_go 12 s6).1 v6)
  obtain ⟨s8, e8⟩ : ∃ t, t = aN b L (aW b L 12 s6) := ⟨_, rfl⟩
  obtain ⟨x7, f7⟩ : ∃ t, t = vN b L (aW b L 12 s6) := ⟨_, rfl⟩
  rw [← e8] at v8
  rw [← e8, ← f7] at k6
  have k8 := fun d => c_bb h v8 13 d
  have v10 := (aN_go (aW b L 13 s8)).1 ((aW_go 13 s8).1 v8)
  obtain ⟨s10, e10⟩ : ∃ t, t = aN b L (aW b L 13 s8) := ⟨_, rfl⟩
  obtain ⟨x9, f9⟩ : ∃ t, t = vN b L (aW b L 13 s8) := ⟨_, rfl⟩
  rw [← e10] at v10
  rw [← e10, ← f9] at k8
  have k10 := fun d => c_bb h v10 16 d
  have v12 := (aN_go (aW b L 16 s10)).1 ((aW_go 16 s10).1 v10)
  obtain ⟨s12, e12⟩ : ∃ t, t = aN b L (aW b L 16 s10) := ⟨_, rfl⟩
  obtain ⟨x11, f11⟩ : ∃ t, t = vN b L (aW b L 16 s10) := ⟨_, rfl⟩
  rw [← e12] at v12
  rw [← e12, ← f11] at k10
  have k12 := fun d => c_bb h v12 17 d
  have v14 := (aN_go (aW b L 17 s12)).1 ((aW_go 17 s12).1 v12)
  obtain ⟨s14, e14⟩ : ∃ t, t = aN b L (aW b L 17 s12) := ⟨_, rfl⟩
  obtain ⟨x13, f13⟩ : ∃ t, t = vN b L (aW b L 17 s12) := ⟨_, rfl⟩
  rw [← e14] at v14
  rw [← e14, ← f13] at k12
  have k14 := fun d => c_bb h v14 18 d
  have v16 := (aN_go (aW b L 18 s14)).1 ((aW_go 18 s14).1 v14)
  obtain ⟨s16, e16⟩ : ∃ t, t = aN b L (aW b L 18 s14) := ⟨_, rfl⟩
  obtain ⟨x15, f15⟩ : ∃ t, t = vN b L (aW b L 18 s14) := ⟨_, rfl⟩
  rw [← e16] at v16
  rw [← e16, ← f15] at k14
  have es : sts b L nh np H P [1, 2, 14, 2, 15, 2, 16, 2, 17, 2, 20, 2, 21, 2, 22, 2] s = s16 := by
    subst e16 e14 e12 e10 e8 e6 e4 e2 e1
    simp only [sts, stp_0, stp_1, stp_2, stp_w9, stp_w10, stp_w11, stp_w12, stp_w13, stp_w14, stp_w15, stp_w16, stp_w17, stp_w18]
  have g0 : vat b L nh np H P [1, 2, 14, 2, 15, 2, 16, 2, 17, 2, 20, 2, 21, 2, 22, 2] 0 s = x0 := by
    subst f15 f13 f11 f9 f7 f5 f3 f1 f0 e16 e14 e12 e10 e8 e6 e4 e2 e1
    simp only [vat, stp_0, stp_1, stp_2, val_0, val_1, val_2, stp_w9, stp_w10, stp_w11, stp_w12, stp_w13, stp_w14, stp_w15, stp_w16, stp_w17, stp_w18]
  have g1 : vat b L nh np H P [1, 2, 14, 2, 15, 2, 16, 2, 17, 2, 20, 2, 21, 2, 22, 2] 1 s = x1 := by
    subst f15 f13 f11 f9 f7 f5 f3 f1 f0 e16 e14 e12 e10 e8 e6 e4 e2 e1
    simp only [vat, stp_0, stp_1, stp_2, val_0, val_1, val_2, stp_w9, stp_w10, stp_w11, stp_w12, stp_w13, stp_w14, stp_w15, stp_w16, stp_w17, stp_w18]
  have g3 : vat b L nh np H P [1, 2, 14, 2, 15, 2, 16, 2, 17, 2, 20, 2, 21, 2, 22, 2] 3 s = x3 := by
    subst f15 f13 f11 f9 f7 f5 f3 f1 f0 e16 e14 e12 e10 e8 e6 e4 e2 e1
    simp only [vat, stp_0, stp_1, stp_2, val_0, val_1, val_2, stp_w9, stp_w10, stp_w11, stp_w12, stp_w13, stp_w14, stp_w15, stp_w16, stp_w17, stp_w18]
  have g5 : vat b L nh np H P [1, 2, 14, 2, 15, 2, 16, 2, 17, 2, 20, 2, 21, 2, 22, 2] 5 s = x5 := by
    subst f15 f13 f11 f9 f7 f5 f3 f1 f0 e16 e14 e12 e10 e8 e6 e4 e2 e1
    simp only [vat, stp_0, stp_1, stp_2, val_0, val_1, val_2, stp_w9, stp_w10, stp_w11, stp_w12, stp_w13, stp_w14, stp_w15, stp_w16, stp_w17, stp_w18]
  have g7 : vat b L nh np H P [1, 2, 14, 2, 15, 2, 16, 2, 17, 2, 20, 2, 21, 2, 22, 2] 7 s = x7 := by
    subst f15 f13 f11 f9 f7 f5 f3 f1 f0 e16 e14 e12 e10 e8 e6 e4 e2 e1
    simp only [vat, stp_0, stp_1, stp_2, val_0, val_1, val_2, stp_w9, stp_w10, stp_w11, stp_w12, stp_w13, stp_w14, stp_w15, stp_w16, stp_w17, stp_w18]
  have g9 : vat b L nh np H P [1, 2, 14, 2, 15, 2, 16, 2, 17, 2, 20, 2, 21, 2, 22, 2] 9 s = x9 := by
    subst f15 f13 f11 f9 f7 f5 f3 f1 f0 e16 e14 e12 e10 e8 e6 e4 e2 e1
    simp only [vat, stp_0, stp_1, stp_2, val_0, val_1, val_2, stp_w9, stp_w10, stp_w11, stp_w12, stp_w13, stp_w14, stp_w15, stp_w16, stp_w17, stp_w18]
  have g11 : vat b L nh np H P [1, 2, 14, 2, 15, 2, 16, 2, 17, 2, 20, 2, 21, 2, 22, 2] 11 s = x11 := by
    subst f15 f13 f11 f9 f7 f5 f3 f1 f0 e16 e14 e12 e10 e8 e6 e4 e2 e1
    simp only [vat, stp_0, stp_1, stp_2, val_0, val_1, val_2, stp_w9, stp_w10, stp_w11, stp_w12, stp_w13, stp_w14, stp_w15, stp_w16, stp_w17, stp_w18]
  have g13 : vat b L nh np H P [1, 2, 14, 2, 15, 2, 16, 2, 17, 2, 20, 2, 21, 2, 22, 2] 13 s = x13 := by
    subst f15 f13 f11 f9 f7 f5 f3 f1 f0 e16 e14 e12 e10 e8 e6 e4 e2 e1
    simp only [vat, stp_0, stp_1, stp_2, val_0, val_1, val_2, stp_w9, stp_w10, stp_w11, stp_w12, stp_w13, stp_w14, stp_w15, stp_w16, stp_w17, stp_w18]
  have g15 : vat b L nh np H P [1, 2, 14, 2, 15, 2, 16, 2, 17, 2, 20, 2, 21, 2, 22, 2] 15 s = x15 := by
    subst f15 f13 f11 f9 f7 f5 f3 f1 f0 e16 e14 e12 e10 e8 e6 e4 e2 e1
    simp only [vat, stp_0, stp_1, stp_2, val_0, val_1, val_2, stp_w9, stp_w10, stp_w11, stp_w12, stp_w13, stp_w14, stp_w15, stp_w16, stp_w17, stp_w18]
  refine ⟨(q_u1 (q_u1 (q_u1 (q_u1 (q_u1 (q_u1 (q_u1 (q_u1 (q_u1 (q_u1 (q_u1 (q_u1 (q_u1 (q_u1 (q_u1 (q_u1 d 0 2) 1 x0) 7 (-1)) 8 0) 9 1) 10 0) 11 0) 12 (-1)) 8 x1) 9 x3) 10 x5) 11 x7) 12 x9) 13 x11) 14 x13) 15 x15), ?_, ?_, ?_, ?_, ?_, ?_, ?_, ?_, ?_, ?_, ?_⟩
  · rw [es]
    have h := (h.at s d).1
    simp only [fX2_readRights, fX2_begin, fX2_readRatio, fX2_readWhen, h.1, h.2.1, h.2.2, li_T, li_L, li_R, nm, bd, q_b, ne_eq, Nat.reduceEqDiff, reduceCtorEq, and_false, false_and, and_true, true_and, and_self, not_false_eq_true, not_true_eq_false, ↓reduceIte, T, tb, U2_15, U2_m15, q_u1_s, k0, k1, k2, k4, k6, k8, k10, k12, k14]
  all_goals simp only [q_u1_is, Nat.reduceEqDiff, ↓reduceIte, g0, g1, g3, g5, g7, g9, g11, g13, g15]
theorem c_rdTurn (h : CB b L nh np H P bk dr W) (hv : VI b L s.1) (hn : 1000 ≤ n) (d : Nat → Int32) : ∃ d', fX2_readTurn n 15 2 bk (U2 s (wI W 15 d)) = some ((), U2 (sts b L nh np H P [1, 13, 1, 2, 14, 2, 18, 2, 19, 2, 21, 2] s) (wI W 15 d')) ∧ d' 0 = 3 ∧ d' 1 = vat b L nh np H P [1, 13, 1, 2, 14, 2, 18, 2, 19, 2, 21, 2] 0 s ∧ d' 7 = vat b L nh np H P [1, 13, 1, 2, 14, 2, 18, 2, 19, 2, 21, 2] 2 s ∧ d' 8 = vat b L nh np H P [1, 13, 1, 2, 14, 2, 18, 2, 19, 2, 21, 2] 3 s ∧ d' 9 = vat b L nh np H P [1, 13, 1, 2, 14, 2, 18, 2, 19, 2, 21, 2] 5 s ∧ d' 10 = vat b L nh np H P [1, 13, 1, 2, 14, 2, 18, 2, 19, 2, 21, 2] 7 s ∧ d' 11 = vat b L nh np H P [1, 13, 1, 2, 14, 2, 18, 2, 19, 2, 21, 2] 9 s ∧ d' 14 = vat b L nh np H P [1, 13, 1, 2, 14, 2, 18, 2, 19, 2, 21, 2] 11 s ∧ d' 13 = vat b L nh np H P [1, 13, 1, 2, 14, 2, 18, 2, 19, 2, 21, 2] 11 s ∧ d' 15 = vat b L nh np H P [1, 13, 1, 2, 14, 2, 18, 2, 19, 2, 21, 2] 11 s := by
  have T : ∀ s d, mT (U2 s (wI W 15 d)) = sh_T := fun s d => (h.at s d).1.1
  have tb := (bk_T h.2.1).1
  have v0 := hv
  have k0 := fun d => c_kp h v0 hn d
  have v1 := (aK_go np P s).1 v0
  obtain ⟨s1, e1⟩ : ∃ t, t = aK b L np P s := ⟨_, rfl⟩
  obtain ⟨x0, f0⟩ : ∃ t, t = vK b L np P s := ⟨_, rfl⟩
  rw [← e1] at v1
  rw [← e1, ← f0] at k0
  have k1 := fun d => c_ww h v1 9 d
  have v2 := (aW_go 9 s1).1 v1
  obtain ⟨s2, e2⟩ : ∃ t, t = aW b L 9 s1 := ⟨_, rfl⟩
  rw [← e2] at k1 v2
  have k2 := fun d => c_kp h v2 hn d
  have v3 := (aK_go np P s2).1 v2
  obtain ⟨s3, e3⟩ : ∃ t, t = aK b L np P s2 := ⟨_, rfl⟩
  obtain ⟨x2, f2⟩ : ∃ t, t = vK b L np P s2 := ⟨_, rfl⟩
  rw [← e3] at v3
  rw [← e3, ← f2] at k2
  have k3 := fun d => c_nn h v3 d
  have v4 := (aN_go s3).1 v3
  obtain ⟨s4, e4⟩ : ∃ t, t = aN b L s3 := ⟨_, rfl⟩
  obtain ⟨x3, f3⟩ : ∃ t, t = vN b L s3 := ⟨_, rfl⟩
  rw [← e4] at v4
  rw [← e4, ← f3] at k3
  have k4 := fun d => c_bb h v4 10 d
  have v6 := (aN_go (aW b L 10 s4)).1 ((aW_go 10 s4).1 v4)
  obtain ⟨s6, e6⟩ : ∃ t, t = aN b L (aW b L 10 s4) := ⟨_, rfl⟩
  obtain ⟨x5, f5⟩ : ∃ t, t = vN b L (aW b L 10 s4) := ⟨_, rfl⟩
  rw [← e6] at v6
  rw [← e6, ← f5] at k4
  have k6 := fun d => c_bb h v6 14 d
  have v8 := (aN_go (aW b L 14 s6)).1 ((aW_go 14 s6).1 v6)
  obtain ⟨s8, e8⟩ : ∃ t, t = aN b L (aW b L 14 s6) := ⟨_, rfl⟩
  obtain ⟨x7, f7⟩ : ∃ t, t = vN b L (aW b L 14 s6) := ⟨_, rfl⟩
  rw [← e8] at v8
  rw [← e8, ← f7] at k6
  have k8 := fun d => c_bb h v8 15 d
  have v10 := (aN_go (aW b L 15 s8)).1 ((aW_go 15 s8).1 v8)
  obtain ⟨s10, e10⟩ : ∃ t, t = aN b L (aW b L 15 s8) := ⟨_, rfl⟩
  obtain ⟨x9, f9⟩ : ∃ t, t = vN b L (aW b L 15 s8) := ⟨_, rfl⟩
  rw [← e10] at v10
  rw [← e10, ← f9] at k8
  have k10 := fun d => c_bb h v10 17 d
  have v12 := (aN_go (aW b L 17 s10)).1 ((aW_go 17 s10).1 v10)
  obtain ⟨s12, e12⟩ : ∃ t, t = aN b L (aW b L 17 s10) := ⟨_, rfl⟩
  obtain ⟨x11, f11⟩ : ∃ t, t = vN b L (aW b L 17 s10) := ⟨_, rfl⟩
  rw [← e12] at v12
  rw [← e12, ← f11] at k10
  have es : sts b L nh np H P [1, 13, 1, 2, 14, 2, 18, 2, 19, 2, 21, 2] s = s12 := by
    subst e12 e10 e8 e6 e4 e3 e2 e1
    simp only [sts, stp_0, stp_1, stp_2, stp_w9, stp_w10, stp_w11, stp_w12, stp_w13, stp_w14, stp_w15, stp_w16, stp_w17, stp_w18]
  have g0 : vat b L nh np H P [1, 13, 1, 2, 14, 2, 18, 2, 19, 2, 21, 2] 0 s = x0 := by
    subst f11 f9 f7 f5 f3 f2 f0 e12 e10 e8 e6 e4 e3 e2 e1
    simp only [vat, stp_0, stp_1, stp_2, val_0, val_1, val_2, stp_w9, stp_w10, stp_w11, stp_w12, stp_w13, stp_w14, stp_w15, stp_w16, stp_w17, stp_w18]
  have g2 : vat b L nh np H P [1, 13, 1, 2, 14, 2, 18, 2, 19, 2, 21, 2] 2 s = x2 := by
    subst f11 f9 f7 f5 f3 f2 f0 e12 e10 e8 e6 e4 e3 e2 e1
    simp only [vat, stp_0, stp_1, stp_2, val_0, val_1, val_2, stp_w9, stp_w10, stp_w11, stp_w12, stp_w13, stp_w14, stp_w15, stp_w16, stp_w17, stp_w18]
  have g3 : vat b L nh np H P [1, 13, 1, 2, 14, 2, 18, 2, 19, 2, 21, 2] 3 s = x3 := by
    subst f11 f9 f7 f5 f3 f2 f0 e12 e10 e8 e6 e4 e3 e2 e1
    simp only [vat, stp_0, stp_1, stp_2, val_0, val_1, val_2, stp_w9, stp_w10, stp_w11, stp_w12, stp_w13, stp_w14, stp_w15, stp_w16, stp_w17, stp_w18]
  have g5 : vat b L nh np H P [1, 13, 1, 2, 14, 2, 18, 2, 19, 2, 21, 2] 5 s = x5 := by
    subst f11 f9 f7 f5 f3 f2 f0 e12 e10 e8 e6 e4 e3 e2 e1
    simp only [vat, stp_0, stp_1, stp_2, val_0, val_1, val_2, stp_w9, stp_w10, stp_w11, stp_w12, stp_w13, stp_w14, stp_w15, stp_w16, stp_w17, stp_w18]
  have g7 : vat b L nh np H P [1, 13, 1, 2, 14, 2, 18, 2, 19, 2, 21, 2] 7 s = x7 := by
    subst f11 f9 f7 f5 f3 f2 f0 e12 e10 e8 e6 e4 e3 e2 e1
    simp only [vat, stp_0, stp_1, stp_2, val_0, val_1, val_2, stp_w9, stp_w10, stp_w11, stp_w12, stp_w13, stp_w14, stp_w15, stp_w16, stp_w17, stp_w18]
  have g9 : vat b L nh np H P [1, 13, 1, 2, 14, 2, 18, 2, 19, 2, 21, 2] 9 s = x9 := by
    subst f11 f9 f7 f5 f3 f2 f0 e12 e10 e8 e6 e4 e3 e2 e1
    simp only [vat, stp_0, stp_1, stp_2, val_0, val_1, val_2, stp_w9, stp_w10, stp_w11, stp_w12, stp_w13, stp_w14, stp_w15, stp_w16, stp_w17, stp_w18]
  have g11 : vat b L nh np H P [1, 13, 1, 2, 14, 2, 18, 2, 19, 2, 21, 2] 11 s = x11 := by
    subst f11 f9 f7 f5 f3 f2 f0 e12 e10 e8 e6 e4 e3 e2 e1
    simp only [vat, stp_0, stp_1, stp_2, val_0, val_1, val_2, stp_w9, stp_w10, stp_w11, stp_w12, stp_w13, stp_w14, stp_w15, stp_w16, stp_w17, stp_w18]
  refine ⟨(q_u1 (q_u1 (q_u1 (q_u1 (q_u1 (q_u1 (q_u1 (q_u1 (q_u1 (q_u1 (q_u1 (q_u1 (q_u1 (q_u1 (q_u1 (q_u1 d 0 3) 1 x0) 7 (-1)) 8 0) 9 1) 10 0) 11 0) 12 (-1)) 7 x2) 8 x3) 9 x5) 10 x7) 11 x9) 14 x11) 13 x11) 15 x11), ?_, ?_, ?_, ?_, ?_, ?_, ?_, ?_, ?_, ?_, ?_⟩
  · rw [es]
    have h := (h.at s d).1
    simp only [fX2_readTurn, fX2_begin, fX2_readRatio, fX2_readWhen, h.1, h.2.1, h.2.2, li_T, li_L, li_R, nm, bd, q_b, ne_eq, Nat.reduceEqDiff, reduceCtorEq, and_false, false_and, and_true, true_and, and_self, not_false_eq_true, not_true_eq_false, ↓reduceIte, T, tb, U2_15, U2_m15, q_u1_is, k0, k1, k2, k3, k4, k6, k8, k10]
  all_goals simp only [q_u1_is, Nat.reduceEqDiff, ↓reduceIte, g0, g2, g3, g5, g7, g9, g11]
theorem c_rdChoice (h : CB b L nh np H P bk dr W) (hv : VI b L s.1) (hn : 1000 ≤ n) (d : Nat → Int32) : ∃ d', fX2_readChoice n 15 2 bk (U2 s (wI W 15 d)) = some ((), U2 (sts b L nh np H P [2, 0, 2, 2] s) (wI W 15 d')) ∧ d' 0 = 5 ∧ d' 16 = vat b L nh np H P [2, 0, 2, 2] 0 s ∧ d' 2 = vat b L nh np H P [2, 0, 2, 2] 1 s ∧ d' 17 = vat b L nh np H P [2, 0, 2, 2] 2 s ∧ d' 18 = vat b L nh np H P [2, 0, 2, 2] 3 s := by
  have T : ∀ s d, mT (U2 s (wI W 15 d)) = sh_T := fun s d => (h.at s d).1.1
  have tb := (bk_T h.2.1).1
  have v0 := hv
  have k0 := fun d => c_nn h v0 d
  have v1 := (aN_go s).1 v0
  obtain ⟨s1, e1⟩ : ∃ t, t = aN b L s := ⟨_, rfl⟩
  obtain ⟨x0, f0⟩ : ∃ t, t = vN b L s := ⟨_, rfl⟩
  rw [← e1] at v1
  rw [← e1, ← f0] at k0
  have k1 := fun d => c_kh h v1 hn d
  have v2 := (aK_go nh H s1).1 v1
  obtain ⟨s2, e2⟩ : ∃ t, t = aK b L nh H s1 := ⟨_, rfl⟩
  obtain ⟨x1, f1⟩ : ∃ t, t = vK b L nh H s1 := ⟨_, rfl⟩
  rw [← e2] at v2
  rw [← e2, ← f1] at k1
  have k2 := fun d => c_nn h v2 d
  have v3 := (aN_go s2).1 v2
  obtain ⟨s3, e3⟩ : ∃ t, t = aN b L s2 := ⟨_, rfl⟩
  obtain ⟨x2, f2⟩ : ∃ t, t = vN b L s2 := ⟨_, rfl⟩
  rw [← e3] at v3
  rw [← e3, ← f2] at k2
  have k3 := fun d => c_nn h v3 d
  have v4 := (aN_go s3).1 v3
  obtain ⟨s4, e4⟩ : ∃ t, t = aN b L s3 := ⟨_, rfl⟩
  obtain ⟨x3, f3⟩ : ∃ t, t = vN b L s3 := ⟨_, rfl⟩
  rw [← e4] at v4
  rw [← e4, ← f3] at k3
  have es : sts b L nh np H P [2, 0, 2, 2] s = s4 := by
    subst e4 e3 e2 e1
    simp only [sts, stp_0, stp_1, stp_2, stp_w9, stp_w10, stp_w11, stp_w12, stp_w13, stp_w14, stp_w15, stp_w16, stp_w17, stp_w18]
  have g0 : vat b L nh np H P [2, 0, 2, 2] 0 s = x0 := by
    subst f3 f2 f1 f0 e4 e3 e2 e1
    simp only [vat, stp_0, stp_1, stp_2, val_0, val_1, val_2, stp_w9, stp_w10, stp_w11, stp_w12, stp_w13, stp_w14, stp_w15, stp_w16, stp_w17, stp_w18]
  have g1 : vat b L nh np H P [2, 0, 2, 2] 1 s = x1 := by
    subst f3 f2 f1 f0 e4 e3 e2 e1
    simp only [vat, stp_0, stp_1, stp_2, val_0, val_1, val_2, stp_w9, stp_w10, stp_w11, stp_w12, stp_w13, stp_w14, stp_w15, stp_w16, stp_w17, stp_w18]
  have g2 : vat b L nh np H P [2, 0, 2, 2] 2 s = x2 := by
    subst f3 f2 f1 f0 e4 e3 e2 e1
    simp only [vat, stp_0, stp_1, stp_2, val_0, val_1, val_2, stp_w9, stp_w10, stp_w11, stp_w12, stp_w13, stp_w14, stp_w15, stp_w16, stp_w17, stp_w18]
  have g3 : vat b L nh np H P [2, 0, 2, 2] 3 s = x3 := by
    subst f3 f2 f1 f0 e4 e3 e2 e1
    simp only [vat, stp_0, stp_1, stp_2, val_0, val_1, val_2, stp_w9, stp_w10, stp_w11, stp_w12, stp_w13, stp_w14, stp_w15, stp_w16, stp_w17, stp_w18]
  refine ⟨(q_u1 (q_u1 (q_u1 (q_u1 (q_u1 (q_u1 (q_u1 (q_u1 (q_u1 (q_u1 (q_u1 (q_u1 d 0 5) 1 (-1)) 7 (-1)) 8 0) 9 1) 10 0) 11 0) 12 (-1)) 16 x0) 2 x1) 17 x2) 18 x3), ?_, ?_, ?_, ?_, ?_, ?_⟩
  · rw [es]
    have h := (h.at s d).1
    simp only [fX2_readChoice, fX2_begin, fX2_readRatio, fX2_readWhen, h.1, h.2.1, h.2.2, li_T, li_L, li_R, nm, bd, q_b, ne_eq, Nat.reduceEqDiff, reduceCtorEq, and_false, false_and, and_true, true_and, and_self, not_false_eq_true, not_true_eq_false, ↓reduceIte, T, tb, U2_15, U2_m15, q_u1_s, k0, k1, k2, k3]
  all_goals simp only [q_u1_is, Nat.reduceEqDiff, ↓reduceIte, g0, g1, g2, g3]
end
