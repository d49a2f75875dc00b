/-! TEXTS: the class reads the deed that stands next (printed by mk97n.py) -/
section
variable {b : Nat → Int32} {L : Nat} {nh np : Nat → List Nat} {H P bk dr n : Nat} {W Z : Mm} {s : St3}
def opsL (w : Nat) : List Nat := if w = 3 then [0, 0, 1, 2, 2, 3] else if w = 5 then [1, 2, 20, 2, 21, 2, 22, 2] else if w = 6 then [1, 2, 14, 2, 19, 2, 20, 2, 21, 2, 22, 2] else if w = 7 then [1, 2, 14, 2, 15, 2, 16, 2, 17, 2, 20, 2, 21, 2, 22, 2] else if w = 8 then [1, 13, 1, 2, 14, 2, 18, 2, 19, 2, 21, 2] else if w = 19 then [2, 0, 2, 2] else if w = 20 then [2] else []
/-- the deed that was read -/
def CD (w : Nat) (V : Nat → Int32) (d : Nat → Int32) : Prop := (w = 3 → d 0 = 4 ∧ d 2 = V 0 ∧ d 3 = V 1 ∧ d 1 = V 2 ∧ d 4 = V 3 ∧ d 5 = V 4 ∧ d 6 = V 5) ∧ (w = 5 → d 0 = 0 ∧ d 1 = V 0 ∧ d 10 = V 1 ∧ d 13 = V 3 ∧ d 14 = V 5 ∧ d 15 = V 7 ∧ d 8 = 0 ∧ d 9 = 1 ∧ d 11 = 0) ∧ (w = 6 → d 0 = 1 ∧ d 1 = V 0 ∧ d 8 = V 1 ∧ d 9 = V 3 ∧ d 11 = V 5 ∧ d 13 = V 7 ∧ d 14 = V 9 ∧ d 15 = V 11 ∧ d 10 = 0) ∧ (w = 7 → d 0 = 2 ∧ d 1 = V 0 ∧ d 8 = V 1 ∧ d 9 = V 3 ∧ d 10 = V 5 ∧ d 11 = V 7 ∧ d 12 = V 9 ∧ d 13 = V 11 ∧ d 14 = V 13 ∧ d 15 = V 15) ∧ (w = 8 → d 0 = 3 ∧ d 1 = V 0 ∧ d 7 = V 2 ∧ d 8 = V 3 ∧ d 9 = V 5 ∧ d 10 = V 7 ∧ d 11 = V 9 ∧ d 14 = V 11 ∧ d 13 = V 11 ∧ d 15 = V 11) ∧ (w = 19 → d 0 = 5 ∧ d 16 = V 0 ∧ d 2 = V 1 ∧ d 17 = V 2 ∧ d 18 = V 3) ∧ (w = 20 → d 0 = 6 ∧ d 19 = V 0)
/-- what the reference keeps of it -/
def RA (w : Nat) (V : Nat → Int32) (a : Nat → Int32) : Prop := (w = 3 → a 0 = V 0 ∧ a 1 = V 1 ∧ a 2 = V 2 ∧ a 3 = V 3 ∧ a 4 = V 4 ∧ a 5 = V 5) ∧ (w = 5 → a 0 = V 0 ∧ a 1 = V 1 ∧ a 2 = V 3 ∧ a 3 = V 5 ∧ a 4 = V 7) ∧ (w = 6 → a 0 = V 0 ∧ a 1 = V 1 ∧ a 2 = V 3 ∧ a 3 = V 5 ∧ a 4 = V 7 ∧ a 5 = V 9 ∧ a 6 = V 11) ∧ (w = 7 → a 0 = V 0 ∧ a 1 = V 1 ∧ a 2 = V 3 ∧ a 3 = V 5 ∧ a 4 = V 7 ∧ a 5 = V 9 ∧ a 6 = V 11 ∧ a 7 = V 13 ∧ a 8 = V 15) ∧ (w = 8 → a 0 = V 0 ∧ a 1 = V 2 ∧ a 2 = V 3 ∧ a 3 = V 5 ∧ a 4 = V 7 ∧ a 5 = V 9 ∧ a 6 = V 11) ∧ (w = 19 → a 0 = V 0 ∧ a 1 = V 1 ∧ a 2 = V 2 ∧ a 3 = V 3) ∧ (w = 20 → a 0 = V 0)
def isW (w : Nat) : Prop := w = 3 ∨ w = 5 ∨ w = 6 ∨ w = 7 ∨ w = 8 ∨ w = 19 ∨ w = 20
theorem opsL_3 : opsL 3 = [0, 0, 1, 2, 2, 3] := rfl
theorem opsL_5 : opsL 5 = [1, 2, 20, 2, 21, 2, 22, 2] := rfl
theorem opsL_6 : opsL 6 = [1, 2, 14, 2, 19, 2, 20, 2, 21, 2, 22, 2] := rfl
theorem opsL_7 : opsL 7 = [1, 2, 14, 2, 15, 2, 16, 2, 17, 2, 20, 2, 21, 2, 22, 2] := rfl
theorem opsL_8 : opsL 8 = [1, 13, 1, 2, 14, 2, 18, 2, 19, 2, 21, 2] := rfl
theorem opsL_19 : opsL 19 = [2, 0, 2, 2] := rfl
theorem opsL_20 : opsL 20 = [2] := rfl
theorem aW_t {k : Int32} (z : s.2.1 = 0 ∧ AW b L k s.1) : aW b L k s = (s.1 + 1, s.2.1, s.2.2) := by rw [← ((aP_W s).1 z), aP_t z]
theorem f_N (z : s.2.1 ≠ 0) : aN b L s = s ∧ aS b L s = s := by
  have e : aF b L 1 s = s := by unfold aF; rw [if_neg z]
  unfold aN aS
  rw [e]
  have q : ∀ c : Prop, [Decidable c] → (if c then s else s) = s := fun c _ => by split <;> rfl
  rw [q, q]
  unfold aA
  rw [if_neg z]
  exact ⟨rfl, rfl⟩
theorem c_ss (h : CB b L nh np H P bk dr W) (hv : VI b L s.1) (d : Nat → Int32) : fX9_takeStop 2 (U2 s (wI W 15 d)) = some ((), U2 (aS b L s) (wI W 15 d)) := c_stop (h.1.w15 d) hv
theorem AW_o {k j : Int32} {i : Nat} (h : AW b L k i) (hne : k ≠ j) : ¬ AW b L j i := fun z => hne (h.2.symm.trans z.2)
theorem c_from3 (h : CB b L nh np H P bk dr W) (hv : VI b L s.1) (hn : 1000 ≤ n) (hf : s.2.1 = 0) (hw : AW b L 3 s.1) (d : Nat → Int32) : ∃ d', fX2_readFrom n 15 2 bk (U2 s (wI W 15 d)) = some ((), U2 (aS b L (sts b L nh np H P (opsL 3) (s.1 + 1, s.2.1, s.2.2))) (wI W 15 d')) ∧ CD 3 (fun j => vat b L nh np H P (opsL 3) j (s.1 + 1, s.2.1, s.2.2)) d' := by
  have T : ∀ s d, mT (U2 s (wI W 15 d)) = sh_T := fun s d => (h.at s d).1.1
  have hv1 : VI b L (s.1 + 1, s.2.1, s.2.2).1 := hv.kd0 (by rw [hw.1]; decide)
  have k3 := c_pp h hv 3 d
  rw [bo_t ⟨hf, hw⟩, aP_t ⟨hf, hw⟩] at k3
  obtain ⟨d2, e2, cd⟩ := c_rdTrade (n := n) h hv1 hn d
  have e3 := c_ss h ((sts_go (nh := nh) (np := np) (H := H) (P := P) [0, 0, 1, 2, 2, 3] (s.1 + 1, s.2.1, s.2.2)).1 hv1) d2
  refine ⟨d2, ?_, ?_⟩
  · rw [opsL_3]
    have h := (h.at s d).1
    simp only [fX2_readFrom, fX2_readFrom_L127, h.1, h.2.1, h.2.2, li_T, li_L, li_R, nm, bd, q_b, ne_eq, Nat.reduceEqDiff, reduceCtorEq, and_false, false_and, and_true, true_and, and_self, not_false_eq_true, not_true_eq_false, ↓reduceIte, T, b1, k3, e2, e3]
  · rw [opsL_3]
    exact ⟨fun _ => cd, fun z => absurd z (by decide), fun z => absurd z (by decide), fun z => absurd z (by decide), fun z => absurd z (by decide), fun z => absurd z (by decide), fun z => absurd z (by decide)⟩
theorem c_from5 (h : CB b L nh np H P bk dr W) (hv : VI b L s.1) (hn : 1000 ≤ n) (hf : s.2.1 = 0) (hw : AW b L 5 s.1) (d : Nat → Int32) : ∃ d', fX2_readFrom n 15 2 bk (U2 s (wI W 15 d)) = some ((), U2 (aS b L (sts b L nh np H P (opsL 5) (s.1 + 1, s.2.1, s.2.2))) (wI W 15 d')) ∧ CD 5 (fun j => vat b L nh np H P (opsL 5) j (s.1 + 1, s.2.1, s.2.2)) d' := by
  have T : ∀ s d, mT (U2 s (wI W 15 d)) = sh_T := fun s d => (h.at s d).1.1
  have hv1 : VI b L (s.1 + 1, s.2.1, s.2.2).1 := hv.kd0 (by rw [hw.1]; decide)
  have k3 := c_pp h hv 3 d
  rw [bo_f (fun z => AW_o hw (show (5 : Int32) ≠ 3 by decide) z.2), aP_n (fun z => AW_o hw (show (5 : Int32) ≠ 3 by decide) z.2)] at k3
  have k5 := c_pp h hv 5 d
  rw [bo_t ⟨hf, hw⟩, aP_t ⟨hf, hw⟩] at k5
  obtain ⟨d2, e2, cd⟩ := c_rdMoney (n := n) h hv1 hn d
  have e3 := c_ss h ((sts_go (nh := nh) (np := np) (H := H) (P := P) [1, 2, 20, 2, 21, 2, 22, 2] (s.1 + 1, s.2.1, s.2.2)).1 hv1) d2
  refine ⟨d2, ?_, ?_⟩
  · rw [opsL_5]
    have h := (h.at s d).1
    simp only [fX2_readFrom, fX2_readFrom_L127, h.1, h.2.1, h.2.2, li_T, li_L, li_R, nm, bd, q_b, ne_eq, Nat.reduceEqDiff, reduceCtorEq, and_false, false_and, and_true, true_and, and_self, not_false_eq_true, not_true_eq_false, ↓reduceIte, T, b1, k3, k5, e2, e3]
  · rw [opsL_5]
    exact ⟨fun z => absurd z (by decide), fun _ => cd, fun z => absurd z (by decide), fun z => absurd z (by decide), fun z => absurd z (by decide), fun z => absurd z (by decide), fun z => absurd z (by decide)⟩
theorem c_from6 (h : CB b L nh np H P bk dr W) (hv : VI b L s.1) (hn : 1000 ≤ n) (hf : s.2.1 = 0) (hw : AW b L 6 s.1) (d : Nat → Int32) : ∃ d', fX2_readFrom n 15 2 bk (U2 s (wI W 15 d)) = some ((), U2 (aS b L (sts b L nh np H P (opsL 6) (s.1 + 1, s.2.1, s.2.2))) (wI W 15 d')) ∧ CD 6 (fun j => vat b L nh np H P (opsL 6) j (s.1 + 1, s.2.1, s.2.2)) d' := by
  have T : ∀ s d, mT (U2 s (wI W 15 d)) = sh_T := fun s d => (h.at s d).1.1
  have hv1 : VI b L (s.1 + 1, s.2.1, s.2.2).1 := hv.kd0 (by rw [hw.1]; decide)
  have k3 := c_pp h hv 3 d
  rw [bo_f (fun z => AW_o hw (show (6 : Int32) ≠ 3 by decide) z.2), aP_n (fun z => AW_o hw (show (6 : Int32) ≠ 3 by decide) z.2)] at k3
  have k5 := c_pp h hv 5 d
  rw [bo_f (fun z => AW_o hw (show (6 : Int32) ≠ 5 by decide) z.2), aP_n (fun z => AW_o hw (show (6 : Int32) ≠ 5 by decide) z.2)] at k5
  have k6 := c_pp h hv 6 d
  rw [bo_t ⟨hf, hw⟩, aP_t ⟨hf, hw⟩] at k6
  obtain ⟨d2, e2, cd⟩ := c_rdGift (n := n) h hv1 hn d
  have e3 := c_ss h ((sts_go (nh := nh) (np := np) (H := H) (P := P) [1, 2, 14, 2, 19, 2, 20, 2, 21, 2, 22, 2] (s.1 + 1, s.2.1, s.2.2)).1 hv1) d2
  refine ⟨d2, ?_, ?_⟩
  · rw [opsL_6]
    have h := (h.at s d).1
    simp only [fX2_readFrom, fX2_readFrom_L127, h.1, h.2.1, h.2.2, li_T, li_L, li_R, nm, bd, q_b, ne_eq, Nat.reduceEqDiff, reduceCtorEq, and_false, false_and, and_true, true_and, and_self, not_false_eq_true, not_true_eq_false, ↓reduceIte, T, b1, k3, k5, k6, e2, e3]
  · rw [opsL_6]
    exact ⟨fun z => absurd z (by decide), fun z => absurd z (by decide), fun _ => cd, fun z => absurd z (by decide), fun z => absurd z (by decide), fun z => absurd z (by decide), fun z => absurd z (by decide)⟩
theorem c_from7 (h : CB b L nh np H P bk dr W) (hv : VI b L s.1) (hn : 1000 ≤ n) (hf : s.2.1 = 0) (hw : AW b L 7 s.1) (d : Nat → Int32) : ∃ d', fX2_readFrom n 15 2 bk (U2 s (wI W 15 d)) = some ((), U2 (aS b L (sts b L nh np H P (opsL 7) (s.1 + 1, s.2.1, s.2.2))) (wI W 15 d')) ∧ CD 7 (fun j => vat b L nh np H P (opsL 7) j (s.1 + 1, s.2.1, s.2.2)) d' := by
  have T : ∀ s d, mT (U2 s (wI W 15 d)) = sh_T := fun s d => (h.at s d).1.1
  have hv1 : VI b L (s.1 + 1, s.2.1, s.2.2).1 := hv.kd0 (by rw [hw.1]; decide)
  have k3 := c_pp h hv 3 d
  rw [bo_f (fun z => AW_o hw (show (7 : Int32) ≠ 3 by decide) z.2), aP_n (fun z => AW_o hw (show (7 : Int32) ≠ 3 by decide) z.2)] at k3
  have k5 := c_pp h hv 5 d
  rw [bo_f (fun z => AW_o hw (show (7 : Int32) ≠ 5 by decide) z.2), aP_n (fun z => AW_o hw (show (7 : Int32) ≠ 5 by decide) z.2)] at k5
  have k6 := c_pp h hv 6 d
  rw [bo_f (fun z => AW_o hw (show (7 : Int32) ≠ 6 by decide) z.2), aP_n (fun z => AW_o hw (show (7 : Int32) ≠ 6 by decide) z.2)] at k6
  have k7 := c_pp h hv 7 d
  rw [bo_t ⟨hf, hw⟩, aP_t ⟨hf, hw⟩] at k7
  obtain ⟨d2, e2, cd⟩ := c_rdRights (n := n) h hv1 hn d
  have e3 := c_ss h ((sts_go (nh := nh) (np := np) (H := H) (P := P) [1, 2, 14, 2, 15, 2, 16, 2, 17, 2, 20, 2, 21, 2, 22, 2] (s.1 + 1, s.2.1, s.2.2)).1 hv1) d2
  refine ⟨d2, ?_, ?_⟩
  · rw [opsL_7]
    have h := (h.at s d).1
    simp only [fX2_readFrom, fX2_readFrom_L127, h.1, h.2.1, h.2.2, li_T, li_L, li_R, nm, bd, q_b, ne_eq, Nat.reduceEqDiff, reduceCtorEq, and_false, false_and, and_true, true_and, and_self, not_false_eq_true, not_true_eq_false, ↓reduceIte, T, b1, k3, k5, k6, k7, e2, e3]
  · rw [opsL_7]
    exact ⟨fun z => absurd z (by decide), fun z => absurd z (by decide), fun z => absurd z (by decide), fun _ => cd, fun z => absurd z (by decide), fun z => absurd z (by decide), fun z => absurd z (by decide)⟩
theorem c_from8 (h : CB b L nh np H P bk dr W) (hv : VI b L s.1) (hn : 1000 ≤ n) (hf : s.2.1 = 0) (hw : AW b L 8 s.1) (d : Nat → Int32) : ∃ d', fX2_readFrom n 15 2 bk (U2 s (wI W 15 d)) = some ((), U2 (aS b L (sts b L nh np H P (opsL 8) (s.1 + 1, s.2.1, s.2.2))) (wI W 15 d')) ∧ CD 8 (fun j => vat b L nh np H P (opsL 8) j (s.1 + 1, s.2.1, s.2.2)) d' := by
  have T : ∀ s d, mT (U2 s (wI W 15 d)) = sh_T := fun s d => (h.at s d).1.1
  have hv1 : VI b L (s.1 + 1, s.2.1, s.2.2).1 := hv.kd0 (by rw [hw.1]; decide)
  have k3 := c_pp h hv 3 d
  rw [bo_f (fun z => AW_o hw (show (8 : Int32) ≠ 3 by decide) z.2), aP_n (fun z => AW_o hw (show (8 : Int32) ≠ 3 by decide) z.2)] at k3
  have k5 := c_pp h hv 5 d
  rw [bo_f (fun z => AW_o hw (show (8 : Int32) ≠ 5 by decide) z.2), aP_n (fun z => AW_o hw (show (8 : Int32) ≠ 5 by decide) z.2)] at k5
  have k6 := c_pp h hv 6 d
  rw [bo_f (fun z => AW_o hw (show (8 : Int32) ≠ 6 by decide) z.2), aP_n (fun z => AW_o hw (show (8 : Int32) ≠ 6 by decide) z.2)] at k6
  have k7 := c_pp h hv 7 d
  rw [bo_f (fun z => AW_o hw (show (8 : Int32) ≠ 7 by decide) z.2), aP_n (fun z => AW_o hw (show (8 : Int32) ≠ 7 by decide) z.2)] at k7
  have k8 := c_pp h hv 8 d
  rw [bo_t ⟨hf, hw⟩, aP_t ⟨hf, hw⟩] at k8
  obtain ⟨d2, e2, cd⟩ := c_rdTurn (n := n) h hv1 hn d
  have e3 := c_ss h ((sts_go (nh := nh) (np := np) (H := H) (P := P) [1, 13, 1, 2, 14, 2, 18, 2, 19, 2, 21, 2] (s.1 + 1, s.2.1, s.2.2)).1 hv1) d2
  refine ⟨d2, ?_, ?_⟩
  · rw [opsL_8]
    have h := (h.at s d).1
    simp only [fX2_readFrom, fX2_readFrom_L127, h.1, h.2.1, h.2.2, li_T, li_L, li_R, nm, bd, q_b, ne_eq, Nat.reduceEqDiff, reduceCtorEq, and_false, false_and, and_true, true_and, and_self, not_false_eq_true, not_true_eq_false, ↓reduceIte, T, b1, k3, k5, k6, k7, k8, e2, e3]
  · rw [opsL_8]
    exact ⟨fun z => absurd z (by decide), fun z => absurd z (by decide), fun z => absurd z (by decide), fun z => absurd z (by decide), fun _ => cd, fun z => absurd z (by decide), fun z => absurd z (by decide)⟩
theorem c_from19 (h : CB b L nh np H P bk dr W) (hv : VI b L s.1) (hn : 1000 ≤ n) (hf : s.2.1 = 0) (hw : AW b L 19 s.1) (d : Nat → Int32) : ∃ d', fX2_readFrom n 15 2 bk (U2 s (wI W 15 d)) = some ((), U2 (aS b L (sts b L nh np H P (opsL 19) (s.1 + 1, s.2.1, s.2.2))) (wI W 15 d')) ∧ CD 19 (fun j => vat b L nh np H P (opsL 19) j (s.1 + 1, s.2.1, s.2.2)) d' := by
  have T : ∀ s d, mT (U2 s (wI W 15 d)) = sh_T := fun s d => (h.at s d).1.1
  have hv1 : VI b L (s.1 + 1, s.2.1, s.2.2).1 := hv.kd0 (by rw [hw.1]; decide)
  have k3 := c_pp h hv 3 d
  rw [bo_f (fun z => AW_o hw (show (19 : Int32) ≠ 3 by decide) z.2), aP_n (fun z => AW_o hw (show (19 : Int32) ≠ 3 by decide) z.2)] at k3
  have k5 := c_pp h hv 5 d
  rw [bo_f (fun z => AW_o hw (show (19 : Int32) ≠ 5 by decide) z.2), aP_n (fun z => AW_o hw (show (19 : Int32) ≠ 5 by decide) z.2)] at k5
  have k6 := c_pp h hv 6 d
  rw [bo_f (fun z => AW_o hw (show (19 : Int32) ≠ 6 by decide) z.2), aP_n (fun z => AW_o hw (show (19 : Int32) ≠ 6 by decide) z.2)] at k6
  have k7 := c_pp h hv 7 d
  rw [bo_f (fun z => AW_o hw (show (19 : Int32) ≠ 7 by decide) z.2), aP_n (fun z => AW_o hw (show (19 : Int32) ≠ 7 by decide) z.2)] at k7
  have k8 := c_pp h hv 8 d
  rw [bo_f (fun z => AW_o hw (show (19 : Int32) ≠ 8 by decide) z.2), aP_n (fun z => AW_o hw (show (19 : Int32) ≠ 8 by decide) z.2)] at k8
  have k19 := c_pp h hv 19 d
  rw [bo_t ⟨hf, hw⟩, aP_t ⟨hf, hw⟩] at k19
  obtain ⟨d2, e2, cd⟩ := c_rdChoice (n := n) h hv1 hn d
  have e3 := c_ss h ((sts_go (nh := nh) (np := np) (H := H) (P := P) [2, 0, 2, 2] (s.1 + 1, s.2.1, s.2.2)).1 hv1) d2
  refine ⟨d2, ?_, ?_⟩
  · rw [opsL_19]
    have h := (h.at s d).1
    simp only [fX2_readFrom, fX2_readFrom_L127, h.1, h.2.1, h.2.2, li_T, li_L, li_R, nm, bd, q_b, ne_eq, Nat.reduceEqDiff, reduceCtorEq, and_false, false_and, and_true, true_and, and_self, not_false_eq_true, not_true_eq_false, ↓reduceIte, T, b1, k3, k5, k6, k7, k8, k19, e2, e3]
  · rw [opsL_19]
    exact ⟨fun z => absurd z (by decide), fun z => absurd z (by decide), fun z => absurd z (by decide), fun z => absurd z (by decide), fun z => absurd z (by decide), fun _ => cd, fun z => absurd z (by decide)⟩
theorem c_from20 (h : CB b L nh np H P bk dr W) (hv : VI b L s.1) (hn : 1000 ≤ n) (hf : s.2.1 = 0) (hw : AW b L 20 s.1) (d : Nat → Int32) : ∃ d', fX2_readFrom n 15 2 bk (U2 s (wI W 15 d)) = some ((), U2 (aS b L (sts b L nh np H P (opsL 20) (s.1 + 1, s.2.1, s.2.2))) (wI W 15 d')) ∧ CD 20 (fun j => vat b L nh np H P (opsL 20) j (s.1 + 1, s.2.1, s.2.2)) d' := by
  have T : ∀ s d, mT (U2 s (wI W 15 d)) = sh_T := fun s d => (h.at s d).1.1
  have hv1 : VI b L (s.1 + 1, s.2.1, s.2.2).1 := hv.kd0 (by rw [hw.1]; decide)
  have k3 := c_pp h hv 3 d
  rw [bo_f (fun z => AW_o hw (show (20 : Int32) ≠ 3 by decide) z.2), aP_n (fun z => AW_o hw (show (20 : Int32) ≠ 3 by decide) z.2)] at k3
  have k5 := c_pp h hv 5 d
  rw [bo_f (fun z => AW_o hw (show (20 : Int32) ≠ 5 by decide) z.2), aP_n (fun z => AW_o hw (show (20 : Int32) ≠ 5 by decide) z.2)] at k5
  have k6 := c_pp h hv 6 d
  rw [bo_f (fun z => AW_o hw (show (20 : Int32) ≠ 6 by decide) z.2), aP_n (fun z => AW_o hw (show (20 : Int32) ≠ 6 by decide) z.2)] at k6
  have k7 := c_pp h hv 7 d
  rw [bo_f (fun z => AW_o hw (show (20 : Int32) ≠ 7 by decide) z.2), aP_n (fun z => AW_o hw (show (20 : Int32) ≠ 7 by decide) z.2)] at k7
  have k8 := c_pp h hv 8 d
  rw [bo_f (fun z => AW_o hw (show (20 : Int32) ≠ 8 by decide) z.2), aP_n (fun z => AW_o hw (show (20 : Int32) ≠ 8 by decide) z.2)] at k8
  have k19 := c_pp h hv 19 d
  rw [bo_f (fun z => AW_o hw (show (20 : Int32) ≠ 19 by decide) z.2), aP_n (fun z => AW_o hw (show (20 : Int32) ≠ 19 by decide) z.2)] at k19
  have kw := c_ww h hv 20 d
  rw [aW_t ⟨hf, hw⟩] at kw
  have e2 := fun d => c_nn h hv1 d
  have es : sts b L nh np H P [2] (s.1 + 1, s.2.1, s.2.2) = aN b L (s.1 + 1, s.2.1, s.2.2) := by simp only [sts, stp_2]
  have ev : vat b L nh np H P [2] 0 (s.1 + 1, s.2.1, s.2.2) = vN b L (s.1 + 1, s.2.1, s.2.2) := by simp only [vat, val_2]
  have e3 := fun d => c_ss h ((aN_go (s.1 + 1, s.2.1, s.2.2)).1 hv1) d
  have cd : (q_u1 (q_u1 (q_u1 (q_u1 (q_u1 (q_u1 (q_u1 (q_u1 (q_u1 d 0 6) 1 (-1)) 7 (-1)) 8 0) 9 1) 10 0) 11 0) 12 (-1)) 19 (vN b L (s.1 + 1, s.2.1, s.2.2))) 0 = 6 ∧ (q_u1 (q_u1 (q_u1 (q_u1 (q_u1 (q_u1 (q_u1 (q_u1 (q_u1 d 0 6) 1 (-1)) 7 (-1)) 8 0) 9 1) 10 0) 11 0) 12 (-1)) 19 (vN b L (s.1 + 1, s.2.1, s.2.2))) 19 = vat b L nh np H P [2] 0 (s.1 + 1, s.2.1, s.2.2) := by
    rw [ev]
    refine ⟨?_, ?_⟩ <;> simp only [q_u1_is, Nat.reduceEqDiff, ↓reduceIte]
  refine ⟨(q_u1 (q_u1 (q_u1 (q_u1 (q_u1 (q_u1 (q_u1 (q_u1 (q_u1 d 0 6) 1 (-1)) 7 (-1)) 8 0) 9 1) 10 0) 11 0) 12 (-1)) 19 (vN b L (s.1 + 1, s.2.1, s.2.2))), ?_, ?_⟩
  · rw [opsL_20, es]
    have h := (h.at s d).1
    simp only [fX2_readFrom, fX2_readFrom_L127, fX2_begin, h.1, h.2.1, h.2.2, li_T, li_L, li_R, nm, bd, q_b, ne_eq, Nat.reduceEqDiff, reduceCtorEq, and_false, false_and, and_true, true_and, and_self, not_false_eq_true, not_true_eq_false, ↓reduceIte, T, b1, U2_15, k3, k5, k6, k7, k8, k19, kw, e2, e3]
  · rw [opsL_20]
    exact ⟨fun z => absurd z (by decide), fun z => absurd z (by decide), fun z => absurd z (by decide), fun z => absurd z (by decide), fun z => absurd z (by decide), fun z => absurd z (by decide), fun _ => cd⟩
theorem c_fromX (h : CB b L nh np H P bk dr W) (hv : VI b L s.1) (hf : s.2.1 = 0) (hw : ∀ w, isW w → ¬ AW b L (nI w) s.1) (d : Nat → Int32) : ∃ d', fX2_readFrom n 15 2 bk (U2 s (wI W 15 d)) = some ((), U2 (aF b L 1 s) (wI W 15 d')) := by
  have T : ∀ s d, mT (U2 s (wI W 15 d)) = sh_T := fun s d => (h.at s d).1.1
  have bad : (aF b L 1 s).2.1 ≠ 0 := aF_f (by decide) s
  have hv1 : VI b L (aF b L 1 s).1 := by rw [aF_1]; exact hv
  have k3 := c_pp h hv 3 d
  have n3 : ¬ (s.2.1 = 0 ∧ AW b L 3 s.1) := fun z => hw 3 (by unfold isW; omega) z.2
  rw [bo_f n3, aP_n n3] at k3
  have k5 := c_pp h hv 5 d
  have n5 : ¬ (s.2.1 = 0 ∧ AW b L 5 s.1) := fun z => hw 5 (by unfold isW; omega) z.2
  rw [bo_f n5, aP_n n5] at k5
  have k6 := c_pp h hv 6 d
  have n6 : ¬ (s.2.1 = 0 ∧ AW b L 6 s.1) := fun z => hw 6 (by unfold isW; omega) z.2
  rw [bo_f n6, aP_n n6] at k6
  have k7 := c_pp h hv 7 d
  have n7 : ¬ (s.2.1 = 0 ∧ AW b L 7 s.1) := fun z => hw 7 (by unfold isW; omega) z.2
  rw [bo_f n7, aP_n n7] at k7
  have k8 := c_pp h hv 8 d
  have n8 : ¬ (s.2.1 = 0 ∧ AW b L 8 s.1) := fun z => hw 8 (by unfold isW; omega) z.2
  rw [bo_f n8, aP_n n8] at k8
  have k19 := c_pp h hv 19 d
  have n19 : ¬ (s.2.1 = 0 ∧ AW b L 19 s.1) := fun z => hw 19 (by unfold isW; omega) z.2
  rw [bo_f n19, aP_n n19] at k19
  have n20 : ¬ (s.2.1 = 0 ∧ AW b L 20 s.1) := fun z => hw 20 (by unfold isW; omega) z.2
  have kw := c_ww h hv 20 d
  rw [((aP_W s).2 n20).2] at kw
  have e2 := fun d => c_nn h hv1 d
  have e3 := fun d => c_ss h hv1 d
  rw [(f_N bad).1] at e2
  rw [(f_N bad).2] at e3
  refine ⟨(q_u1 (q_u1 (q_u1 (q_u1 (q_u1 (q_u1 (q_u1 (q_u1 (q_u1 d 0 6) 1 (-1)) 7 (-1)) 8 0) 9 1) 10 0) 11 0) 12 (-1)) 19 (vN b L (aF b L 1 s))), ?_⟩
  have h := (h.at s d).1
  simp only [fX2_readFrom, fX2_readFrom_L127, fX2_begin, h.1, h.2.1, h.2.2, li_T, li_L, li_R, nm, bd, q_b, ne_eq, Nat.reduceEqDiff, reduceCtorEq, and_false, false_and, and_true, true_and, and_self, not_false_eq_true, not_true_eq_false, ↓reduceIte, T, b1, U2_15, k3, k5, k6, k7, k8, k19, kw, e2, e3]
end
