/-! TEXTS: a line of a book -/
abbrev Bk : Type := (Nat → List Nat) × Nat × (Nat → List Nat) × Nat × (Nat → Int32)
section
variable (b : Nat → Int32) (L : Nat)
/-- too many SHARES -/
def aBy (s : St3) : St3 := if kd b L s.1 = 3 ∧ ¬ vl b L s.1 ≤ 100000 then aF b L 3 s else s
noncomputable def h2S (D : Bk) (s : St3) : St3 := aK b L D.2.2.1 D.2.2.2.1 (aK b L D.1 D.2.1 (aW b L 2 s))
/-- the state behind a line, but for the stop -/
noncomputable def lnT (D : Bk) (s : St3) : St3 := by
  classical
  exact if AW b L 0 s.1 then (if D.2.1 = 10 then aF b L 4 s else aQ b L D.1 D.2.2.1 D.2.1 D.2.2.2.1 (s.1 + 1, s.2.1, s.2.2)) else if AW b L 1 s.1 then (if D.2.2.2.1 = 5 then aF b L 4 s else aQ b L D.1 D.2.2.1 D.2.1 D.2.2.2.1 (s.1 + 1, s.2.1, s.2.2)) else aN b L (aBy b L (h2S b L D s))
noncomputable def lnD (D : Bk) (s : St3) : Bk := by
  classical
  exact if AW b L 0 s.1 then (q_u1 D.1 D.2.1 (wlt b L (s.1 + 1)), D.2.1 + 1, D.2.2.1, D.2.2.2.1, D.2.2.2.2) else if AW b L 1 s.1 then (D.1, D.2.1, q_u1 D.2.2.1 D.2.2.2.1 (wlt b L (s.1 + 1)), D.2.2.2.1 + 1, D.2.2.2.2) else
    (D.1, D.2.1, D.2.2.1, D.2.2.2.1, q_u1 D.2.2.2.2 (nI 5 * vK b L D.1 D.2.1 (aW b L 2 s) + vK b L D.2.2.1 D.2.2.2.1 (aK b L D.1 D.2.1 (aW b L 2 s))).toNatClampNeg (vl b L (h2S b L D s).1))
def BDD (dr : Nat) (D : Bk) (W : Mm) : Prop := BD D.1 D.2.2.1 D.2.1 D.2.2.2.1 dr D.2.2.2.2 W
def BRD (D : Bk) (Z : Mm) : Prop := BR D.1 D.2.2.1 D.2.1 D.2.2.2.1 D.2.2.2.2 Z
end
section
variable {b : Nat → Int32} {L : Nat} {nh np : Nat → List Nat} {H P bk dr n : Nat} {W Z : Mm} {s t : St3} {sh : Nat → Int32} {D : Bk}
theorem f_A (z : s.2.1 ≠ 0) : aA s = s := by unfold aA; rw [if_neg z]
theorem f_F (z : s.2.1 ≠ 0) (w : Int32) : aF b L w s = s := by unfold aF; rw [if_neg z]
theorem f_K (z : s.2.1 ≠ 0) : aK b L nh H s = s := by
  unfold aK
  rw [f_F z, f_F z]
  have q : (if kd b L s.1 = 2 then (if fnm nh (wlt b L s.1) H 0 = -1 then s else s) else s) = s := by
    split
    · split <;> rfl
    · rfl
  rw [q, f_A z]
theorem f_Q (z : s.2.1 ≠ 0) : aQ b L nh np H P s = s := by
  unfold aQ
  rw [f_F z, f_F z]
  have q : (if kd b L s.1 = 2 then (if fnm nh (wlt b L s.1) H 0 = -1 ∧ fnm np (wlt b L s.1) P 0 = -1 then s else s) else s) = s := by
    split
    · split <;> rfl
    · rfl
  rw [q, f_A z]
theorem f_B (z : s.2.1 ≠ 0) : aBy b L s = s := by
  unfold aBy
  rw [f_F z]
  split <;> rfl
theorem f_W (z : s.2.1 ≠ 0) (k : Int32) : aW b L k s = s := by
  unfold aW
  classical
  rw [f_F z]
  have q : (if AW b L k s.1 then s else s) = s := by split <;> rfl
  rw [q, f_A z]
theorem aBy_go (s : St3) : (aBy b L s).1 = s.1 ∧ ((aBy b L s).2.1 = 0 → s.2.1 = 0 ∧ aBy b L s = s) := by
  unfold aBy
  by_cases z : kd b L s.1 = 3 ∧ ¬ vl b L s.1 ≤ 100000
  · rw [if_pos z]; exact ⟨aF_1 _ _, fun y => absurd y (aF_f (by decide) s)⟩
  · rw [if_neg z]; exact ⟨rfl, fun y => ⟨y, rfl⟩⟩
theorem aK_2 {s : St3} (z : (aK b L nh H s).2.1 = 0) : kd b L s.1 = 2 ∧ ∃ i, i < H ∧ vK b L nh H s = nI i := by
  have z0 := z
  unfold aK at z
  rw [aA_f] at z
  by_cases y : kd b L s.1 = 2
  · refine ⟨y, ?_⟩
    rw [if_pos y] at z
    unfold vK
    rw [if_pos z0]
    by_cases x : fnm nh (wlt b L s.1) H 0 = -1
    · rw [if_pos x] at z
      exact absurd z (aF_f (by decide) s)
    · rcases fnm_r nh (wlt b L s.1) H 0 with q | ⟨k, k1, k2, k3⟩
      · exact absurd q x
      · exact ⟨k, by omega, k3⟩
  · rw [if_neg y] at z
    exact absurd z (aF_f (by decide) s)
theorem CTok.cg {W' : Mm} (h : CTok b L bk dr W) (hS : Shp bk dr W') (hI : ∀ c k, c = 4 ∨ c = 5 ∨ c = 6 → mI W' c k = mI W c k) : CTok b L bk dr W' := by
  refine ⟨hS, h.2.1, fun k hk => ?_⟩
  obtain ⟨t1, t2, t3⟩ := h.2.2 k hk
  exact ⟨(hI _ _ (by omega)).trans t1, fun z => (hI _ _ (by omega)).trans (t2 z), (hI _ _ (by omega)).trans t3⟩
/-- what a line leaves of the class's memory -/
def CF (bk dr : Nat) (W W' : Mm) : Prop := Shp bk dr W' ∧ (∀ c k, c ≠ dr → c ≠ dr + 1 → c ≠ dr + 2 → mI W' c k = mI W c k) ∧ ∀ c k, c ≠ dr + 3 → mJ W' c k = mJ W c k
theorem c_beyond (h : CTok b L bk dr W) (hv : VI b L s.1) : fX9_failBeyond 2 100000 (U2 s W) = some ((), U2 (aBy b L s) W) := by
  obtain ⟨t1, t2, t3, t4, t5, t6, t7⟩ := h.at hv
  have hs := h.u s
  have cf := c_fail h hv 3
  unfold aBy
  by_cases z : kd b L s.1 = 3
  · have tv := t2 (Or.inr (Or.inr z))
    by_cases y : vl b L s.1 ≤ 100000
    · rw [if_neg (fun q => q.2 y)]
      have h := hs
      simp only [fX9_failBeyond, h.1, h.2.1, h.2.2, li_T, li_L, li_R, nm, bd, q_b, ne_eq, Nat.reduceEqDiff, reduceCtorEq, and_false, false_and, and_true, true_and, and_self, not_false_eq_true, not_true_eq_false, ↓reduceIte, t4, t6, t7.1, t7.2, t1, z, tv, y]
    · rw [if_pos ⟨z, y⟩]
      have h := hs
      simp only [fX9_failBeyond, h.1, h.2.1, h.2.2, li_T, li_L, li_R, nm, bd, q_b, ne_eq, Nat.reduceEqDiff, reduceCtorEq, and_false, false_and, and_true, true_and, and_self, not_false_eq_true, not_true_eq_false, ↓reduceIte, t4, t6, t7.1, t7.2, t1, z, tv, y, cf]
  · rw [if_neg (fun q => z q.1)]
    have h := hs
    simp only [fX9_failBeyond, h.1, h.2.1, h.2.2, li_T, li_L, li_R, nm, bd, q_b, ne_eq, Nat.reduceEqDiff, reduceCtorEq, and_false, false_and, and_true, true_and, and_self, not_false_eq_true, not_true_eq_false, ↓reduceIte, t4, t6, t7.1, t7.2, t1, z]
theorem c_addH (h : CTok b L bk dr W) (hb : Bks bk dr) (hd : BDD dr D W) (hn : 1000 ≤ n) (hf : s.2.1 = 0) (hv : VI b L s.1) (a : AW b L 0 s.1) : ∃ W', fX0_readHolder n dr 2 (U2 s W) = some ((), U2 (lnT b L D s) W') ∧ CF bk dr W W' ∧ ((lnT b L D s).2.1 = 0 → BDD dr (lnD b L D s) W') := by
  obtain ⟨nh, H, np, P, sh⟩ := D
  obtain ⟨q1, q2, q3, q4, q5, q6, q7⟩ := id hd
  simp only [] at q1 q2 q3 q4 q5 q6 q7
  obtain ⟨tb, r1, r2, r3, t1, t2, t3, l1, l2, l3⟩ := dr_R hb
  have b7 : dr = 7 ∨ dr = 11 := by rcases hb with z | z <;> omega
  have hs := h.u s
  have hv1 : VI b L (s.1 + 1, s.2.1, s.2.2).1 := hv.kd0 (by rw [a.1]; decide)
  have d3 : ∀ s : St3, mI (U2 s W) dr 3 = nI H := fun s => by rw [U2_Io _ _ (by omega)]; exact q3
  have eT : lnT b L (nh, H, np, P, sh) s = if H = 10 then aF b L 4 s else aQ b L nh np H P (s.1 + 1, s.2.1, s.2.2) := by unfold lnT; rw [if_pos a]
  have eD : lnD b L (nh, H, np, P, sh) s = (q_u1 nh H (wlt b L (s.1 + 1)), H + 1, np, P, sh) := by unfold lnD; rw [if_pos a]
  rw [eT, eD]
  by_cases z : H = 10
  · rw [if_pos z]
    have bad : (aF b L 4 s).2.1 ≠ 0 := aF_f (by decide) s
    have hvF : VI b L (aF b L 4 s).1 := by rw [aF_1]; exact hv
    have cf := c_fail h hv 4
    have cw := c_word h hvF 0
    rw [f_W bad] at cw
    have cn := c_new (n := n) h hb hd hvF hn
    have vq : vQ b L nh np H P (aF b L 4 s) = -1 := by unfold vQ; rw [f_Q bad, if_neg bad]
    simp only [] at cn
    rw [f_Q bad, vq] at cn
    refine ⟨W, ?_, ⟨h.1, fun _ _ _ _ _ => rfl, fun _ _ _ => rfl⟩, fun y => absurd y bad⟩
    have nl : ¬ nI H < (10 : Int32) := nI_nlt (a := H) (b := 10) (by omega) (by omega)
    have hs2 := (h.u (aF b L 4 s)).1
    have h := hs
    simp only [fX0_readHolder, fX0_readHolder_L14, h.1, h.2.1, h.2.2, li_T, li_L, li_R, nm, bd, q_b, ne_eq, Nat.reduceEqDiff, reduceCtorEq, and_false, false_and, and_true, true_and, and_self, not_false_eq_true, not_true_eq_false, ↓reduceIte, tb, d3, nl, cf, hs2, cw, cn]
  · rw [if_neg z]
    have cw := c_word h hv 0
    rw [aW_t ⟨hf, a⟩] at cw
    have cn := c_new (n := n) h hb hd hv1 hn
    simp only [] at cn
    have nl : nI H < (10 : Int32) := nI_lt (b := 10) (by omega) (by omega)
    have nl2 : ¬ (10 : Int32) ≤ nI H := nI_ge (a := H) (b := 10) (by omega) (by omega)
    have hs1 := h.u (s.1 + 1, s.2.1, s.2.2)
    have hsQ := h.u (aQ b L nh np H P (s.1 + 1, s.2.1, s.2.2))
    by_cases y : (aQ b L nh np H P (s.1 + 1, s.2.1, s.2.2)).2.1 = 0
    · have k2 := (kd_2 (aQ_n _ y).1).1
      have vq : vQ b L nh np H P (s.1 + 1, s.2.1, s.2.2) = nI (c5 (wlt b L (s.1 + 1))) := by unfold vQ; rw [if_pos y]
      rw [vq] at cn
      have vne := c5_ne k2
      have i1 : (nI H).toNatClampNeg = H := nI_clamp (by omega)
      have i2 := inL_nI (j := H) (n := 10) (by omega) (by decide)
      have m1 : ∀ s : St3, sI (U2 s W) (dr + 1) H (nI (c5 (wlt b L (s.1 + 1)))) = U2 s (sI W (dr + 1) H (nI (c5 (wlt b L (s.1 + 1))))) := fun s => U2_o _ _ (by omega) _ _
      refine ⟨sI (sI W (dr + 1) H (nI (c5 (wlt b L (s.1 + 1))))) dr 3 (nI (H + 1)), ?_, ⟨(h.1.sI _ _ _).sI _ _ _, fun c k c1 c2 c3 => by rw [mI_sI, if_neg (fun q => c1 q.1), mI_sI, if_neg (fun q => c2 q.1)], fun c k _ => by rw [mJ_sI, mJ_sI]⟩, fun _ => ?_⟩
      · have d3' : mI (U2 (aQ b L nh np H P (s.1 + 1, s.2.1, s.2.2)) (sI W (dr + 1) H (nI (c5 (wlt b L (s.1 + 1)))))) dr 3 = nI H := by rw [U2_Io _ _ (by omega), mI_sI, if_neg (by omega)]; exact q3
        have mo : sI (U2 (aQ b L nh np H P (s.1 + 1, s.2.1, s.2.2)) W) (dr + 1) H (nI (c5 (wlt b L (s.1 + 1)))) = U2 (aQ b L nh np H P (s.1 + 1, s.2.1, s.2.2)) (sI W (dr + 1) H (nI (c5 (wlt b L (s.1 + 1))))) := U2_o _ _ (by omega) _ _
        have mo2 : sI (U2 (aQ b L nh np H P (s.1 + 1, s.2.1, s.2.2)) (sI W (dr + 1) H (nI (c5 (wlt b L (s.1 + 1)))))) dr 3 (nI (H + 1)) = U2 (aQ b L nh np H P (s.1 + 1, s.2.1, s.2.2)) (sI (sI W (dr + 1) H (nI (c5 (wlt b L (s.1 + 1))))) dr 3 (nI (H + 1))) := U2_o _ _ (by omega) _ _
        have hT2 : mT (U2 (aQ b L nh np H P (s.1 + 1, s.2.1, s.2.2)) (sI W (dr + 1) H (nI (c5 (wlt b L (s.1 + 1)))))) = sh_T := by rw [U2_T, mT_sI]; exact h.1.1
        have dn : dr + 1 ≠ 0 := by omega
        have h := hs
        simp only [fX0_readHolder, fX0_readHolder_L14, h.1, h.2.1, h.2.2, li_T, li_L, li_R, nm, bd, q_b, ne_eq, Nat.reduceEqDiff, reduceCtorEq, and_false, false_and, and_true, true_and, and_self, not_false_eq_true, not_true_eq_false, ↓reduceIte, tb, d3, nl, cw, hs1.1, cn, vne, hsQ.1, hsQ.2.1, hsQ.2.2, nl2, r1, t1, l1, i1, i2.1, i2.2, dn, mo, hT2, d3', nI_1, mo2]
      · refine ⟨by show H + 1 ≤ 10; omega, q2, ?_, ?_, fun i hi => ?_, fun i hi => ?_, fun k hk => ?_⟩
        · rw [mI_sI, if_pos ⟨rfl, rfl⟩]
        · rw [mI_sI, if_neg (by omega), mI_sI, if_neg (by omega)]; exact q4
        · show Nm (q_u1 nh H (wlt b L (s.1 + 1)) i) ∧ mI (sI (sI W (dr + 1) H (nI (c5 (wlt b L (s.1 + 1))))) dr 3 (nI (H + 1))) (dr + 1) i = nI (c5 (q_u1 nh H (wlt b L (s.1 + 1)) i))
          rw [mI_sI, if_neg (by omega), mI_sI, q_u1_is]
          by_cases e : i = H
          · rw [if_pos e, if_pos ⟨rfl, e⟩]; exact ⟨k2, rfl⟩
          · rw [if_neg e, if_neg (fun q => e q.2)]
            have hi' : i < H + 1 := hi
            exact q5 i (by omega)
        · show Nm (np i) ∧ _ = nI (c5 (np i))
          rw [mI_sI, if_neg (by omega), mI_sI, if_neg (by omega)]; exact q6 i hi
        · rw [mJ_sI, mJ_sI]; exact q7 k hk
    · have vq : vQ b L nh np H P (s.1 + 1, s.2.1, s.2.2) = -1 := by unfold vQ; rw [if_neg y]
      rw [vq] at cn
      refine ⟨W, ?_, ⟨h.1, fun _ _ _ _ _ => rfl, fun _ _ _ => rfl⟩, fun x => absurd x y⟩
      have h := hs
      simp only [fX0_readHolder, fX0_readHolder_L14, h.1, h.2.1, h.2.2, li_T, li_L, li_R, nm, bd, q_b, ne_eq, Nat.reduceEqDiff, reduceCtorEq, and_false, false_and, and_true, true_and, and_self, not_false_eq_true, not_true_eq_false, ↓reduceIte, tb, d3, nl, cw, hs1.1, cn]
end
