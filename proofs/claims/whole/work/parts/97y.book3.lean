/-! TEXTS: a line of a book, the class (c_addP printed by mk97y.py) -/
section
variable {b : Nat → Int32} {L : Nat} {nh np : Nat → List Nat} {H P bk dr n : Nat} {W Z : Mm} {s t : St3} {sh : Nat → Int32} {D : Bk}
theorem c_addP (h : CTok b L bk dr W) (hb : Bks bk dr) (hd : BDD dr D W) (hn : 1000 ≤ n) (hf : s.2.1 = 0) (hv : VI b L s.1) (a0 : ¬ AW b L 0 s.1) (a : AW b L 1 s.1) : ∃ W', fX0_readPaper n dr 2 (U2 s W) = some ((), U2 (lnT b L D s) W') ∧ CF bk dr W W' ∧ ((lnT b L D s).2.1 = 0 → BDD dr (lnD b L D s) W') := by
  obtain ⟨nh, H, np, P, sh⟩ := D
  obtain ⟨q1, q2, q3, q4, q5, q6, q7⟩ := id hd
  simp only [] at q1 q2 q3 q4 q5 q6 q7
  obtain ⟨tb, r1, r2, r3, t1, t2, t3, l1, l2, l3⟩ := dr_R hb
  have b7 : dr = 7 ∨ dr = 11 := by rcases hb with z | z <;> omega
  have hs := h.u s
  have hv1 : VI b L (s.1 + 1, s.2.1, s.2.2).1 := hv.kd0 (by rw [a.1]; decide)
  have d3 : ∀ s : St3, mI (U2 s W) dr 4 = nI P := fun s => by rw [U2_Io _ _ (by omega)]; exact q4
  have eT : lnT b L (nh, H, np, P, sh) s = if P = 5 then aF b L 4 s else aQ b L nh np H P (s.1 + 1, s.2.1, s.2.2) := by unfold lnT; rw [if_neg a0, if_pos a]
  have eD : lnD b L (nh, H, np, P, sh) s = (nh, H, q_u1 np P (wlt b L (s.1 + 1)), P + 1, sh) := by unfold lnD; rw [if_neg a0, if_pos a]
  rw [eT, eD]
  by_cases z : P = 5
  · rw [if_pos z]
    have bad : (aF b L 4 s).2.1 ≠ 0 := aF_f (by decide) s
    have hvF : VI b L (aF b L 4 s).1 := by rw [aF_1]; exact hv
    have cf := c_fail h hv 4
    have cw := c_word h hvF 1
    rw [f_W bad] at cw
    have cn := c_new (n := n) h hb hd hvF hn
    have vq : vQ b L nh np H P (aF b L 4 s) = -1 := by unfold vQ; rw [f_Q bad, if_neg bad]
    simp only [] at cn
    rw [f_Q bad, vq] at cn
    refine ⟨W, ?_, ⟨h.1, fun _ _ _ _ _ => rfl, fun _ _ _ => rfl⟩, fun y => absurd y bad⟩
    have nl : ¬ nI P < (5 : Int32) := nI_nlt (a := P) (b := 5) (by omega) (by omega)
    have hs2 := (h.u (aF b L 4 s)).1
    have h := hs
    simp only [fX0_readPaper, fX0_readPaper_L13, h.1, h.2.1, h.2.2, li_T, li_L, li_R, nm, bd, q_b, ne_eq, Nat.reduceEqDiff, reduceCtorEq, and_false, false_and, and_true, true_and, and_self, not_false_eq_true, not_true_eq_false, ↓reduceIte, tb, d3, nl, cf, hs2, cw, cn]
  · rw [if_neg z]
    have cw := c_word h hv 1
    rw [aW_t ⟨hf, a⟩] at cw
    have cn := c_new (n := n) h hb hd hv1 hn
    simp only [] at cn
    have nl : nI P < (5 : Int32) := nI_lt (b := 5) (by omega) (by omega)
    have nl2 : ¬ (5 : Int32) ≤ nI P := nI_ge (a := P) (b := 5) (by omega) (by omega)
    have hs1 := h.u (s.1 + 1, s.2.1, s.2.2)
    have hsQ := h.u (aQ b L nh np H P (s.1 + 1, s.2.1, s.2.2))
    by_cases y : (aQ b L nh np H P (s.1 + 1, s.2.1, s.2.2)).2.1 = 0
    · have k2 := (kd_2 (aQ_n _ y).1).1
      have vq : vQ b L nh np H P (s.1 + 1, s.2.1, s.2.2) = nI (c5 (wlt b L (s.1 + 1))) := by unfold vQ; rw [if_pos y]
      rw [vq] at cn
      have vne := c5_ne k2
      have i1 : (nI P).toNatClampNeg = P := nI_clamp (by omega)
      have i2 := inL_nI (j := P) (n := 5) (by omega) (by decide)
      have m1 : ∀ s : St3, sI (U2 s W) (dr + 2) P (nI (c5 (wlt b L (s.1 + 1)))) = U2 s (sI W (dr + 2) P (nI (c5 (wlt b L (s.1 + 1))))) := fun s => U2_o _ _ (by omega) _ _
      refine ⟨sI (sI W (dr + 2) P (nI (c5 (wlt b L (s.1 + 1))))) dr 4 (nI (P + 1)), ?_, ⟨(h.1.sI _ _ _).sI _ _ _, fun c k c1 c2 c3 => by rw [mI_sI, if_neg (fun q => c1 q.1), mI_sI, if_neg (fun q => c3 q.1)], fun c k _ => by rw [mJ_sI, mJ_sI]⟩, fun _ => ?_⟩
      · have d3' : mI (U2 (aQ b L nh np H P (s.1 + 1, s.2.1, s.2.2)) (sI W (dr + 2) P (nI (c5 (wlt b L (s.1 + 1)))))) dr 4 = nI P := by rw [U2_Io _ _ (by omega), mI_sI, if_neg (by omega)]; exact q4
        have mo : sI (U2 (aQ b L nh np H P (s.1 + 1, s.2.1, s.2.2)) W) (dr + 2) P (nI (c5 (wlt b L (s.1 + 1)))) = U2 (aQ b L nh np H P (s.1 + 1, s.2.1, s.2.2)) (sI W (dr + 2) P (nI (c5 (wlt b L (s.1 + 1))))) := U2_o _ _ (by omega) _ _
        have mo2 : sI (U2 (aQ b L nh np H P (s.1 + 1, s.2.1, s.2.2)) (sI W (dr + 2) P (nI (c5 (wlt b L (s.1 + 1)))))) dr 4 (nI (P + 1)) = U2 (aQ b L nh np H P (s.1 + 1, s.2.1, s.2.2)) (sI (sI W (dr + 2) P (nI (c5 (wlt b L (s.1 + 1))))) dr 4 (nI (P + 1))) := U2_o _ _ (by omega) _ _
        have hT2 : mT (U2 (aQ b L nh np H P (s.1 + 1, s.2.1, s.2.2)) (sI W (dr + 2) P (nI (c5 (wlt b L (s.1 + 1)))))) = sh_T := by rw [U2_T, mT_sI]; exact h.1.1
        have dn : dr + 2 ≠ 0 := by omega
        have h := hs
        simp only [fX0_readPaper, fX0_readPaper_L13, h.1, h.2.1, h.2.2, li_T, li_L, li_R, nm, bd, q_b, ne_eq, Nat.reduceEqDiff, reduceCtorEq, and_false, false_and, and_true, true_and, and_self, not_false_eq_true, not_true_eq_false, ↓reduceIte, tb, d3, nl, cw, hs1.1, cn, vne, hsQ.1, hsQ.2.1, hsQ.2.2, nl2, r2, t2, l2, i1, i2.1, i2.2, dn, mo, hT2, d3', nI_1, mo2]
      · refine ⟨q1, by show P + 1 ≤ 5; omega, ?_, ?_, fun i hi => ?_, fun i hi => ?_, fun k hk => ?_⟩
        · rw [mI_sI, if_neg (by omega), mI_sI, if_neg (by omega)]; exact q3
        · rw [mI_sI, if_pos ⟨rfl, rfl⟩]
        · show Nm (nh i) ∧ _ = nI (c5 (nh i))
          rw [mI_sI, if_neg (by omega), mI_sI, if_neg (by omega)]; exact q5 i hi
        · show Nm (q_u1 np P (wlt b L (s.1 + 1)) i) ∧ mI (sI (sI W (dr + 2) P (nI (c5 (wlt b L (s.1 + 1))))) dr 4 (nI (P + 1))) (dr + 2) i = nI (c5 (q_u1 np P (wlt b L (s.1 + 1)) i))
          rw [mI_sI, if_neg (by omega), mI_sI, q_u1_is]
          by_cases e : i = P
          · rw [if_pos e, if_pos ⟨rfl, e⟩]; exact ⟨k2, rfl⟩
          · rw [if_neg e, if_neg (fun q => e q.2)]
            have hi' : i < P + 1 := hi
            exact q6 i (by omega)
        · rw [mJ_sI, mJ_sI]; exact q7 k hk
    · have vq : vQ b L nh np H P (s.1 + 1, s.2.1, s.2.2) = -1 := by unfold vQ; rw [if_neg y]
      rw [vq] at cn
      refine ⟨W, ?_, ⟨h.1, fun _ _ _ _ _ => rfl, fun _ _ _ => rfl⟩, fun x => absurd x y⟩
      have h := hs
      simp only [fX0_readPaper, fX0_readPaper_L13, h.1, h.2.1, h.2.2, li_T, li_L, li_R, nm, bd, q_b, ne_eq, Nat.reduceEqDiff, reduceCtorEq, and_false, false_and, and_true, true_and, and_self, not_false_eq_true, not_true_eq_false, ↓reduceIte, tb, d3, nl, cw, hs1.1, cn]
theorem kd_3 {i : Nat} (h : kd b L i = 3) : ∃ x, x < 1000000000 ∧ vl b L i = nI x := by
  unfold kd at h
  by_cases z : L ≤ fr b L i
  · rw [if_pos z] at h; exact absurd h (by decide)
  · rw [if_neg z] at h
    by_cases l : isL (b (fr b L i)) = true
    · rw [if_pos l] at h
      split at h
      · exact absurd h (by decide)
      · split at h <;> exact absurd h (by decide)
    · rw [if_neg l] at h
      by_cases d : isD (b (fr b L i)) = true
      · rw [if_pos d] at h
        by_cases w9 : 9 < wd b L i
        · rw [if_pos w9] at h; exact absurd h (by decide)
        · have w := wd_pos (b := b) (L := L) (i := i) (by omega)
          have te_ : sp b L (i + 1) = rn isD b (L - fr b L i) (fr b L i) := by rw [sp_next]; unfold te; rw [if_neg z, if_neg l, if_pos d]
          have lt := dgs_lt (b := b) (wd b L i) (fr b L i) 0 (fun j h1 h2 => by
            have r := (rn_b isD b (L - fr b L i) (fr b L i)).2.2.1 j h1
            rw [← te_] at r
            exact r (by omega))
          have p := Nat.pow_le_pow_right (n := 10) (by decide) (show wd b L i ≤ 9 by omega)
          refine ⟨dgs b (wd b L i) (fr b L i) 0, by omega, ?_⟩
          unfold vl
          rw [if_neg l]
      · rw [if_neg d] at h
        split at h <;> exact absurd h (by decide)
theorem c_has (h : CTok b L bk dr W) (hb : Bks bk dr) (hd : BDD dr D W) (hn : 1000 ≤ n) (hv : VI b L s.1) (a0 : ¬ AW b L 0 s.1) (a1 : ¬ AW b L 1 s.1) : ∃ W', fX0_readShares n dr 2 (U2 (aW b L 2 s) W) = some ((), U2 (lnT b L D s) W') ∧ CF bk dr W W' ∧ ((lnT b L D s).2.1 = 0 → BDD dr (lnD b L D s) W') := by
  obtain ⟨nh, H, np, P, sh⟩ := D
  obtain ⟨q1, q2, q3, q4, q5, q6, q7⟩ := id hd
  simp only [] at q1 q2 q3 q4 q5 q6 q7
  obtain ⟨tb, r1, r2, r3, t1, t2, t3, l1, l2, l3⟩ := dr_R hb
  have b7 : dr = 7 ∨ dr = 11 := by rcases hb with z | z <;> omega
  have eT : lnT b L (nh, H, np, P, sh) s = aN b L (aBy b L (aK b L np P (aK b L nh H (aW b L 2 s)))) := by unfold lnT; rw [if_neg a0, if_neg a1]; rfl
  have eD : lnD b L (nh, H, np, P, sh) s = (nh, H, np, P, q_u1 sh (nI 5 * vK b L nh H (aW b L 2 s) + vK b L np P (aK b L nh H (aW b L 2 s))).toNatClampNeg (vl b L (aK b L np P (aK b L nh H (aW b L 2 s))).1)) := by unfold lnD; rw [if_neg a0, if_neg a1]; rfl
  rw [eT, eD]
  have v1 := (aW_go (b := b) (L := L) 2 s).1 hv
  generalize aW b L 2 s = s1 at *
  have v2 := (aK_go nh H s1).1 v1
  have v3 := (aK_go np P (aK b L nh H s1)).1 v2
  have v4 : VI b L (aBy b L (aK b L np P (aK b L nh H s1))).1 := by rw [(aBy_go _).1]; exact v3
  have d3 : ∀ s : St3, mI (U2 s W) dr 3 = nI H := fun s => by rw [U2_Io _ _ (by omega)]; exact q3
  have d4 : ∀ s : St3, mI (U2 s W) dr 4 = nI P := fun s => by rw [U2_Io _ _ (by omega)]; exact q4
  have k1 := c_known (n := n) (q := dr + 1) (N := H) (M := 10) (nh := nh) h v1 hn t1 l1 q1 (by decide) (by omega) q5
  have k2 := c_known (n := n) (q := dr + 2) (N := P) (M := 5) (nh := np) h v2 hn t2 l2 q2 (by decide) (by omega) q6
  have k3 := c_beyond h v3
  have k4 := c_num h v4
  have hs := h.u s1
  have hs2 := h.u (aK b L nh H s1)
  have hs3 := h.u (aK b L np P (aK b L nh H s1))
  have hs4 := (h.u (aBy b L (aK b L np P (aK b L nh H s1)))).1
  have hs5 := h.u (aN b L (aBy b L (aK b L np P (aK b L nh H s1))))
  by_cases y : (aN b L (aBy b L (aK b L np P (aK b L nh H s1)))).2.1 = 0
  · have y1 := ((aN_go _).2.1 y).1
    have y2 := (aBy_go _).2 y1
    have y3 := ((aK_go np P (aK b L nh H s1)).2.1 y2.1).1
    obtain ⟨-, i, i1, i2⟩ := aK_2 y3
    obtain ⟨-, j, j1, j2⟩ := aK_2 y2.1
    rw [if_pos y, (aBy_go _).1] at k4
    rw [i2] at k1
    rw [j2] at k2
    have kd3 : kd b L (aK b L np P (aK b L nh H s1)).1 = 3 := by
      have z := y
      unfold aN at z
      rw [aA_f] at z
      by_cases q : kd b L (aBy b L (aK b L np P (aK b L nh H s1))).1 = 3
      · rw [(aBy_go _).1] at q; exact q
      · rw [if_neg q] at z; exact absurd z (aF_f (by decide) _)
    obtain ⟨x, x1, x2⟩ := kd_3 kd3
    have vne : vl b L (aK b L np P (aK b L nh H s1)).1 ≠ -1 := by
      rw [x2]
      intro q
      have := congrArg Int32.toInt q
      rw [nI_toInt (by omega)] at this
      have e : (-1 : Int32).toInt = -1 := by decide
      omega
    have ix : nI i * (5 : Int32) + nI j = nI (5 * i + j) := by
      rw [show (5 : Int32) = nI 5 from rfl, pk_mul, nI_add, Nat.mul_comm i 5]
    have ix2 : nI 5 * nI i + nI j = nI (5 * i + j) := by rw [pk_mul, nI_add]
    have c1 : (nI (5 * i + j)).toNatClampNeg = 5 * i + j := nI_clamp (by omega)
    have c2 := inL_nI (j := 5 * i + j) (n := 50) (by omega) (by decide)
    have ni : nI i ≠ -1 := nI_nm1 (by omega)
    have nj : nI j ≠ -1 := nI_nm1 (by omega)
    have m1 : dr + 1 ≠ 0 := by omega
    have m2 : dr + 2 ≠ 0 := by omega
    have m3 : dr + 3 ≠ 0 := by omega
    have mo := U2_J (aN b L (aBy b L (aK b L np P (aK b L nh H s1)))) W (dr + 3) (5 * i + j) (vl b L (aK b L np P (aK b L nh H s1)).1).toInt64
    rw [i2, j2, ix2, c1]
    refine ⟨sJ W (dr + 3) (5 * i + j) (vl b L (aK b L np P (aK b L nh H s1)).1).toInt64, ?_, ⟨h.1.sJ _ _ _, fun c k _ _ _ => by rw [mI_sJ], fun c k hc => by rw [mJ_sJ, if_neg (fun q => hc q.1)]⟩, fun _ => ⟨q1, q2, by rw [mI_sJ]; exact q3, by rw [mI_sJ]; exact q4, fun k hk => by rw [mI_sJ]; exact q5 k hk, fun k hk => by rw [mI_sJ]; exact q6 k hk, fun k hk => ?_⟩⟩
    · have h := hs
      simp only [fX0_readShares, fX0_takeHolder, fX0_takePaper, h.1, h.2.1, h.2.2, li_T, li_L, li_R, nm, bd, q_b, ne_eq, Nat.reduceEqDiff, reduceCtorEq, and_false, false_and, and_true, true_and, and_self, not_false_eq_true, not_true_eq_false, ↓reduceIte, tb, r1, r2, r3, t3, l3, m1, m2, m3, d3, d4, k1, k2, hs2.1, hs2.2.1, hs2.2.2, hs3.1, k3, hs4, k4, ni, nj, vne, hs5.1, hs5.2.1, hs5.2.2, ix, c1, c2.1, c2.2, mo]
    · show mJ (sJ W (dr + 3) (5 * i + j) _) (dr + 3) k = (q_u1 sh (5 * i + j) _ k).toInt64
      rw [mJ_sJ, q_u1_is]
      by_cases e : k = 5 * i + j
      · rw [if_pos ⟨rfl, e⟩, if_pos e]
      · rw [if_neg (fun q => e q.2), if_neg e]; exact q7 k hk
  · rw [if_neg y] at k4
    refine ⟨W, ?_, ⟨h.1, fun _ _ _ _ _ => rfl, fun _ _ _ => rfl⟩, fun x => absurd x y⟩
    have m1 : dr + 1 ≠ 0 := by omega
    have m2 : dr + 2 ≠ 0 := by omega
    by_cases z1 : vK b L nh H s1 = -1
    · have h := hs
      simp only [fX0_readShares, fX0_takeHolder, fX0_takePaper, h.1, h.2.1, h.2.2, li_T, li_L, li_R, nm, bd, q_b, ne_eq, Nat.reduceEqDiff, reduceCtorEq, and_false, false_and, and_true, true_and, and_self, not_false_eq_true, not_true_eq_false, ↓reduceIte, tb, r1, r2, m1, m2, d3, d4, k1, k2, hs2.1, hs2.2.1, hs2.2.2, hs3.1, k3, hs4, k4, z1]
    · by_cases z2 : vK b L np P (aK b L nh H s1) = -1
      · have h := hs
        simp only [fX0_readShares, fX0_takeHolder, fX0_takePaper, h.1, h.2.1, h.2.2, li_T, li_L, li_R, nm, bd, q_b, ne_eq, Nat.reduceEqDiff, reduceCtorEq, and_false, false_and, and_true, true_and, and_self, not_false_eq_true, not_true_eq_false, ↓reduceIte, tb, r1, r2, m1, m2, d3, d4, k1, k2, hs2.1, hs2.2.1, hs2.2.2, hs3.1, k3, hs4, k4, z1, z2]
      · have h := hs
        simp only [fX0_readShares, fX0_takeHolder, fX0_takePaper, h.1, h.2.1, h.2.2, li_T, li_L, li_R, nm, bd, q_b, ne_eq, Nat.reduceEqDiff, reduceCtorEq, and_false, false_and, and_true, true_and, and_self, not_false_eq_true, not_true_eq_false, ↓reduceIte, tb, r1, r2, m1, m2, d3, d4, k1, k2, hs2.1, hs2.2.1, hs2.2.2, hs3.1, k3, hs4, k4, z1, z2]
noncomputable def lnS (b : Nat → Int32) (L : Nat) (D : Bk) (s : St3) : St3 := aS b L (lnT b L D s)
theorem lnT_go (hf : s.2.1 = 0) (hv : VI b L s.1) : VI b L (lnT b L D s).1 ∧ s.1 ≤ (lnT b L D s).1 := by
  unfold lnT
  by_cases a0 : AW b L 0 s.1
  · rw [if_pos a0]
    have hv1 : VI b L (s.1 + 1, s.2.1, s.2.2).1 := hv.kd0 (by rw [a0.1]; decide)
    by_cases z : D.2.1 = 10
    · rw [if_pos z, aF_1]; exact ⟨hv, Nat.le_refl _⟩
    · rw [if_neg z]
      have g := aQ_go (b := b) (L := L) (nh := D.1) (np := D.2.2.1) (H := D.2.1) (P := D.2.2.2.1) (s.1 + 1, s.2.1, s.2.2)
      exact ⟨g.1 hv1, Nat.le_trans (Nat.le_succ _) g.2.2⟩
  · rw [if_neg a0]
    by_cases a1 : AW b L 1 s.1
    · rw [if_pos a1]
      have hv1 : VI b L (s.1 + 1, s.2.1, s.2.2).1 := hv.kd0 (by rw [a1.1]; decide)
      by_cases z : D.2.2.2.1 = 5
      · rw [if_pos z, aF_1]; exact ⟨hv, Nat.le_refl _⟩
      · rw [if_neg z]
        have g := aQ_go (b := b) (L := L) (nh := D.1) (np := D.2.2.1) (H := D.2.1) (P := D.2.2.2.1) (s.1 + 1, s.2.1, s.2.2)
        exact ⟨g.1 hv1, Nat.le_trans (Nat.le_succ _) g.2.2⟩
    · rw [if_neg a1]
      have g1 := aW_go (b := b) (L := L) 2 s
      have g2 := aK_go (b := b) (L := L) D.1 D.2.1 (aW b L 2 s)
      have g3 := aK_go (b := b) (L := L) D.2.2.1 D.2.2.2.1 (aK b L D.1 D.2.1 (aW b L 2 s))
      have g4 := aBy_go (b := b) (L := L) (h2S b L D s)
      have g5 := aN_go (b := b) (L := L) (aBy b L (h2S b L D s))
      unfold h2S at *
      refine ⟨g5.1 (by rw [g4.1]; exact g3.1 (g2.1 (g1.1 hv))), ?_⟩
      have := g1.2.2
      have := g2.2.2
      have := g3.2.2
      have := g5.2.2
      rw [g4.1] at this
      omega
theorem c_line (h : CTok b L bk dr W) (hb : Bks bk dr) (hd : BDD dr D W) (hn : 1000 ≤ n) (hf : s.2.1 = 0) (hv : VI b L s.1) : ∃ W', fX0_readLine n dr 2 (U2 s W) = some ((), U2 (lnS b L D s) W') ∧ CF bk dr W W' ∧ ((lnS b L D s).2.1 = 0 → BDD dr (lnD b L D s) W') := by
  have tb := (dr_R hb).1
  have b7 : dr = 7 ∨ dr = 11 := by rcases hb with z | z <;> omega
  have hs := h.u s
  have hv2 := (lnT_go (D := D) hf hv).1
  have w0 := c_atW h hv 0
  have w1 := c_atW h hv 1
  have fin : ∀ W', CF bk dr W W' → fX9_takeStop 2 (U2 (lnT b L D s) W') = some ((), U2 (lnS b L D s) W') ∧ mT (U2 (lnT b L D s) W') = sh_T := fun W' cf => by
    have h2 := h.cg cf.1 (fun c k hc => cf.2.1 c k (by omega) (by omega) (by omega))
    exact ⟨c_stop h2 hv2, (h2.u _).1⟩
  have fault : (lnS b L D s).2.1 = 0 → (lnT b L D s).2.1 = 0 := fun z => ((aS_go _).2.1 z).1
  by_cases a0 : AW b L 0 s.1
  · rw [bo_t a0] at w0
    obtain ⟨W', e, cf, bd_⟩ := c_addH (D := D) h hb hd hn hf hv a0
    obtain ⟨f1, f2⟩ := fin W' cf
    refine ⟨W', ?_, cf, fun z => bd_ (fault z)⟩
    have h := hs
    simp only [fX0_readLine, fX0_readLine_L42, h.1, h.2.1, h.2.2, li_T, li_L, li_R, nm, bd, q_b, ne_eq, Nat.reduceEqDiff, reduceCtorEq, and_false, false_and, and_true, true_and, and_self, not_false_eq_true, not_true_eq_false, ↓reduceIte, w0, b1, tb, e, f1, f2]
  · rw [bo_f a0] at w0
    by_cases a1 : AW b L 1 s.1
    · rw [bo_t a1] at w1
      obtain ⟨W', e, cf, bd_⟩ := c_addP (D := D) h hb hd hn hf hv a0 a1
      obtain ⟨f1, f2⟩ := fin W' cf
      refine ⟨W', ?_, cf, fun z => bd_ (fault z)⟩
      have h := hs
      simp only [fX0_readLine, fX0_readLine_L42, h.1, h.2.1, h.2.2, li_T, li_L, li_R, nm, bd, q_b, ne_eq, Nat.reduceEqDiff, reduceCtorEq, and_false, false_and, and_true, true_and, and_self, not_false_eq_true, not_true_eq_false, ↓reduceIte, w0, w1, b1, tb, e, f1, f2]
    · rw [bo_f a1] at w1
      obtain ⟨W', e, cf, bd_⟩ := c_has (D := D) h hb hd hn hv a0 a1
      obtain ⟨f1, f2⟩ := fin W' cf
      have cw := c_word h hv 2
      have hs2 := (h.u (aW b L 2 s)).1
      refine ⟨W', ?_, cf, fun z => bd_ (fault z)⟩
      have h := hs
      simp only [fX0_readLine, fX0_readLine_L42, h.1, h.2.1, h.2.2, li_T, li_L, li_R, nm, bd, q_b, ne_eq, Nat.reduceEqDiff, reduceCtorEq, and_false, false_and, and_true, true_and, and_self, not_false_eq_true, not_true_eq_false, ↓reduceIte, w0, w1, tb, cw, hs2, e, f1, f2]
end
