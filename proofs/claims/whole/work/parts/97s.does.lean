/-! TEXTS: a deed that was read is done, by both (printed by mk97s.py) -/
section
variable {b : Nat → Int32} {L : Nat} {nh np : Nat → List Nat} {H P bk dr n m K : Nat} {W Z : Mm} {s t : St3}
theorem aA_2 (t : St3) : (aA t).2 = t.2 := by unfold aA; split <;> rfl
theorem sel_p {c : Prop} [Decidable c] {w : Int32} (hw : w ≠ 0) (s : St3) (z : (if c then s else aF b L w s).2.1 = 0) : (if c then s else aF b L w s).2 = s.2 := by
  by_cases y : c
  · rw [if_pos y]
  · rw [if_neg y] at z
    exact absurd z (aF_f hw s)
theorem aN_p (s : St3) (z : (aN b L s).2.1 = 0) : (aN b L s).2 = s.2 := by
  unfold aN at z ⊢
  rw [aA_2] at z ⊢
  exact sel_p (by decide) s z
theorem aS_p (s : St3) (z : (aS b L s).2.1 = 0) : (aS b L s).2 = s.2 := by
  unfold aS at z ⊢
  rw [aA_2] at z ⊢
  exact sel_p (by decide) s z
theorem aW_p (k : Int32) (s : St3) (z : (aW b L k s).2.1 = 0) : (aW b L k s).2 = s.2 := by
  unfold aW at z ⊢
  classical
  rw [aA_2] at z ⊢
  exact sel_p (by decide) s z
theorem aK_p (mh : Nat → List Nat) (N : Nat) (s : St3) (z : (aK b L mh N s).2.1 = 0) : (aK b L mh N s).2 = s.2 := by
  unfold aK at z ⊢
  rw [aA_2] at z ⊢
  by_cases y : kd b L s.1 = 2
  · rw [if_pos y] at z ⊢
    by_cases x : fnm mh (wlt b L s.1) N 0 = -1
    · rw [if_pos x] at z
      exact absurd z (aF_f (by decide) s)
    · rw [if_neg x]
  · rw [if_neg y] at z
    exact absurd z (aF_f (by decide) s)
theorem stp_p (o : Nat) (s : St3) (z : (stp b L nh np H P o s).2.1 = 0) : (stp b L nh np H P o s).2 = s.2 := by
  unfold stp at z ⊢
  by_cases o0 : o = 0
  · rw [if_pos o0] at z ⊢; exact aK_p _ _ s z
  · rw [if_neg o0] at z ⊢
    by_cases o1 : o = 1
    · rw [if_pos o1] at z ⊢; exact aK_p _ _ s z
    · rw [if_neg o1] at z ⊢
      by_cases o2 : o = 2
      · rw [if_pos o2] at z ⊢; exact aN_p s z
      · rw [if_neg o2] at z ⊢
        by_cases o3 : o = 3
        · rw [if_pos o3] at z ⊢
          by_cases y : s.2.1 = 0 ∧ AW b L 4 s.1
          · rw [if_pos y, aP_t y] at z ⊢; exact aN_p _ z
          · rw [if_neg y]
        · rw [if_neg o3] at z ⊢; exact aW_p _ s z
theorem sts_p : ∀ (ops : List Nat) (s : St3), (sts b L nh np H P ops s).2.1 = 0 → (sts b L nh np H P ops s).2 = s.2 := by
  intro ops
  induction ops with
  | nil => intro s _; rfl
  | cons o r ih =>
    intro s z
    rw [sts] at z ⊢
    rw [ih _ z]
    exact stp_p o s ((sts_go r (stp b L nh np H P o s)).2.1 z)
theorem dst_p (s : St3) (z : (dst b L nh np H P s).2.1 = 0) : (dst b L nh np H P s).2 = s.2 := by
  unfold dst at z ⊢
  by_cases y : dw b L s.1 = 0
  · rw [if_pos y] at z
    exact absurd z (aF_f (by decide) s)
  · rw [if_neg y] at z ⊢
    rw [aS_p _ z, sts_p _ _ ((aS_go _).2.1 z).1]
theorem ds_p : ∀ i, (∀ j, j < i → (ds b L nh np H P j).2.1 = 0) → (ds b L nh np H P i).2.1 = 0 → (ds b L nh np H P i).2 = (0, -1) := by
  intro i
  induction i with
  | zero => intro _ _; rfl
  | succ i ih =>
    intro h z
    have e := dst_p (ds b L nh np H P i) z
    show (dst b L nh np H P (ds b L nh np H P i)).2 = _
    rw [e]
    exact ih (fun j hj => h j (by omega)) (h i (by omega))
/-- done by both -/
def DD (H P n : Nat) (d : Nat → Int32) (w : Nat) (V : Nat → Int32) : Prop :=
  ∀ (bk dr : Nat) (X : Mm) (f : Nat → Int64) (u : Wt), Shp bk dr X → mI X 15 = d → H ≤ 10 → P ≤ 5 → SR H P f u →
    (∃ r u', r ≠ -1 ∧ fX8_perform n 16 15 (pW 16 u X) = some (r, pW 16 u' X) ∧ ∀ Z i, Shp bk dr Z → mI Z 366 6 = nI H → mI Z 366 7 = nI P → i < 140 → mI Z 378 i = nI w → RA w V (fun k => mI Z 379 (10 * i + k)) → ∃ f', fX12_does n 366 (nI i) (wJ Z 367 f) = some (1, wJ Z 367 f') ∧ SR H P f' u') ∨
    (fX8_perform n 16 15 (pW 16 u X) = some (-1, pW 16 u X) ∧ ∀ Z i, Shp bk dr Z → mI Z 366 6 = nI H → mI Z 366 7 = nI P → i < 140 → mI Z 378 i = nI w → RA w V (fun k => mI Z 379 (10 * i + k)) → fX12_does n 366 (nI i) (wJ Z 367 f) = some (0, wJ Z 367 f))
theorem DD.minus {d : Nat → Int32} {w : Nat} {V : Nat → Int32} {op : Mm → Option (Int32 × Mm)} (D : DS H P n d op (fun r r' _ => r = r') (-1)) (he : ∀ (bk dr : Nat) Z i f, Shp bk dr Z → i < 140 → mI Z 378 i = nI w → RA w V (fun k => mI Z 379 (10 * i + k)) → fX12_does n 366 (nI i) (wJ Z 367 f) = bd (op (wJ Z 367 f)) fun r Y => if r = -1 then some (0, Y) else some (1, Y)) : DD H P n d w V := by
  intro bk dr X f u h hd hH hP sr
  rcases D bk dr X f u h hd hH hP sr with ⟨r, u', r1, e1, e2⟩ | ⟨e1, e2⟩
  · refine Or.inl ⟨r, u', r1, e1, fun Z i hZ h6 h7 hi hw ha => ?_⟩
    obtain ⟨r', f', g1, rfl, g3⟩ := e2 Z hZ h6 h7
    refine ⟨f', ?_, g3⟩
    rw [he bk dr Z i f hZ hi hw ha, g1]
    exact if_neg r1
  · refine Or.inr ⟨e1, fun Z i hZ h6 h7 hi hw ha => ?_⟩
    rw [he bk dr Z i f hZ hi hw ha, e2 Z hZ h6 h7]
    rfl
theorem DD.bool {d : Nat → Int32} {w : Nat} {V : Nat → Int32} {op : Mm → Option (Int32 × Mm)} {good : Int32 → Int32 → Wt → Prop} (hg : ∀ r r' u, good r r' u → r' = 1) (D : DS H P n d op good 0) (he : ∀ (bk dr : Nat) Z i f, Shp bk dr Z → i < 140 → mI Z 378 i = nI w → RA w V (fun k => mI Z 379 (10 * i + k)) → fX12_does n 366 (nI i) (wJ Z 367 f) = bd (op (wJ Z 367 f)) fun r Y => if r = 0 ∨ r = 1 then some (r, Y) else none) : DD H P n d w V := by
  intro bk dr X f u h hd hH hP sr
  rcases D bk dr X f u h hd hH hP sr with ⟨r, u', r1, e1, e2⟩ | ⟨e1, e2⟩
  · refine Or.inl ⟨r, u', r1, e1, fun Z i hZ h6 h7 hi hw ha => ?_⟩
    obtain ⟨r', f', g1, g2, g3⟩ := e2 Z hZ h6 h7
    obtain rfl := hg _ _ _ g2
    refine ⟨f', ?_, g3⟩
    rw [he bk dr Z i f hZ hi hw ha, g1]
    rfl
  · refine Or.inr ⟨e1, fun Z i hZ h6 h7 hi hw ha => ?_⟩
    rw [he bk dr Z i f hZ hi hw ha, e2 Z hZ h6 h7]
    rfl
theorem r_a (h : Shp bk dr Z) {i j : Nat} {jI : Int32} (hj : jI = nI j) (hi : i < 140) (h10 : j < 10) (f : Nat → Int64) : fX12_a 366 (nI i) jI (wJ Z 367 f) = some (mI Z 379 (10 * i + j), wJ Z 367 f) := by
  have ix : (10 : Int32) * nI i + jI = nI (10 * i + j) := by rw [hj, show (10 : Int32) = nI 10 from rfl, pk_mul, nI_add]
  have e1 : (nI (10 * i + j)).toNatClampNeg = 10 * i + j := nI_clamp (by omega)
  have e2 := inL_nI (j := 10 * i + j) (n := 1400) (by omega) (by decide)
  simp only [fX12_a, h.1, h.2.1, h.2.2, li_T, li_L, li_R, nm, bd, q_b, ne_eq, Nat.reduceEqDiff, reduceCtorEq, and_false, false_and, and_true, true_and, and_self, not_false_eq_true, not_true_eq_false, ↓reduceIte, mT_wJ, mL_wJ, mR_wJ, mI_wJ, ix, e1, e2.1, e2.2]
theorem dd_3 {d V : Nat → Int32} (hn : 1200 ≤ n) (c : CD 3 V d) : DD H P n d 3 V := by
  obtain ⟨q0, q1, q2, q3, q4, q5, q6⟩ := c.1 rfl
  refine DD.minus (DS.trade q0) (fun bk dr Z i f hZ hi hw ra => ?_)
  obtain ⟨p0, p1, p2, p3, p4, p5⟩ := ra.1 rfl
  have t0 : mI Z 379 (10 * i + 0) = d 2 := p0.trans q1.symm
  have a0 := r_a hZ (j := 0) (jI := 0) (by decide) hi (by decide) f
  rw [t0] at a0
  have t1 : mI Z 379 (10 * i + 1) = d 3 := p1.trans q2.symm
  have a1 := r_a hZ (j := 1) (jI := 1) (by decide) hi (by decide) f
  rw [t1] at a1
  have t2 : mI Z 379 (10 * i + 2) = d 1 := p2.trans q3.symm
  have a2 := r_a hZ (j := 2) (jI := 2) (by decide) hi (by decide) f
  rw [t2] at a2
  have t3 : mI Z 379 (10 * i + 3) = d 4 := p3.trans q4.symm
  have a3 := r_a hZ (j := 3) (jI := 3) (by decide) hi (by decide) f
  rw [t3] at a3
  have t4 : mI Z 379 (10 * i + 4) = d 5 := p4.trans q5.symm
  have a4 := r_a hZ (j := 4) (jI := 4) (by decide) hi (by decide) f
  rw [t4] at a4
  have t5 : mI Z 379 (10 * i + 5) = d 6 := p5.trans q6.symm
  have a5 := r_a hZ (j := 5) (jI := 5) (by decide) hi (by decide) f
  rw [t5] at a5
  have i1 : (nI i).toNatClampNeg = i := nI_clamp (by omega)
  have i2 := inL_nI (j := i) (n := 140) hi (by decide)
  have hw : mI Z 378 i = (3 : Int32) := hw
  have h := hZ
  simp only [fX12_does, fX12_does_L396, h.1, h.2.1, h.2.2, li_T, li_L, li_R, nm, bd, q_b, ne_eq, Nat.reduceEqDiff, reduceCtorEq, and_false, false_and, and_true, true_and, and_self, not_false_eq_true, not_true_eq_false, ↓reduceIte, mT_wJ, mL_wJ, mR_wJ, mI_wJ, i1, i2.1, i2.2, hw, a0, a1, a2, a3, a4, a5]
theorem dd_5 {d V : Nat → Int32} (hn : 1200 ≤ n) (c : CD 5 V d) : DD H P n d 5 V := by
  obtain ⟨q0, q1, q2, q3, q4, q5, q6, q7, q8⟩ := c.2.1 rfl
  refine DD.minus (DS.pays (by omega) q0 q6 q7 q8) (fun bk dr Z i f hZ hi hw ra => ?_)
  obtain ⟨p0, p1, p2, p3, p4⟩ := ra.2.1 rfl
  have t0 : mI Z 379 (10 * i + 0) = d 1 := p0.trans q1.symm
  have a0 := r_a hZ (j := 0) (jI := 0) (by decide) hi (by decide) f
  rw [t0] at a0
  have t1 : mI Z 379 (10 * i + 1) = d 10 := p1.trans q2.symm
  have a1 := r_a hZ (j := 1) (jI := 1) (by decide) hi (by decide) f
  rw [t1] at a1
  have t2 : mI Z 379 (10 * i + 2) = d 13 := p2.trans q3.symm
  have a2 := r_a hZ (j := 2) (jI := 2) (by decide) hi (by decide) f
  rw [t2] at a2
  have t3 : mI Z 379 (10 * i + 3) = d 14 := p3.trans q4.symm
  have a3 := r_a hZ (j := 3) (jI := 3) (by decide) hi (by decide) f
  rw [t3] at a3
  have t4 : mI Z 379 (10 * i + 4) = d 15 := p4.trans q5.symm
  have a4 := r_a hZ (j := 4) (jI := 4) (by decide) hi (by decide) f
  rw [t4] at a4
  have i1 : (nI i).toNatClampNeg = i := nI_clamp (by omega)
  have i2 := inL_nI (j := i) (n := 140) hi (by decide)
  have l3 : ¬ (5 : Int32) = 3 := by decide
  have l4 : ¬ (5 : Int32) = 4 := by decide
  have hw : mI Z 378 i = (5 : Int32) := hw
  have h := hZ
  simp only [fX12_does, fX12_does_L396, h.1, h.2.1, h.2.2, li_T, li_L, li_R, nm, bd, q_b, ne_eq, Nat.reduceEqDiff, reduceCtorEq, and_false, false_and, and_true, true_and, and_self, not_false_eq_true, not_true_eq_false, ↓reduceIte, mT_wJ, mL_wJ, mR_wJ, mI_wJ, i1, i2.1, i2.2, hw, a0, a1, a2, a3, a4, l3, l4]
theorem dd_6 {d V : Nat → Int32} (hn : 1200 ≤ n) (c : CD 6 V d) : DD H P n d 6 V := by
  obtain ⟨q0, q1, q2, q3, q4, q5, q6, q7, q8⟩ := c.2.2.1 rfl
  refine DD.minus (DS.gives (by omega) q0 q8) (fun bk dr Z i f hZ hi hw ra => ?_)
  obtain ⟨p0, p1, p2, p3, p4, p5, p6⟩ := ra.2.2.1 rfl
  have t0 : mI Z 379 (10 * i + 0) = d 1 := p0.trans q1.symm
  have a0 := r_a hZ (j := 0) (jI := 0) (by decide) hi (by decide) f
  rw [t0] at a0
  have t1 : mI Z 379 (10 * i + 1) = d 8 := p1.trans q2.symm
  have a1 := r_a hZ (j := 1) (jI := 1) (by decide) hi (by decide) f
  rw [t1] at a1
  have t2 : mI Z 379 (10 * i + 2) = d 9 := p2.trans q3.symm
  have a2 := r_a hZ (j := 2) (jI := 2) (by decide) hi (by decide) f
  rw [t2] at a2
  have t3 : mI Z 379 (10 * i + 3) = d 11 := p3.trans q4.symm
  have a3 := r_a hZ (j := 3) (jI := 3) (by decide) hi (by decide) f
  rw [t3] at a3
  have t4 : mI Z 379 (10 * i + 4) = d 13 := p4.trans q5.symm
  have a4 := r_a hZ (j := 4) (jI := 4) (by decide) hi (by decide) f
  rw [t4] at a4
  have t5 : mI Z 379 (10 * i + 5) = d 14 := p5.trans q6.symm
  have a5 := r_a hZ (j := 5) (jI := 5) (by decide) hi (by decide) f
  rw [t5] at a5
  have t6 : mI Z 379 (10 * i + 6) = d 15 := p6.trans q7.symm
  have a6 := r_a hZ (j := 6) (jI := 6) (by decide) hi (by decide) f
  rw [t6] at a6
  have i1 : (nI i).toNatClampNeg = i := nI_clamp (by omega)
  have i2 := inL_nI (j := i) (n := 140) hi (by decide)
  have l3 : ¬ (6 : Int32) = 3 := by decide
  have l4 : ¬ (6 : Int32) = 4 := by decide
  have l5 : ¬ (6 : Int32) = 5 := by decide
  have hw : mI Z 378 i = (6 : Int32) := hw
  have h := hZ
  simp only [fX12_does, fX12_does_L396, h.1, h.2.1, h.2.2, li_T, li_L, li_R, nm, bd, q_b, ne_eq, Nat.reduceEqDiff, reduceCtorEq, and_false, false_and, and_true, true_and, and_self, not_false_eq_true, not_true_eq_false, ↓reduceIte, mT_wJ, mL_wJ, mR_wJ, mI_wJ, i1, i2.1, i2.2, hw, a0, a1, a2, a3, a4, a5, a6, l3, l4, l5]
theorem dd_7 {d V : Nat → Int32} (hn : 1200 ≤ n) (c : CD 7 V d) : DD H P n d 7 V := by
  obtain ⟨q0, q1, q2, q3, q4, q5, q6, q7, q8, q9⟩ := c.2.2.2.1 rfl
  refine DD.minus (DS.offers (by omega) q0) (fun bk dr Z i f hZ hi hw ra => ?_)
  obtain ⟨p0, p1, p2, p3, p4, p5, p6, p7, p8⟩ := ra.2.2.2.1 rfl
  have t0 : mI Z 379 (10 * i + 0) = d 1 := p0.trans q1.symm
  have a0 := r_a hZ (j := 0) (jI := 0) (by decide) hi (by decide) f
  rw [t0] at a0
  have t1 : mI Z 379 (10 * i + 1) = d 8 := p1.trans q2.symm
  have a1 := r_a hZ (j := 1) (jI := 1) (by decide) hi (by decide) f
  rw [t1] at a1
  have t2 : mI Z 379 (10 * i + 2) = d 9 := p2.trans q3.symm
  have a2 := r_a hZ (j := 2) (jI := 2) (by decide) hi (by decide) f
  rw [t2] at a2
  have t3 : mI Z 379 (10 * i + 3) = d 10 := p3.trans q4.symm
  have a3 := r_a hZ (j := 3) (jI := 3) (by decide) hi (by decide) f
  rw [t3] at a3
  have t4 : mI Z 379 (10 * i + 4) = d 11 := p4.trans q5.symm
  have a4 := r_a hZ (j := 4) (jI := 4) (by decide) hi (by decide) f
  rw [t4] at a4
  have t5 : mI Z 379 (10 * i + 5) = d 12 := p5.trans q6.symm
  have a5 := r_a hZ (j := 5) (jI := 5) (by decide) hi (by decide) f
  rw [t5] at a5
  have t6 : mI Z 379 (10 * i + 6) = d 13 := p6.trans q7.symm
  have a6 := r_a hZ (j := 6) (jI := 6) (by decide) hi (by decide) f
  rw [t6] at a6
  have t7 : mI Z 379 (10 * i + 7) = d 14 := p7.trans q8.symm
  have a7 := r_a hZ (j := 7) (jI := 7) (by decide) hi (by decide) f
  rw [t7] at a7
  have t8 : mI Z 379 (10 * i + 8) = d 15 := p8.trans q9.symm
  have a8 := r_a hZ (j := 8) (jI := 8) (by decide) hi (by decide) f
  rw [t8] at a8
  have i1 : (nI i).toNatClampNeg = i := nI_clamp (by omega)
  have i2 := inL_nI (j := i) (n := 140) hi (by decide)
  have l3 : ¬ (7 : Int32) = 3 := by decide
  have l4 : ¬ (7 : Int32) = 4 := by decide
  have l5 : ¬ (7 : Int32) = 5 := by decide
  have l6 : ¬ (7 : Int32) = 6 := by decide
  have hw : mI Z 378 i = (7 : Int32) := hw
  have h := hZ
  simp only [fX12_does, fX12_does_L396, h.1, h.2.1, h.2.2, li_T, li_L, li_R, nm, bd, q_b, ne_eq, Nat.reduceEqDiff, reduceCtorEq, and_false, false_and, and_true, true_and, and_self, not_false_eq_true, not_true_eq_false, ↓reduceIte, mT_wJ, mL_wJ, mR_wJ, mI_wJ, i1, i2.1, i2.2, hw, a0, a1, a2, a3, a4, a5, a6, a7, a8, l3, l4, l5, l6]
theorem dd_8 {d V : Nat → Int32} (hn : 1200 ≤ n) (c : CD 8 V d) : DD H P n d 8 V := by
  obtain ⟨q0, q1, q2, q3, q4, q5, q6, q7, q8, q9⟩ := c.2.2.2.2.1 rfl
  refine DD.minus (DS.turns (by omega) q0 (q8.trans q7.symm) (q9.trans q7.symm)) (fun bk dr Z i f hZ hi hw ra => ?_)
  obtain ⟨p0, p1, p2, p3, p4, p5, p6⟩ := ra.2.2.2.2.1 rfl
  have t0 : mI Z 379 (10 * i + 0) = d 1 := p0.trans q1.symm
  have a0 := r_a hZ (j := 0) (jI := 0) (by decide) hi (by decide) f
  rw [t0] at a0
  have t1 : mI Z 379 (10 * i + 1) = d 7 := p1.trans q2.symm
  have a1 := r_a hZ (j := 1) (jI := 1) (by decide) hi (by decide) f
  rw [t1] at a1
  have t2 : mI Z 379 (10 * i + 2) = d 8 := p2.trans q3.symm
  have a2 := r_a hZ (j := 2) (jI := 2) (by decide) hi (by decide) f
  rw [t2] at a2
  have t3 : mI Z 379 (10 * i + 3) = d 9 := p3.trans q4.symm
  have a3 := r_a hZ (j := 3) (jI := 3) (by decide) hi (by decide) f
  rw [t3] at a3
  have t4 : mI Z 379 (10 * i + 4) = d 10 := p4.trans q5.symm
  have a4 := r_a hZ (j := 4) (jI := 4) (by decide) hi (by decide) f
  rw [t4] at a4
  have t5 : mI Z 379 (10 * i + 5) = d 11 := p5.trans q6.symm
  have a5 := r_a hZ (j := 5) (jI := 5) (by decide) hi (by decide) f
  rw [t5] at a5
  have t6 : mI Z 379 (10 * i + 6) = d 14 := p6.trans q7.symm
  have a6 := r_a hZ (j := 6) (jI := 6) (by decide) hi (by decide) f
  rw [t6] at a6
  have i1 : (nI i).toNatClampNeg = i := nI_clamp (by omega)
  have i2 := inL_nI (j := i) (n := 140) hi (by decide)
  have l3 : ¬ (8 : Int32) = 3 := by decide
  have l4 : ¬ (8 : Int32) = 4 := by decide
  have l5 : ¬ (8 : Int32) = 5 := by decide
  have l6 : ¬ (8 : Int32) = 6 := by decide
  have l7 : ¬ (8 : Int32) = 7 := by decide
  have hw : mI Z 378 i = (8 : Int32) := hw
  have h := hZ
  simp only [fX12_does, fX12_does_L396, h.1, h.2.1, h.2.2, li_T, li_L, li_R, nm, bd, q_b, ne_eq, Nat.reduceEqDiff, reduceCtorEq, and_false, false_and, and_true, true_and, and_self, not_false_eq_true, not_true_eq_false, ↓reduceIte, mT_wJ, mL_wJ, mR_wJ, mI_wJ, i1, i2.1, i2.2, hw, a0, a1, a2, a3, a4, a5, a6, l3, l4, l5, l6, l7]
theorem dd_19 {d V : Nat → Int32} (hn : 1200 ≤ n) (c : CD 19 V d) : DD H P n d 19 V := by
  obtain ⟨q0, q1, q2, q3, q4⟩ := c.2.2.2.2.2.1 rfl
  refine DD.bool (fun r r' u z => z) (DS.choose q0) (fun bk dr Z i f hZ hi hw ra => ?_)
  obtain ⟨p0, p1, p2, p3⟩ := ra.2.2.2.2.2.1 rfl
  have t0 : mI Z 379 (10 * i + 0) = d 16 := p0.trans q1.symm
  have a0 := r_a hZ (j := 0) (jI := 0) (by decide) hi (by decide) f
  rw [t0] at a0
  have t1 : mI Z 379 (10 * i + 1) = d 2 := p1.trans q2.symm
  have a1 := r_a hZ (j := 1) (jI := 1) (by decide) hi (by decide) f
  rw [t1] at a1
  have t2 : mI Z 379 (10 * i + 2) = d 17 := p2.trans q3.symm
  have a2 := r_a hZ (j := 2) (jI := 2) (by decide) hi (by decide) f
  rw [t2] at a2
  have t3 : mI Z 379 (10 * i + 3) = d 18 := p3.trans q4.symm
  have a3 := r_a hZ (j := 3) (jI := 3) (by decide) hi (by decide) f
  rw [t3] at a3
  have i1 : (nI i).toNatClampNeg = i := nI_clamp (by omega)
  have i2 := inL_nI (j := i) (n := 140) hi (by decide)
  have l3 : ¬ (19 : Int32) = 3 := by decide
  have l4 : ¬ (19 : Int32) = 4 := by decide
  have l5 : ¬ (19 : Int32) = 5 := by decide
  have l6 : ¬ (19 : Int32) = 6 := by decide
  have l7 : ¬ (19 : Int32) = 7 := by decide
  have l8 : ¬ (19 : Int32) = 8 := by decide
  have l9 : ¬ (19 : Int32) = 9 := by decide
  have l10 : ¬ (19 : Int32) = 10 := by decide
  have l11 : ¬ (19 : Int32) = 11 := by decide
  have l12 : ¬ (19 : Int32) = 12 := by decide
  have l13 : ¬ (19 : Int32) = 13 := by decide
  have l14 : ¬ (19 : Int32) = 14 := by decide
  have l15 : ¬ (19 : Int32) = 15 := by decide
  have l16 : ¬ (19 : Int32) = 16 := by decide
  have l17 : ¬ (19 : Int32) = 17 := by decide
  have l18 : ¬ (19 : Int32) = 18 := by decide
  have hw : mI Z 378 i = (19 : Int32) := hw
  have h := hZ
  simp only [fX12_does, fX12_does_L396, h.1, h.2.1, h.2.2, li_T, li_L, li_R, nm, bd, q_b, ne_eq, Nat.reduceEqDiff, reduceCtorEq, and_false, false_and, and_true, true_and, and_self, not_false_eq_true, not_true_eq_false, ↓reduceIte, mT_wJ, mL_wJ, mR_wJ, mI_wJ, i1, i2.1, i2.2, hw, a0, a1, a2, a3, l3, l4, l5, l6, l7, l8, l9, l10, l11, l12, l13, l14, l15, l16, l17, l18]
theorem dd_20 {d V : Nat → Int32} (hn : 1200 ≤ n) (c : CD 20 V d) : DD H P n d 20 V := by
  obtain ⟨q0, q1⟩ := c.2.2.2.2.2.2 rfl
  refine DD.bool (fun r r' u z => z.1) (DS.days (by omega) q0) (fun bk dr Z i f hZ hi hw ra => ?_)
  have p0 := ra.2.2.2.2.2.2 rfl
  have t0 : mI Z 379 (10 * i + 0) = d 19 := p0.trans q1.symm
  have a0 := r_a hZ (j := 0) (jI := 0) (by decide) hi (by decide) f
  rw [t0] at a0
  have i1 : (nI i).toNatClampNeg = i := nI_clamp (by omega)
  have i2 := inL_nI (j := i) (n := 140) hi (by decide)
  have l3 : ¬ (20 : Int32) = 3 := by decide
  have l4 : ¬ (20 : Int32) = 4 := by decide
  have l5 : ¬ (20 : Int32) = 5 := by decide
  have l6 : ¬ (20 : Int32) = 6 := by decide
  have l7 : ¬ (20 : Int32) = 7 := by decide
  have l8 : ¬ (20 : Int32) = 8 := by decide
  have l9 : ¬ (20 : Int32) = 9 := by decide
  have l10 : ¬ (20 : Int32) = 10 := by decide
  have l11 : ¬ (20 : Int32) = 11 := by decide
  have l12 : ¬ (20 : Int32) = 12 := by decide
  have l13 : ¬ (20 : Int32) = 13 := by decide
  have l14 : ¬ (20 : Int32) = 14 := by decide
  have l15 : ¬ (20 : Int32) = 15 := by decide
  have l16 : ¬ (20 : Int32) = 16 := by decide
  have l17 : ¬ (20 : Int32) = 17 := by decide
  have l18 : ¬ (20 : Int32) = 18 := by decide
  have l19 : ¬ (20 : Int32) = 19 := by decide
  have hw : mI Z 378 i = (20 : Int32) := hw
  have h := hZ
  simp only [fX12_does, fX12_does_L396, h.1, h.2.1, h.2.2, li_T, li_L, li_R, nm, bd, q_b, ne_eq, Nat.reduceEqDiff, reduceCtorEq, and_false, false_and, and_true, true_and, and_self, not_false_eq_true, not_true_eq_false, ↓reduceIte, mT_wJ, mL_wJ, mR_wJ, mI_wJ, i1, i2.1, i2.2, hw, a0, l3, l4, l5, l6, l7, l8, l9, l10, l11, l12, l13, l14, l15, l16, l17, l18, l19]
theorem dd_w {d V : Nat → Int32} {w : Nat} (x : isW w) (hn : 1200 ≤ n) (c : CD w V d) : DD H P n d w V := by
  rcases x with rfl | rfl | rfl | rfl | rfl | rfl | rfl
  · exact dd_3 hn c
  · exact dd_5 hn c
  · exact dd_6 hn c
  · exact dd_7 hn c
  · exact dd_8 hn c
  · exact dd_19 hn c
  · exact dd_20 hn c
end
