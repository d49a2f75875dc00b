/-! DEEDS BY CALL -/
theorem bd_ret {A : Type} (o : Option (A × Mm)) : bd o (fun a X => some (a, X)) = o := by
  cases o with
  | none => rfl
  | some p => rfl
theorem pW_id {s : Nat} {u : Wt} {Y : Mm} (hI : ∀ a k, a ≤ 42 → u.1 a k = mI Y (s + a) k) (hJ : ∀ a k, a ≤ 42 → u.2 a k = mJ Y (s + a) k) : pW s u Y = Y := by
  obtain ⟨a, b, c, d, e, f, g⟩ := Y
  simp only [pW, mN, mT, mL, mI, mJ, mR, mS] at hI hJ ⊢
  congr 4
  · funext x k
    by_cases h : s ≤ x ∧ x ≤ s + 42
    · rw [if_pos h, hI _ _ (by omega), show s + (x - s) = x by omega]
    · rw [if_neg h]
  · congr 1
    funext x k
    by_cases h : s ≤ x ∧ x ≤ s + 42
    · rw [if_pos h, hJ _ _ (by omega), show s + (x - s) = x by omega]
    · rw [if_neg h]
theorem Tp.upd {bk dr H P : Nat} {X Y : Mm} (h : Tp bk dr H P X) (hS : Shp bk dr Y) (hI : ∀ c k, rlI c k → ¬ (16 ≤ c ∧ c ≤ 361) → ¬ (c = 366 ∧ k = 5) → mI Y c k = mI X c k) (hJ : ∀ c, c = 371 ∨ c = 372 → ∀ k, mJ Y c k = mJ X c k) (hN : SR H P (mJ Y 367) (gW 16 Y)) (hH : HiR H P Y) : Tp bk dr H P Y := by
  obtain ⟨h1, h2, h3, h4, h5, h6, -, -, ⟨n1, n2, ⟨nh, n3⟩, ⟨np, n4⟩⟩, ⟨L, t1, t2, t3, t4⟩, ⟨f1, f2⟩, ⟨M, s1, s2, s3, s4⟩, l⟩ := h
  have hb : bk = 7 ∨ bk = 11 := by rcases h2 with z | z <;> omega
  have q : ∀ c k, rlI c k → (c < 16 ∨ 361 < c) → (c = 366 → k ≠ 5) → mI Y c k = mI X c k := fun c k a b d => hI c k a (by omega) (by omega)
  refine ⟨hS, h2, h3, h4, by rw [q _ _ (by unfold rlI; omega) (by omega) (by omega)]; exact h5, by rw [q _ _ (by unfold rlI; omega) (by omega) (by omega)]; exact h6, hN, hH, ⟨by rw [q _ _ (by unfold rlI; omega) (by omega) (by omega)]; exact n1, by rw [q _ _ (by unfold rlI; omega) (by omega) (by omega)]; exact n2, ⟨nh, fun i hi => ?_⟩, ⟨np, fun i hi => ?_⟩⟩, ⟨L, t1, by rw [q _ _ (by unfold rlI; omega) (by omega) (by omega)]; exact t2, by rw [q _ _ (by unfold rlI; omega) (by omega) (by omega)]; exact t3, fun i hi => ?_⟩, ⟨?_, ?_⟩, ⟨M, s1, by rw [q _ _ (by unfold rlI; omega) (by omega) (by omega)]; exact s2, by rw [q _ _ (by unfold rlI; omega) (by omega) (by omega)]; exact s3, fun i hi => ?_⟩, fun i hi => ?_⟩
  · rw [q _ _ (by unfold rlI; omega) (by omega) (by omega), hJ _ (by omega)]; exact n3 i hi
  · rw [q _ _ (by unfold rlI; omega) (by omega) (by omega), hJ _ (by omega)]; exact n4 i hi
  · rw [q _ _ (by unfold rlI; omega) (by omega) (by omega), q _ _ (by unfold rlI; omega) (by omega) (by omega)]; exact t4 i hi
  · rw [q _ _ (by unfold rlI; omega) (by omega) (by omega), q _ _ (by unfold rlI; omega) (by omega) (by omega)]; exact f1
  · rw [q _ _ (by unfold rlI; omega) (by omega) (by omega), q _ _ (by unfold rlI; omega) (by omega) (by omega)]; exact f2
  · rw [q _ _ (by unfold rlI; omega) (by omega) (by omega), q _ _ (by unfold rlI; omega) (by omega) (by omega)]; exact s4 i hi
  · rw [q _ _ (by unfold rlI; omega) (by omega) (by omega)]; exact l i hi
/-- the place of the State that is kept -/
def sl (i : Nat) : Nat := 61 + 43 * i
theorem sl_St {i : Nat} (h : i < 7) : St (sl i) := by
  rcases (by omega : i = 0 ∨ i = 1 ∨ i = 2 ∨ i = 3 ∨ i = 4 ∨ i = 5 ∨ i = 6) with rfl | rfl | rfl | rfl | rfl | rfl | rfl <;> (show _ ∈ st_all; decide)
theorem HiR.keep {H P nx c : Nat} {X Y : Mm} (h1 : nx < 7) (h2 : c ≤ 6) (h3 : ∀ j, j < c → SR H P (fun k => mJ X 370 (4604 * j + k)) (gW (sl ((nx + 7 - c + j) % 7)) X)) (y1 : mI Y 59 1 = nI ((nx + 1) % 7)) (y2 : mI Y 59 2 = nI (if c = 6 then 6 else c + 1)) (y3 : mI Y 366 5 = nI (if c = 6 then 6 else c + 1))
    (w1 : ∀ i, i < 7 → i ≠ nx → Weq (gW (sl i) X) (gW (sl i) Y)) (w2 : Weq (gW 16 X) (gW (sl nx) Y)) (k1 : ∀ j k, j < c → j < 5 ∨ c < 6 → k < 4604 → mJ Y 370 (4604 * j + k) = mJ X 370 (4604 * (if c = 6 then j + 1 else j) + k)) (k2 : ∀ k, k < 4604 → mJ Y 370 (4604 * (if c = 6 then 5 else c) + k) = mJ X 367 k)
    (now : SR H P (mJ X 367) (gW 16 X)) : HiR H P Y := by
  refine ⟨(nx + 1) % 7, if c = 6 then 6 else c + 1, by omega, by split <;> omega, y1, y2, y3, fun j hj => ?_⟩
  show SR H P (fun k => mJ Y 370 (4604 * j + k)) (gW (sl (((nx + 1) % 7 + 7 - (if c = 6 then 6 else c + 1) + j) % 7)) Y)
  by_cases h6 : c = 6
  · subst h6
    rw [if_pos rfl] at hj ⊢
    simp only [if_pos rfl] at k1 k2
    by_cases j5 : j = 5
    · subst j5
      rw [show ((nx + 1) % 7 + 7 - 6 + 5) % 7 = nx by omega]
      exact now.weq w2 (fun p hp => k2 p hp)
    · rw [show ((nx + 1) % 7 + 7 - 6 + j) % 7 = (nx + 7 - 6 + (j + 1)) % 7 by omega]
      exact (h3 (j + 1) (by omega)).weq (w1 _ (by omega) (by omega)) (fun p hp => k1 j p (by omega) (Or.inl (by omega)) hp)
  · rw [if_neg h6] at hj ⊢
    simp only [if_neg h6] at k1 k2
    by_cases jc : j = c
    · subst jc
      rw [show ((nx + 1) % 7 + 7 - (j + 1) + j) % 7 = nx by omega]
      exact now.weq w2 (fun p hp => k2 p hp)
    · rw [show ((nx + 1) % 7 + 7 - (c + 1) + j) % 7 = (nx + 7 - c + j) % 7 by omega]
      exact (h3 j (by omega)).weq (w1 _ (by omega) (by omega)) (fun p hp => k1 j p (by omega) (Or.inr (by omega)) hp)
section
variable {bk dr H P n : Nat} {X : Mm} {d : Nat → Int32}
theorem c_spare (h : Shp bk dr X) {nx : Nat} (h1 : nx < 7) (h2 : mI X 59 1 = nI nx) : fX4_spare 59 X = some (sl nx, X) := by
  rcases (by omega : nx = 0 ∨ nx = 1 ∨ nx = 2 ∨ nx = 3 ∨ nx = 4 ∨ nx = 5 ∨ nx = 6) with rfl | rfl | rfl | rfl | rfl | rfl | rfl <;> simp only [fX4_spare, h.1, h.2.1, h.2.2, li_T, li_L, li_R, nm, bd, q_b, ne_eq, Nat.reduceEqDiff, reduceCtorEq, and_false, false_and, and_true, true_and, and_self, not_false_eq_true, not_true_eq_false, ↓reduceIte, h2, nI_clamp (show (0 : Nat) < 2 ^ 31 by decide), nI_clamp (show (1 : Nat) < 2 ^ 31 by decide), nI_clamp (show (2 : Nat) < 2 ^ 31 by decide), nI_clamp (show (3 : Nat) < 2 ^ 31 by decide), nI_clamp (show (4 : Nat) < 2 ^ 31 by decide), nI_clamp (show (5 : Nat) < 2 ^ 31 by decide), nI_clamp (show (6 : Nat) < 2 ^ 31 by decide), (inL_nI (j := 0) (n := 7) (by decide) (by decide)).1, (inL_nI (j := 0) (n := 7) (by decide) (by decide)).2, (inL_nI (j := 1) (n := 7) (by decide) (by decide)).1, (inL_nI (j := 1) (n := 7) (by decide) (by decide)).2, (inL_nI (j := 2) (n := 7) (by decide) (by decide)).1, (inL_nI (j := 2) (n := 7) (by decide) (by decide)).2, (inL_nI (j := 3) (n := 7) (by decide) (by decide)).1, (inL_nI (j := 3) (n := 7) (by decide) (by decide)).2, (inL_nI (j := 4) (n := 7) (by decide) (by decide)).1, (inL_nI (j := 4) (n := 7) (by decide) (by decide)).2, (inL_nI (j := 5) (n := 7) (by decide) (by decide)).1, (inL_nI (j := 5) (n := 7) (by decide) (by decide)).2, (inL_nI (j := 6) (n := 7) (by decide) (by decide)).1, (inL_nI (j := 6) (n := 7) (by decide) (by decide)).2] <;> rfl
theorem c_keepSpare (h : Shp bk dr X) {nx c : Nat} (h1 : nx < 7) (hc : c ≤ 6) (h2 : mI X 59 1 = nI nx) (h3 : mI X 59 2 = nI c) : fX4_keepSpare 59 X = some ((), sI (sI X 59 1 (nI ((nx + 1) % 7))) 59 2 (nI (if c = 6 then 6 else c + 1))) := by
  have hmin : (if (6 : Int32) < nI c + 1 then (6 : Int32) else nI c + 1) = nI (if c = 6 then 6 else c + 1) := by
    rcases (by omega : c = 0 ∨ c = 1 ∨ c = 2 ∨ c = 3 ∨ c = 4 ∨ c = 5 ∨ c = 6) with rfl | rfl | rfl | rfl | rfl | rfl | rfl <;> decide
  by_cases h6 : nx = 6
  · subst h6
    have e : nI 6 = (6 : Int32) := rfl
    have m : (0 : Int32) = nI ((6 + 1) % 7) := rfl
    simp only [fX4_keepSpare, fX4_keepSpare_L20, h.1, h.2.1, h.2.2, li_T, li_L, li_R, nm, bd, q_b, ne_eq, Nat.reduceEqDiff, reduceCtorEq, and_false, false_and, and_true, true_and, and_self, not_false_eq_true, not_true_eq_false, ↓reduceIte, h2, e, mT_sI, mI_sI, h3, hmin]
    rw [m]
  · have e : ¬ nI nx = (6 : Int32) := fun z => h6 ((nI_eq (a := nx) (b := 6) (by omega) (by omega)).mp z)
    have m : (nx + 1) % 7 = nx + 1 := by omega
    rw [nI_1] at hmin
    simp only [fX4_keepSpare, fX4_keepSpare_L20, h.1, h.2.1, h.2.2, li_T, li_L, li_R, nm, bd, q_b, ne_eq, Nat.reduceEqDiff, reduceCtorEq, and_false, false_and, and_true, true_and, and_self, not_false_eq_true, not_true_eq_false, ↓reduceIte, h2, e, mT_sI, mI_sI, h3, hmin, nI_1, m]
/-- class: a deed, done if it can be -/
theorem k_deed (h : Tp bk dr H P X) (hd : mI X 15 = d) {op : Mm → Option (Int32 × Mm)} {good : Int32 → Int32 → Wt → Prop} {bad : Int32} (D : DS H P n d op good bad) :
    (∃ r w' X1, r ≠ -1 ∧ fX11_doDeed n 1 X = some (r, X1) ∧ Shp bk dr X1 ∧ (∀ c k, ¬ (16 ≤ c ∧ c ≤ 361) → mI X1 c k = mI X c k) ∧ (∀ c k, ¬ (16 ≤ c ∧ c ≤ 361) → mJ X1 c k = mJ X c k) ∧ Weq w' (gW 16 X1) ∧
      (∃ nx c, nx < 7 ∧ c ≤ 6 ∧ mI X 59 1 = nI nx ∧ mI X 59 2 = nI c ∧ mI X 366 5 = nI c ∧ (∀ j, j < c → SR H P (fun k => mJ X 370 (4604 * j + k)) (gW (sl ((nx + 7 - c + j) % 7)) X)) ∧ mI X1 59 1 = nI ((nx + 1) % 7) ∧ mI X1 59 2 = nI (if c = 6 then 6 else c + 1) ∧ (∀ i, i < 7 → i ≠ nx → Weq (gW (sl i) X) (gW (sl i) X1)) ∧ Weq (gW 16 X) (gW (sl nx) X1)) ∧
      ∀ Z, Shp bk dr Z → mI Z 366 6 = nI H → mI Z 366 7 = nI P → ∃ r' f', op (wJ Z 367 (mJ X 367)) = some (r', wJ Z 367 f') ∧ good r r' w' ∧ SR H P f' w') ∨
    (∃ X1, fX11_doDeed n 1 X = some (-1, X1) ∧ Tp bk dr H P X1 ∧ mJ X1 367 = mJ X 367 ∧ ∀ Z, Shp bk dr Z → mI Z 366 6 = nI H → mI Z 366 7 = nI P → op (wJ Z 367 (mJ X 367)) = some (bad, wJ Z 367 (mJ X 367))) := by
  have hT := h
  obtain ⟨h1, h2, h3, h4, h5, h6, h7, ⟨nx, c, g1, g2, g3, g4, g5, g6⟩, -, -, -, -, -⟩ := h
  have h := h1
  have hs := sl_St g1
  have hlo : sl nx = 61 + 43 * nx := rfl
  have cp := c_copy (u := gW (sl nx) X) h1 St.now hs (by omega)
  rw [pW_gW] at cp
  have hY : Shp bk dr (pW (sl nx) (N_cp (gW 16 X) (gW (sl nx) X)) X) := h1
  have yI : ∀ c k, (c < sl nx ∨ sl nx + 42 < c) → mI (pW (sl nx) (N_cp (gW 16 X) (gW (sl nx) X)) X) c k = mI X c k := fun c k hc => mI_pWo c k hc
  have yJ : ∀ c k, (c < sl nx ∨ sl nx + 42 < c) → mJ (pW (sl nx) (N_cp (gW 16 X) (gW (sl nx) X)) X) c k = mJ X c k := fun c k hc => mJ_pWo c k hc
  have yW : Weq (gW 16 X) (gW (sl nx) (pW (sl nx) (N_cp (gW 16 X) (gW (sl nx) X)) X)) := (N_cp_eq (gW 16 X) (gW (sl nx) X)).symm.trans Weq.pW
  have id := pW_id (s := 16) (u := gW 16 X) (Y := pW (sl nx) (N_cp (gW 16 X) (gW (sl nx) X)) X) (fun a k ha => (yI _ k (by omega)).symm) (fun a k ha => (yJ _ k (by omega)).symm)
  have d15 : mI (pW (sl nx) (N_cp (gW 16 X) (gW (sl nx) X)) X) 15 = d := by rw [← hd]; exact funext fun k => yI 15 k (by omega)
  have D' := D bk dr _ (mJ X 367) (gW 16 X) hY d15 h3 h4 h7
  rw [id] at D'
  generalize pW (sl nx) (N_cp (gW 16 X) (gW (sl nx) X)) X = Y at *
  rcases D' with ⟨r, w', e1, e2, e3⟩ | ⟨e2, e3⟩
  · left
    have hK : Shp bk dr (pW 16 w' Y) := hY
    have q1 : mI (pW 16 w' Y) 59 1 = nI nx := by rw [mI_pWo _ _ (by omega), yI _ _ (by omega)]; exact g3
    have q2 : mI (pW 16 w' Y) 59 2 = nI c := by rw [mI_pWo _ _ (by omega), yI _ _ (by omega)]; exact g4
    have ks := c_keepSpare hK g1 g2 q1 q2
    refine ⟨r, w', sI (sI (pW 16 w' Y) 59 1 (nI ((nx + 1) % 7))) 59 2 (nI (if c = 6 then 6 else c + 1)), e1, ?_, hY, fun a k ha => ?_, fun a k ha => ?_, ?_, ⟨nx, c, g1, g2, g3, g4, g5, g6, ?_, ?_, fun i hi hne => ?_, ?_⟩, e3⟩
    · simp only [fX11_doDeed, fX11_doDeed_L38, h.1, h.2.1, h.2.2, li_T, li_L, li_R, nm, bd, q_b, ne_eq, Nat.reduceEqDiff, reduceCtorEq, and_false, false_and, and_true, true_and, and_self, not_false_eq_true, not_true_eq_false, ↓reduceIte, c_spare h1 g1 g3, (st_T (sl nx) hs).1, cp, hY.1, hY.2.1, hY.2.2, (st_T 16 St.now).1, e2, e1, hK.1, hK.2.2, ks]
    · rw [mI_sI, if_neg (by omega), mI_sI, if_neg (by omega), mI_pWo _ _ (by omega), yI _ _ (by omega)]
    · show mJ (pW 16 w' Y) a k = _
      rw [mJ_pWo _ _ (by omega), yJ _ _ (by omega)]
    · refine Weq.pW.trans (Weq.of (fun a k ha => ?_) (fun a k ha => rfl))
      rw [mI_sI, if_neg (by omega), mI_sI, if_neg (by omega)]
    · rw [mI_sI, if_neg (by omega), mI_sI, if_pos ⟨rfl, rfl⟩]
    · rw [mI_sI, if_pos ⟨rfl, rfl⟩]
    · have hlo2 : sl i = 61 + 43 * i := rfl
      refine Weq.of (fun a k ha => ?_) (fun a k ha => ?_)
      · rw [mI_sI, if_neg (by omega), mI_sI, if_neg (by omega), mI_pWo _ _ (by omega), yI _ _ (by omega)]
      · show mJ (pW 16 w' Y) (sl i + a) k = _
        rw [mJ_pWo _ _ (by omega), yJ _ _ (by omega)]
    · refine yW.trans (Weq.of (fun a k ha => ?_) (fun a k ha => ?_))
      · rw [mI_sI, if_neg (by omega), mI_sI, if_neg (by omega), mI_pWo _ _ (by omega)]
      · show mJ (pW 16 w' Y) (sl nx + a) k = _
        rw [mJ_pWo _ _ (by omega)]
  · right
    refine ⟨Y, ?_, ?_, funext fun k => yJ _ _ (by omega), e3⟩
    · simp only [fX11_doDeed, fX11_doDeed_L38, h.1, h.2.1, h.2.2, li_T, li_L, li_R, nm, bd, q_b, ne_eq, Nat.reduceEqDiff, reduceCtorEq, and_false, false_and, and_true, true_and, and_self, not_false_eq_true, not_true_eq_false, ↓reduceIte, c_spare h1 g1 g3, (st_T (sl nx) hs).1, cp, hY.1, hY.2.1, hY.2.2, (st_T 16 St.now).1, e2]
    · refine hT.upd hY (fun a k _ ha _ => yI _ _ (by omega)) (fun a ha k => yJ _ _ (by omega)) ?_ ⟨nx, c, g1, g2, by rw [yI _ _ (by omega)]; exact g3, by rw [yI _ _ (by omega)]; exact g4, by rw [yI _ _ (by omega)]; exact g5, fun j hj => ?_⟩
      · exact h7.weq (Weq.of (fun a k ha => yI _ _ (by omega)) (fun a k ha => yJ _ _ (by omega))) (fun p _ => yJ _ _ (by omega))
      · have ne : (nx + 7 - c + j) % 7 ≠ nx := by omega
        have lt : (nx + 7 - c + j) % 7 < 7 := by omega
        have g := g6 j hj
        generalize (nx + 7 - c + j) % 7 = i at *
        exact g.weq (Weq.of (s := 61 + 43 * i) (s' := 61 + 43 * i) (fun a k ha => yI (61 + 43 * i + a) k (by omega)) (fun a k ha => yJ (61 + 43 * i + a) k (by omega))) (fun p _ => yJ 370 _ (by omega))
end
