/-! THE REFERENCE: a TURN -/
theorem uI_commk (w : Wt) (a : Nat) {k j : Nat} (h : k ≠ j) (u v : Int32) : uI (uI w a k u) a j v = uI (uI w a j v) a k u := by
  unfold uI
  congr 1
  funext c i
  show q_u2 (q_u2 w.1 a k u) a j v c i = q_u2 (q_u2 w.1 a j v) a k u c i
  rw [q_u2_at, q_u2_at, q_u2_at, q_u2_at]
  by_cases h1 : c = a ∧ i = k
  · rw [if_pos h1, if_neg (fun z => h (h1.2.symm.trans z.2)), if_pos h1]
  · rw [if_neg h1, if_neg h1]
theorem nf_fuse {A : Type} {P : A → Prop} {f g : Nat → A → A} {L : Nat} (hf : ∀ i a, P a → P (f i a)) (hg : ∀ i a, P a → P (g i a)) (h : ∀ i k a, i < k → k < L → P a → g k (f i a) = f i (g k a)) : ∀ m i a, i + m ≤ L → P a → nf (fun i a => f i (g i a)) m i a = nf f m i (nf g m i a) := by
  have pg : ∀ m i a, P a → P (nf g m i a) := by
    intro m
    induction m with
    | zero => intro i a ha; exact ha
    | succ m ih => intro i a ha; exact ih _ _ (hg i a ha)
  have c : ∀ m i k a, i < k → k + m ≤ L → P a → nf g m k (f i a) = f i (nf g m k a) := by
    intro m
    induction m with
    | zero => intro i k a _ _ _; rfl
    | succ m ih =>
      intro i k a h1 h2 ha
      rw [nf, nf, h i k a h1 (by omega) ha]
      exact ih i (k + 1) (g k a) (by omega) (by omega) (hg k a ha)
  intro m
  induction m with
  | zero => intro i a _ _; rfl
  | succ m ih =>
    intro i a h1 ha
    rw [nf, nf, nf, ih (i + 1) _ (by omega) (hf i _ (hg i a ha)), c m i (i + 1) _ (by omega) (by omega) (hg i a ha)]
theorem ix_nI {h p : Nat} (hh : h < 10) (hp : p < 5) : ix (nI h) (nI p) = 5 * h + p := by
  unfold ix
  rw [show (5 : Int32) = nI 5 from rfl, pk_mul, nI_add, nI_clamp (by omega), Nat.mul_comm]
theorem ix_ne {h k : Nat} {p r : Int32} (hh : h < 10) (hk : k < 10) (hp : inL p 5) (hr : inL r 5) (hne : h ≠ k) : ix (nI h) p ≠ ix (nI k) r := by
  obtain ⟨i, hi, rfl⟩ := inL_of hp (by decide)
  obtain ⟨j, hj, rfl⟩ := inL_of hr (by decide)
  rw [ix_nI hh hi, ix_nI hk hj]
  omega
theorem N_add_uJ {i : Nat} {v u : Int64} {w : Wt} {a k : Nat} (h : a ≠ 1) : N_add i v (uJ w a k u) = uJ (N_add i v w) a k u := by
  unfold N_add
  rw [uJ_2, if_neg (by omega), uJ_comm _ h]
theorem N_pu_uJ {h : Nat} {v u : Int64} {w : Wt} {a k : Nat} (ha : a ≠ 2) : N_pu h v (uJ w a k u) = uJ (N_pu h v w) a k u := by
  unfold N_pu
  rw [uJ_2, if_neg (by omega), uJ_comm _ ha]
theorem N_issue_uJ {e : Nat} {x y u : Int64} {w : Wt} {a k : Nat} (ha : a ≠ 28 ∧ a ≠ 29) : N_issue e x y (uJ w a k u) = uJ (N_issue e x y w) a k u := by
  have r8 : (uJ w a k u).2 28 e = w.2 28 e := by rw [uJ_2, if_neg (by omega)]
  have r9 : (uJ w a k u).2 29 e = w.2 29 e := by rw [uJ_2, if_neg (by omega)]
  unfold N_issue
  rw [r8, r9, uJ_comm _ ha.1, uJ_comm _ ha.2]
theorem N_give_uJ {h e i : Nat} {v u : Int64} {w : Wt} {a k : Nat} (ha : a ≠ 1 ∧ a ≠ 2 ∧ a ≠ 28 ∧ a ≠ 29) : N_give h e i v (uJ w a k u) = uJ (N_give h e i v w) a k u := by
  have e1 : N_sf e v (uJ w a k u) = N_sf e v w := N_sf_eq fun _ _ => rfl
  have e2 : N_mf e v (uJ w a k u) = N_mf e v w := N_mf_eq fun _ _ => rfl
  unfold N_give
  rw [e1, e2, N_add_uJ ha.1, N_pu_uJ ha.2.1, N_issue_uJ ha.2.2]
theorem N_tph_ws {e i k : Nat} {a : Wt} (hi : i < 10) (hk : k < 10) (hne : i ≠ k) (hp : inL (a.1 15 e) 5) (hq : inL (a.1 16 e) 5) : N_ws e k (N_tph e i a) = N_tph e i (N_ws e k a) := by
  have n1 := ix_ne hk hi hp hp (fun z => hne z.symm)
  have n2 := ix_ne hk hi hp hq (fun z => hne z.symm)
  have r : (N_tph e i a).2 1 (ix (nI k) (a.1 15 e)) = a.2 1 (ix (nI k) (a.1 15 e)) := by
    unfold N_tph N_give N_issue N_pu N_add
    rw [uJ_2, if_neg (by omega), uJ_2, if_neg (by omega), uJ_2, if_neg (by omega), uJ_2, if_neg (fun z => n2 z.2), uJ_2, if_neg (fun z => n1 z.2)]
  have s : (N_ws e k a).2 1 (ix (nI i) (a.1 15 e)) = a.2 1 (ix (nI i) (a.1 15 e)) := by
    unfold N_ws
    rw [uJ_2, if_neg (by omega)]
  show uJ (N_tph e i a) 31 (10 * e + k) ((N_tph e i a).2 1 (ix (nI k) (a.1 15 e))) = N_give i e (ix (nI i) (a.1 16 e)) ((N_ws e k a).2 1 (ix (nI i) (a.1 15 e))) (N_add (ix (nI i) (a.1 15 e)) (-((N_ws e k a).2 1 (ix (nI i) (a.1 15 e)))) (N_ws e k a))
  rw [r, s]
  unfold N_ws
  rw [N_add_uJ (by decide), N_give_uJ (by decide)]
  rfl
theorem i64_sub_sub (a b c : Int64) : a - b - c = a - (b + c) := by
  rw [Int64.sub_eq_add_neg, Int64.sub_eq_add_neg, Int64.sub_eq_add_neg, Int64.neg_add, Int64.add_assoc, Int64.sub_eq_add_neg]
theorem N_fin_uI {t k : Nat} {x y u : Int32} {w : Wt} {a : Nat} (h : a ≠ 11 ∧ a ≠ 12) : N_fin t x y (uI w a k u) = uI (N_fin t x y w) a k u := by
  unfold N_fin
  rw [uI_comm w h.1, uI_comm _ h.2]
theorem N_tt_uI {e t : Nat} {w : Wt} {k : Nat} {u : Int32} : N_tt e t (uI w 25 k u) = uI (N_tt e t w) 25 k u := by
  have e1 : N_tt1 e t (uI w 25 k u) = uI (N_tt1 e t w) 25 k u := by
    unfold N_tt1
    rw [uI_1, if_neg (by omega), uI_comm w (show 25 ≠ 6 by decide), N_sf_uI (by decide)]
    rfl
  have e2 : N_tt2 e t (uI w 25 k u) = uI (N_tt2 e t w) 25 k u := by
    unfold N_tt2
    rw [e1, N_mf_uI (by decide)]
    rfl
  unfold N_tt
  have q : ∀ b j, b ≠ 25 → (uI (N_tt2 e t w) 25 k u).1 b j = (N_tt2 e t w).1 b j := fun b j hb => by rw [uI_1, if_neg (by omega)]
  rw [e2, uI_2, q 0 _ (by decide), q 4 _ (by decide), q 5 _ (by decide)]
  split
  · exact N_fin_uI (a := 25) (w := N_mv ((N_tt2 e t w).1 4 t).toNatClampNeg ((N_tt2 e t w).1 5 t).toNatClampNeg ((N_tt2 e t w).2 8 t) (N_tt2 e t w)) (by decide)
  · rfl
theorem N_tpt_1 (e t : Nat) (w : Wt) {a : Nat} (h1 : a ≠ 11) (h2 : a ≠ 12) (h3 : a ≠ 6) (k : Nat) : (N_tpt e t w).1 a k = w.1 a k := by
  unfold N_tpt
  split
  · split
    · rw [N_tt_1 e t w h1 h2, if_neg (by omega)]
    · rfl
  · rfl
section
variable {bk dr T G H : Nat} {X : Mm} {f : Nat → Int64} {w : Wt}
theorem m_turnsTrade (h : Shp bk dr X) (R : Rl T G f w) {e t : Nat} (he : e < G) (ht : t < T) (ha : inL (w.1 4 t) 10) (hb' : inL (w.1 5 t) 10) (hb : 1 ≤ w.1 18 e) (hk : ¬ w.1 14 e = 2) : Ex (fX12_turnsTrade 366 (nI e) (nI t) (w.1 16 e).toInt64 (wJ X 367 f)) fun _ => RX X T G (N_tt e t w) := by
  have e8 : e < 8 := by have := R.2.1; omega
  have t6 : t < 60 := by have := R.1; omega
  have R1 : Rl T G (q_u1 f (aT t 2) (w.1 16 e).toInt64) (uI w 6 t (w.1 16 e)) := R.wI (Pl.tr t 2 ht (by decide)) (by decide) (by decide) rfl
  have hb1 : 1 ≤ (uI w 6 t (w.1 16 e)).1 18 e := by rw [uI_1, if_neg (by omega)]; exact hb
  have R2 : Rl T G (q_u1 (q_u1 f (aT t 2) (w.1 16 e).toInt64) (aT t 3) (N_sf e (w.2 7 t) (uI w 6 t (w.1 16 e)))) (N_tt1 e t w) := R1.wJ (Pl.tr t 3 ht (by decide)) (by decide) rfl
  have q : ∀ a k, a ≠ 6 → (N_tt1 e t w).1 a k = w.1 a k := fun a k hne => by rw [N_tt1_1, if_neg (by omega)]
  have hb2 : 1 ≤ (N_tt1 e t w).1 18 e := by rw [q _ _ (by decide)]; exact hb
  have hk2 : ¬ (N_tt1 e t w).1 14 e = 2 := by rw [q _ _ (by decide)]; exact hk
  have R3 : Rl T G (q_u1 (q_u1 (q_u1 f (aT t 2) (w.1 16 e).toInt64) (aT t 3) (N_sf e (w.2 7 t) (uI w 6 t (w.1 16 e)))) (aT t 4) ((N_tt1 e t w).2 8 t - w.2 7 t * ((N_tt1 e t w).1 19 e).toInt64 - N_cf e (w.2 7 t) (N_tt1 e t w))) (N_tt2 e t w) :=
    R2.wJ (Pl.tr t 4 ht (by decide)) (by decide) (by rw [N_mf_cf hk2 hb2, i64_sub_sub])
  simp only [fX12_turnsTrade, h.1, h.2.1, h.2.2, li_T, li_L, li_R, nm, bd, q_b, ne_eq, Nat.reduceEqDiff, reduceCtorEq, and_false, false_and, and_true, true_and, and_self, not_false_eq_true, not_true_eq_false, ↓reduceIte, mT_wJ, mL_wJ, mR_wJ, mI_wJ, mJ_wJ, sJ_wJ, Nat.reduceLT, l60.1, l60.2.1, l60.2.2, l61.1, l61.2.1, l61.2.2, l62.1, l62.2.1, l62.2.2, r_at2, r_at3, r_at4, r_of10, bT1 t6, bT2 t6, bT3 t6, bE1 e8, bE2 e8, bE3 e8, R.t3 ht, m_wholeOf h R1 he hb1, R2.t4 ht, R2.e10 he, m_cashOf h R2 he hb2, R3.t3 ht, cv_eq]
  unfold N_tt
  have hcv : lg_cmp ((N_tt2 e t w).2 7 t) 0 = 0 ↔ (N_tt2 e t w).2 7 t = 0 := cv_eq
  by_cases h0 : (N_tt2 e t w).2 7 t = 0
  · rw [if_pos h0, if_pos (hcv.mpr h0)]
    have q2 : ∀ a k, a ≠ 6 → (N_tt2 e t w).1 a k = w.1 a k := fun a k hne => by rw [N_tt2_1, if_neg (by omega)]
    refine Ex.bd (m_paysFor h R3 ht (by rw [q2 _ _ (by decide)]; exact ha) (by rw [q2 _ _ (by decide)]; exact hb') 2) ?_
    rintro _ _ ⟨g, rfl, Rg⟩
    exact .ret ⟨_, rfl, Rg⟩
  · rw [if_neg h0, if_neg (fun z => h0 (hcv.mp z))]
    exact .ret ⟨_, rfl, R3⟩
theorem m_turnsAll (h : Shp bk dr X) (R : Rl T G f w) (hH : mI X 366 6 = nI H) (ok : Ok T G H w.1) {e n : Nat} (he : e < G) (hb : 1 ≤ w.1 18 e) (hk : w.1 14 e = 3) (hrec : w.1 23 e = w.1 0 8) (hn : 64 ≤ n) : Ex (fX12_turnsAll n 366 (nI e) (wJ X 367 f)) fun _ => RX X T G (N_tp T G H e (nf (N_ws e) H 0 w)) := by
  have e8 : e < 8 := by have := R.2.1; omega
  have hT6 := R.1
  have hG8 := R.2.1
  have hH10 := ok.2.2.2.2.2.1
  have hp := (ok.2.2.2.2.2.2.2 e he).1
  have hq := (ok.2.2.2.2.2.2.2 e he).2.1 hk
  have hk2 : ¬ w.1 14 e = 2 := by rw [hk]; decide
  have R1 : Rl T G (q_u1 f (aE e 5) 2) (uI w 25 e 2) := R.wI (Pl.ev e 5 he (by decide) (fun h => absurd h (by decide)) (fun h => absurd h (by decide))) (by decide) (by decide) (by decide)
  have fuse : nf (fun i a => N_tph e i (N_ws e i a)) H 0 w = nf (N_tph e) H 0 (nf (N_ws e) H 0 w) :=
    nf_fuse (f := N_tph e) (g := N_ws e) (P := fun (a : Wt) => a.1 = w.1) (L := 10) (fun i a ha => ha) (fun i a ha => ha) (fun i k a h1 h2 ha => N_tph_ws (by omega) h2 (by omega) (by rw [ha]; exact hp) (by rw [ha]; exact hq)) H 0 w (by omega) rfl
  unfold N_tp
  rw [← fuse]
  simp only [fX12_turnsAll, h.1, h.2.1, h.2.2, li_T, li_L, li_R, nm, bd, q_b, ne_eq, Nat.reduceEqDiff, reduceCtorEq, and_false, false_and, and_true, true_and, and_self, not_false_eq_true, not_true_eq_false, ↓reduceIte, mT_wJ, mL_wJ, mR_wJ, mI_wJ, mJ_wJ, sJ_wJ, Nat.reduceLT, l60.1, l60.2.1, l60.2.2, l61.1, l61.2.1, l61.2.2, l62.1, l62.2.1, l62.2.2, r_of1, r_of5, r_of7, bE1 e8, bE2 e8, bE3 e8, R.e1 he, R.e7 he hk]
  refine loop_ex (F := fun j i Y => fX12_turnsAll_L43 n j 366 (nI e) (w.1 15 e).toInt64 (w.1 16 e).toInt64 i Y) (N := fun i a => N_tph e i (N_ws e i a)) (I := fun i a Y => RX X T G (uI a 25 e 2) Y ∧ a.1 = w.1) H
    ?_ H 0 (wJ X 367 (q_u1 f (aE e 5) 2)) w n (by omega) (by omega) ⟨⟨_, rfl, R1⟩, rfl⟩ ?_
  · rintro j i Y a hi ⟨⟨g, rfl, Ra⟩, ha⟩ nxt
    have e3 : ¬ nI H ≤ nI i := nI_ge hi (by omega)
    have i10 : i < 10 := by omega
    have hi2 := inL_nI (j := i) (n := 10) i10 (by decide)
    have hcl : (nI i).toNatClampNeg = i := nI_clamp (by omega)
    have q : ∀ c k, c ≠ 25 → (uI a 25 e 2).1 c k = w.1 c k := fun c k hc => by rw [uI_1, if_neg (by omega), ha]
    have hb2 : 1 ≤ (uI a 25 e 2).1 18 e := by rw [q _ _ (by decide)]; exact hb
    have hkk : ¬ (uI a 25 e 2).1 14 e = 2 := by rw [q _ _ (by decide)]; exact hk2
    have mf : ∀ v, v * (w.1 19 e).toInt64 + N_cf e v (uI a 25 e 2) = N_mf e v (uI a 25 e 2) := fun v => by rw [N_mf_cf hkk hb2, q _ _ (by decide)]
    have R2 : Rl T G (q_u1 g (aH e i 0) ((uI a 25 e 2).2 1 (ix (nI i) (w.1 15 e)))) (N_ws e i (uI a 25 e 2)) := Ra.wJ (Pl.ho e i 0 he i10 (by decide)) (by decide) (by rw [q _ _ (by decide)])
    show Ex (fX12_turnsAll_L43 n (j + 1) 366 (nI e) (w.1 15 e).toInt64 (w.1 16 e).toInt64 (nI i) (wJ X 367 g)) _
    rw [fX12_turnsAll_L43]
    simp only [h.1, h.2.1, h.2.2, li_T, li_L, li_R, nm, bd, q_b, ne_eq, Nat.reduceEqDiff, reduceCtorEq, and_false, false_and, and_true, true_and, and_self, not_false_eq_true, not_true_eq_false, ↓reduceIte, mT_wJ, mL_wJ, mR_wJ, mI_wJ, mJ_wJ, sJ_wJ, Nat.reduceLT, l60.1, l60.2.1, l60.2.2, l61.1, l61.2.1, l61.2.2, l62.1, l62.2.1, l62.2.2, hH, e3, m_sharesOf h Ra hi2 hp, r_of10, r_oH0, r_oH1, r_oH2, r_oH3, r_oH4, r_oH5, bE1 e8, bE2 e8, bE3 e8, bH1 e8 i10, bH2 e8 i10, bH3 e8 i10, Ra.e10 he, q 19 e (by decide), m_cashOf h Ra he hb2, mf]
    refine Ex.bd (m_givesShares h R2 hi2 hp _) ?_
    rintro _ _ ⟨g3, rfl, R3⟩
    simp only [h.1, h.2.1, h.2.2, li_T, li_L, li_R, nm, bd, q_b, ne_eq, Nat.reduceEqDiff, reduceCtorEq, and_false, false_and, and_true, true_and, and_self, not_false_eq_true, not_true_eq_false, ↓reduceIte, mT_wJ, mL_wJ, mR_wJ, mI_wJ, mJ_wJ, sJ_wJ, Nat.reduceLT, l60.1, l60.2.1, l60.2.2, l61.1, l61.2.1, l61.2.2, l62.1, l62.2.1, l62.2.2, m_wholeOf h R3 he hb2]
    refine Ex.bd (m_givesShares h R3 hi2 hq _) ?_
    rintro _ _ ⟨g4, rfl, R4⟩
    simp only [h.1, h.2.1, h.2.2, li_T, li_L, li_R, nm, bd, q_b, ne_eq, Nat.reduceEqDiff, reduceCtorEq, and_false, false_and, and_true, true_and, and_self, not_false_eq_true, not_true_eq_false, ↓reduceIte, mT_wJ, mL_wJ, mR_wJ, mI_wJ, mJ_wJ, sJ_wJ, Nat.reduceLT, l60.1, l60.2.1, l60.2.2, l61.1, l61.2.1, l61.2.2, l62.1, l62.2.1, l62.2.2]
    refine Ex.bd (m_givesMoney h R4 hi2 _) ?_
    rintro _ _ ⟨g5, rfl, R5⟩
    simp only [h.1, h.2.1, h.2.2, li_T, li_L, li_R, nm, bd, q_b, ne_eq, Nat.reduceEqDiff, reduceCtorEq, and_false, false_and, and_true, true_and, and_self, not_false_eq_true, not_true_eq_false, ↓reduceIte, mT_wJ, mL_wJ, mR_wJ, mI_wJ, mJ_wJ, sJ_wJ, Nat.reduceLT, l60.1, l60.2.1, l60.2.2, l61.1, l61.2.1, l61.2.2, l62.1, l62.2.1, l62.2.2, m_wholeOf h R5 he hb2]
    refine Ex.bd (m_issues h R5 he _ _) ?_
    rintro _ _ ⟨g6, rfl, R6⟩
    simp only [nm, nI_1]
    refine nxt _ ⟨⟨_, rfl, ?_⟩, ha⟩
    rw [hcl] at R6
    have wsJ : (N_ws e i a).2 1 (ix (nI i) (w.1 15 e)) = a.2 1 (ix (nI i) (w.1 15 e)) := by
      unfold N_ws
      rw [uJ_2, if_neg (by omega)]
    have eq : uI (N_tph e i (N_ws e i a)) 25 e 2 = N_give i e (ix (nI i) (w.1 16 e)) (a.2 1 (ix (nI i) (w.1 15 e))) (N_add (ix (nI i) (w.1 15 e)) (-(a.2 1 (ix (nI i) (w.1 15 e)))) (N_ws e i (uI a 25 e 2))) := by
      rw [N_ws_uI]
      show _ = N_give i e (ix (nI i) (w.1 16 e)) (a.2 1 (ix (nI i) (w.1 15 e))) (uI (N_add (ix (nI i) (w.1 15 e)) (-(a.2 1 (ix (nI i) (w.1 15 e)))) (N_ws e i a)) 25 e 2)
      rw [N_give_uI (by decide)]
      unfold N_tph
      rw [show (N_ws e i a).1 = w.1 from ha, wsJ]
    rw [eq]
    exact R6
  · rintro j Y ⟨⟨g, rfl, Ra⟩, ha⟩
    have e3 : nI H ≤ nI H := nI_le (Nat.le_refl _) (by omega)
    show Ex (fX12_turnsAll_L43 n (j + 1) 366 (nI e) (w.1 15 e).toInt64 (w.1 16 e).toInt64 (nI H) (wJ X 367 g)) _
    rw [fX12_turnsAll_L43]
    simp only [h.1, h.2.1, h.2.2, li_T, li_L, li_R, nm, bd, q_b, ne_eq, Nat.reduceEqDiff, reduceCtorEq, and_false, false_and, and_true, true_and, and_self, not_false_eq_true, not_true_eq_false, ↓reduceIte, mT_wJ, mL_wJ, mR_wJ, mI_wJ, mJ_wJ, sJ_wJ, Nat.reduceLT, l60.1, l60.2.1, l60.2.2, l61.1, l61.2.1, l61.2.2, l62.1, l62.2.1, l62.2.2, hH, e3]
    generalize hu : nf (fun i a => N_tph e i (N_ws e i a)) H 0 w = u at Ra ha ⊢
    refine loop_ex (F := fun j i Y => fX12_turnsAll_L161 n j 366 (nI e) (w.1 15 e).toInt64 (w.1 16 e).toInt64 i Y) (N := N_tpt e) (I := fun i b Y => RX X T G (uI b 25 e 2) Y ∧ ∀ c k, c ≠ 6 → c ≠ 11 → c ≠ 12 → b.1 c k = w.1 c k) T
      ?_ T 0 (wJ X 367 g) u n (by omega) (by omega) ⟨⟨_, rfl, Ra⟩, fun c k _ _ _ => by rw [ha]⟩ ?_
    · rintro j t Y b ht ⟨⟨g, rfl, Rb⟩, hfr⟩ nxt
      have t6 : t < 60 := by omega
      have e3 : ¬ nI T ≤ nI t := nI_ge ht (by omega)
      have q : ∀ c k, c ≠ 6 → c ≠ 11 → c ≠ 12 → c ≠ 25 → (uI b 25 e 2).1 c k = w.1 c k := fun c k h1 h2 h3 h4 => by rw [uI_1, if_neg (by omega)]; exact hfr c k h1 h2 h3
      have q11 : (uI b 25 e 2).1 11 t = b.1 11 t := by rw [uI_1, if_neg (by omega)]
      have q6 : (uI b 25 e 2).1 6 t = b.1 6 t := by rw [uI_1, if_neg (by omega)]
      have h39 : (uI b 25 e 2).1 3 9 = nI T := by rw [q _ _ (by decide) (by decide) (by decide) (by decide)]; exact ok.1
      have okt := ok.2.2.2.2.2.2.1 t ht
      have hfr' : ∀ c k, c ≠ 6 → c ≠ 11 → c ≠ 12 → (N_tpt e t b).1 c k = w.1 c k := fun c k h1 h2 h3 => by rw [N_tpt_1 e t b h2 h3 h1]; exact hfr c k h1 h2 h3
      have stay : N_tpt e t b = b → Ex (fX12_turnsAll_L161 n j 366 (nI e) (w.1 15 e).toInt64 (w.1 16 e).toInt64 (nI (t + 1)) (wJ X 367 g)) _ := fun hs => nxt _ ⟨⟨_, rfl, by rw [hs]; exact Rb⟩, hfr'⟩
      have hmc : N_tpt e t b = if b.1 11 t = 0 then if b.1 6 t = w.1 15 e then N_tt e t b else b else b := by
        unfold N_tpt
        rw [hfr 15 _ (by decide) (by decide) (by decide)]
      show Ex (fX12_turnsAll_L161 n (j + 1) 366 (nI e) (w.1 15 e).toInt64 (w.1 16 e).toInt64 (nI t) (wJ X 367 g)) _
      rw [fX12_turnsAll_L161]
      simp only [h.1, h.2.1, h.2.2, li_T, li_L, li_R, nm, bd, q_b, ne_eq, Nat.reduceEqDiff, reduceCtorEq, and_false, false_and, and_true, true_and, and_self, not_false_eq_true, not_true_eq_false, ↓reduceIte, mT_wJ, mL_wJ, mR_wJ, mI_wJ, mJ_wJ, sJ_wJ, Nat.reduceLT, l60.1, l60.2.1, l60.2.2, l61.1, l61.2.1, l61.2.2, l62.1, l62.2.1, l62.2.2, m_tm h Rb, h39, e3, r_at7, r_at2, bT1 t6, bT2 t6, bT3 t6, Rb.t7 ht, Rb.t2 ht, q11, q6, cv_eq, wd_0, wd_eq]
      by_cases g1 : b.1 11 t = 0
      · by_cases g2 : b.1 6 t = w.1 15 e
        · simp only [g1, g2, ↓reduceIte]
          have q16 : (w.1 16 e).toInt64 = ((uI b 25 e 2).1 16 e).toInt64 := by rw [q _ _ (by decide) (by decide) (by decide) (by decide)]
          rw [q16]
          refine Ex.bd (m_turnsTrade h Rb he ht (by rw [q _ _ (by decide) (by decide) (by decide) (by decide)]; exact okt.1) (by rw [q _ _ (by decide) (by decide) (by decide) (by decide)]; exact okt.2.1) (by rw [q _ _ (by decide) (by decide) (by decide) (by decide)]; exact hb) (by rw [q _ _ (by decide) (by decide) (by decide) (by decide)]; exact hk2)) ?_
          rintro _ _ ⟨g2', rfl, R2⟩
          rw [← q16]
          simp only [fX12_turnsAll_L214, nm, nI_1]
          refine nxt _ ⟨⟨_, rfl, ?_⟩, hfr'⟩
          rw [hmc, if_pos g1, if_pos g2, ← N_tt_uI]
          exact R2
        · simp only [g1, g2, ↓reduceIte, fX12_turnsAll_L214, nm, nI_1]
          exact stay (by rw [hmc, if_pos g1, if_neg g2])
      · simp only [g1, ↓reduceIte, fX12_turnsAll_L214, nm, nI_1]
        exact stay (by rw [hmc, if_neg g1])
    · rintro j Y ⟨⟨g, rfl, Rb⟩, hfr⟩
      have e3 : nI T ≤ nI T := nI_le (Nat.le_refl _) (by omega)
      generalize hv : nf (N_tpt e) T 0 u = v at Rb hfr ⊢
      have h39 : (uI v 25 e 2).1 3 9 = nI T := by rw [uI_1, if_neg (by omega), hfr _ _ (by decide) (by decide) (by decide)]; exact ok.1
      show Ex (fX12_turnsAll_L161 n (j + 1) 366 (nI e) (w.1 15 e).toInt64 (w.1 16 e).toInt64 (nI T) (wJ X 367 g)) _
      rw [fX12_turnsAll_L161]
      simp only [h.1, h.2.1, h.2.2, li_T, li_L, li_R, nm, bd, q_b, ne_eq, Nat.reduceEqDiff, reduceCtorEq, and_false, false_and, and_true, true_and, and_self, not_false_eq_true, not_true_eq_false, ↓reduceIte, mT_wJ, mL_wJ, mR_wJ, mI_wJ, mJ_wJ, sJ_wJ, Nat.reduceLT, l60.1, l60.2.1, l60.2.2, l61.1, l61.2.1, l61.2.2, l62.1, l62.2.1, l62.2.2, m_tm h Rb, h39, e3]
      refine loop_ex (F := fun j i Y => fX12_turnsAll_L223 n j 366 (nI e) (w.1 15 e).toInt64 i Y) (N := N_drop e) (I := fun i b Y => RX X T G (uI b 25 e 2) Y ∧ ∀ c k, c ≠ 6 → c ≠ 11 → c ≠ 12 → c ≠ 25 → b.1 c k = w.1 c k) G
        ?_ G 0 (wJ X 367 g) v n (by omega) (by omega) ⟨⟨_, rfl, Rb⟩, fun c k h1 h2 h3 _ => hfr c k h1 h2 h3⟩ ?_
      · rintro j o Y b ho ⟨⟨g, rfl, Rb⟩, hfr⟩ nxt
        have o8 : o < 8 := by omega
        have e3 : ¬ nI G ≤ nI o := nI_ge ho (by omega)
        have q : ∀ c k, c ≠ 6 → c ≠ 11 → c ≠ 12 → c ≠ 25 → (uI b 25 e 2).1 c k = w.1 c k := fun c k h1 h2 h3 h4 => by rw [uI_1, if_neg (by omega)]; exact hfr c k h1 h2 h3 h4
        have hG3 : (uI b 25 e 2).1 13 16 = nI G := by rw [q _ _ (by decide) (by decide) (by decide) (by decide)]; exact ok.2.2.1
        have hfr' : ∀ c k, c ≠ 6 → c ≠ 11 → c ≠ 12 → c ≠ 25 → (N_drop e o b).1 c k = w.1 c k := fun c k h1 h2 h3 h4 => by rw [N_drop_1 e o b h4]; exact hfr c k h1 h2 h3 h4
        have stay : N_drop e o b = b → Ex (fX12_turnsAll_L223 n j 366 (nI e) (w.1 15 e).toInt64 (nI (o + 1)) (wJ X 367 g)) _ := fun hs => nxt _ ⟨⟨_, rfl, by rw [hs]; exact Rb⟩, hfr'⟩
        have hmc : N_drop e o b = if (w.1 0 8 < w.1 23 o ∨ (w.1 23 o = w.1 0 8 ∧ ¬ nI o ≤ nI e)) ∧ w.1 15 o = w.1 15 e ∧ b.1 25 o = 0 then uI b 25 o 3 else b := by
          unfold N_drop
          rw [hfr 23 _ (by decide) (by decide) (by decide) (by decide), hfr 23 _ (by decide) (by decide) (by decide) (by decide), hfr 15 _ (by decide) (by decide) (by decide) (by decide), hfr 15 _ (by decide) (by decide) (by decide) (by decide), hrec]
        have q25 : (uI b 25 e 2).1 25 o = if o = e then 2 else b.1 25 o := by
          rw [uI_1]
          by_cases z : o = e
          · rw [if_pos ⟨rfl, z⟩, if_pos z]
          · rw [if_neg (fun y => z y.2), if_neg z]
        have R2 : Rl T G (q_u1 g (aE o 5) 3) (uI (uI b 25 e 2) 25 o 3) := Rb.wI (Pl.ev o 5 ho (by decide) (fun h => absurd h (by decide)) (fun h => absurd h (by decide))) (by decide) (by decide) (by decide)
        have go : ∀ (z : Int32) (P : Prop), (z = 0 ↔ ¬ P) → (P ↔ (w.1 0 8 < w.1 23 o ∨ (w.1 23 o = w.1 0 8 ∧ ¬ nI o ≤ nI e))) → Ex (fX12_turnsAll_L289 n (fX12_turnsAll_L223 n j) 366 (nI e) (w.1 15 e).toInt64 (nI o) z (wJ X 367 g)) fun _ => RX X T G (uI (nf (N_drop e) G 0 v) 25 e 2) := by
          intro z P hz hP
          simp only [fX12_turnsAll_L289, h.1, h.2.1, h.2.2, li_T, li_L, li_R, nm, bd, q_b, ne_eq, Nat.reduceEqDiff, reduceCtorEq, and_false, false_and, and_true, true_and, and_self, not_false_eq_true, not_true_eq_false, ↓reduceIte, mT_wJ, mL_wJ, mR_wJ, mI_wJ, mJ_wJ, sJ_wJ, Nat.reduceLT, l60.1, l60.2.1, l60.2.2, l61.1, l61.2.1, l61.2.2, l62.1, l62.2.1, l62.2.2, r_of5, r_of1, bE1 o8, bE2 o8, bE3 o8, Rb.e5 ho, Rb.e1 ho, q 15 o (by decide) (by decide) (by decide) (by decide), cv_eq, wd_0, wd_eq]
          by_cases oe : o = e
          · have n25 : ¬ (uI b 25 e 2).1 25 o = 0 := by rw [q25, if_pos oe]; decide
            have nl : ¬ (w.1 0 8 < w.1 23 o ∨ (w.1 23 o = w.1 0 8 ∧ ¬ nI o ≤ nI e)) := by
              rw [oe, hrec]
              rintro (x | ⟨-, x⟩)
              · exact absurd x Int32.lt_irrefl
              · exact x (Int32.le_refl _)
            simp only [n25, ↓reduceIte, fX12_turnsAll_L345, nm, nI_1]
            exact stay (by rw [hmc, if_neg (fun x => nl x.1)])
          · rw [if_neg oe] at q25
            rw [q25]
            by_cases g1 : b.1 25 o = 0
            · by_cases g2 : w.1 15 o = w.1 15 e
              · by_cases g3 : z = 0
                · simp only [g1, g2, g3, ↓reduceIte, fX12_turnsAll_L345, nm, nI_1]
                  exact stay (by rw [hmc, if_neg (fun x => hz.mp g3 (hP.mpr x.1))])
                · simp only [g1, g2, g3, ↓reduceIte, fX12_turnsAll_L345, nm, nI_1]
                  refine nxt _ ⟨⟨_, rfl, ?_⟩, hfr'⟩
                  rw [hmc, if_pos ⟨hP.mp (Classical.byContradiction fun y => g3 (hz.mpr y)), g2, g1⟩, uI_commk _ _ oe]
                  exact R2
              · simp only [g1, g2, ↓reduceIte, fX12_turnsAll_L345, nm, nI_1]
                exact stay (by rw [hmc, if_neg (fun x => g2 x.2.1)])
            · simp only [g1, ↓reduceIte, fX12_turnsAll_L345, nm, nI_1]
              exact stay (by rw [hmc, if_neg (fun x => g1 x.2.2)])
        show Ex (fX12_turnsAll_L223 n (j + 1) 366 (nI e) (w.1 15 e).toInt64 (nI o) (wJ X 367 g)) _
        rw [fX12_turnsAll_L223]
        simp only [h.1, h.2.1, h.2.2, li_T, li_L, li_R, nm, bd, q_b, ne_eq, Nat.reduceEqDiff, reduceCtorEq, and_false, false_and, and_true, true_and, and_self, not_false_eq_true, not_true_eq_false, ↓reduceIte, mT_wJ, mL_wJ, mR_wJ, mI_wJ, mJ_wJ, sJ_wJ, Nat.reduceLT, l60.1, l60.2.1, l60.2.2, l61.1, l61.2.1, l61.2.2, l62.1, l62.2.1, l62.2.2, m_em h Rb, hG3, e3, r_of3, bE1 o8, bE2 o8, bE3 o8, Rb.e3 ho, Rb.m2, q 23 o (by decide) (by decide) (by decide) (by decide), q 0 8 (by decide) (by decide) (by decide) (by decide), cv_gt, cv_eq, wd_lt, wd_eq, fX12_turnsAll_L284, fX12_turnsAll_L288]
        by_cases g1 : w.1 0 8 < w.1 23 o
        · simp only [g1, ↓reduceIte]
          exact go 1 True (by decide) (by simp [g1])
        · simp only [g1, ↓reduceIte]
          by_cases g2 : w.1 23 o = w.1 0 8
          · simp only [g2, ↓reduceIte]
            by_cases g3 : nI o ≤ nI e
            · simp only [g3, ↓reduceIte]
              exact go 0 False (by decide) (by simp [g1, g3])
            · simp only [g3, ↓reduceIte]
              exact go 1 True (by decide) (by simp [g2, g3])
          · simp only [g2, ↓reduceIte]
            exact go 0 False (by decide) (by simp [g1, g2])
      · rintro j Y ⟨⟨g, rfl, Rb⟩, hfr⟩
        have e3 : nI G ≤ nI G := nI_le (Nat.le_refl _) (by omega)
        generalize nf (N_drop e) G 0 v = y at Rb hfr ⊢
        have hG3 : (uI y 25 e 2).1 13 16 = nI G := by rw [uI_1, if_neg (by omega), hfr _ _ (by decide) (by decide) (by decide) (by decide)]; exact ok.2.2.1
        show Ex (fX12_turnsAll_L223 n (j + 1) 366 (nI e) (w.1 15 e).toInt64 (nI G) (wJ X 367 g)) _
        rw [fX12_turnsAll_L223]
        simp only [h.1, h.2.1, h.2.2, li_T, li_L, li_R, nm, bd, q_b, ne_eq, Nat.reduceEqDiff, reduceCtorEq, and_false, false_and, and_true, true_and, and_self, not_false_eq_true, not_true_eq_false, ↓reduceIte, mT_wJ, mL_wJ, mR_wJ, mI_wJ, mJ_wJ, sJ_wJ, Nat.reduceLT, l60.1, l60.2.1, l60.2.2, l61.1, l61.2.1, l61.2.2, l62.1, l62.2.1, l62.2.2, m_em h Rb, hG3, e3]
        exact .ret ⟨_, rfl, Rb⟩
end
