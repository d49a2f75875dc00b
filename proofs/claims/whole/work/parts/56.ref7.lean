/-! THE REFERENCE: WRITING, CLAIMS -/
theorem q_u1_CT {t : Nat} (ht : t < 60) : ∀ k, k < 9 → ∀ (f : Nat → Int64) (e i j : Nat) (v : Int64), q_u1 f (aC e i j) v (aT t k) = f (aT t k) := fun k hk f e i j v => q_u1_n f v (by unfold aT aC; omega)
theorem nI_l1 {c : Nat} (h : c < 1000) : (nI c).toInt64 + 1 = (nI (c + 1)).toInt64 := by
  rw [nI_l (by omega), nI_l (by omega), lN_1]
theorem Rl.claim {T G : Nat} {f : Nat → Int64} {w : Wt} (R : Rl T G f w) {e C : Nat} (he : e < G) (hC : w.1 26 e = nI C) (hC6 : C < 60) (a b x : Int32) (s : Int64) :
    Rl T G (q_u1 (q_u1 (q_u1 (q_u1 (q_u1 (q_u1 f (aC e C 0) a.toInt64) (aC e C 1) b.toInt64) (aC e C 2) s) (aC e C 3) x.toInt64) (aC e C 4) 0) (aE e 6) ((nI C).toInt64 + 1)) (uI (uI (uI (uJ (uI (uI w 38 (60 * e + C) a) 39 (60 * e + C) b) 40 (60 * e + C) s) 41 (60 * e + C) x) 42 (60 * e + C) 0) 26 e (nI (C + 1))) := by
  have hT := R.1
  have hG := R.2.1
  have cb : Cn w e = C := by unfold Cn; rw [hC, nI_clamp (by omega)]
  refine ⟨hT, hG, fun p c k hp => ?_⟩
  have hK : (uI (uI (uI (uJ (uI (uI w 38 (60 * e + C) a) 39 (60 * e + C) b) 40 (60 * e + C) s) 41 (60 * e + C) x) 42 (60 * e + C) 0) 26 e (nI (C + 1))).1 14 = w.1 14 := funext fun i => by
    rw [uI_1, if_neg (by omega), uI_1, if_neg (by omega), uI_1, if_neg (by omega), uJ_1, uI_1, if_neg (by omega), uI_1, if_neg (by omega)]
  have h26 : ∀ i, (uI (uI (uI (uJ (uI (uI w 38 (60 * e + C) a) 39 (60 * e + C) b) 40 (60 * e + C) s) 41 (60 * e + C) x) 42 (60 * e + C) 0) 26 e (nI (C + 1))).1 26 i = if i = e then nI (C + 1) else w.1 26 i := fun i => by
    rw [uI_1]
    by_cases hi : i = e
    · rw [if_pos ⟨rfl, hi⟩, if_pos hi]
    · rw [if_neg (fun z => hi z.2), if_neg hi, uI_1, if_neg (by omega), uI_1, if_neg (by omega), uJ_1, uI_1, if_neg (by omega), uI_1, if_neg (by omega)]
  have hCn : ∀ i, Cn (uI (uI (uI (uJ (uI (uI w 38 (60 * e + C) a) 39 (60 * e + C) b) 40 (60 * e + C) s) 41 (60 * e + C) x) 42 (60 * e + C) 0) 26 e (nI (C + 1))) i = if i = e then C + 1 else Cn w i := fun i => by
    show (_ : Int32).toNatClampNeg = _
    rw [h26]
    by_cases hi : i = e
    · rw [if_pos hi, if_pos hi, nI_clamp (by omega)]
    · rw [if_neg hi, if_neg hi]; rfl
  rw [hK] at hp
  generalize Cn (uI (uI (uI (uJ (uI (uI w 38 (60 * e + C) a) 39 (60 * e + C) b) 40 (60 * e + C) s) 41 (60 * e + C) x) 42 (60 * e + C) 0) 26 e (nI (C + 1))) = C' at hp hCn
  have Q : ∀ j, j < 5 → Pl T G C' (w.1 14) (aC e C j) (38 + j) (60 * e + C) := fun j hj => Pl.cl e C j he (by rw [hCn, if_pos rfl]; omega) hC6 hj
  have Q6 : Pl T G C' (w.1 14) (aE e 6) 26 e := Pl.ev e 6 he (by decide) (fun h => absurd h (by decide)) (fun h => absurd h (by decide))
  have key : (∀ j, j < 5 → p ≠ aC e C j) → Pl T G (Cn w) (w.1 14) p c k := by
    intro hn
    unfold Pl at hp ⊢
    rcases hp with hp | hp | hp | hp | hp | hp | hp | hp | ⟨e', i, j, h1, h2, h3, h4, h5, h6, h7⟩
    · exact Or.inl hp
    · exact Or.inr (Or.inl hp)
    · exact Or.inr (Or.inr (Or.inl hp))
    · exact Or.inr (Or.inr (Or.inr (Or.inl hp)))
    · exact Or.inr (Or.inr (Or.inr (Or.inr (Or.inl hp))))
    · exact Or.inr (Or.inr (Or.inr (Or.inr (Or.inr (Or.inl hp)))))
    · exact Or.inr (Or.inr (Or.inr (Or.inr (Or.inr (Or.inr (Or.inl hp))))))
    · exact Or.inr (Or.inr (Or.inr (Or.inr (Or.inr (Or.inr (Or.inr (Or.inl hp)))))))
    · refine Or.inr (Or.inr (Or.inr (Or.inr (Or.inr (Or.inr (Or.inr (Or.inr ⟨e', i, j, h1, h2, h3, h4, h5, h6, ?_⟩)))))))
      rw [hCn] at h7
      by_cases hq : e' = e
      · rw [if_pos hq] at h7
        have : i ≠ C := by
          intro hi
          exact hn j h2 (by rw [h1, hq, hi]; rfl)
        rw [hq, cb]
        omega
      · rw [if_neg hq] at h7
        exact h7
  by_cases h6 : p = aE e 6
  · obtain ⟨rfl, rfl⟩ := (Pl.inj hT hG hp Q6).mp h6
    rw [h6, q_u1_s, cw_uI (by decide), nI_l1 (by omega)]
  rw [q_u1_n _ _ h6, cw_uIo (fun z => h6 ((Pl.inj hT hG hp Q6).mpr z))]
  by_cases h5 : p = aC e C 4
  · obtain ⟨rfl, rfl⟩ := (Pl.inj hT hG hp (Q 4 (by decide))).mp h5
    rw [h5, q_u1_s]
    exact ((cw_uI (a := 42) (by decide)).trans (by decide)).symm
  rw [q_u1_n _ _ h5, cw_uIo (fun z => h5 ((Pl.inj hT hG hp (Q 4 (by decide))).mpr z))]
  by_cases h4 : p = aC e C 3
  · obtain ⟨rfl, rfl⟩ := (Pl.inj hT hG hp (Q 3 (by decide))).mp h4
    rw [h4, q_u1_s]
    exact ((cw_uI (a := 41) (by decide)).trans (rfl)).symm
  rw [q_u1_n _ _ h4, cw_uIo (fun z => h4 ((Pl.inj hT hG hp (Q 3 (by decide))).mpr z))]
  by_cases h3 : p = aC e C 2
  · obtain ⟨rfl, rfl⟩ := (Pl.inj hT hG hp (Q 2 (by decide))).mp h3
    rw [h3, q_u1_s]
    exact ((cw_uJ (a := 40) (by decide)).trans (rfl)).symm
  rw [q_u1_n _ _ h3, cw_uJo (fun z => h3 ((Pl.inj hT hG hp (Q 2 (by decide))).mpr z))]
  by_cases h2 : p = aC e C 1
  · obtain ⟨rfl, rfl⟩ := (Pl.inj hT hG hp (Q 1 (by decide))).mp h2
    rw [h2, q_u1_s]
    exact ((cw_uI (a := 39) (by decide)).trans (rfl)).symm
  rw [q_u1_n _ _ h2, cw_uIo (fun z => h2 ((Pl.inj hT hG hp (Q 1 (by decide))).mpr z))]
  by_cases h1 : p = aC e C 0
  · obtain ⟨rfl, rfl⟩ := (Pl.inj hT hG hp (Q 0 (by decide))).mp h1
    rw [h1, q_u1_s]
    exact ((cw_uI (a := 38) (by decide)).trans (rfl)).symm
  rw [q_u1_n _ _ h1, cw_uIo (fun z => h1 ((Pl.inj hT hG hp (Q 0 (by decide))).mpr z))]
  refine R.2.2 _ _ _ (key fun j hj => ?_)
  match j, hj with
  | 0, _ => exact h1
  | 1, _ => exact h2
  | 2, _ => exact h3
  | 3, _ => exact h4
  | 4, _ => exact h5
  | j + 5, hj => omega
theorem N_ac_uI {e t : Nat} {a b : Int32} {w : Wt} (k : Nat) (u : Int32) : N_ac e a b t (uI w 25 k u) = uI (N_ac e a b t w) 25 k u := by
  have e1 : (uI w 25 k u).1 26 e = w.1 26 e := by rw [uI_1, if_neg (by omega)]
  unfold N_ac cq
  rw [e1]
  split
  · rfl
  · rw [uI_comm w (show 25 ≠ 38 by decide), uI_comm _ (show 25 ≠ 39 by decide)]
    show uI (uI (uI (uI (uJ (uI (uI w 38 _ a) 39 _ b) 40 _ _) 25 k u) 41 _ _) 42 _ 0) 26 e _ = _
    rw [uI_comm _ (show 25 ≠ 41 by decide), uI_comm _ (show 25 ≠ 42 by decide), uI_comm _ (show 25 ≠ 26 by decide)]
    rfl
theorem N_ws_uI {e h : Nat} {w : Wt} {k : Nat} {u : Int32} : N_ws e h (uI w 25 k u) = uI (N_ws e h w) 25 k u := by
  unfold N_ws
  rw [uI_1, if_neg (by omega)]
  rfl
theorem N_mc_uI {e t : Nat} {w : Wt} {k : Nat} {u : Int32} : N_mc e t (uI w 25 k u) = uI (N_mc e t w) 25 k u := by
  unfold N_mc
  have q : ∀ a i, a ≠ 25 → (uI w 25 k u).1 a i = w.1 a i := fun a i h => by rw [uI_1, if_neg (by omega)]
  rw [q 6 _ (by decide), q 15 _ (by decide), q 11 _ (by decide), q 22 _ (by decide), q 9 _ (by decide), q 5 _ (by decide), q 4 _ (by decide), N_ac_uI, N_ac_uI]
  split
  · split
    · split <;> rfl
    · split
      · split <;> rfl
      · rfl
  · rfl
section
variable {bk dr T G H : Nat} {X : Mm} {f : Nat → Int64} {w : Wt}
theorem m_claims (h : Shp bk dr X) (R : Rl T G f w) {e t C : Nat} (he : e < G) (ht : t < T) (hC : w.1 26 e = nI C) (hC6 : C < 60) (a b : Int32) : Ex (fX12_claims 366 (nI e) (nI t) a.toInt64 b.toInt64 (wJ X 367 f)) fun _ => RX X T G (N_ac e a b t w) := by
  have e8 : e < 8 := by have := R.2.1; omega
  have t6 : t < 60 := by have := R.1; omega
  have i6 := hC6
  have R1 := R.claim he hC hC6 a b (nI t) (w.2 7 t)
  have en : N_ac e a b t w = uI (uI (uI (uJ (uI (uI w 38 (60 * e + C) a) 39 (60 * e + C) b) 40 (60 * e + C) (w.2 7 t)) 41 (60 * e + C) (nI t)) 42 (60 * e + C) 0) 26 e (nI (C + 1)) := by
    unfold N_ac cq
    rw [hC, if_neg (by rw [show (60 : Int32) = nI 60 from rfl]; exact nI_ge hC6 (by decide)), nI_clamp (by omega), nI_1]
  rw [en]
  simp only [fX12_claims, h.1, h.2.1, h.2.2, li_T, li_L, li_R, nm, bd, q_b, ne_eq, Nat.reduceEqDiff, reduceCtorEq, and_false, false_and, and_true, true_and, and_self, not_false_eq_true, not_true_eq_false, ↓reduceIte, mT_wJ, mL_wJ, mR_wJ, mI_wJ, mJ_wJ, sJ_wJ, Nat.reduceLT, l60.1, l60.2.1, l60.2.2, l61.1, l61.2.1, l61.2.2, l62.1, l62.2.1, l62.2.2, r_oC0, r_oC1, r_oC2, r_oC3, r_oC4, r_of6, r_at3, bE1 e8, bE2 e8, bE3 e8, bC1 e8 i6, bC2 e8 i6, bC3 e8 i6, bT1 t6, bT2 t6, bT3 t6, R.e6 he, hC, wd_back, q_u1_CT t6, R.t3 ht]
  exact .ret ⟨_, rfl, R1⟩
theorem m_writes (h : Shp bk dr X) (R : Rl T G f w) (hH : mI X 366 6 = nI H) (ok : Ok T G H w.1) {e n : Nat} (he : e < G) (hC : w.1 26 e = 0) (hn : 64 ≤ n) : Ex (fX12_writes n 366 (nI e) (wJ X 367 f)) fun _ => RX X T G (uI (nf (N_mc e) T 0 (nf (N_ws e) H 0 w)) 25 e 1) := by
  have e8 : e < 8 := by have := R.2.1; omega
  have hT6 := R.1
  have hH10 := ok.2.2.2.2.2.1
  have hp := (ok.2.2.2.2.2.2.2 e he).1
  have R1 : Rl T G (q_u1 f (aE e 5) 1) (uI w 25 e 1) := R.wI (Pl.ev e 5 he (by decide) (fun h => absurd h (by decide)) (fun h => absurd h (by decide))) (by decide) (by decide) (by decide)
  simp only [fX12_writes, h.1, h.2.1, h.2.2, li_T, li_L, li_R, nm, bd, q_b, ne_eq, Nat.reduceEqDiff, reduceCtorEq, and_false, false_and, and_true, true_and, and_self, not_false_eq_true, not_true_eq_false, ↓reduceIte, mT_wJ, mL_wJ, mR_wJ, mI_wJ, mJ_wJ, sJ_wJ, Nat.reduceLT, l60.1, l60.2.1, l60.2.2, l61.1, l61.2.1, l61.2.2, l62.1, l62.2.1, l62.2.2, r_of5, bE1 e8, bE2 e8, bE3 e8]
  refine loop_ex (F := fun j i Y => fX12_writes_L14 n j 366 (nI e) i Y) (N := N_ws e) (I := fun i a Y => RX X T G (uI a 25 e 1) Y ∧ a.1 = w.1) H
    ?_ H 0 (wJ X 367 (q_u1 f (aE e 5) 1)) w n (by omega) (by omega) ⟨⟨_, rfl, R1⟩, rfl⟩ ?_
  · rintro j i Y a hi ⟨⟨g, rfl, Ra⟩, ha⟩ nxt
    have e3 : ¬ nI H ≤ nI i := nI_ge hi (by omega)
    have i10 : i < 10 := by omega
    have hi2 := inL_nI (j := i) (n := 10) i10 (by decide)
    have q : ∀ c k, c ≠ 25 → (uI a 25 e 1).1 c k = w.1 c k := fun c k hc => by rw [uI_1, if_neg (by omega), ha]
    have hp2 : inL ((uI a 25 e 1).1 15 e) 5 := by rw [q _ _ (by decide)]; exact hp
    have R2 : Rl T G (q_u1 g (aH e i 0) ((uI a 25 e 1).2 1 (ix (nI i) ((uI a 25 e 1).1 15 e)))) (N_ws e i (uI a 25 e 1)) := Ra.wJ (Pl.ho e i 0 he i10 (by decide)) (by decide) rfl
    rw [N_ws_uI] at R2
    show Ex (fX12_writes_L14 n (j + 1) 366 (nI e) (nI i) (wJ X 367 g)) _
    rw [fX12_writes_L14]
    simp only [h.1, h.2.1, h.2.2, li_T, li_L, li_R, nm, bd, q_b, ne_eq, Nat.reduceEqDiff, reduceCtorEq, and_false, false_and, and_true, true_and, and_self, not_false_eq_true, not_true_eq_false, ↓reduceIte, mT_wJ, mL_wJ, mR_wJ, mI_wJ, mJ_wJ, sJ_wJ, Nat.reduceLT, l60.1, l60.2.1, l60.2.2, l61.1, l61.2.1, l61.2.2, l62.1, l62.2.1, l62.2.2, hH, e3, r_oH0, r_oH1, r_oH2, r_oH3, r_oH4, r_oH5, r_of1, bE1 e8, bE2 e8, bE3 e8, bH1 e8 i10, bH2 e8 i10, bH3 e8 i10, Ra.e1 he, m_sharesOf h Ra hi2 hp2, nI_1]
    exact nxt _ ⟨⟨_, rfl, R2⟩, ha⟩
  · rintro j Y ⟨⟨g, rfl, Ra⟩, ha⟩
    have e3 : nI H ≤ nI H := nI_le (Nat.le_refl _) (by omega)
    show Ex (fX12_writes_L14 n (j + 1) 366 (nI e) (nI H) (wJ X 367 g)) _
    rw [fX12_writes_L14]
    simp only [h.1, h.2.1, h.2.2, li_T, li_L, li_R, nm, bd, q_b, ne_eq, Nat.reduceEqDiff, reduceCtorEq, and_false, false_and, and_true, true_and, and_self, not_false_eq_true, not_true_eq_false, ↓reduceIte, mT_wJ, mL_wJ, mR_wJ, mI_wJ, mJ_wJ, sJ_wJ, Nat.reduceLT, l60.1, l60.2.1, l60.2.2, l61.1, l61.2.1, l61.2.2, l62.1, l62.2.1, l62.2.2, hH, e3]
    refine loop_ex (F := fun j i Y => fX12_writes_L59 n j 366 (nI e) i Y) (N := N_mc e) (I := fun i b Y => RX X T G (uI b 25 e 1) Y ∧ (∃ c, c ≤ i ∧ b.1 26 e = nI c) ∧ ∀ x k, (x ≠ 38 ∧ x ≠ 39 ∧ x ≠ 41 ∧ x ≠ 42 ∧ x ≠ 26) → b.1 x k = w.1 x k) T
      ?_ T 0 (wJ X 367 g) (nf (N_ws e) H 0 w) n (by omega) (by omega) ⟨⟨_, rfl, Ra⟩, ⟨0, Nat.le_refl _, by rw [ha]; exact hC⟩, fun x k _ => by rw [ha]⟩ ?_
    · rintro j t Y b ht ⟨⟨g, rfl, Rb⟩, ⟨c, hc, hbc⟩, hfr⟩ nxt
      have t6 : t < 60 := by omega
      have c6 : c < 60 := by omega
      have e3 : ¬ nI T ≤ nI t := nI_ge ht (by omega)
      have q : ∀ x k, (x ≠ 38 ∧ x ≠ 39 ∧ x ≠ 41 ∧ x ≠ 42 ∧ x ≠ 26) → x ≠ 25 → (uI b 25 e 1).1 x k = w.1 x k := fun x k hx h25 => by rw [uI_1, if_neg (by omega)]; exact hfr x k hx
      have hc1 : (uI b 25 e 1).1 26 e = nI c := by rw [uI_1, if_neg (by omega)]; exact hbc
      have h39 : (uI b 25 e 1).1 3 9 = nI T := by rw [q _ _ (by omega) (by decide)]; exact ok.1
      have z1 : ¬ (1 : Int32) = 0 := by decide
      have z2 : ¬ (0 : Int32) = 1 := by decide
      have stay : N_mc e t b = b → Ex (fX12_writes_L59 n j 366 (nI e) (nI (t + 1)) (wJ X 367 g)) _ := fun hs => nxt _ ⟨⟨_, rfl, by rw [hs]; exact Rb⟩, ⟨c, by omega, by rw [hs]; exact hbc⟩, by rw [hs]; exact hfr⟩
      have put : ∀ x y g2, Rl T G g2 (N_ac e x y t (uI b 25 e 1)) → N_mc e t b = N_ac e x y t b → Ex (fX12_writes_L59 n j 366 (nI e) (nI (t + 1)) (wJ X 367 g2)) _ := fun x y g2 R2 hs => nxt _ ⟨⟨_, rfl, by rw [hs, ← N_ac_uI]; exact R2⟩, ⟨c + 1, by omega, by
        rw [hs]
        unfold N_ac
        rw [hbc, if_neg (by rw [show (60 : Int32) = nI 60 from rfl]; exact nI_ge c6 (by decide)), uI_1, if_pos ⟨rfl, rfl⟩, nI_1]⟩, fun x k hx => by rw [hs, N_ac_1 _ _ _ _ _ _ _ hx]; exact hfr x k hx⟩
      have hmc : N_mc e t b = if w.1 6 t = w.1 15 e then if w.1 11 t = 0 then if w.1 22 e ≤ w.1 9 t then b else N_ac e (w.1 5 t) (w.1 4 t) t b else if w.1 11 t = 1 then if w.1 22 e ≤ w.1 9 t then N_ac e (w.1 4 t) (w.1 5 t) t b else b else b else b := by
        unfold N_mc
        rw [hfr 6 _ (by omega), hfr 15 _ (by omega), hfr 11 _ (by omega), hfr 22 _ (by omega), hfr 9 _ (by omega), hfr 5 _ (by omega), hfr 4 _ (by omega)]
      show Ex (fX12_writes_L59 n (j + 1) 366 (nI e) (nI t) (wJ X 367 g)) _
      rw [fX12_writes_L59]
      simp only [h.1, h.2.1, h.2.2, li_T, li_L, li_R, nm, bd, q_b, ne_eq, Nat.reduceEqDiff, reduceCtorEq, and_false, false_and, and_true, true_and, and_self, not_false_eq_true, not_true_eq_false, ↓reduceIte, mT_wJ, mL_wJ, mR_wJ, mI_wJ, mJ_wJ, sJ_wJ, Nat.reduceLT, l60.1, l60.2.1, l60.2.2, l61.1, l61.2.1, l61.2.2, l62.1, l62.2.1, l62.2.2, m_tm h Rb, h39, e3, r_at2, r_of1, r_at5, r_of2, bT1 t6, bT2 t6, bT3 t6, bE1 e8, bE2 e8, bE3 e8, Rb.t2 ht, Rb.e1 he, Rb.t5 ht, Rb.e2 he, cv_eq, wd_eq, cv_ge, wd_le, q 6 t (by omega) (by decide), q 15 e (by omega) (by decide), q 9 t (by omega) (by decide), q 22 e (by omega) (by decide)]
      by_cases g1 : w.1 6 t = w.1 15 e
      · by_cases g0 : w.1 22 e ≤ w.1 9 t
        · by_cases g2 : w.1 11 t = 0
          · simp only [g0, g1, g2, z2, ↓reduceIte, fX12_writes_L127, fX12_writes_L180, fX12_writes_L229, h.1, h.2.1, h.2.2, li_T, li_L, li_R, nm, bd, q_b, ne_eq, Nat.reduceEqDiff, reduceCtorEq, and_false, false_and, and_true, true_and, and_self, not_false_eq_true, not_true_eq_false, ↓reduceIte, mT_wJ, mL_wJ, mR_wJ, mI_wJ, mJ_wJ, sJ_wJ, Nat.reduceLT, l60.1, l60.2.1, l60.2.2, l61.1, l61.2.1, l61.2.2, l62.1, l62.2.1, l62.2.2, r_at7, bT1 t6, bT2 t6, bT3 t6, Rb.t7 ht, cv_eq, wd_0, wd_1, q 11 t (by omega) (by decide), nI_1]
            exact stay (by rw [hmc, if_pos g1, if_pos g2, if_pos g0])
          · by_cases g3 : w.1 11 t = 1
            · simp only [g0, g1, g2, g3, z1, ↓reduceIte, fX12_writes_L127, fX12_writes_L180, h.1, h.2.1, h.2.2, li_T, li_L, li_R, nm, bd, q_b, ne_eq, Nat.reduceEqDiff, reduceCtorEq, and_false, false_and, and_true, true_and, and_self, not_false_eq_true, not_true_eq_false, ↓reduceIte, mT_wJ, mL_wJ, mR_wJ, mI_wJ, mJ_wJ, sJ_wJ, Nat.reduceLT, l60.1, l60.2.1, l60.2.2, l61.1, l61.2.1, l61.2.2, l62.1, l62.2.1, l62.2.2, r_at7, r_at0, r_at1, bT1 t6, bT2 t6, bT3 t6, Rb.t7 ht, Rb.t0 ht, Rb.t1 ht, cv_eq, wd_0, wd_1, q 11 t (by omega) (by decide), q 4 t (by omega) (by decide), q 5 t (by omega) (by decide), nI_1]
              refine Ex.bd (m_claims h Rb he ht hc1 c6 _ _) ?_
              rintro _ _ ⟨g2', rfl, R2⟩
              simp only [fX12_writes_L229, nm, nI_1]
              exact put _ _ _ R2 (by rw [hmc, if_pos g1, if_neg g2, if_pos g3, if_pos g0])
            · simp only [g0, g1, g2, g3, ↓reduceIte, fX12_writes_L127, fX12_writes_L180, fX12_writes_L229, h.1, h.2.1, h.2.2, li_T, li_L, li_R, nm, bd, q_b, ne_eq, Nat.reduceEqDiff, reduceCtorEq, and_false, false_and, and_true, true_and, and_self, not_false_eq_true, not_true_eq_false, ↓reduceIte, mT_wJ, mL_wJ, mR_wJ, mI_wJ, mJ_wJ, sJ_wJ, Nat.reduceLT, l60.1, l60.2.1, l60.2.2, l61.1, l61.2.1, l61.2.2, l62.1, l62.2.1, l62.2.2, r_at7, bT1 t6, bT2 t6, bT3 t6, Rb.t7 ht, cv_eq, wd_0, wd_1, q 11 t (by omega) (by decide), nI_1]
              exact stay (by rw [hmc, if_pos g1, if_neg g2, if_neg g3])
        · by_cases g2 : w.1 11 t = 0
          · simp only [g0, g1, g2, z1, ↓reduceIte, fX12_writes_L127, h.1, h.2.1, h.2.2, li_T, li_L, li_R, nm, bd, q_b, ne_eq, Nat.reduceEqDiff, reduceCtorEq, and_false, false_and, and_true, true_and, and_self, not_false_eq_true, not_true_eq_false, ↓reduceIte, mT_wJ, mL_wJ, mR_wJ, mI_wJ, mJ_wJ, sJ_wJ, Nat.reduceLT, l60.1, l60.2.1, l60.2.2, l61.1, l61.2.1, l61.2.2, l62.1, l62.2.1, l62.2.2, r_at7, r_at0, r_at1, bT1 t6, bT2 t6, bT3 t6, Rb.t7 ht, Rb.t0 ht, Rb.t1 ht, cv_eq, wd_0, wd_1, q 11 t (by omega) (by decide), q 4 t (by omega) (by decide), q 5 t (by omega) (by decide), nI_1]
            refine Ex.bd (m_claims h Rb he ht hc1 c6 _ _) ?_
            rintro _ _ ⟨g2', rfl, R2⟩
            simp only [fX12_writes_L229, nm, nI_1]
            exact put _ _ _ R2 (by rw [hmc, if_pos g1, if_pos g2, if_neg g0])
          · by_cases g3 : w.1 11 t = 1
            · simp only [g0, g1, g2, g3, z1, ↓reduceIte, fX12_writes_L127, fX12_writes_L180, fX12_writes_L229, h.1, h.2.1, h.2.2, li_T, li_L, li_R, nm, bd, q_b, ne_eq, Nat.reduceEqDiff, reduceCtorEq, and_false, false_and, and_true, true_and, and_self, not_false_eq_true, not_true_eq_false, ↓reduceIte, mT_wJ, mL_wJ, mR_wJ, mI_wJ, mJ_wJ, sJ_wJ, Nat.reduceLT, l60.1, l60.2.1, l60.2.2, l61.1, l61.2.1, l61.2.2, l62.1, l62.2.1, l62.2.2, r_at7, bT1 t6, bT2 t6, bT3 t6, Rb.t7 ht, cv_eq, wd_0, wd_1, q 11 t (by omega) (by decide), nI_1]
              exact stay (by rw [hmc, if_pos g1, if_neg g2, if_pos g3, if_neg g0])
            · simp only [g0, g1, g2, g3, z1, ↓reduceIte, fX12_writes_L127, fX12_writes_L180, fX12_writes_L229, h.1, h.2.1, h.2.2, li_T, li_L, li_R, nm, bd, q_b, ne_eq, Nat.reduceEqDiff, reduceCtorEq, and_false, false_and, and_true, true_and, and_self, not_false_eq_true, not_true_eq_false, ↓reduceIte, mT_wJ, mL_wJ, mR_wJ, mI_wJ, mJ_wJ, sJ_wJ, Nat.reduceLT, l60.1, l60.2.1, l60.2.2, l61.1, l61.2.1, l61.2.2, l62.1, l62.2.1, l62.2.2, r_at7, bT1 t6, bT2 t6, bT3 t6, Rb.t7 ht, cv_eq, wd_0, wd_1, q 11 t (by omega) (by decide), nI_1]
              exact stay (by rw [hmc, if_pos g1, if_neg g2, if_neg g3])
      · simp only [g1, ↓reduceIte, fX12_writes_L229, nm, nI_1]
        exact stay (by rw [hmc, if_neg g1])
    · rintro j Y ⟨⟨g, rfl, Rb⟩, -, hfr⟩
      have e3 : nI T ≤ nI T := nI_le (Nat.le_refl _) (by omega)
      have h39 : (uI (nf (N_mc e) T 0 (nf (N_ws e) H 0 w)) 25 e 1).1 3 9 = nI T := by rw [uI_1, if_neg (by omega), hfr _ _ (by omega)]; exact ok.1
      show Ex (fX12_writes_L59 n (j + 1) 366 (nI e) (nI T) (wJ X 367 g)) _
      rw [fX12_writes_L59]
      simp only [h.1, h.2.1, h.2.2, li_T, li_L, li_R, nm, bd, q_b, ne_eq, Nat.reduceEqDiff, reduceCtorEq, and_false, false_and, and_true, true_and, and_self, not_false_eq_true, not_true_eq_false, ↓reduceIte, mT_wJ, mL_wJ, mR_wJ, mI_wJ, mJ_wJ, sJ_wJ, Nat.reduceLT, l60.1, l60.2.1, l60.2.2, l61.1, l61.2.1, l61.2.2, l62.1, l62.2.1, l62.2.2, m_tm h Rb, h39, e3]
      exact .ret ⟨_, rfl, Rb⟩
end
