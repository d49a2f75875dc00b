/-! DEEDS: a TRADE -/
theorem Rl.grow {T G T' G' : Nat} {f f' : Nat → Int64} {w w' : Wt} (R : Rl T G f w) (hT : T' ≤ 60) (hG : G' ≤ 8) (h : ∀ p a k, Pl T' G' (Cn w') (w'.1 14) p a k → (Pl T G (Cn w) (w.1 14) p a k ∧ f' p = f p ∧ cw w' a k = cw w a k) ∨ f' p = cw w' a k) : Rl T' G' f' w' := by
  refine ⟨hT, hG, fun p a k hp => ?_⟩
  rcases h p a k hp with ⟨h1, h2, h3⟩ | h1
  · rw [h2, h3]; exact R.2.2 _ _ _ h1
  · exact h1
theorem m1_l : (-1 : Int64) = (-1 : Int32).toInt64 := by decide
theorem q_u1_is {α : Type} (f : Nat → α) (k : Nat) (v : α) (j : Nat) : q_u1 f k v j = if j = k then v else f j := rfl
/-- what a TRADE needs -/
def kT (H P T : Nat) (d : Nat → Int32) : Prop := (0 ≤ d 2 ∧ d 2 < nI H) ∧ (0 ≤ d 3 ∧ d 3 < nI H) ∧ ¬ d 2 = d 3 ∧ (0 ≤ d 1 ∧ d 1 < nI P) ∧ (1 ≤ d 4 ∧ d 4 ≤ 100000) ∧ (0 ≤ d 5 ∧ d 5 ≤ 99999999) ∧ (1 ≤ d 6 ∧ d 6 ≤ 9) ∧ T < 60
def N_tr (d : Nat → Int32) (t : Nat) (w : Wt) : Wt := uI (uI (uI (uI (uI (uJ (uJ (uI (uI (uI w 4 t (d 2)) 5 t (d 3)) 6 t (d 1)) 7 t (d 4).toInt64) 8 t (d 5).toInt64) 9 t (w.1 0 8)) 10 t (w.1 0 8 + d 6)) 11 t 0) 12 t (-1)) 3 9 (nI (t + 1))
theorem N_tr_1 (d : Nat → Int32) (t : Nat) (w : Wt) {a k : Nat} (h : a ≠ 3 ∧ ((a = 4 ∨ a = 5 ∨ a = 6 ∨ a = 9 ∨ a = 10 ∨ a = 11 ∨ a = 12) → k ≠ t)) : (N_tr d t w).1 a k = w.1 a k := by
  unfold N_tr
  rw [uI_1, if_neg (by omega), uI_1, if_neg (by omega), uI_1, if_neg (by omega), uI_1, if_neg (by omega), uI_1, if_neg (by omega), uJ_1, uJ_1, uI_1, if_neg (by omega), uI_1, if_neg (by omega), uI_1, if_neg (by omega)]
theorem N_tr_2 (d : Nat → Int32) (t : Nat) (w : Wt) {a k : Nat} (h : (a = 7 ∨ a = 8) → k ≠ t) : (N_tr d t w).2 a k = w.2 a k := by
  unfold N_tr
  rw [uI_2, uI_2, uI_2, uI_2, uI_2, uJ_2, if_neg (by omega), uJ_2, if_neg (by omega), uI_2, uI_2, uI_2]
theorem N_tr_v4 (d : Nat → Int32) (t : Nat) (w : Wt) : (N_tr d t w).1 4 t = (d 2) := by
  unfold N_tr
  rw [uI_1, if_neg (by omega), uI_1, if_neg (by omega), uI_1, if_neg (by omega), uI_1, if_neg (by omega), uI_1, if_neg (by omega), uJ_1, uJ_1, uI_1, if_neg (by omega), uI_1, if_neg (by omega), uI_1, if_pos ⟨rfl, rfl⟩]
theorem N_tr_v5 (d : Nat → Int32) (t : Nat) (w : Wt) : (N_tr d t w).1 5 t = (d 3) := by
  unfold N_tr
  rw [uI_1, if_neg (by omega), uI_1, if_neg (by omega), uI_1, if_neg (by omega), uI_1, if_neg (by omega), uI_1, if_neg (by omega), uJ_1, uJ_1, uI_1, if_neg (by omega), uI_1, if_pos ⟨rfl, rfl⟩]
theorem N_tr_v6 (d : Nat → Int32) (t : Nat) (w : Wt) : (N_tr d t w).1 6 t = (d 1) := by
  unfold N_tr
  rw [uI_1, if_neg (by omega), uI_1, if_neg (by omega), uI_1, if_neg (by omega), uI_1, if_neg (by omega), uI_1, if_neg (by omega), uJ_1, uJ_1, uI_1, if_pos ⟨rfl, rfl⟩]
theorem N_tr_v7 (d : Nat → Int32) (t : Nat) (w : Wt) : (N_tr d t w).2 7 t = (d 4).toInt64 := by
  unfold N_tr
  rw [uI_2, uI_2, uI_2, uI_2, uI_2, uJ_2, if_neg (by omega), uJ_2, if_pos ⟨rfl, rfl⟩]
theorem N_tr_v8 (d : Nat → Int32) (t : Nat) (w : Wt) : (N_tr d t w).2 8 t = (d 5).toInt64 := by
  unfold N_tr
  rw [uI_2, uI_2, uI_2, uI_2, uI_2, uJ_2, if_pos ⟨rfl, rfl⟩]
theorem N_tr_v9 (d : Nat → Int32) (t : Nat) (w : Wt) : (N_tr d t w).1 9 t = (w.1 0 8) := by
  unfold N_tr
  rw [uI_1, if_neg (by omega), uI_1, if_neg (by omega), uI_1, if_neg (by omega), uI_1, if_neg (by omega), uI_1, if_pos ⟨rfl, rfl⟩]
theorem N_tr_v10 (d : Nat → Int32) (t : Nat) (w : Wt) : (N_tr d t w).1 10 t = (w.1 0 8 + d 6) := by
  unfold N_tr
  rw [uI_1, if_neg (by omega), uI_1, if_neg (by omega), uI_1, if_neg (by omega), uI_1, if_pos ⟨rfl, rfl⟩]
theorem N_tr_v11 (d : Nat → Int32) (t : Nat) (w : Wt) : (N_tr d t w).1 11 t = 0 := by
  unfold N_tr
  rw [uI_1, if_neg (by omega), uI_1, if_neg (by omega), uI_1, if_pos ⟨rfl, rfl⟩]
theorem N_tr_v12 (d : Nat → Int32) (t : Nat) (w : Wt) : (N_tr d t w).1 12 t = (-1) := by
  unfold N_tr
  rw [uI_1, if_neg (by omega), uI_1, if_pos ⟨rfl, rfl⟩]
theorem N_tr_v3 (d : Nat → Int32) (t : Nat) (w : Wt) : (N_tr d t w).1 3 9 = (nI (t + 1)) := by
  unfold N_tr
  rw [uI_1, if_pos ⟨rfl, rfl⟩]
def M_tr (d : Nat → Int32) (t : Nat) (w : Wt) (f : Nat → Int64) : Nat → Int64 := q_u1 (q_u1 (q_u1 (q_u1 (q_u1 (q_u1 (q_u1 (q_u1 (q_u1 (q_u1 f (aT t 0) (d 2).toInt64) (aT t 1) (d 3).toInt64) (aT t 2) (d 1).toInt64) (aT t 3) (d 4).toInt64) (aT t 4) (d 5).toInt64) (aT t 5) (w.1 0 8).toInt64) (aT t 6) (w.1 0 8 + d 6).toInt64) (aT t 7) 0) (aT t 8) (-1)) 60 (nI t + 1).toInt64
theorem M_tr_o (d : Nat → Int32) (t : Nat) (w : Wt) (f : Nat → Int64) {p : Nat} (h : p ≠ 60 ∧ (p < 64 + 9 * t ∨ 64 + 9 * t + 9 ≤ p)) : M_tr d t w f p = f p := by
  unfold M_tr aT
  rw [q_u1_n _ _ (by omega), q_u1_n _ _ (by omega), q_u1_n _ _ (by omega), q_u1_n _ _ (by omega), q_u1_n _ _ (by omega), q_u1_n _ _ (by omega), q_u1_n _ _ (by omega), q_u1_n _ _ (by omega), q_u1_n _ _ (by omega), q_u1_n _ _ (by omega)]
theorem M_tr_v0 (d : Nat → Int32) (t : Nat) (w : Wt) (f : Nat → Int64) : M_tr d t w f (64 + 9 * t + 0) = (d 2).toInt64 := by
  unfold M_tr aT
  rw [q_u1_n _ _ (by omega), q_u1_n _ _ (by omega), q_u1_n _ _ (by omega), q_u1_n _ _ (by omega), q_u1_n _ _ (by omega), q_u1_n _ _ (by omega), q_u1_n _ _ (by omega), q_u1_n _ _ (by omega), q_u1_n _ _ (by omega), q_u1_s]
theorem M_tr_v1 (d : Nat → Int32) (t : Nat) (w : Wt) (f : Nat → Int64) : M_tr d t w f (64 + 9 * t + 1) = (d 3).toInt64 := by
  unfold M_tr aT
  rw [q_u1_n _ _ (by omega), q_u1_n _ _ (by omega), q_u1_n _ _ (by omega), q_u1_n _ _ (by omega), q_u1_n _ _ (by omega), q_u1_n _ _ (by omega), q_u1_n _ _ (by omega), q_u1_n _ _ (by omega), q_u1_s]
theorem M_tr_v2 (d : Nat → Int32) (t : Nat) (w : Wt) (f : Nat → Int64) : M_tr d t w f (64 + 9 * t + 2) = (d 1).toInt64 := by
  unfold M_tr aT
  rw [q_u1_n _ _ (by omega), q_u1_n _ _ (by omega), q_u1_n _ _ (by omega), q_u1_n _ _ (by omega), q_u1_n _ _ (by omega), q_u1_n _ _ (by omega), q_u1_n _ _ (by omega), q_u1_s]
theorem M_tr_v3 (d : Nat → Int32) (t : Nat) (w : Wt) (f : Nat → Int64) : M_tr d t w f (64 + 9 * t + 3) = (d 4).toInt64 := by
  unfold M_tr aT
  rw [q_u1_n _ _ (by omega), q_u1_n _ _ (by omega), q_u1_n _ _ (by omega), q_u1_n _ _ (by omega), q_u1_n _ _ (by omega), q_u1_n _ _ (by omega), q_u1_s]
theorem M_tr_v4 (d : Nat → Int32) (t : Nat) (w : Wt) (f : Nat → Int64) : M_tr d t w f (64 + 9 * t + 4) = (d 5).toInt64 := by
  unfold M_tr aT
  rw [q_u1_n _ _ (by omega), q_u1_n _ _ (by omega), q_u1_n _ _ (by omega), q_u1_n _ _ (by omega), q_u1_n _ _ (by omega), q_u1_s]
theorem M_tr_v5 (d : Nat → Int32) (t : Nat) (w : Wt) (f : Nat → Int64) : M_tr d t w f (64 + 9 * t + 5) = (w.1 0 8).toInt64 := by
  unfold M_tr aT
  rw [q_u1_n _ _ (by omega), q_u1_n _ _ (by omega), q_u1_n _ _ (by omega), q_u1_n _ _ (by omega), q_u1_s]
theorem M_tr_v6 (d : Nat → Int32) (t : Nat) (w : Wt) (f : Nat → Int64) : M_tr d t w f (64 + 9 * t + 6) = (w.1 0 8 + d 6).toInt64 := by
  unfold M_tr aT
  rw [q_u1_n _ _ (by omega), q_u1_n _ _ (by omega), q_u1_n _ _ (by omega), q_u1_s]
theorem M_tr_v7 (d : Nat → Int32) (t : Nat) (w : Wt) (f : Nat → Int64) : M_tr d t w f (64 + 9 * t + 7) = 0 := by
  unfold M_tr aT
  rw [q_u1_n _ _ (by omega), q_u1_n _ _ (by omega), q_u1_s]
theorem M_tr_v8 (d : Nat → Int32) (t : Nat) (w : Wt) (f : Nat → Int64) : M_tr d t w f (64 + 9 * t + 8) = (-1) := by
  unfold M_tr aT
  rw [q_u1_n _ _ (by omega), q_u1_s]
theorem M_tr_m (d : Nat → Int32) (t : Nat) (w : Wt) (f : Nat → Int64) : M_tr d t w f 60 = (nI t + 1).toInt64 := q_u1_s _ _ _
theorem cw_tr_I {d : Nat → Int32} {t : Nat} {w : Wt} {a k : Nat} (h : jT a = false) : cw (N_tr d t w) a k = ((N_tr d t w).1 a k).toInt64 := by
  unfold cw
  rw [h]
  rfl
theorem cw_tr_J {d : Nat → Int32} {t : Nat} {w : Wt} {a k : Nat} (h : jT a = true) : cw (N_tr d t w) a k = (N_tr d t w).2 a k := by
  unfold cw
  rw [h]
  rfl
theorem cw_tr_o {d : Nat → Int32} {t : Nat} {w : Wt} {a k : Nat} (h : a ≠ 3 ∧ (4 ≤ a → a ≤ 12 → k ≠ t)) : cw (N_tr d t w) a k = cw w a k := by
  cases hj : jT a with
  | false =>
    rw [cw_tr_I hj, N_tr_1 d t w (by omega)]
    unfold cw
    rw [hj]
    rfl
  | true =>
    rw [cw_tr_J hj, N_tr_2 d t w (by omega)]
    unfold cw
    rw [hj]
    rfl
theorem M_tr_c0 (d : Nat → Int32) (t : Nat) (w : Wt) (f : Nat → Int64) : M_tr d t w f (64 + 9 * t + 0) = cw (N_tr d t w) 4 t := by
  rw [M_tr_v0, cw_tr_I (by decide), N_tr_v4]
theorem M_tr_c1 (d : Nat → Int32) (t : Nat) (w : Wt) (f : Nat → Int64) : M_tr d t w f (64 + 9 * t + 1) = cw (N_tr d t w) 5 t := by
  rw [M_tr_v1, cw_tr_I (by decide), N_tr_v5]
theorem M_tr_c2 (d : Nat → Int32) (t : Nat) (w : Wt) (f : Nat → Int64) : M_tr d t w f (64 + 9 * t + 2) = cw (N_tr d t w) 6 t := by
  rw [M_tr_v2, cw_tr_I (by decide), N_tr_v6]
theorem M_tr_c3 (d : Nat → Int32) (t : Nat) (w : Wt) (f : Nat → Int64) : M_tr d t w f (64 + 9 * t + 3) = cw (N_tr d t w) 7 t := by
  rw [M_tr_v3, cw_tr_J (by decide), N_tr_v7]
theorem M_tr_c4 (d : Nat → Int32) (t : Nat) (w : Wt) (f : Nat → Int64) : M_tr d t w f (64 + 9 * t + 4) = cw (N_tr d t w) 8 t := by
  rw [M_tr_v4, cw_tr_J (by decide), N_tr_v8]
theorem M_tr_c5 (d : Nat → Int32) (t : Nat) (w : Wt) (f : Nat → Int64) : M_tr d t w f (64 + 9 * t + 5) = cw (N_tr d t w) 9 t := by
  rw [M_tr_v5, cw_tr_I (by decide), N_tr_v9]
theorem M_tr_c6 (d : Nat → Int32) (t : Nat) (w : Wt) (f : Nat → Int64) : M_tr d t w f (64 + 9 * t + 6) = cw (N_tr d t w) 10 t := by
  rw [M_tr_v6, cw_tr_I (by decide), N_tr_v10]
theorem M_tr_c7 (d : Nat → Int32) (t : Nat) (w : Wt) (f : Nat → Int64) : M_tr d t w f (64 + 9 * t + 7) = cw (N_tr d t w) 11 t := by
  rw [M_tr_v7, cw_tr_I (by decide), N_tr_v11]
  decide
theorem M_tr_c8 (d : Nat → Int32) (t : Nat) (w : Wt) (f : Nat → Int64) : M_tr d t w f (64 + 9 * t + 8) = cw (N_tr d t w) 12 t := by
  rw [M_tr_v8, cw_tr_I (by decide), N_tr_v12]
  exact m1_l
theorem M_tr_c {d : Nat → Int32} {t : Nat} {w : Wt} {f : Nat → Int64} {j : Nat} (h : j < 9) : M_tr d t w f (64 + 9 * t + j) = cw (N_tr d t w) (4 + j) t := by
  rcases (by omega : j = 0 ∨ j = 1 ∨ j = 2 ∨ j = 3 ∨ j = 4 ∨ j = 5 ∨ j = 6 ∨ j = 7 ∨ j = 8) with rfl | rfl | rfl | rfl | rfl | rfl | rfl | rfl | rfl
  · exact M_tr_c0 d t w f
  · exact M_tr_c1 d t w f
  · exact M_tr_c2 d t w f
  · exact M_tr_c3 d t w f
  · exact M_tr_c4 d t w f
  · exact M_tr_c5 d t w f
  · exact M_tr_c6 d t w f
  · exact M_tr_c7 d t w f
  · exact M_tr_c8 d t w f
theorem Rl.trade {T G : Nat} {f : Nat → Int64} {w : Wt} (R : Rl T G f w) (hT : T < 60) (d : Nat → Int32) : Rl (T + 1) G (M_tr d T w f) (N_tr d T w) := by
  have e14 : (N_tr d T w).1 14 = w.1 14 := funext fun i => N_tr_1 d T w (by omega)
  have eC : Cn (N_tr d T w) = Cn w := funext fun i => by
    unfold Cn
    rw [N_tr_1 d T w (by omega)]
  refine R.grow (by omega) R.2.1 fun p a k hp => ?_
  rw [e14, eC] at hp
  clear e14 eC
  unfold Pl at hp
  rcases hp with ⟨h1, h2, h3⟩ | ⟨h1, h2, h3⟩ | ⟨h1, h2, h3⟩ | ⟨h1, h2, h3⟩ | ⟨h1, h2, h3⟩ | ⟨j, h1, h2, h3, h4⟩ | ⟨j, h1, h2, h3, h4, h5⟩ | ⟨e, i, j, h1, h2, h3, h4, h5, h6⟩ | ⟨e, i, j, h1, h2, h3, h4, h5, h6, h7⟩
  · exact Or.inl ⟨Or.inl ⟨h1, h2, h3⟩, M_tr_o d T w f (by omega), cw_tr_o (by omega)⟩
  · exact Or.inl ⟨Or.inr (Or.inl ⟨h1, h2, h3⟩), M_tr_o d T w f (by omega), cw_tr_o (by omega)⟩
  · right
    rw [h1, h2, h3, M_tr_m, nI_1, cw_tr_I (by decide), N_tr_v3]
  · exact Or.inl ⟨Or.inr (Or.inr (Or.inr (Or.inl ⟨h1, h2, h3⟩))), M_tr_o d T w f (by omega), cw_tr_o (by omega)⟩
  · exact Or.inl ⟨Or.inr (Or.inr (Or.inr (Or.inr (Or.inl ⟨h1, h2, h3⟩)))), M_tr_o d T w f (by omega), cw_tr_o (by omega)⟩
  · by_cases hk : k = T
    · right
      subst hk
      rw [h1, h3]
      exact M_tr_c h2
    · exact Or.inl ⟨Or.inr (Or.inr (Or.inr (Or.inr (Or.inr (Or.inl ⟨j, h1, h2, h3, by omega⟩))))), M_tr_o d T w f (by omega), cw_tr_o (by omega)⟩
  · have b := oE_b j
    exact Or.inl ⟨Or.inr (Or.inr (Or.inr (Or.inr (Or.inr (Or.inr (Or.inl ⟨j, h1, h2, h3, h4, h5⟩)))))), M_tr_o d T w f (by omega), cw_tr_o (by omega)⟩
  · exact Or.inl ⟨Or.inr (Or.inr (Or.inr (Or.inr (Or.inr (Or.inr (Or.inr (Or.inl ⟨e, i, j, h1, h2, h3, h4, h5, h6⟩))))))), M_tr_o d T w f (by omega), cw_tr_o (by omega)⟩
  · exact Or.inl ⟨Or.inr (Or.inr (Or.inr (Or.inr (Or.inr (Or.inr (Or.inr (Or.inr ⟨e, i, j, h1, h2, h3, h4, h5, h6, h7⟩))))))), M_tr_o d T w f (by omega), cw_tr_o (by omega)⟩
section
variable {bk dr s T G H P : Nat} {X : Mm} {f : Nat → Int64} {w : Wt} {d : Nat → Int32}
theorem c_tradeCanBe (h : Shp bk dr X) (hs : St s) (hw6 : w.1 0 6 = nI H) (hw7 : w.1 0 7 = nI P) (hd : mI X 15 = d) : fX8_tradeCanBe s 15 (pW s w X) = some (bo ((0 ≤ d 2 ∧ d 2 < nI H) ∧ (0 ≤ d 3 ∧ d 3 < nI H) ∧ ¬ d 2 = d 3 ∧ (0 ≤ d 1 ∧ d 1 < nI P) ∧ (1 ≤ d 4 ∧ d 4 ≤ 100000) ∧ (0 ≤ d 5 ∧ d 5 ≤ 99999999) ∧ (1 ≤ d 6 ∧ d 6 ≤ 9)), pW s w X) := by
  have hge := (st_ge s hs).1
  have o : ∀ k, mI (pW s w X) 15 k = d k := fun k => by rw [mI_pWo _ _ (by omega), hd]
  simp only [fX8_tradeCanBe, fX8_tradeCanBe_L87, o, h.1, h.2.1, h.2.2, st_T s hs, st_L s hs, st_R hs, mT_pW, mL_pW, mR_pW, mI_pW, mJ_pW, mI_pW0, mJ_pW0, sI_pW, sJ_pW, sI_pW0, nm, bd, q_b, ne_eq, Nat.add_eq_zero_iff, Nat.reduceEqDiff, Nat.reduceLeDiff, Nat.reduceAdd, and_false, false_and, and_true, true_and, and_self, not_false_eq_true, not_true_eq_false, reduceCtorEq, ↓reduceIte, li_T, c_isHolder h hs, c_isPaper h hs, hw6, hw7, r_within, bo_0]
  by_cases g1 : 0 ≤ d 2 ∧ d 2 < nI H
  · by_cases g2 : 0 ≤ d 3 ∧ d 3 < nI H
    · by_cases g3 : d 2 = d 3
      · rw [if_neg (fun z => z g1), if_neg (fun z => z g2), if_pos g3, bo_f (fun z => z.2.2.1 g3)]
      · by_cases g4 : 0 ≤ d 1 ∧ d 1 < nI P
        · by_cases g5 : 1 ≤ d 4 ∧ d 4 ≤ 100000
          · by_cases g6 : 0 ≤ d 5 ∧ d 5 ≤ 99999999
            · by_cases g7 : 1 ≤ d 6 ∧ d 6 ≤ 9
              · rw [if_neg (fun z => z g1), if_neg (fun z => z g2), if_neg g3, if_neg (fun z => z g4), if_neg (fun z => z g5), if_neg (fun z => z g6), if_neg (fun z => z g7), bo_t ⟨g1, g2, g3, g4, g5, g6, g7⟩]
              · rw [if_neg (fun z => z g1), if_neg (fun z => z g2), if_neg g3, if_neg (fun z => z g4), if_neg (fun z => z g5), if_neg (fun z => z g6), if_pos g7, bo_f (fun z => g7 z.2.2.2.2.2.2)]
            · rw [if_neg (fun z => z g1), if_neg (fun z => z g2), if_neg g3, if_neg (fun z => z g4), if_neg (fun z => z g5), if_pos g6, bo_f (fun z => g6 z.2.2.2.2.2.1)]
          · rw [if_neg (fun z => z g1), if_neg (fun z => z g2), if_neg g3, if_neg (fun z => z g4), if_pos g5, bo_f (fun z => g5 z.2.2.2.2.1)]
        · rw [if_neg (fun z => z g1), if_neg (fun z => z g2), if_neg g3, if_pos g4, bo_f (fun z => g4 z.2.2.2.1)]
    · rw [if_neg (fun z => z g1), if_pos g2, bo_f (fun z => g2 z.2.1)]
  · rw [if_pos g1, bo_f (fun z => g1 z.1)]
/-- class: a TRADE is told, if it can be -/
theorem c_trade (h : Shp bk dr X) (hs : St s) (hT : w.1 3 9 = nI T) (hT6 : T ≤ 60) (hw6 : w.1 0 6 = nI H) (hw7 : w.1 0 7 = nI P) (hd : mI X 15 = d) (hk : d 0 = 4) (n : Nat) :
    (kT H P T d → fX8_perform n s 15 (pW s w X) = some (nI T, pW s (N_tr d T w) X)) ∧ (¬ kT H P T d → fX8_perform n s 15 (pW s w X) = some (-1, pW s w X)) := by
  have hge := (st_ge s hs).1
  have o : ∀ u k, mI (pW s u X) 15 k = d k := fun u k => by rw [mI_pWo _ _ (by omega), hd]
  have t0 := c_tradeCanBe h hs hw6 hw7 hd
  constructor
  · intro g
    obtain ⟨g1, g2, g3, g4, g5, g6, g7, g8⟩ := g
    have t1 : (nI T).toNatClampNeg = T := nI_clamp (by omega)
    have t2 := inL_nI (j := T) (n := 60) g8 (by decide)
    have t3 : nI T < (60 : Int32) := nI_lt g8 (by decide)
    simp only [fX8_perform, fX10_add, o, hk, h.1, h.2.1, h.2.2, st_T s hs, st_L s hs, st_R hs, mT_pW, mL_pW, mR_pW, mI_pW, mJ_pW, mI_pW0, mJ_pW0, sI_pW, sJ_pW, sI_pW0, nm, bd, q_b, ne_eq, Nat.add_eq_zero_iff, Nat.reduceEqDiff, Nat.reduceLeDiff, Nat.reduceAdd, and_false, false_and, and_true, true_and, and_self, not_false_eq_true, not_true_eq_false, reduceCtorEq, ↓reduceIte, li_T, t0, bo_t (⟨g1, g2, g3, g4, g5, g6, g7⟩ : (0 ≤ d 2 ∧ d 2 < nI H) ∧ (0 ≤ d 3 ∧ d 3 < nI H) ∧ ¬ d 2 = d 3 ∧ (0 ≤ d 1 ∧ d 1 < nI P) ∧ (1 ≤ d 4 ∧ d 4 ≤ 100000) ∧ (0 ≤ d 5 ∧ d 5 ≤ 99999999) ∧ (1 ≤ d 6 ∧ d 6 ≤ 9)), b1, hT, t1, t2.1, t2.2, t3, uI_1, uJ_1, nI_1, N_tr]
  · intro g
    by_cases q : (0 ≤ d 2 ∧ d 2 < nI H) ∧ (0 ≤ d 3 ∧ d 3 < nI H) ∧ ¬ d 2 = d 3 ∧ (0 ≤ d 1 ∧ d 1 < nI P) ∧ (1 ≤ d 4 ∧ d 4 ≤ 100000) ∧ (0 ≤ d 5 ∧ d 5 ≤ 99999999) ∧ (1 ≤ d 6 ∧ d 6 ≤ 9)
    · have q8 : ¬ T < 60 := fun z => g ⟨q.1, q.2.1, q.2.2.1, q.2.2.2.1, q.2.2.2.2.1, q.2.2.2.2.2.1, q.2.2.2.2.2.2, z⟩
      have t3 : ¬ nI T < (60 : Int32) := nI_nlt (a := T) (b := 60) (by omega) (by omega)
      simp only [fX8_perform, fX10_add, o, hk, h.1, h.2.1, h.2.2, st_T s hs, st_L s hs, st_R hs, mT_pW, mL_pW, mR_pW, mI_pW, mJ_pW, mI_pW0, mJ_pW0, sI_pW, sJ_pW, sI_pW0, nm, bd, q_b, ne_eq, Nat.add_eq_zero_iff, Nat.reduceEqDiff, Nat.reduceLeDiff, Nat.reduceAdd, and_false, false_and, and_true, true_and, and_self, not_false_eq_true, not_true_eq_false, reduceCtorEq, ↓reduceIte, li_T, t0, bo_t q, b1, hT, t3]
    · simp only [fX8_perform, o, hk, h.1, h.2.1, h.2.2, st_T s hs, st_L s hs, st_R hs, mT_pW, mL_pW, mR_pW, mI_pW, mJ_pW, mI_pW0, mJ_pW0, sI_pW, sJ_pW, sI_pW0, nm, bd, q_b, ne_eq, Nat.add_eq_zero_iff, Nat.reduceEqDiff, Nat.reduceLeDiff, Nat.reduceAdd, and_false, false_and, and_true, true_and, and_self, not_false_eq_true, not_true_eq_false, reduceCtorEq, ↓reduceIte, li_T, t0, bo_f q]
theorem m_trade (h : Shp bk dr X) (R : Rl T G f w) (hT : w.1 3 9 = nI T) (hH : mI X 366 6 = nI H) (hH10 : H ≤ 10) (hP : mI X 366 7 = nI P) (hP5 : P ≤ 5) :
    (kT H P T d → fX12_trades 366 (d 2) (d 3) (d 1) (d 4) (d 5) (d 6) (wJ X 367 f) = some (nI T, wJ X 367 (M_tr d T w f))) ∧ (¬ kT H P T d → fX12_trades 366 (d 2) (d 3) (d 1) (d 4) (d 5) (d 6) (wJ X 367 f) = some (-1, wJ X 367 f)) := by
  have hT6 := R.1
  constructor
  · intro g
    obtain ⟨g1, g2, g3, g4, g5, g6, g7, g8⟩ := g
    have t6 := g8
    have n60 : ¬ nI T = (60 : Int32) := fun z => by
      have := (nI_eq (a := T) (b := 60) (by omega) (by omega)).mp z
      omega
    have td : ∀ g : Nat → Int64, (∀ p, p ≤ 62 → g p = f p) → fX12_today 366 (wJ X 367 g) = some (w.1 0 8, wJ X 367 g) := fun g hg => by
      simp only [fX12_today, h.1, h.2.1, h.2.2, li_T, li_L, li_R, nm, bd, q_b, ne_eq, Nat.reduceEqDiff, reduceCtorEq, and_false, false_and, and_true, true_and, and_self, not_false_eq_true, not_true_eq_false, ↓reduceIte, mT_wJ, mL_wJ, mR_wJ, mI_wJ, mJ_wJ, sJ_wJ, Nat.reduceLT, l60.1, l60.2.1, l60.2.2, l61.1, l61.2.1, l61.2.2, l62.1, l62.2.1, l62.2.2, hg 62 (by omega), R.m2, wd_back]
    have lo : ∀ (g : Nat → Int64) k v p, p ≤ 62 → q_u1 g (aT T k) v p = g p := fun g k v p hp => q_u1_n _ _ (by unfold aT; omega)
    simp only [fX12_trades, h.1, h.2.1, h.2.2, li_T, li_L, li_R, nm, bd, q_b, ne_eq, Nat.reduceEqDiff, reduceCtorEq, and_false, false_and, and_true, true_and, and_self, not_false_eq_true, not_true_eq_false, ↓reduceIte, mT_wJ, mL_wJ, mR_wJ, mI_wJ, mJ_wJ, sJ_wJ, Nat.reduceLT, l60.1, l60.2.1, l60.2.2, l61.1, l61.2.1, l61.2.2, l62.1, l62.2.1, l62.2.2, m_isHolder h hH hH10, m_isPaper h hP hP5, r_inb (d 4) 1 100000 (lo := 1) (hi := 100000) (by decide) (by decide), r_inb (d 5) 0 99999999 (lo := 0) (hi := 99999999) (by decide) (by decide), r_inb (d 6) 1 9 (lo := 1) (hi := 9) (by decide) (by decide), bo_t g1, bo_t g2, bo_t g4, bo_t g5, bo_t g6, bo_t g7, g3, b1, m_tm h R, hT, n60, r_at0, r_at1, r_at2, r_at3, r_at4, r_at5, r_at6, r_at7, r_at8, bT1 t6, bT2 t6, bT3 t6]
    rw [td _ (fun p hp => by rw [lo _ _ _ _ hp, lo _ _ _ _ hp, lo _ _ _ _ hp, lo _ _ _ _ hp, lo _ _ _ _ hp])]
    simp only [h.1, h.2.1, h.2.2, li_T, li_L, li_R, nm, bd, q_b, ne_eq, Nat.reduceEqDiff, reduceCtorEq, and_false, false_and, and_true, true_and, and_self, not_false_eq_true, not_true_eq_false, ↓reduceIte, mT_wJ, mL_wJ, mR_wJ, mI_wJ, mJ_wJ, sJ_wJ, Nat.reduceLT, l60.1, l60.2.1, l60.2.2, l61.1, l61.2.1, l61.2.2, l62.1, l62.2.1, l62.2.2, r_at0, r_at1, r_at2, r_at3, r_at4, r_at5, r_at6, r_at7, r_at8, bT1 t6, bT2 t6, bT3 t6]
    rw [td _ (fun p hp => by rw [lo _ _ _ _ hp, lo _ _ _ _ hp, lo _ _ _ _ hp, lo _ _ _ _ hp, lo _ _ _ _ hp, lo _ _ _ _ hp])]
    simp only [h.1, h.2.1, h.2.2, li_T, li_L, li_R, nm, bd, q_b, ne_eq, Nat.reduceEqDiff, reduceCtorEq, and_false, false_and, and_true, true_and, and_self, not_false_eq_true, not_true_eq_false, ↓reduceIte, mT_wJ, mL_wJ, mR_wJ, mI_wJ, mJ_wJ, sJ_wJ, Nat.reduceLT, l60.1, l60.2.1, l60.2.2, l61.1, l61.2.1, l61.2.2, l62.1, l62.2.1, l62.2.2, r_at0, r_at1, r_at2, r_at3, r_at4, r_at5, r_at6, r_at7, r_at8, bT1 t6, bT2 t6, bT3 t6, M_tr]
  · intro g
    simp only [fX12_trades, fX12_trades_L80, h.1, h.2.1, h.2.2, li_T, li_L, li_R, nm, bd, q_b, ne_eq, Nat.reduceEqDiff, reduceCtorEq, and_false, false_and, and_true, true_and, and_self, not_false_eq_true, not_true_eq_false, ↓reduceIte, mT_wJ, mL_wJ, mR_wJ, mI_wJ, mJ_wJ, sJ_wJ, Nat.reduceLT, l60.1, l60.2.1, l60.2.2, l61.1, l61.2.1, l61.2.2, l62.1, l62.2.1, l62.2.2, m_isHolder h hH hH10, m_isPaper h hP hP5, r_inb (d 4) 1 100000 (lo := 1) (hi := 100000) (by decide) (by decide), r_inb (d 5) 0 99999999 (lo := 0) (hi := 99999999) (by decide) (by decide), r_inb (d 6) 1 9 (lo := 1) (hi := 9) (by decide) (by decide), bo_0, m_tm h R, hT]
    by_cases g1 : 0 ≤ d 2 ∧ d 2 < nI H
    · rw [if_neg (fun z => z g1)]
      by_cases g2 : 0 ≤ d 3 ∧ d 3 < nI H
      · rw [if_neg (fun z => z g2)]
        by_cases g3 : d 2 = d 3
        · rw [if_pos g3]
        · rw [if_neg g3]
          by_cases g4 : 0 ≤ d 1 ∧ d 1 < nI P
          · rw [if_neg (fun z => z g4)]
            by_cases g5 : 1 ≤ d 4 ∧ d 4 ≤ 100000
            · rw [if_neg (fun z => z g5)]
              by_cases g6 : 0 ≤ d 5 ∧ d 5 ≤ 99999999
              · rw [if_neg (fun z => z g6)]
                by_cases g7 : 1 ≤ d 6 ∧ d 6 ≤ 9
                · rw [if_neg (fun z => z g7)]
                  have e60 : T = 60 := by
                    have : ¬ T < 60 := fun z => g ⟨g1, g2, g3, g4, g5, g6, g7, z⟩
                    omega
                  rw [if_pos (by rw [e60]; rfl)]
                · rw [if_pos g7]
              · rw [if_pos g6]
            · rw [if_pos g5]
          · rw [if_pos g4]
      · rw [if_pos g2]
    · rw [if_pos g1]
end
