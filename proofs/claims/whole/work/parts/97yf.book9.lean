/-! TEXTS: a book is taken over -/
section
variable {b : Nat → Int32} {L : Nat} {bk dr n K H P : Nat} {X V W Z : Mm} {s t : St3} {D : Bk} {f g : Nat → Int64}
theorem mT_sR (X : Mm) (c k v : Nat) : mT (sR X c k v) = mT X := rfl
theorem mL_sR (X : Mm) (c k v : Nat) : mL (sR X c k v) = mL X := rfl
theorem mI_sR (X : Mm) (c k v : Nat) : mI (sR X c k v) = mI X := rfl
theorem mJ_sR (X : Mm) (c k v : Nat) : mJ (sR X c k v) = mJ X := rfl
theorem mR_sR (X : Mm) (c k v : Nat) : mR (sR X c k v) = q_u2 (mR X) c k v := rfl
theorem sw_shp (h : Shp bk dr X) : Shp dr bk (sR (sR X 1 2 bk) 1 1 dr) := by
  refine ⟨by rw [mT_sR, mT_sR]; exact h.1, by rw [mL_sR, mL_sR]; exact h.2.1, ?_⟩
  rw [mR_sR, mR_sR, h.2.2]
  funext c k
  rw [q_u2_at, q_u2_at]
  unfold sh_R
  by_cases e1 : c = 1 ∧ k = 1
  · rw [if_pos e1, if_pos e1]
  · by_cases e2 : c = 1 ∧ k = 2
    · simp only [if_neg e1, if_pos e2]
    · simp only [if_neg e1, if_neg e2]
theorem now_T : sh_T 16 = 8 ∧ sh_T 17 = 15 ∧ sh_T 18 = 15 ∧ sh_T 19 = 10 ∧ sh_T 29 = 3 ∧ sh_L 17 = 50 ∧ sh_L 18 = 10 := by decide +kernel
theorem now_R (bk dr : Nat) : sh_R bk dr 16 0 = 17 ∧ sh_R bk dr 16 1 = 18 ∧ sh_R bk dr 16 2 = 19 ∧ sh_R bk dr 16 3 = 29 := ⟨(st_R St.now).1, (st_R St.now).2.1, (st_R St.now).2.2.1, (st_R St.now).2.2.2.1⟩
theorem c_sw17 (hb : Bks bk dr) : ∀ r i X j, i + r = 10 → r < j → Shp bk dr X → ∃ X', fX8_startWith_L17 n j 16 bk (nI i) X = some ((), sI (sI (sI (sI (sI X' 19 9 0) 29 16 0) 16 6 (mI X bk 3)) 16 7 (mI X bk 4)) 16 8 0) ∧ Shp bk dr X' ∧ mI X' = mI X ∧ (∀ c k, c ≠ 18 → mJ X' c k = mJ X c k) ∧ (∀ k, k < i → mJ X' 18 k = mJ X 18 k) ∧ ∀ k, i ≤ k → k < 10 → mJ X' 18 k = 0 := by
  have b7 : bk = 7 ∨ bk = 11 := by rcases hb with z | z <;> omega
  have tb := (bk_T hb).1
  obtain ⟨t16, t17, t18, t19, t29, l17, l18⟩ := now_T
  obtain ⟨r0, r1, r2, r3⟩ := now_R bk dr
  intro r
  induction r with
  | zero =>
    intro i X j hi hj h
    obtain ⟨j, rfl⟩ : ∃ k, j = k + 1 := ⟨j - 1, by omega⟩
    have e5 : (10 : Int32) ≤ nI i := nI_le (a := 10) (b := i) (by omega) (by omega)
    refine ⟨X, ?_, h, rfl, fun _ _ _ => rfl, fun _ _ => rfl, fun k h1 h2 => by omega⟩
    have m3 : mI (sI (sI X 19 9 0) 29 16 0) bk 3 = mI X bk 3 := by rw [mI_sI, if_neg (by omega), mI_sI, if_neg (by omega)]
    have m4 : mI (sI (sI (sI X 19 9 0) 29 16 0) 16 6 (mI X bk 3)) bk 4 = mI X bk 4 := by rw [mI_sI, if_neg (by omega), mI_sI, if_neg (by omega), mI_sI, if_neg (by omega)]
    rw [fX8_startWith_L17]
    simp only [h.1, h.2.1, h.2.2, li_T, li_L, li_R, nm, bd, q_b, ne_eq, Nat.reduceEqDiff, reduceCtorEq, and_false, false_and, and_true, true_and, and_self, not_false_eq_true, not_true_eq_false, ↓reduceIte, e5, t16, r2, t19, mT_sI, mR_sI, r3, t29, tb, m3, m4]
  | succ r ih =>
    intro i X j hi hj h
    obtain ⟨j, rfl⟩ : ∃ k, j = k + 1 := ⟨j - 1, by omega⟩
    have e5 : ¬ (10 : Int32) ≤ nI i := nI_ge (a := i) (b := 10) (by omega) (by omega)
    have i1 : (nI i).toNatClampNeg = i := nI_clamp (by omega)
    have i2 := inL_nI (j := i) (n := 10) (by omega) (by decide)
    obtain ⟨X', e, g1, g2, g3, g4, g5⟩ := ih (i + 1) (sJ X 18 i 0) j (by omega) (by omega) (h.sJ _ _ _)
    rw [mI_sJ] at e
    refine ⟨X', ?_, g1, g2.trans (by rw [mI_sJ]), fun c k hc => by rw [g3 c k hc, mJ_sJ, if_neg (fun q => hc q.1)], fun k hk => by rw [g4 k (by omega), mJ_sJ, if_neg (by omega)], fun k h1 h2 => ?_⟩
    · rw [← e, fX8_startWith_L17]
      simp only [h.1, h.2.1, h.2.2, li_T, li_L, li_R, nm, bd, q_b, ne_eq, Nat.reduceEqDiff, reduceCtorEq, and_false, false_and, and_true, true_and, and_self, not_false_eq_true, not_true_eq_false, ↓reduceIte, e5, t16, r1, t18, l18, i1, i2.1, i2.2, nI_1]
    · by_cases q : k = i
      · rw [g4 k (by omega), mJ_sJ, if_pos ⟨rfl, q⟩]
      · exact g5 k (by omega) h2
theorem c_startWith (h : Shp bk dr X) (hb : Bks bk dr) (hn : 64 ≤ n) : ∃ X', fX8_startWith n 16 bk X = some ((), X') ∧ Shp bk dr X' ∧ (∀ c k, (c < 16 ∨ 58 < c) → mI X' c k = mI X c k) ∧ (∀ c k, (c < 16 ∨ 58 < c) → mJ X' c k = mJ X c k) ∧ (∀ k, k < 50 → mJ X' 17 k = mJ X (bk + 3) k) ∧ (∀ k, k < 10 → mJ X' 18 k = 0) ∧ mI X' 19 9 = 0 ∧ mI X' 29 16 = 0 ∧ mI X' 16 6 = mI X bk 3 ∧ mI X' 16 7 = mI X bk 4 ∧ mI X' 16 8 = 0 := by
  have b7 : bk = 7 ∨ bk = 11 := by rcases hb with z | z <;> omega
  have tb := bk_T hb
  have rb := bk_R hb
  obtain ⟨t16, t17, t18, t19, t29, l17, l18⟩ := now_T
  obtain ⟨r0, r1, r2, r3⟩ := now_R bk dr
  obtain ⟨Y, e, g1, g2, g3, g4, g5⟩ := c_sw17 (n := n) hb 10 0 (wJ X 17 (va_cpy (mJ X (bk + 3)) (mJ X 17) 0 0 50)) n (by omega) (by omega) (h.wJ _ _)
  have e' : fX8_startWith_L17 n n 16 bk 0 (wJ X 17 (va_cpy (mJ X (bk + 3)) (mJ X 17) 0 0 50)) = _ := e
  rw [mI_wJ] at e'
  refine ⟨sI (sI (sI (sI (sI Y 19 9 0) 29 16 0) 16 6 (mI X bk 3)) 16 7 (mI X bk 4)) 16 8 0, ?_, ((((g1.sI _ _ _).sI _ _ _).sI _ _ _).sI _ _ _).sI _ _ _, fun c k hc => ?_, fun c k hc => ?_, fun k hk => ?_, fun k hk => ?_, ?_, ?_, ?_, ?_, ?_⟩
  rotate_left
  · rw [mI_sI, if_neg (by omega), mI_sI, if_neg (by omega), mI_sI, if_neg (by omega), mI_sI, if_neg (by omega), mI_sI, if_neg (by omega), g2, mI_wJ]
  · rw [mJ_sI, mJ_sI, mJ_sI, mJ_sI, mJ_sI, g3 _ _ (by omega), mJ_wJo (by omega)]
  · rw [mJ_sI, mJ_sI, mJ_sI, mJ_sI, mJ_sI, g3 _ _ (by omega), mJ_wJ, pk_cpy_in (Nat.zero_le _) (by omega), Nat.zero_add, Nat.sub_zero]
  · rw [mJ_sI, mJ_sI, mJ_sI, mJ_sI, mJ_sI, g5 k (Nat.zero_le _) hk]
  · rw [mI_sI, if_neg (by omega), mI_sI, if_neg (by omega), mI_sI, if_neg (by omega), mI_sI, if_neg (by omega), mI_sI, if_pos ⟨rfl, rfl⟩]
  · rw [mI_sI, if_neg (by omega), mI_sI, if_neg (by omega), mI_sI, if_neg (by omega), mI_sI, if_pos ⟨rfl, rfl⟩]
  · rw [mI_sI, if_neg (by omega), mI_sI, if_neg (by omega), mI_sI, if_pos ⟨rfl, rfl⟩]
  · rw [mI_sI, if_neg (by omega), mI_sI, if_pos ⟨rfl, rfl⟩]
  · rw [mI_sI, if_pos ⟨rfl, rfl⟩]
  · have c1 : ¬ (0 : Int32) < 0 ∧ ¬ (50 : Int32) < 0 := by decide
    have c2 : (0 : Int32).toNatClampNeg = 0 ∧ (50 : Int32).toNatClampNeg = 50 := by decide
    have m3 : bk + 3 ≠ 0 := by omega
    simp only [fX8_startWith, q_cpok, h.1, h.2.1, h.2.2, li_T, li_L, li_R, nm, bd, q_b, ne_eq, Nat.reduceEqDiff, reduceCtorEq, and_false, false_and, and_true, true_and, and_self, not_false_eq_true, not_true_eq_false, ↓reduceIte, tb.1, rb.2.2.1, m3, t16, r0, tb.2.2.2.1, t17, c1.1, c1.2, c2.1, c2.2, tb.2.2.2.2.2.2.2.2.2.2.1, l17, Nat.zero_add, Nat.le_refl, e']
end
