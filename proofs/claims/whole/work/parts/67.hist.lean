/-! STATES alike hold alike; the reference's rows are copied and kept -/
theorem Pl.rng {T G : Nat} {C : Nat → Nat} {K : Nat → Int32} (hT : T ≤ 60) (hG : G ≤ 8) {p a k : Nat} (h : Pl T G C K p a k) : p < 4604 ∧ ((jT a = true ∧ jR a k) ∨ (jT a = false ∧ iR a k)) := by
  unfold Pl at h
  unfold jR iR
  rcases h with ⟨h1, h2, h3⟩ | ⟨h1, h2, h3⟩ | ⟨h1, h2, h3⟩ | ⟨h1, h2, h3⟩ | ⟨h1, h2, h3⟩ | ⟨j, h1, h2, h3, h4⟩ | ⟨j, h1, h2, h3, h4, -⟩ | ⟨e, i, j, h1, h2, h3, h4, h5, h6⟩ | ⟨e, i, j, h1, h2, h3, h4, h5, h6, -⟩
  · subst h1; exact ⟨by omega, Or.inl ⟨by decide, by omega⟩⟩
  · subst h1; exact ⟨by omega, Or.inl ⟨by decide, by omega⟩⟩
  · subst h2; exact ⟨by omega, Or.inr ⟨by decide, by omega⟩⟩
  · subst h2; exact ⟨by omega, Or.inr ⟨by decide, by omega⟩⟩
  · subst h2; exact ⟨by omega, Or.inr ⟨by decide, by omega⟩⟩
  · refine ⟨by omega, ?_⟩
    subst h3
    match j, h2 with
    | 0, _ => exact Or.inr ⟨by decide, by omega⟩
    | 1, _ => exact Or.inr ⟨by decide, by omega⟩
    | 2, _ => exact Or.inr ⟨by decide, by omega⟩
    | 3, _ => exact Or.inl ⟨by decide, by omega⟩
    | 4, _ => exact Or.inl ⟨by decide, by omega⟩
    | 5, _ => exact Or.inr ⟨by decide, by omega⟩
    | 6, _ => exact Or.inr ⟨by decide, by omega⟩
    | 7, _ => exact Or.inr ⟨by decide, by omega⟩
    | 8, _ => exact Or.inr ⟨by decide, by omega⟩
    | j + 9, hj => omega
  · refine ⟨by omega, ?_⟩
    have key : ∀ j, j < 15 → (jT (oE j) = true ∧ (oE j = 28 ∨ oE j = 29)) ∨ (jT (oE j) = false ∧ 14 ≤ oE j ∧ oE j ≤ 27) := by decide
    rw [h3]
    rcases key j h2 with ⟨z1, z2⟩ | ⟨z1, z2, z3⟩
    · exact Or.inl ⟨z1, by omega⟩
    · exact Or.inr ⟨z1, by omega⟩
  · refine ⟨by omega, Or.inl ⟨?_, by omega⟩⟩
    have key : ∀ j, j < 6 → jT (31 + j) = true := by decide
    rw [h4]; exact key j h2
  · refine ⟨by omega, ?_⟩
    subst h4
    match j, h2 with
    | 0, _ => exact Or.inr ⟨by decide, by omega⟩
    | 1, _ => exact Or.inr ⟨by decide, by omega⟩
    | 2, _ => exact Or.inl ⟨by decide, by omega⟩
    | 3, _ => exact Or.inr ⟨by decide, by omega⟩
    | 4, _ => exact Or.inr ⟨by decide, by omega⟩
    | j + 5, hj => omega
theorem iR.c26 {e : Nat} (h : e < 8) (a : Nat) (h1 : 14 ≤ a) (h2 : a ≤ 27) : iR a e := by unfold iR; omega
theorem Rl.weq {T G : Nat} {f g : Nat → Int64} {w u : Wt} (R : Rl T G f w) (hw : Weq w u) (hf : ∀ p, p < 4604 → g p = f p) : Rl T G g u := by
  refine ⟨R.1, R.2.1, fun p a k hp => ?_⟩
  have hr := hp.rng R.1 R.2.1
  have hp' : Pl T G (Cn w) (w.1 14) p a k := by
    have c26 : ∀ e, e < G → Cn u e = Cn w e := fun e he => by
      unfold Cn
      rw [hw.1 26 e (iR.c26 (by have := R.2.1; omega) 26 (by decide) (by decide))]
    have c14 : ∀ e, e < G → u.1 14 e = w.1 14 e := fun e he => (hw.1 14 e (iR.c26 (by have := R.2.1; omega) 14 (by decide) (by decide))).symm
    unfold Pl at hp ⊢
    rcases hp with hp | hp | hp | hp | hp | hp | ⟨j, h1, h2, h3, h4, h5, h6⟩ | hp | ⟨e', i, j, h1, h2, h3, h4, h5, h6, h7⟩
    · exact Or.inl hp
    · exact Or.inr (Or.inl hp)
    · exact Or.inr (Or.inr (Or.inl hp))
    · exact Or.inr (Or.inr (Or.inr (Or.inl hp)))
    · exact Or.inr (Or.inr (Or.inr (Or.inr (Or.inl hp))))
    · exact Or.inr (Or.inr (Or.inr (Or.inr (Or.inr (Or.inl hp)))))
    · rw [c14 _ h4] at h5 h6
      exact Or.inr (Or.inr (Or.inr (Or.inr (Or.inr (Or.inr (Or.inl ⟨j, h1, h2, h3, h4, h5, h6⟩))))))
    · exact Or.inr (Or.inr (Or.inr (Or.inr (Or.inr (Or.inr (Or.inr (Or.inl hp)))))))
    · rw [c26 _ h6] at h7
      exact Or.inr (Or.inr (Or.inr (Or.inr (Or.inr (Or.inr (Or.inr (Or.inr ⟨e', i, j, h1, h2, h3, h4, h5, h6, h7⟩)))))))
  rw [hf p hr.1, R.2.2 _ _ _ hp']
  unfold cw
  rcases hr.2 with ⟨z, r⟩ | ⟨z, r⟩
  · rw [z]; exact hw.2 a k r
  · rw [z]
    show (w.1 a k).toInt64 = (u.1 a k).toInt64
    rw [hw.1 a k r]
theorem Ok.weq {T G H : Nat} {w u : Wt} (h : Ok T G H w.1) (hw : Weq w u) : Ok T G H u.1 := by
  obtain ⟨h1, h2, h3, h4, h5, h6, h7, h8⟩ := h
  refine ⟨by rw [← hw.1 3 9 (by unfold iR; omega)]; exact h1, h2, by rw [← hw.1 13 16 (by unfold iR; omega)]; exact h3, h4, by rw [← hw.1 0 6 (by unfold iR; omega)]; exact h5, h6, fun t ht => ?_, fun e he => ?_⟩
  · have o := h7 t ht
    unfold okF at o ⊢
    rw [← hw.1 4 t (by unfold iR; omega), ← hw.1 5 t (by unfold iR; omega), ← hw.1 6 t (by unfold iR; omega)]
    exact o
  · obtain ⟨o1, o2, c, o3, o4, o5⟩ := h8 e he
    refine ⟨by rw [← hw.1 15 e (by unfold iR; omega)]; exact o1, fun z => by rw [← hw.1 14 e (by unfold iR; omega)] at z; rw [← hw.1 16 e (by unfold iR; omega)]; exact o2 z, c, o3, by rw [← hw.1 26 e (by unfold iR; omega)]; exact o4, fun i hi => ?_⟩
    rw [← hw.1 38 _ (by unfold iR; omega), ← hw.1 39 _ (by unfold iR; omega)]
    exact o5 i hi
theorem Iv.weq {T G H : Nat} {w u : Wt} (h : Iv T G H w) (hw : Weq w u) : Iv T G H u := by
  refine ⟨h.1.weq hw, fun e he => ?_⟩
  have hG := h.1.2.2.2.1
  exact (h.2 e he).same (h.cnt he).2 (fun a ha => (hw.1 a e (by unfold iR; omega)).symm) (Or.inl (hw.1 25 e (by unfold iR; omega)).symm) (fun i hi => (hw.1 42 _ (by unfold iR; omega)).symm) (fun a ha k hk => (hw.2 a _ (by unfold jR; omega)).symm)
theorem wJ_self (X : Mm) (c : Nat) : wJ X c (mJ X c) = X := by
  obtain ⟨a, b, x, d, e, f, g⟩ := X
  unfold wJ
  simp only [mN, mT, mL, mI, mJ, mR, mS]
  congr 5
  funext i
  unfold q_u1
  split
  · rename_i z; rw [z]
  · rfl
section
variable {bk dr : Nat} {X : Mm}
/-- the reference copies a row of 4604 numbers -/
theorem r_copies (h : Shp bk dr X) {a b : Nat} (ha : a = 367 ∨ a = 368 ∨ a = 369 ∨ a = 370) (hb : b = 367 ∨ b = 368 ∨ b = 369 ∨ b = 370) (hab : a ≠ b) {p q n : Nat} (hp : p + 4604 ≤ sh_L a) (hq : q + 4604 ≤ sh_L b) (hn : 4700 ≤ n) :
    ∃ g, fX12_copies n 366 a (nI p) b (nI q) X = some ((), wJ X b g) ∧ (∀ k, k < 4604 → g (q + k) = mJ X a (p + k)) ∧ ∀ k, (k < q ∨ q + 4604 ≤ k) → g k = mJ X b k := by
  have Ta : sh_T a = 15 := by rcases ha with rfl | rfl | rfl | rfl <;> decide
  have Tb : sh_T b = 15 := by rcases hb with rfl | rfl | rfl | rfl <;> decide
  have La : sh_L a < 30000 := by rcases ha with rfl | rfl | rfl | rfl <;> decide
  have Lb : sh_L b < 30000 := by rcases hb with rfl | rfl | rfl | rfl <;> decide
  have key := loop_ex (F := fun j i Y => fX12_copies_L3 n j a (nI p) b (nI q) i Y) (N := fun _ (u : Unit) => u) (I := fun i _ Y => ∃ g, Y = wJ X b g ∧ (∀ k, k < i → g (q + k) = mJ X a (p + k)) ∧ ∀ k, (k < q ∨ q + i ≤ k) → g k = mJ X b k)
    (Q := fun _ Y => ∃ g, Y = wJ X b g ∧ (∀ k, k < 4604 → g (q + k) = mJ X a (p + k)) ∧ ∀ k, (k < q ∨ q + 4604 ≤ k) → g k = mJ X b k) 4604
    (fun j i Y _ hi hI nxt => by
      obtain ⟨g, rfl, g1, g2⟩ := hI
      have e3 : ¬ (4604 : Int32) ≤ nI i := nI_ge (a := i) (b := 4604) hi (by decide)
      have k1 : (nI (p + i)).toNatClampNeg = p + i := nI_clamp (by omega)
      have k2 := inL_nI (j := p + i) (n := sh_L a) (by omega) (by omega)
      have k3 : (nI (q + i)).toNatClampNeg = q + i := nI_clamp (by omega)
      have k4 := inL_nI (j := q + i) (n := sh_L b) (by omega) (by omega)
      show Ex (fX12_copies_L3 n (j + 1) a (nI p) b (nI q) (nI i) (wJ X b g)) _
      rw [fX12_copies_L3]
      simp only [h.1, h.2.1, mT_wJ, mL_wJ, Ta, Tb, q_b, nm, nI_add, e3, k1, k2.1, k2.2, k3, k4.1, k4.2, and_self, ↓reduceIte, mJ_wJo hab, sJ_wJ, nI_1]
      refine nxt _ ⟨_, rfl, fun k hk => ?_, fun k hk => ?_⟩
      · by_cases z : k = i
        · rw [z, q_u1_s]
        · rw [q_u1_n _ _ (by omega)]; exact g1 k (by omega)
      · rw [q_u1_n _ _ (by omega)]; exact g2 k (by omega)) 4604 0 X () n (by omega) (by omega) ⟨mJ X b, (wJ_self X b).symm, fun k hk => by omega, fun _ _ => rfl⟩
    (fun j Y hI => by
      obtain ⟨g, rfl, g1, g2⟩ := hI
      have e3 : (4604 : Int32) ≤ nI 4604 := by decide
      show Ex (fX12_copies_L3 n (j + 1) a (nI p) b (nI q) (nI 4604) (wJ X b g)) _
      rw [fX12_copies_L3, if_pos e3]
      exact .ret ⟨g, rfl, g1, g2⟩)
  obtain ⟨_, Y, e, g, rfl, g1, g2⟩ := key
  exact ⟨g, e, g1, g2⟩
/-- what was ahead is kept: one row more, or the eldest goes -/
theorem r_keeps (h : Shp bk dr X) {c n : Nat} (hc : mI X 366 5 = nI c) (hc6 : c ≤ 6) (hn : 24000 ≤ n) :
    ∃ g, fX12_keepsBefore n 366 X = some ((), sI (wJ X 370 g) 366 5 (nI (if c = 6 then 6 else c + 1))) ∧
      (∀ j k, j < c → j < 5 ∨ c < 6 → k < 4604 → g (4604 * j + k) = mJ X 370 (4604 * (if c = 6 then j + 1 else j) + k)) ∧ ∀ k, k < 4604 → g (4604 * (if c = 6 then 5 else c) + k) = mJ X 368 k := by
  by_cases h6 : c = 6
  · subst h6
    have e6 : nI 6 = (6 : Int32) := rfl
    have key := loop_ex (F := fun j i Y => fX12_keepsBefore_L11 n j 366 i Y) (N := fun _ (u : Unit) => u) (I := fun i _ Y => ∃ g, Y = wJ X 370 g ∧ (∀ k, k < i → g k = mJ X 370 (k + 4604)) ∧ ∀ k, i ≤ k → g k = mJ X 370 k)
      (Q := fun _ Y => ∃ g, Y = sI (wJ X 370 g) 366 5 (nI 6) ∧ (∀ k, k < 23020 → g k = mJ X 370 (k + 4604)) ∧ ∀ k, k < 4604 → g (23020 + k) = mJ X 368 k) 23020
      (fun j i Y _ hi hI nxt => by
        obtain ⟨g, rfl, g1, g2⟩ := hI
        have e3 : ¬ (23020 : Int32) ≤ nI i := nI_ge (a := i) (b := 23020) hi (by decide)
        have k1 : (nI i).toNatClampNeg = i := nI_clamp (by omega)
        have k2 := inL_nI (j := i) (n := 27624) (by omega) (by omega)
        have k3 : (nI (i + 4604)).toNatClampNeg = i + 4604 := nI_clamp (by omega)
        have k4 := inL_nI (j := i + 4604) (n := 27624) (by omega) (by omega)
        have ad : nI i + (4604 : Int32) = nI (i + 4604) := nI_add i 4604
        show Ex (fX12_keepsBefore_L11 n (j + 1) 366 (nI i) (wJ X 370 g)) _
        rw [fX12_keepsBefore_L11]
        simp only [h.1, h.2.1, h.2.2, li_T, li_L, li_R, nm, bd, q_b, ne_eq, Nat.reduceEqDiff, reduceCtorEq, and_false, false_and, and_true, true_and, and_self, not_false_eq_true, not_true_eq_false, ↓reduceIte, mT_wJ, mL_wJ, mR_wJ, mI_wJ, mJ_wJ, sJ_wJ, Nat.reduceLT, l60.1, l60.2.1, l60.2.2, l61.1, l61.2.1, l61.2.2, l62.1, l62.2.1, l62.2.2, ad, e3, k1, k2.1, k2.2, k3, k4.1, k4.2, nI_1]
        refine nxt _ ⟨_, rfl, fun k hk => ?_, fun k hk => ?_⟩
        · by_cases z : k = i
          · rw [z, q_u1_s]; exact g2 _ (by omega)
          · rw [q_u1_n _ _ (by omega)]; exact g1 k (by omega)
        · rw [q_u1_n _ _ (by omega)]; exact g2 k (by omega)) 23020 0 X () n (by omega) (by omega) ⟨mJ X 370, (wJ_self X 370).symm, fun k hk => by omega, fun _ _ => rfl⟩
      (fun j Y hI => by
        obtain ⟨g, rfl, g1, g2⟩ := hI
        have e3 : (23020 : Int32) ≤ nI 23020 := by decide
        have h' : Shp bk dr (sI (wJ X 370 g) 366 5 (nI 5)) := h
        obtain ⟨g', e, q1, q2⟩ := r_copies h' (a := 368) (b := 370) (by omega) (by omega) (by decide) (p := 0) (q := 23020) (n := n) (by decide) (by decide) (by omega)
        have m1 : (6 : Int32) - 1 = nI 5 := by decide
        have m2 : (4604 : Int32) * nI 5 = nI 23020 := by decide
        have m3 : nI 5 + 1 = nI 6 := by decide
        show Ex (fX12_keepsBefore_L11 n (j + 1) 366 (nI 23020) (wJ X 370 g)) _
        rw [fX12_keepsBefore_L11, if_pos e3]
        simp only [fX12_keepsBefore_L50, h.1, h.2.1, h.2.2, li_T, li_L, li_R, nm, bd, q_b, ne_eq, Nat.reduceEqDiff, reduceCtorEq, and_false, false_and, and_true, true_and, and_self, not_false_eq_true, not_true_eq_false, ↓reduceIte, mT_wJ, mL_wJ, mR_wJ, mI_wJ, mJ_wJ, sJ_wJ, Nat.reduceLT, l60.1, l60.2.1, l60.2.2, l61.1, l61.2.1, l61.2.2, l62.1, l62.2.1, l62.2.2, hc, e6, m1, mT_sI, mR_sI, mI_sI, m2]
        rw [show (0 : Int32) = nI 0 from rfl, e]
        simp only [h.1, h.2.1, h.2.2, li_T, li_L, li_R, nm, bd, q_b, ne_eq, Nat.reduceEqDiff, reduceCtorEq, and_false, false_and, and_true, true_and, and_self, not_false_eq_true, not_true_eq_false, ↓reduceIte, mT_wJ, mL_wJ, mR_wJ, mI_wJ, mJ_wJ, sJ_wJ, Nat.reduceLT, l60.1, l60.2.1, l60.2.2, l61.1, l61.2.1, l61.2.2, l62.1, l62.2.1, l62.2.2, mT_sI, mI_sI, m3]
        refine .ret ⟨g', ?_, fun k hk => ?_, fun k hk => ?_⟩
        · unfold sI wJ
          simp only [mN, mT, mL, mI, mJ, mR, mS]
          congr 4
          · funext c k
            rw [q_u2_at, q_u2_at, q_u2_at]
            split <;> rfl
          · congr 1
            funext c
            unfold q_u1
            split <;> rfl
        · rw [q2 k (by omega)]
          show mJ (wJ X 370 g) 370 k = _
          rw [mJ_wJ]
          exact g1 k hk
        · rw [q1 k hk]
          show mJ (wJ X 370 g) 368 (0 + k) = _
          rw [mJ_wJo (by decide), Nat.zero_add])
    obtain ⟨_, Y, e, g, rfl, g1, g2⟩ := key
    refine ⟨g, ?_, fun j k h1 h2 h3 => ?_, fun k hk => ?_⟩
    · simp only [fX12_keepsBefore, h.1, h.2.1, h.2.2, li_T, li_L, li_R, nm, bd, q_b, ne_eq, Nat.reduceEqDiff, reduceCtorEq, and_false, false_and, and_true, true_and, and_self, not_false_eq_true, not_true_eq_false, ↓reduceIte, mT_wJ, mL_wJ, mR_wJ, mI_wJ, mJ_wJ, sJ_wJ, Nat.reduceLT, l60.1, l60.2.1, l60.2.2, l61.1, l61.2.1, l61.2.2, l62.1, l62.2.1, l62.2.2, hc, e6]
      exact e
    · rw [if_pos rfl, g1 _ (by omega), show 4604 * j + k + 4604 = 4604 * (j + 1) + k by omega]
    · exact g2 k hk
  · obtain ⟨g', e, q1, q2⟩ := r_copies h (a := 368) (b := 370) (by omega) (by omega) (by decide) (p := 0) (q := 4604 * c) (n := n) (by decide) (by
      show 4604 * c + 4604 ≤ 27624
      omega) (by omega)
    have n6 : ¬ nI c = (6 : Int32) := fun z => h6 ((nI_eq (a := c) (b := 6) (by omega) (by omega)).mp z)
    have m2 : (4604 : Int32) * nI c = nI (4604 * c) := pk_mul 4604 c
    refine ⟨g', ?_, fun j k h1 h2 h3 => ?_, fun k hk => ?_⟩
    · simp only [fX12_keepsBefore, fX12_keepsBefore_L50, h.1, h.2.1, h.2.2, li_T, li_L, li_R, nm, bd, q_b, ne_eq, Nat.reduceEqDiff, reduceCtorEq, and_false, false_and, and_true, true_and, and_self, not_false_eq_true, not_true_eq_false, ↓reduceIte, mT_wJ, mL_wJ, mR_wJ, mI_wJ, mJ_wJ, sJ_wJ, Nat.reduceLT, l60.1, l60.2.1, l60.2.2, l61.1, l61.2.1, l61.2.2, l62.1, l62.2.1, l62.2.2, hc, n6, m2]
      rw [show (0 : Int32) = nI 0 from rfl, e]
      simp only [h.1, h.2.1, h.2.2, li_T, li_L, li_R, nm, bd, q_b, ne_eq, Nat.reduceEqDiff, reduceCtorEq, and_false, false_and, and_true, true_and, and_self, not_false_eq_true, not_true_eq_false, ↓reduceIte, mT_wJ, mL_wJ, mR_wJ, mI_wJ, mJ_wJ, sJ_wJ, Nat.reduceLT, l60.1, l60.2.1, l60.2.2, l61.1, l61.2.1, l61.2.2, l62.1, l62.2.1, l62.2.2, hc, nI_1, if_neg h6]
    · rw [if_neg h6, q2 _ (by omega)]
    · rw [if_neg h6, q1 k hk, Nat.zero_add]
end
