/-! TEXTS: the reference reads a book -/
section
variable {b : Nat → Int32} {L : Nat} {bk dr n K H P : Nat} {X V W Z : Mm} {s t : St3} {D : Bk} {f g : Nat → Int64}
theorem m_L17 : ∀ r i Z j, i + r = 50 → r < j → Shp bk dr Z → ∃ Z', fX12_book_L17 n j 366 (nI i) Z = (bd (fX12_begins n 366 Z') fun _ Y => fX12_book_L42 n n 366 0 Y) ∧ Shp bk dr Z' ∧ (∀ c k, c ≠ 377 → mI Z' c k = mI Z c k) ∧ mJ Z' = mJ Z ∧ (∀ k, k < i → mI Z' 377 k = mI Z 377 k) ∧ ∀ k, i ≤ k → k < 50 → mI Z' 377 k = 0 := by
  intro r
  induction r with
  | zero =>
    intro i Z j hi hj h
    obtain ⟨j, rfl⟩ : ∃ k, j = k + 1 := ⟨j - 1, by omega⟩
    have e5 : (50 : Int32) ≤ nI i := nI_le (a := 50) (b := i) (by omega) (by omega)
    refine ⟨Z, ?_, h, fun _ _ _ => rfl, rfl, fun _ _ => rfl, fun k h1 h2 => by omega⟩
    have t : mT Z 366 = 12 := by rw [h.1]; exact rfl
    rw [fX12_book_L17, if_pos e5, if_pos t]
  | succ r ih =>
    intro i Z j hi hj h
    obtain ⟨j, rfl⟩ : ∃ k, j = k + 1 := ⟨j - 1, by omega⟩
    have e5 : ¬ (50 : Int32) ≤ nI i := nI_ge (a := i) (b := 50) (by omega) (by omega)
    have i1 : (nI i).toNatClampNeg = i := nI_clamp (by omega)
    have i2 := inL_nI (j := i) (n := 50) (by omega) (by decide)
    obtain ⟨Z', e, g1, g2, g3, g4, g5⟩ := ih (i + 1) (sI Z 377 i 0) j (by omega) (by omega) (h.sI _ _ _)
    refine ⟨Z', ?_, g1, fun c k hc => by rw [g2 c k hc, mI_sI, if_neg (fun q => hc q.1)], g3.trans (by rw [mJ_sI]), fun k hk => by rw [g4 k (by omega), mI_sI, if_neg (by omega)], fun k h1 h2 => ?_⟩
    · rw [← e, fX12_book_L17]
      simp only [h.1, h.2.1, h.2.2, li_T, li_L, li_R, nm, bd, q_b, ne_eq, Nat.reduceEqDiff, reduceCtorEq, and_false, false_and, and_true, true_and, and_self, not_false_eq_true, not_true_eq_false, ↓reduceIte, e5, i1, i2.1, i2.2, nI_1]
    · by_cases q : k = i
      · rw [g4 k (by omega), mI_sI, if_pos ⟨rfl, q⟩]
      · exact g5 k (by omega) h2
theorem m_book0 (h : Rb bk dr b L V) (hn : 1000 ≤ n) (hK : K ≤ 700) (k1 : ∀ i, i < K → Gln b L i ∧ i < 700 ∧ (ls b L i).2.2.1 ≤ 10 ∧ (ls b L i).2.2.2.2.1 ≤ 5) (k2 : ¬ Gln b L K) : ∃ Z, fX12_book n 366 V = fX12_book_L71 n 366 (nI K) (RS b L (ls b L K).1 Z) ∧ Ref bk dr b L Z ∧ (∀ c k, c ≠ 377 → ¬ (c = 366 ∧ (k = 0 ∨ k = 12 ∨ k = 13 ∨ k = 27 ∨ k = 28)) → mI Z c k = mI V c k) ∧ mI Z 366 12 = 0 ∧ (∀ c, c ≠ 375 → c ≠ 376 → mJ Z c = mJ V c) ∧ ((ls b L K).1.2.1 = 0 → BRD (ls b L K).2 Z) := by
  have r3 := ((h.at (k := 0) (by decide) 0).at (k := 27) (by decide) 0).at (k := 28) (by decide) 0
  obtain ⟨Z', e1, g1, g2, g3, g4, g5⟩ := m_L17 (n := n) 50 0 (sI (sI (sI V 366 0 0) 366 27 0) 366 28 0) n (by omega) (by omega) r3.1
  have rb := r3.cg g1 (fun c k hc => g2 c k (by omega))
  have bg := m_begins (n := n) rb hn
  have R := rb.ref
  have sa : mT (sI V 366 0 0) = mT V := rfl
  have sb : mT (sI (sI V 366 0 0) 366 27 0) = mT V := rfl
  have oI : ∀ c k, mI (sI (sI (sI V 366 0 0) 366 27 0) 366 28 0) c k = if c = 366 ∧ k = 28 then 0 else if c = 366 ∧ k = 27 then 0 else if c = 366 ∧ k = 0 then 0 else mI V c k := fun c k => by rw [mI_sI, mI_sI, mI_sI]
  have oJ : mJ (sI (sI (sI V 366 0 0) 366 27 0) 366 28 0) = mJ V := by rw [mJ_sI, mJ_sI, mJ_sI]
  have zI : ∀ c k, ¬ (c = 366 ∧ (k = 12 ∨ k = 13)) → mI (Z0 L Z') c k = mI Z' c k := fun c k hc => by rw [Z0_I, if_neg (by omega), if_neg (by omega)]
  have z12 : mI (Z0 L Z') 366 12 = 0 := by rw [Z0_I, if_pos ⟨rfl, rfl⟩]
  have zJ : mJ (Z0 L Z') = mJ Z' := by unfold Z0; rw [mJ_sI, mJ_sI]
  have hs := h.1
  have main : fX12_book n 366 V = fX12_book_L42 n n 366 0 (RS b L (0, 0, -1) (Z0 L Z')) := by
    have e1' : fX12_book_L17 n n 366 0 (sI (sI (sI V 366 0 0) 366 27 0) 366 28 0) = fX12_book_L42 n n 366 0 (RS b L (0, 0, -1) (Z0 L Z')) := by
      have q : fX12_book_L17 n n 366 0 (sI (sI (sI V 366 0 0) 366 27 0) 366 28 0) = _ := e1
      rw [q, bg]
      rfl
    rw [← e1']
    have h := hs
    simp only [fX12_book, h.1, h.2.1, h.2.2, li_T, li_L, li_R, nm, bd, q_b, ne_eq, Nat.reduceEqDiff, reduceCtorEq, and_false, false_and, and_true, true_and, and_self, not_false_eq_true, not_true_eq_false, ↓reduceIte, sa, sb]
  generalize Z0 L Z' = Z1 at *
  have bd0 : BRD (ls b L 0).2 Z1 := by
    refine ⟨?_, ?_, fun i hi => absurd hi (Nat.not_lt_zero i), fun i hi => absurd hi (Nat.not_lt_zero i), fun k hk => ?_⟩
    · rw [zI _ _ (by omega), g2 _ _ (by omega), oI, if_neg (by omega), if_pos ⟨rfl, rfl⟩]; rfl
    · rw [zI _ _ (by omega), g2 _ _ (by omega), oI, if_pos ⟨rfl, rfl⟩]; rfl
    · rw [zI _ _ (by omega), g5 k (Nat.zero_le _) hk]; rfl
  obtain ⟨Z, e, rf, fr_, bd_⟩ := m_L42 (n := n) hn k1 k2 K 0 Z1 n (by omega) (by omega) R (fun _ => bd0)
  refine ⟨Z, ?_, rf, fun c k c1 c2 => ?_, ?_, fun c c1 c2 => ?_, bd_⟩
  · rw [main, ← e]
    rfl
  · rw [fr_.2.1 c k c1 (by omega), zI _ _ (by omega), g2 _ _ c1, oI, if_neg (by omega), if_neg (by omega), if_neg (by omega)]
  · rw [fr_.2.1 _ _ (by omega) (by omega)]; exact z12
  · rw [fr_.2.2 c c1 c2, zJ, g3, oJ]
theorem m_L82 (h : Shp bk dr Z) (v1 : Int32) : ∀ r i f j, i + r = 4604 → r < j → ∃ f', fX12_book_L82 n j 366 v1 (nI i) (wJ Z 367 f) = fX12_book_L104 n n 366 v1 0 (wJ Z 367 f') ∧ (∀ k, k < i → f' k = f k) ∧ ∀ k, i ≤ k → k < 4604 → f' k = 0 := by
  intro r
  induction r with
  | zero =>
    intro i f j hi hj
    obtain ⟨j, rfl⟩ : ∃ k, j = k + 1 := ⟨j - 1, by omega⟩
    have e5 : (4604 : Int32) ≤ nI i := nI_le (a := 4604) (b := i) (by omega) (by omega)
    exact ⟨f, by rw [fX12_book_L82, if_pos e5], fun _ _ => rfl, fun k h1 h2 => by omega⟩
  | succ r ih =>
    intro i f j hi hj
    obtain ⟨j, rfl⟩ : ∃ k, j = k + 1 := ⟨j - 1, by omega⟩
    have e5 : ¬ (4604 : Int32) ≤ nI i := nI_ge (a := i) (b := 4604) (by omega) (by omega)
    have i1 : (nI i).toNatClampNeg = i := nI_clamp (by omega)
    have i2 := inL_nI (j := i) (n := 4604) (by omega) (by decide)
    obtain ⟨f', e, g4, g5⟩ := ih (i + 1) (q_u1 f i 0) j (by omega) (by omega)
    refine ⟨f', ?_, fun k hk => by rw [g4 k (by omega), q_u1_n _ _ (by omega)], fun k h1 h2 => ?_⟩
    · rw [← e, fX12_book_L82]
      simp only [h.1, h.2.1, h.2.2, li_T, li_L, li_R, nm, bd, q_b, ne_eq, Nat.reduceEqDiff, reduceCtorEq, and_false, false_and, and_true, true_and, and_self, not_false_eq_true, not_true_eq_false, ↓reduceIte, mT_wJ, mL_wJ, mR_wJ, sJ_wJ, e5, i1, i2.1, i2.2, nI_1]
    · by_cases q : k = i
      · rw [g4 k (by omega), q, q_u1_s]
      · exact g5 k (by omega) h2
theorem m_L104 (h : Shp bk dr Z) (v1 : Int32) : ∀ r i f j, i + r = 50 → r < j → ∃ f', fX12_book_L104 n j 366 v1 (nI i) (wJ Z 367 f) = fX12_book_L147 n n 366 v1 0 (sI (sI (wJ Z 367 f') 366 6 (mI Z 366 27)) 366 7 (mI Z 366 28)) ∧ (∀ k, k < i ∨ 50 ≤ k → f' k = f k) ∧ ∀ k, i ≤ k → k < 50 → f' k = (mI Z 377 k).toInt64 := by
  intro r
  induction r with
  | zero =>
    intro i f j hi hj
    obtain ⟨j, rfl⟩ : ∃ k, j = k + 1 := ⟨j - 1, by omega⟩
    have e5 : (50 : Int32) ≤ nI i := nI_le (a := 50) (b := i) (by omega) (by omega)
    refine ⟨f, ?_, fun _ _ => rfl, fun k h1 h2 => by omega⟩
    have m28 : mI (sI (wJ Z 367 f) 366 6 (mI Z 366 27)) 366 28 = mI Z 366 28 := by rw [mI_sI, if_neg (by omega), mI_wJ]
    rw [fX12_book_L104]
    simp only [h.1, h.2.1, h.2.2, li_T, li_L, li_R, nm, bd, q_b, ne_eq, Nat.reduceEqDiff, reduceCtorEq, and_false, false_and, and_true, true_and, and_self, not_false_eq_true, not_true_eq_false, ↓reduceIte, mT_wJ, mI_wJ, mT_sI, e5, m28]
  | succ r ih =>
    intro i f j hi hj
    obtain ⟨j, rfl⟩ : ∃ k, j = k + 1 := ⟨j - 1, by omega⟩
    have e5 : ¬ (50 : Int32) ≤ nI i := nI_ge (a := i) (b := 50) (by omega) (by omega)
    have i1 : (nI i).toNatClampNeg = i := nI_clamp (by omega)
    have i2 := inL_nI (j := i) (n := 50) (by omega) (by decide)
    have i3 := inL_nI (j := i) (n := 4604) (by omega) (by decide)
    obtain ⟨f', e, g4, g5⟩ := ih (i + 1) (q_u1 f i (mI Z 377 i).toInt64) j (by omega) (by omega)
    refine ⟨f', ?_, fun k hk => by rw [g4 k (by omega), q_u1_n _ _ (by omega)], fun k h1 h2 => ?_⟩
    · rw [← e, fX12_book_L104]
      simp only [h.1, h.2.1, h.2.2, li_T, li_L, li_R, nm, bd, q_b, ne_eq, Nat.reduceEqDiff, reduceCtorEq, and_false, false_and, and_true, true_and, and_self, not_false_eq_true, not_true_eq_false, ↓reduceIte, mT_wJ, mL_wJ, mR_wJ, mI_wJ, sJ_wJ, e5, i1, i2.1, i2.2, i3.1, i3.2, nI_1]
    · by_cases q : k = i
      · rw [g4 k (by omega), q, q_u1_s]
      · exact g5 k (by omega) h2
theorem m_L147 (v1 : Int32) : ∀ r i Z j, i + r = 10 → r < j → Shp bk dr Z → ∃ Z', fX12_book_L147 n j 366 v1 (nI i) Z = fX12_book_L173 n n 366 v1 0 Z' ∧ Shp bk dr Z' ∧ mI Z' = mI Z ∧ (∀ c k, c ≠ 371 → mJ Z' c k = mJ Z c k) ∧ (∀ k, k < i → mJ Z' 371 k = mJ Z 371 k) ∧ ∀ k, i ≤ k → k < 10 → mJ Z' 371 k = mJ Z 375 k := by
  intro r
  induction r with
  | zero =>
    intro i Z j hi hj h
    obtain ⟨j, rfl⟩ : ∃ k, j = k + 1 := ⟨j - 1, by omega⟩
    have e5 : (10 : Int32) ≤ nI i := nI_le (a := 10) (b := i) (by omega) (by omega)
    exact ⟨Z, by rw [fX12_book_L147, if_pos e5], h, rfl, fun _ _ _ => rfl, fun _ _ => rfl, fun k h1 h2 => by omega⟩
  | succ r ih =>
    intro i Z j hi hj h
    obtain ⟨j, rfl⟩ : ∃ k, j = k + 1 := ⟨j - 1, by omega⟩
    have e5 : ¬ (10 : Int32) ≤ nI i := nI_ge (a := i) (b := 10) (by omega) (by omega)
    have i1 : (nI i).toNatClampNeg = i := nI_clamp (by omega)
    have i2 := inL_nI (j := i) (n := 10) (by omega) (by decide)
    obtain ⟨Z', e, g1, g2, g3, g4, g5⟩ := ih (i + 1) (sJ Z 371 i (mJ Z 375 i)) j (by omega) (by omega) (h.sJ _ _ _)
    refine ⟨Z', ?_, g1, g2.trans (by rw [mI_sJ]), fun c k hc => by rw [g3 c k hc, mJ_sJ, if_neg (fun q => hc q.1)], fun k hk => by rw [g4 k (by omega), mJ_sJ, if_neg (by omega)], fun k h1 h2 => ?_⟩
    · rw [← e, fX12_book_L147]
      simp only [h.1, h.2.1, h.2.2, li_T, li_L, li_R, nm, bd, q_b, ne_eq, Nat.reduceEqDiff, reduceCtorEq, and_false, false_and, and_true, true_and, and_self, not_false_eq_true, not_true_eq_false, ↓reduceIte, e5, i1, i2.1, i2.2, nI_1]
    · by_cases q : k = i
      · rw [g4 k (by omega), mJ_sJ, if_pos ⟨rfl, q⟩, q]
      · rw [g5 k (by omega) h2, mJ_sJ, if_neg (by omega)]
theorem m_L173 (v1 : Int32) : ∀ r i Z j, i + r = 5 → r < j → Shp bk dr Z → ∃ Z', fX12_book_L173 n j 366 v1 (nI i) Z = some (v1, sI Z' 366 5 0) ∧ Shp bk dr Z' ∧ mI Z' = mI Z ∧ (∀ c k, c ≠ 372 → mJ Z' c k = mJ Z c k) ∧ (∀ k, k < i → mJ Z' 372 k = mJ Z 372 k) ∧ ∀ k, i ≤ k → k < 5 → mJ Z' 372 k = mJ Z 376 k := by
  intro r
  induction r with
  | zero =>
    intro i Z j hi hj h
    obtain ⟨j, rfl⟩ : ∃ k, j = k + 1 := ⟨j - 1, by omega⟩
    have e5 : (5 : Int32) ≤ nI i := nI_le (a := 5) (b := i) (by omega) (by omega)
    refine ⟨Z, ?_, h, rfl, fun _ _ _ => rfl, fun _ _ => rfl, fun k h1 h2 => by omega⟩
    rw [fX12_book_L173]
    simp only [h.1, h.2.1, h.2.2, li_T, li_L, li_R, nm, bd, q_b, ne_eq, Nat.reduceEqDiff, reduceCtorEq, and_false, false_and, and_true, true_and, and_self, not_false_eq_true, not_true_eq_false, ↓reduceIte, e5]
  | succ r ih =>
    intro i Z j hi hj h
    obtain ⟨j, rfl⟩ : ∃ k, j = k + 1 := ⟨j - 1, by omega⟩
    have e5 : ¬ (5 : Int32) ≤ nI i := nI_ge (a := i) (b := 5) (by omega) (by omega)
    have i1 : (nI i).toNatClampNeg = i := nI_clamp (by omega)
    have i2 := inL_nI (j := i) (n := 5) (by omega) (by decide)
    obtain ⟨Z', e, g1, g2, g3, g4, g5⟩ := ih (i + 1) (sJ Z 372 i (mJ Z 376 i)) j (by omega) (by omega) (h.sJ _ _ _)
    refine ⟨Z', ?_, g1, g2.trans (by rw [mI_sJ]), fun c k hc => by rw [g3 c k hc, mJ_sJ, if_neg (fun q => hc q.1)], fun k hk => by rw [g4 k (by omega), mJ_sJ, if_neg (by omega)], fun k h1 h2 => ?_⟩
    · rw [← e, fX12_book_L173]
      simp only [h.1, h.2.1, h.2.2, li_T, li_L, li_R, nm, bd, q_b, ne_eq, Nat.reduceEqDiff, reduceCtorEq, and_false, false_and, and_true, true_and, and_self, not_false_eq_true, not_true_eq_false, ↓reduceIte, e5, i1, i2.1, i2.2, nI_1]
    · by_cases q : k = i
      · rw [g4 k (by omega), mJ_sJ, if_pos ⟨rfl, q⟩, q]
      · rw [g5 k (by omega) h2, mJ_sJ, if_neg (by omega)]
end
