/-! THE LAW'S LOOP (by program) -/
def TT (X : Mm) : Prop := ∃ bk dr H P, Tp bk dr H P X
section
variable {n i L : Nat} {xs : Nat → Int32} {k18 : Nat → Nat → Int32 → Mm → Option (Unit × Mm)} {X : Mm}
theorem l_rng (hi : i + 8 ≤ L) (hL : L ≤ 4096) : ∀ j, j < 8 → 0 ≤ (nI i + nI j).toInt ∧ (nI i + nI j).toInt < (L : Int) := fun j hj => by
  rw [nI_add, nI_toInt (by omega)]
  omega
theorem t_feed {n : Nat} {a1 a2 a3 a4 a5 : Int32} {z : Int32 × Mm} (h : fX12_feed n 366 a1 a2 a3 a4 a5 X = some z) : mT X 366 = 12 := by
  by_cases q : mT X 366 = 12
  · exact q
  · unfold fX12_feed at h
    rw [if_neg q] at h
    exact absurd h (by simp)
theorem l_feed (h : TT X) (hn : 24000 ≤ n) (hi : i + 8 ≤ L) (hL : L ≤ 4096) : ∃ X2, fL_law_L176 n xs L k18 1 366 (nI i) X = k18 1 366 (nI (i + 8)) X2 ∧ TT X2 := by
  obtain ⟨bk, dr, H, P, h⟩ := h
  have g := l_rng hi hL
  obtain ⟨r, X1, X2, c, m, t⟩ := s_feed h hn (xs ((nI i + (1 : Int32))).toNatClampNeg) (xs ((nI i + (2 : Int32))).toNatClampNeg) (xs ((nI i + (3 : Int32))).toNatClampNeg) (xs ((nI i + (4 : Int32))).toNatClampNeg) (xs ((nI i + (5 : Int32))).toNatClampNeg)
  have q := t_feed m
  refine ⟨X2, ?_, _, _, _, _, t⟩
  unfold fL_law_L176
  rw [if_pos (show 0 ≤ (nI i + (1 : Int32)).toInt ∧ (nI i + (1 : Int32)).toInt < (L : Int) from g 1 (by omega)), if_pos (show 0 ≤ (nI i + (2 : Int32)).toInt ∧ (nI i + (2 : Int32)).toInt < (L : Int) from g 2 (by omega)), if_pos (show 0 ≤ (nI i + (3 : Int32)).toInt ∧ (nI i + (3 : Int32)).toInt < (L : Int) from g 3 (by omega)), if_pos (show 0 ≤ (nI i + (4 : Int32)).toInt ∧ (nI i + (4 : Int32)).toInt < (L : Int) from g 4 (by omega)), if_pos (show 0 ≤ (nI i + (5 : Int32)).toInt ∧ (nI i + (5 : Int32)).toInt < (L : Int) from g 5 (by omega)), if_pos (show mT X 1 = 11 by rw [h.1.1]; exact rfl), c]
  unfold bd
  simp only []
  rw [if_pos q, m]
  simp only [↓reduceIte]
  unfold fL_law_L1402 nm
  rw [show nI i + (8 : Int32) = nI (i + 8) from nI_add i 8]
theorem t_end {a1 : Int32} {z : Int32 × Mm} (h : fX12_end 366 a1 X = some z) : mT X 366 = 12 := by
  by_cases q : mT X 366 = 12
  · exact q
  · unfold fX12_end at h
    rw [if_neg q] at h
    exact absurd h (by simp)
theorem l_end (h : TT X) (hn : 24000 ≤ n) (hi : i + 8 ≤ L) (hL : L ≤ 4096) : ∃ X2, fL_law_L239 n xs L k18 1 366 (nI i) X = k18 1 366 (nI (i + 8)) X2 ∧ TT X2 := by
  obtain ⟨bk, dr, H, P, h⟩ := h
  have g := l_rng hi hL
  obtain ⟨r, X1, X2, c, m, t⟩ := s_end h (xs ((nI i + (1 : Int32))).toNatClampNeg)
  have q := t_end m
  refine ⟨X2, ?_, _, _, _, _, t⟩
  unfold fL_law_L239
  rw [if_pos (show 0 ≤ (nI i + (1 : Int32)).toInt ∧ (nI i + (1 : Int32)).toInt < (L : Int) from g 1 (by omega)), if_pos (show mT X 1 = 11 by rw [h.1.1]; exact rfl), c]
  unfold bd
  simp only []
  rw [if_pos q, m]
  simp only [↓reduceIte]
  unfold fL_law_L1402 nm
  rw [show nI i + (8 : Int32) = nI (i + 8) from nI_add i 8]
theorem t_book {n : Nat} {z : Int32 × Mm} (h : fX12_book n 366  X = some z) : mT X 366 = 12 := by
  by_cases q : mT X 366 = 12
  · exact q
  · unfold fX12_book at h
    rw [if_neg q] at h
    exact absurd h (by simp)
theorem l_book (h : TT X) (hn : 24000 ≤ n) (hi : i + 8 ≤ L) (hL : L ≤ 4096) : ∃ X2, fL_law_L262 n xs L k18 1 366 (nI i) X = k18 1 366 (nI (i + 8)) X2 ∧ TT X2 := by
  obtain ⟨bk, dr, H, P, h⟩ := h
  have g := l_rng hi hL
  obtain ⟨r, X1, X2, bk2, dr2, H2, P2, c, m, t⟩ := s_book h hn 
  have q := t_book m
  refine ⟨X2, ?_, _, _, _, _, t⟩
  unfold fL_law_L262
  rw [if_pos (show mT X 1 = 11 by rw [h.1.1]; exact rfl), c]
  unfold bd
  simp only []
  rw [if_pos q, m]
  simp only [↓reduceIte]
  unfold fL_law_L1402 nm
  rw [show nI i + (8 : Int32) = nI (i + 8) from nI_add i 8]
theorem t_deeds {n : Nat} {z : Int32 × Mm} (h : fX12_deeds n 366  X = some z) : mT X 366 = 12 := by
  by_cases q : mT X 366 = 12
  · exact q
  · unfold fX12_deeds at h
    rw [if_neg q] at h
    exact absurd h (by simp)
theorem l_deeds (h : TT X) (hn : 24000 ≤ n) (hi : i + 8 ≤ L) (hL : L ≤ 4096) : ∃ X2, fL_law_L275 n xs L k18 1 366 (nI i) X = k18 1 366 (nI (i + 8)) X2 ∧ TT X2 := by
  obtain ⟨bk, dr, H, P, h⟩ := h
  have g := l_rng hi hL
  obtain ⟨r, X1, X2, c, m, t⟩ := s_deeds h hn 
  have q := t_deeds m
  refine ⟨X2, ?_, _, _, _, _, t⟩
  unfold fL_law_L275
  rw [if_pos (show mT X 1 = 11 by rw [h.1.1]; exact rfl), c]
  unfold bd
  simp only []
  rw [if_pos q, m]
  simp only [↓reduceIte]
  unfold fL_law_L1402 nm
  rw [show nI i + (8 : Int32) = nI (i + 8) from nI_add i 8]
theorem t_fault {a1 : Int32} {z : Int32 × Mm} (h : fX12_fault 366 a1 X = some z) : mT X 366 = 12 := by
  by_cases q : mT X 366 = 12
  · exact q
  · unfold fX12_fault at h
    rw [if_neg q] at h
    exact absurd h (by simp)
theorem l_fault (h : TT X) (hn : 24000 ≤ n) (hi : i + 8 ≤ L) (hL : L ≤ 4096) : ∃ X2, fL_law_L288 n xs L k18 1 366 (nI i) X = k18 1 366 (nI (i + 8)) X2 ∧ TT X2 := by
  obtain ⟨bk, dr, H, P, h⟩ := h
  have g := l_rng hi hL
  obtain ⟨r, X1, X2, c, m, t⟩ := s_fault h (xs ((nI i + (1 : Int32))).toNatClampNeg)
  have q := t_fault m
  refine ⟨X2, ?_, _, _, _, _, t⟩
  unfold fL_law_L288
  rw [if_pos (show 0 ≤ (nI i + (1 : Int32)).toInt ∧ (nI i + (1 : Int32)).toInt < (L : Int) from g 1 (by omega)), if_pos (show mT X 1 = 11 by rw [h.1.1]; exact rfl), c]
  unfold bd
  simp only []
  rw [if_pos q, m]
  simp only [↓reduceIte]
  unfold fL_law_L1402 nm
  rw [show nI i + (8 : Int32) = nI (i + 8) from nI_add i 8]
theorem t_trade {n : Nat} {a1 a2 a3 a4 a5 a6 : Int32} {z : Int32 × Mm} (h : fX12_trade n 366 a1 a2 a3 a4 a5 a6 X = some z) : mT X 366 = 12 := by
  by_cases q : mT X 366 = 12
  · exact q
  · unfold fX12_trade at h
    rw [if_neg q] at h
    exact absurd h (by simp)
theorem l_trade (h : TT X) (hn : 24000 ≤ n) (hi : i + 8 ≤ L) (hL : L ≤ 4096) : ∃ X2, fL_law_L311 n xs L k18 1 366 (nI i) X = k18 1 366 (nI (i + 8)) X2 ∧ TT X2 := by
  obtain ⟨bk, dr, H, P, h⟩ := h
  have g := l_rng hi hL
  obtain ⟨r, X1, X2, c, m, t⟩ := s_trade h hn (xs ((nI i + (1 : Int32))).toNatClampNeg) (xs ((nI i + (2 : Int32))).toNatClampNeg) (xs ((nI i + (3 : Int32))).toNatClampNeg) (xs ((nI i + (4 : Int32))).toNatClampNeg) (xs ((nI i + (5 : Int32))).toNatClampNeg) (xs ((nI i + (6 : Int32))).toNatClampNeg)
  have q := t_trade m
  refine ⟨X2, ?_, _, _, _, _, t⟩
  unfold fL_law_L311
  rw [if_pos (show 0 ≤ (nI i + (1 : Int32)).toInt ∧ (nI i + (1 : Int32)).toInt < (L : Int) from g 1 (by omega)), if_pos (show 0 ≤ (nI i + (2 : Int32)).toInt ∧ (nI i + (2 : Int32)).toInt < (L : Int) from g 2 (by omega)), if_pos (show 0 ≤ (nI i + (3 : Int32)).toInt ∧ (nI i + (3 : Int32)).toInt < (L : Int) from g 3 (by omega)), if_pos (show 0 ≤ (nI i + (4 : Int32)).toInt ∧ (nI i + (4 : Int32)).toInt < (L : Int) from g 4 (by omega)), if_pos (show 0 ≤ (nI i + (5 : Int32)).toInt ∧ (nI i + (5 : Int32)).toInt < (L : Int) from g 5 (by omega)), if_pos (show 0 ≤ (nI i + (6 : Int32)).toInt ∧ (nI i + (6 : Int32)).toInt < (L : Int) from g 6 (by omega)), if_pos (show mT X 1 = 11 by rw [h.1.1]; exact rfl), c]
  unfold bd
  simp only []
  rw [if_pos q, m]
  simp only [↓reduceIte]
  unfold fL_law_L1402 nm
  rw [show nI i + (8 : Int32) = nI (i + 8) from nI_add i 8]
theorem t_money {n : Nat} {a1 a2 a3 a4 a5 : Int32} {z : Int32 × Mm} (h : fX12_money n 366 a1 a2 a3 a4 a5 X = some z) : mT X 366 = 12 := by
  by_cases q : mT X 366 = 12
  · exact q
  · unfold fX12_money at h
    rw [if_neg q] at h
    exact absurd h (by simp)
theorem l_money (h : TT X) (hn : 24000 ≤ n) (hi : i + 8 ≤ L) (hL : L ≤ 4096) : ∃ X2, fL_law_L386 n xs L k18 1 366 (nI i) X = k18 1 366 (nI (i + 8)) X2 ∧ TT X2 := by
  obtain ⟨bk, dr, H, P, h⟩ := h
  have g := l_rng hi hL
  obtain ⟨r, X1, X2, c, m, t⟩ := s_money h hn (xs ((nI i + (1 : Int32))).toNatClampNeg) (xs ((nI i + (2 : Int32))).toNatClampNeg) (xs ((nI i + (3 : Int32))).toNatClampNeg) (xs ((nI i + (4 : Int32))).toNatClampNeg) (xs ((nI i + (5 : Int32))).toNatClampNeg)
  have q := t_money m
  refine ⟨X2, ?_, _, _, _, _, t⟩
  unfold fL_law_L386
  rw [if_pos (show 0 ≤ (nI i + (1 : Int32)).toInt ∧ (nI i + (1 : Int32)).toInt < (L : Int) from g 1 (by omega)), if_pos (show 0 ≤ (nI i + (2 : Int32)).toInt ∧ (nI i + (2 : Int32)).toInt < (L : Int) from g 2 (by omega)), if_pos (show 0 ≤ (nI i + (3 : Int32)).toInt ∧ (nI i + (3 : Int32)).toInt < (L : Int) from g 3 (by omega)), if_pos (show 0 ≤ (nI i + (4 : Int32)).toInt ∧ (nI i + (4 : Int32)).toInt < (L : Int) from g 4 (by omega)), if_pos (show 0 ≤ (nI i + (5 : Int32)).toInt ∧ (nI i + (5 : Int32)).toInt < (L : Int) from g 5 (by omega)), if_pos (show mT X 1 = 11 by rw [h.1.1]; exact rfl), c]
  unfold bd
  simp only []
  rw [if_pos q, m]
  simp only [↓reduceIte]
  unfold fL_law_L1402 nm
  rw [show nI i + (8 : Int32) = nI (i + 8) from nI_add i 8]
theorem t_gift {n : Nat} {a1 a2 a3 a4 a5 a6 : Int32} {z : Int32 × Mm} (h : fX12_gift n 366 a1 a2 a3 a4 a5 a6 X = some z) : mT X 366 = 12 := by
  by_cases q : mT X 366 = 12
  · exact q
  · unfold fX12_gift at h
    rw [if_neg q] at h
    exact absurd h (by simp)
theorem l_gift (h : TT X) (hn : 24000 ≤ n) (hi : i + 8 ≤ L) (hL : L ≤ 4096) : ∃ X2, fL_law_L449 n xs L k18 1 366 (nI i) X = k18 1 366 (nI (i + 8)) X2 ∧ TT X2 := by
  obtain ⟨bk, dr, H, P, h⟩ := h
  have g := l_rng hi hL
  obtain ⟨r, X1, X2, c, m, t⟩ := s_gift h hn (xs ((nI i + (1 : Int32))).toNatClampNeg) (xs ((nI i + (2 : Int32))).toNatClampNeg) (xs ((nI i + (3 : Int32))).toNatClampNeg) (xs ((nI i + (4 : Int32))).toNatClampNeg) (xs ((nI i + (5 : Int32))).toNatClampNeg) (xs ((nI i + (6 : Int32))).toNatClampNeg)
  have q := t_gift m
  refine ⟨X2, ?_, _, _, _, _, t⟩
  unfold fL_law_L449
  rw [if_pos (show 0 ≤ (nI i + (1 : Int32)).toInt ∧ (nI i + (1 : Int32)).toInt < (L : Int) from g 1 (by omega)), if_pos (show 0 ≤ (nI i + (2 : Int32)).toInt ∧ (nI i + (2 : Int32)).toInt < (L : Int) from g 2 (by omega)), if_pos (show 0 ≤ (nI i + (3 : Int32)).toInt ∧ (nI i + (3 : Int32)).toInt < (L : Int) from g 3 (by omega)), if_pos (show 0 ≤ (nI i + (4 : Int32)).toInt ∧ (nI i + (4 : Int32)).toInt < (L : Int) from g 4 (by omega)), if_pos (show 0 ≤ (nI i + (5 : Int32)).toInt ∧ (nI i + (5 : Int32)).toInt < (L : Int) from g 5 (by omega)), if_pos (show 0 ≤ (nI i + (6 : Int32)).toInt ∧ (nI i + (6 : Int32)).toInt < (L : Int) from g 6 (by omega)), if_pos (show mT X 1 = 11 by rw [h.1.1]; exact rfl), c]
  unfold bd
  simp only []
  rw [if_pos q, m]
  simp only [↓reduceIte]
  unfold fL_law_L1402 nm
  rw [show nI i + (8 : Int32) = nI (i + 8) from nI_add i 8]
theorem t_rights {n : Nat} {a1 a2 a3 a4 a5 a6 a7 : Int32} {z : Int32 × Mm} (h : fX12_rights n 366 a1 a2 a3 a4 a5 a6 a7 X = some z) : mT X 366 = 12 := by
  by_cases q : mT X 366 = 12
  · exact q
  · unfold fX12_rights at h
    rw [if_neg q] at h
    exact absurd h (by simp)
theorem l_rights (h : TT X) (hn : 24000 ≤ n) (hi : i + 8 ≤ L) (hL : L ≤ 4096) : ∃ X2, fL_law_L524 n xs L k18 1 366 (nI i) X = k18 1 366 (nI (i + 8)) X2 ∧ TT X2 := by
  obtain ⟨bk, dr, H, P, h⟩ := h
  have g := l_rng hi hL
  obtain ⟨r, X1, X2, c, m, t⟩ := s_rights h hn (xs ((nI i + (1 : Int32))).toNatClampNeg) (xs ((nI i + (2 : Int32))).toNatClampNeg) (xs ((nI i + (3 : Int32))).toNatClampNeg) (xs ((nI i + (4 : Int32))).toNatClampNeg) (xs ((nI i + (5 : Int32))).toNatClampNeg) (xs ((nI i + (6 : Int32))).toNatClampNeg) (xs ((nI i + (7 : Int32))).toNatClampNeg)
  have q := t_rights m
  refine ⟨X2, ?_, _, _, _, _, t⟩
  unfold fL_law_L524
  rw [if_pos (show 0 ≤ (nI i + (1 : Int32)).toInt ∧ (nI i + (1 : Int32)).toInt < (L : Int) from g 1 (by omega)), if_pos (show 0 ≤ (nI i + (2 : Int32)).toInt ∧ (nI i + (2 : Int32)).toInt < (L : Int) from g 2 (by omega)), if_pos (show 0 ≤ (nI i + (3 : Int32)).toInt ∧ (nI i + (3 : Int32)).toInt < (L : Int) from g 3 (by omega)), if_pos (show 0 ≤ (nI i + (4 : Int32)).toInt ∧ (nI i + (4 : Int32)).toInt < (L : Int) from g 4 (by omega)), if_pos (show 0 ≤ (nI i + (5 : Int32)).toInt ∧ (nI i + (5 : Int32)).toInt < (L : Int) from g 5 (by omega)), if_pos (show 0 ≤ (nI i + (6 : Int32)).toInt ∧ (nI i + (6 : Int32)).toInt < (L : Int) from g 6 (by omega)), if_pos (show 0 ≤ (nI i + (7 : Int32)).toInt ∧ (nI i + (7 : Int32)).toInt < (L : Int) from g 7 (by omega)), if_pos (show mT X 1 = 11 by rw [h.1.1]; exact rfl), c]
  unfold bd
  simp only []
  rw [if_pos q, m]
  simp only [↓reduceIte]
  unfold fL_law_L1402 nm
  rw [show nI i + (8 : Int32) = nI (i + 8) from nI_add i 8]
theorem t_turn {n : Nat} {a1 a2 a3 a4 a5 : Int32} {z : Int32 × Mm} (h : fX12_turn n 366 a1 a2 a3 a4 a5 X = some z) : mT X 366 = 12 := by
  by_cases q : mT X 366 = 12
  · exact q
  · unfold fX12_turn at h
    rw [if_neg q] at h
    exact absurd h (by simp)
theorem l_turn (h : TT X) (hn : 24000 ≤ n) (hi : i + 8 ≤ L) (hL : L ≤ 4096) : ∃ X2, fL_law_L611 n xs L k18 1 366 (nI i) X = k18 1 366 (nI (i + 8)) X2 ∧ TT X2 := by
  obtain ⟨bk, dr, H, P, h⟩ := h
  have g := l_rng hi hL
  obtain ⟨r, X1, X2, c, m, t⟩ := s_turn h hn (xs ((nI i + (1 : Int32))).toNatClampNeg) (xs ((nI i + (2 : Int32))).toNatClampNeg) (xs ((nI i + (3 : Int32))).toNatClampNeg) (xs ((nI i + (4 : Int32))).toNatClampNeg) (xs ((nI i + (5 : Int32))).toNatClampNeg)
  have q := t_turn m
  refine ⟨X2, ?_, _, _, _, _, t⟩
  unfold fL_law_L611
  rw [if_pos (show 0 ≤ (nI i + (1 : Int32)).toInt ∧ (nI i + (1 : Int32)).toInt < (L : Int) from g 1 (by omega)), if_pos (show 0 ≤ (nI i + (2 : Int32)).toInt ∧ (nI i + (2 : Int32)).toInt < (L : Int) from g 2 (by omega)), if_pos (show 0 ≤ (nI i + (3 : Int32)).toInt ∧ (nI i + (3 : Int32)).toInt < (L : Int) from g 3 (by omega)), if_pos (show 0 ≤ (nI i + (4 : Int32)).toInt ∧ (nI i + (4 : Int32)).toInt < (L : Int) from g 4 (by omega)), if_pos (show 0 ≤ (nI i + (5 : Int32)).toInt ∧ (nI i + (5 : Int32)).toInt < (L : Int) from g 5 (by omega)), if_pos (show mT X 1 = 11 by rw [h.1.1]; exact rfl), c]
  unfold bd
  simp only []
  rw [if_pos q, m]
  simp only [↓reduceIte]
  unfold fL_law_L1402 nm
  rw [show nI i + (8 : Int32) = nI (i + 8) from nI_add i 8]
theorem t_choose {n : Nat} {a1 a2 a3 a4 : Int32} {z : Int32 × Mm} (h : fX12_choose n 366 a1 a2 a3 a4 X = some z) : mT X 366 = 12 := by
  by_cases q : mT X 366 = 12
  · exact q
  · unfold fX12_choose at h
    rw [if_neg q] at h
    exact absurd h (by simp)
theorem l_choose (h : TT X) (hn : 24000 ≤ n) (hi : i + 8 ≤ L) (hL : L ≤ 4096) : ∃ X2, fL_law_L674 n xs L k18 1 366 (nI i) X = k18 1 366 (nI (i + 8)) X2 ∧ TT X2 := by
  obtain ⟨bk, dr, H, P, h⟩ := h
  have g := l_rng hi hL
  obtain ⟨r, X1, X2, c, m, t⟩ := s_choose h hn (xs ((nI i + (1 : Int32))).toNatClampNeg) (xs ((nI i + (2 : Int32))).toNatClampNeg) (xs ((nI i + (3 : Int32))).toNatClampNeg) (xs ((nI i + (4 : Int32))).toNatClampNeg)
  have q := t_choose m
  refine ⟨X2, ?_, _, _, _, _, t⟩
  unfold fL_law_L674
  rw [if_pos (show 0 ≤ (nI i + (1 : Int32)).toInt ∧ (nI i + (1 : Int32)).toInt < (L : Int) from g 1 (by omega)), if_pos (show 0 ≤ (nI i + (2 : Int32)).toInt ∧ (nI i + (2 : Int32)).toInt < (L : Int) from g 2 (by omega)), if_pos (show 0 ≤ (nI i + (3 : Int32)).toInt ∧ (nI i + (3 : Int32)).toInt < (L : Int) from g 3 (by omega)), if_pos (show 0 ≤ (nI i + (4 : Int32)).toInt ∧ (nI i + (4 : Int32)).toInt < (L : Int) from g 4 (by omega)), if_pos (show mT X 1 = 11 by rw [h.1.1]; exact rfl), c]
  unfold bd
  simp only []
  rw [if_pos q, m]
  simp only [↓reduceIte]
  unfold fL_law_L1402 nm
  rw [show nI i + (8 : Int32) = nI (i + 8) from nI_add i 8]
theorem t_days {n : Nat} {a1 : Int32} {z : Int32 × Mm} (h : fX12_days n 366 a1 X = some z) : mT X 366 = 12 := by
  by_cases q : mT X 366 = 12
  · exact q
  · unfold fX12_days at h
    rw [if_neg q] at h
    exact absurd h (by simp)
theorem l_days (h : TT X) (hn : 24000 ≤ n) (hi : i + 8 ≤ L) (hL : L ≤ 4096) : ∃ X2, fL_law_L727 n xs L k18 1 366 (nI i) X = k18 1 366 (nI (i + 8)) X2 ∧ TT X2 := by
  obtain ⟨bk, dr, H, P, h⟩ := h
  have g := l_rng hi hL
  obtain ⟨r, X1, X2, c, m, t⟩ := s_days h hn (xs ((nI i + (1 : Int32))).toNatClampNeg)
  have q := t_days m
  refine ⟨X2, ?_, _, _, _, _, t⟩
  unfold fL_law_L727
  rw [if_pos (show 0 ≤ (nI i + (1 : Int32)).toInt ∧ (nI i + (1 : Int32)).toInt < (L : Int) from g 1 (by omega)), if_pos (show mT X 1 = 11 by rw [h.1.1]; exact rfl), c]
  unfold bd
  simp only []
  rw [if_pos q, m]
  simp only [↓reduceIte]
  unfold fL_law_L1402 nm
  rw [show nI i + (8 : Int32) = nI (i + 8) from nI_add i 8]
theorem t_undo {n : Nat} {z : Int32 × Mm} (h : fX12_undo n 366  X = some z) : mT X 366 = 12 := by
  by_cases q : mT X 366 = 12
  · exact q
  · unfold fX12_undo at h
    rw [if_neg q] at h
    exact absurd h (by simp)
theorem l_undo (h : TT X) (hn : 24000 ≤ n) (hi : i + 8 ≤ L) (hL : L ≤ 4096) : ∃ X2, fL_law_L750 n xs L k18 1 366 (nI i) X = k18 1 366 (nI (i + 8)) X2 ∧ TT X2 := by
  obtain ⟨bk, dr, H, P, h⟩ := h
  have g := l_rng hi hL
  obtain ⟨r, X1, X2, c, m, t⟩ := s_undo h hn 
  have q := t_undo m
  refine ⟨X2, ?_, _, _, _, _, t⟩
  unfold fL_law_L750
  rw [if_pos (show mT X 1 = 11 by rw [h.1.1]; exact rfl), c]
  unfold bd
  simp only []
  rw [if_pos q, m]
  simp only [↓reduceIte]
  unfold fL_law_L1402 nm
  rw [show nI i + (8 : Int32) = nI (i + 8) from nI_add i 8]
theorem t_has {a1 a2 : Int32} {z : Int64 × Mm} (h : fX12_has 366 a1 a2 X = some z) : mT X 366 = 12 := by
  by_cases q : mT X 366 = 12
  · exact q
  · unfold fX12_has at h
    rw [if_neg q] at h
    exact absurd h (by simp)
theorem l_has (h : TT X) (hn : 24000 ≤ n) (hi : i + 8 ≤ L) (hL : L ≤ 4096) : ∃ X2, fL_law_L763 n xs L k18 1 366 (nI i) X = k18 1 366 (nI (i + 8)) X2 ∧ TT X2 := by
  obtain ⟨bk, dr, H, P, h⟩ := h
  have g := l_rng hi hL
  obtain ⟨r, X1, X2, c, m, t⟩ := s_has h (xs ((nI i + (1 : Int32))).toNatClampNeg) (xs ((nI i + (2 : Int32))).toNatClampNeg)
  have q := t_has m
  refine ⟨X2, ?_, _, _, _, _, t⟩
  unfold fL_law_L763
  rw [if_pos (show 0 ≤ (nI i + (1 : Int32)).toInt ∧ (nI i + (1 : Int32)).toInt < (L : Int) from g 1 (by omega)), if_pos (show 0 ≤ (nI i + (2 : Int32)).toInt ∧ (nI i + (2 : Int32)).toInt < (L : Int) from g 2 (by omega)), if_pos (show mT X 1 = 11 by rw [h.1.1]; exact rfl), c]
  unfold bd
  simp only []
  rw [if_pos q, m]
  simp only []
  rw [if_pos (cv_eq.mpr rfl)]
  unfold fL_law_L1402 nm
  rw [show nI i + (8 : Int32) = nI (i + 8) from nI_add i 8]
theorem t_purse {a1 : Int32} {z : Int64 × Mm} (h : fX12_purse 366 a1 X = some z) : mT X 366 = 12 := by
  by_cases q : mT X 366 = 12
  · exact q
  · unfold fX12_purse at h
    rw [if_neg q] at h
    exact absurd h (by simp)
theorem l_purse (h : TT X) (hn : 24000 ≤ n) (hi : i + 8 ≤ L) (hL : L ≤ 4096) : ∃ X2, fL_law_L797 n xs L k18 1 366 (nI i) X = k18 1 366 (nI (i + 8)) X2 ∧ TT X2 := by
  obtain ⟨bk, dr, H, P, h⟩ := h
  have g := l_rng hi hL
  obtain ⟨r, X1, X2, c, m, t⟩ := s_purse h (xs ((nI i + (1 : Int32))).toNatClampNeg)
  have q := t_purse m
  refine ⟨X2, ?_, _, _, _, _, t⟩
  unfold fL_law_L797
  rw [if_pos (show 0 ≤ (nI i + (1 : Int32)).toInt ∧ (nI i + (1 : Int32)).toInt < (L : Int) from g 1 (by omega)), if_pos (show mT X 1 = 11 by rw [h.1.1]; exact rfl), c]
  unfold bd
  simp only []
  rw [if_pos q, m]
  simp only []
  rw [if_pos (cv_eq.mpr rfl)]
  unfold fL_law_L1402 nm
  rw [show nI i + (8 : Int32) = nI (i + 8) from nI_add i 8]
theorem t_told {a1 a2 : Int32} {z : Int64 × Mm} (h : fX12_told 366 a1 a2 X = some z) : mT X 366 = 12 := by
  by_cases q : mT X 366 = 12
  · exact q
  · unfold fX12_told at h
    rw [if_neg q] at h
    exact absurd h (by simp)
theorem l_told (h : TT X) (hn : 24000 ≤ n) (hi : i + 8 ≤ L) (hL : L ≤ 4096) : ∃ X2, fL_law_L821 n xs L k18 1 366 (nI i) X = k18 1 366 (nI (i + 8)) X2 ∧ TT X2 := by
  obtain ⟨bk, dr, H, P, h⟩ := h
  have g := l_rng hi hL
  obtain ⟨r, X1, X2, c, m, t⟩ := s_told h (xs ((nI i + (1 : Int32))).toNatClampNeg) (xs ((nI i + (2 : Int32))).toNatClampNeg)
  have q := t_told m
  refine ⟨X2, ?_, _, _, _, _, t⟩
  unfold fL_law_L821
  rw [if_pos (show 0 ≤ (nI i + (1 : Int32)).toInt ∧ (nI i + (1 : Int32)).toInt < (L : Int) from g 1 (by omega)), if_pos (show 0 ≤ (nI i + (2 : Int32)).toInt ∧ (nI i + (2 : Int32)).toInt < (L : Int) from g 2 (by omega)), if_pos (show mT X 1 = 11 by rw [h.1.1]; exact rfl), c]
  unfold bd
  simp only []
  rw [if_pos q, m]
  simp only []
  rw [if_pos (cv_eq.mpr rfl)]
  unfold fL_law_L1402 nm
  rw [show nI i + (8 : Int32) = nI (i + 8) from nI_add i 8]
theorem t_event {n : Nat} {a1 a2 : Int32} {z : Int32 × Mm} (h : fX12_event n 366 a1 a2 X = some z) : mT X 366 = 12 := by
  by_cases q : mT X 366 = 12
  · exact q
  · unfold fX12_event at h
    rw [if_neg q] at h
    exact absurd h (by simp)
theorem l_event (h : TT X) (hn : 24000 ≤ n) (hi : i + 8 ≤ L) (hL : L ≤ 4096) : ∃ X2, fL_law_L855 n xs L k18 1 366 (nI i) X = k18 1 366 (nI (i + 8)) X2 ∧ TT X2 := by
  obtain ⟨bk, dr, H, P, h⟩ := h
  have g := l_rng hi hL
  obtain ⟨r, X1, X2, c, m, t⟩ := s_event h hn (xs ((nI i + (1 : Int32))).toNatClampNeg) (xs ((nI i + (2 : Int32))).toNatClampNeg)
  have q := t_event m
  refine ⟨X2, ?_, _, _, _, _, t⟩
  unfold fL_law_L855
  rw [if_pos (show 0 ≤ (nI i + (1 : Int32)).toInt ∧ (nI i + (1 : Int32)).toInt < (L : Int) from g 1 (by omega)), if_pos (show 0 ≤ (nI i + (2 : Int32)).toInt ∧ (nI i + (2 : Int32)).toInt < (L : Int) from g 2 (by omega)), if_pos (show mT X 1 = 11 by rw [h.1.1]; exact rfl), c]
  unfold bd
  simp only []
  rw [if_pos q, m]
  simp only [↓reduceIte]
  unfold fL_law_L1402 nm
  rw [show nI i + (8 : Int32) = nI (i + 8) from nI_add i 8]
theorem t_written {n : Nat} {a1 a2 a3 : Int32} {z : Int64 × Mm} (h : fX12_written n 366 a1 a2 a3 X = some z) : mT X 366 = 12 := by
  by_cases q : mT X 366 = 12
  · exact q
  · unfold fX12_written at h
    rw [if_neg q] at h
    exact absurd h (by simp)
theorem l_written (h : TT X) (hn : 24000 ≤ n) (hi : i + 8 ≤ L) (hL : L ≤ 4096) : ∃ X2, fL_law_L888 n xs L k18 1 366 (nI i) X = k18 1 366 (nI (i + 8)) X2 ∧ TT X2 := by
  obtain ⟨bk, dr, H, P, h⟩ := h
  have g := l_rng hi hL
  obtain ⟨r, X1, X2, c, m, t⟩ := s_written h hn (xs ((nI i + (1 : Int32))).toNatClampNeg) (xs ((nI i + (2 : Int32))).toNatClampNeg) (xs ((nI i + (3 : Int32))).toNatClampNeg)
  have q := t_written m
  refine ⟨X2, ?_, _, _, _, _, t⟩
  unfold fL_law_L888
  rw [if_pos (show 0 ≤ (nI i + (1 : Int32)).toInt ∧ (nI i + (1 : Int32)).toInt < (L : Int) from g 1 (by omega)), if_pos (show 0 ≤ (nI i + (2 : Int32)).toInt ∧ (nI i + (2 : Int32)).toInt < (L : Int) from g 2 (by omega)), if_pos (show 0 ≤ (nI i + (3 : Int32)).toInt ∧ (nI i + (3 : Int32)).toInt < (L : Int) from g 3 (by omega)), if_pos (show mT X 1 = 11 by rw [h.1.1]; exact rfl), c]
  unfold bd
  simp only []
  rw [if_pos q, m]
  simp only []
  rw [if_pos (cv_eq.mpr rfl)]
  unfold fL_law_L1402 nm
  rw [show nI i + (8 : Int32) = nI (i + 8) from nI_add i 8]
theorem t_claim {a1 a2 a3 : Int32} {z : Int64 × Mm} (h : fX12_claim 366 a1 a2 a3 X = some z) : mT X 366 = 12 := by
  by_cases q : mT X 366 = 12
  · exact q
  · unfold fX12_claim at h
    rw [if_neg q] at h
    exact absurd h (by simp)
theorem l_claim (h : TT X) (hn : 24000 ≤ n) (hi : i + 8 ≤ L) (hL : L ≤ 4096) : ∃ X2, fL_law_L932 n xs L k18 1 366 (nI i) X = k18 1 366 (nI (i + 8)) X2 ∧ TT X2 := by
  obtain ⟨bk, dr, H, P, h⟩ := h
  have g := l_rng hi hL
  obtain ⟨r, X1, X2, c, m, t⟩ := s_claim h (xs ((nI i + (1 : Int32))).toNatClampNeg) (xs ((nI i + (2 : Int32))).toNatClampNeg) (xs ((nI i + (3 : Int32))).toNatClampNeg)
  have q := t_claim m
  refine ⟨X2, ?_, _, _, _, _, t⟩
  unfold fL_law_L932
  rw [if_pos (show 0 ≤ (nI i + (1 : Int32)).toInt ∧ (nI i + (1 : Int32)).toInt < (L : Int) from g 1 (by omega)), if_pos (show 0 ≤ (nI i + (2 : Int32)).toInt ∧ (nI i + (2 : Int32)).toInt < (L : Int) from g 2 (by omega)), if_pos (show 0 ≤ (nI i + (3 : Int32)).toInt ∧ (nI i + (3 : Int32)).toInt < (L : Int) from g 3 (by omega)), if_pos (show mT X 1 = 11 by rw [h.1.1]; exact rfl), c]
  unfold bd
  simp only []
  rw [if_pos q, m]
  simp only []
  rw [if_pos (cv_eq.mpr rfl)]
  unfold fL_law_L1402 nm
  rw [show nI i + (8 : Int32) = nI (i + 8) from nI_add i 8]
theorem t_issued {a1 a2 : Int32} {z : Int64 × Mm} (h : fX12_issued 366 a1 a2 X = some z) : mT X 366 = 12 := by
  by_cases q : mT X 366 = 12
  · exact q
  · unfold fX12_issued at h
    rw [if_neg q] at h
    exact absurd h (by simp)
theorem l_issued (h : TT X) (hn : 24000 ≤ n) (hi : i + 8 ≤ L) (hL : L ≤ 4096) : ∃ X2, fL_law_L976 n xs L k18 1 366 (nI i) X = k18 1 366 (nI (i + 8)) X2 ∧ TT X2 := by
  obtain ⟨bk, dr, H, P, h⟩ := h
  have g := l_rng hi hL
  obtain ⟨r, X1, X2, c, m, t⟩ := s_issued h (xs ((nI i + (1 : Int32))).toNatClampNeg) (xs ((nI i + (2 : Int32))).toNatClampNeg)
  have q := t_issued m
  refine ⟨X2, ?_, _, _, _, _, t⟩
  unfold fL_law_L976
  rw [if_pos (show 0 ≤ (nI i + (1 : Int32)).toInt ∧ (nI i + (1 : Int32)).toInt < (L : Int) from g 1 (by omega)), if_pos (show 0 ≤ (nI i + (2 : Int32)).toInt ∧ (nI i + (2 : Int32)).toInt < (L : Int) from g 2 (by omega)), if_pos (show mT X 1 = 11 by rw [h.1.1]; exact rfl), c]
  unfold bd
  simp only []
  rw [if_pos q, m]
  simp only []
  rw [if_pos (cv_eq.mpr rfl)]
  unfold fL_law_L1402 nm
  rw [show nI i + (8 : Int32) = nI (i + 8) from nI_add i 8]
theorem t_net {n : Nat} {a1 a2 a3 : Int32} {z : Int64 × Mm} (h : fX12_net n 366 a1 a2 a3 X = some z) : mT X 366 = 12 := by
  by_cases q : mT X 366 = 12
  · exact q
  · unfold fX12_net at h
    rw [if_neg q] at h
    exact absurd h (by simp)
theorem l_net (h : TT X) (hn : 24000 ≤ n) (hi : i + 8 ≤ L) (hL : L ≤ 4096) : ∃ X2, fL_law_L1010 n xs L k18 1 366 (nI i) X = k18 1 366 (nI (i + 8)) X2 ∧ TT X2 := by
  obtain ⟨bk, dr, H, P, h⟩ := h
  have g := l_rng hi hL
  obtain ⟨r, X1, X2, c, m, t⟩ := s_net h hn (xs ((nI i + (1 : Int32))).toNatClampNeg) (xs ((nI i + (2 : Int32))).toNatClampNeg) (xs ((nI i + (3 : Int32))).toNatClampNeg)
  have q := t_net m
  refine ⟨X2, ?_, _, _, _, _, t⟩
  unfold fL_law_L1010
  rw [if_pos (show 0 ≤ (nI i + (1 : Int32)).toInt ∧ (nI i + (1 : Int32)).toInt < (L : Int) from g 1 (by omega)), if_pos (show 0 ≤ (nI i + (2 : Int32)).toInt ∧ (nI i + (2 : Int32)).toInt < (L : Int) from g 2 (by omega)), if_pos (show 0 ≤ (nI i + (3 : Int32)).toInt ∧ (nI i + (3 : Int32)).toInt < (L : Int) from g 3 (by omega)), if_pos (show mT X 1 = 11 by rw [h.1.1]; exact rfl), c]
  unfold bd
  simp only []
  rw [if_pos q, m]
  simp only []
  rw [if_pos (cv_eq.mpr rfl)]
  unfold fL_law_L1402 nm
  rw [show nI i + (8 : Int32) = nI (i + 8) from nI_add i 8]
theorem t_worth {n : Nat} {a1 a2 a3 : Int32} {z : Int64 × Mm} (h : fX12_worth n 366 a1 a2 a3 X = some z) : mT X 366 = 12 := by
  by_cases q : mT X 366 = 12
  · exact q
  · unfold fX12_worth at h
    rw [if_neg q] at h
    exact absurd h (by simp)
theorem l_worth (h : TT X) (hn : 24000 ≤ n) (hi : i + 8 ≤ L) (hL : L ≤ 4096) : ∃ X2, fL_law_L1054 n xs L k18 1 366 (nI i) X = k18 1 366 (nI (i + 8)) X2 ∧ TT X2 := by
  obtain ⟨bk, dr, H, P, h⟩ := h
  have g := l_rng hi hL
  obtain ⟨r, X1, X2, c, m, t⟩ := s_worth h hn (xs ((nI i + (1 : Int32))).toNatClampNeg) (xs ((nI i + (2 : Int32))).toNatClampNeg) (xs ((nI i + (3 : Int32))).toNatClampNeg)
  have q := t_worth m
  refine ⟨X2, ?_, _, _, _, _, t⟩
  unfold fL_law_L1054
  rw [if_pos (show 0 ≤ (nI i + (1 : Int32)).toInt ∧ (nI i + (1 : Int32)).toInt < (L : Int) from g 1 (by omega)), if_pos (show 0 ≤ (nI i + (2 : Int32)).toInt ∧ (nI i + (2 : Int32)).toInt < (L : Int) from g 2 (by omega)), if_pos (show 0 ≤ (nI i + (3 : Int32)).toInt ∧ (nI i + (3 : Int32)).toInt < (L : Int) from g 3 (by omega)), if_pos (show mT X 1 = 11 by rw [h.1.1]; exact rfl), c]
  unfold bd
  simp only []
  rw [if_pos q, m]
  simp only []
  rw [if_pos (cv_eq.mpr rfl)]
  unfold fL_law_L1402 nm
  rw [show nI i + (8 : Int32) = nI (i + 8) from nI_add i 8]
theorem t_ahead {n : Nat} {a1 a2 a3 : Int32} {z : Int64 × Mm} (h : fX12_ahead n 366 a1 a2 a3 X = some z) : mT X 366 = 12 := by
  by_cases q : mT X 366 = 12
  · exact q
  · unfold fX12_ahead at h
    rw [if_neg q] at h
    exact absurd h (by simp)
theorem l_ahead (h : TT X) (hn : 24000 ≤ n) (hi : i + 8 ≤ L) (hL : L ≤ 4096) : ∃ X2, fL_law_L1098 n xs L k18 1 366 (nI i) X = k18 1 366 (nI (i + 8)) X2 ∧ TT X2 := by
  obtain ⟨bk, dr, H, P, h⟩ := h
  have g := l_rng hi hL
  obtain ⟨r, X1, X2, c, m, t⟩ := s_ahead h hn (xs ((nI i + (1 : Int32))).toNatClampNeg) (xs ((nI i + (2 : Int32))).toNatClampNeg) (xs ((nI i + (3 : Int32))).toNatClampNeg)
  have q := t_ahead m
  refine ⟨X2, ?_, _, _, _, _, t⟩
  unfold fL_law_L1098
  rw [if_pos (show 0 ≤ (nI i + (1 : Int32)).toInt ∧ (nI i + (1 : Int32)).toInt < (L : Int) from g 1 (by omega)), if_pos (show 0 ≤ (nI i + (2 : Int32)).toInt ∧ (nI i + (2 : Int32)).toInt < (L : Int) from g 2 (by omega)), if_pos (show 0 ≤ (nI i + (3 : Int32)).toInt ∧ (nI i + (3 : Int32)).toInt < (L : Int) from g 3 (by omega)), if_pos (show mT X 1 = 11 by rw [h.1.1]; exact rfl), c]
  unfold bd
  simp only []
  rw [if_pos q, m]
  simp only []
  rw [if_pos (cv_eq.mpr rfl)]
  unfold fL_law_L1402 nm
  rw [show nI i + (8 : Int32) = nI (i + 8) from nI_add i 8]
theorem t_purseAhead {n : Nat} {a1 a2 : Int32} {z : Int64 × Mm} (h : fX12_purseAhead n 366 a1 a2 X = some z) : mT X 366 = 12 := by
  by_cases q : mT X 366 = 12
  · exact q
  · unfold fX12_purseAhead at h
    rw [if_neg q] at h
    exact absurd h (by simp)
theorem l_purseAhead (h : TT X) (hn : 24000 ≤ n) (hi : i + 8 ≤ L) (hL : L ≤ 4096) : ∃ X2, fL_law_L1142 n xs L k18 1 366 (nI i) X = k18 1 366 (nI (i + 8)) X2 ∧ TT X2 := by
  obtain ⟨bk, dr, H, P, h⟩ := h
  have g := l_rng hi hL
  obtain ⟨r, X1, X2, c, m, t⟩ := s_purseAhead h hn (xs ((nI i + (1 : Int32))).toNatClampNeg) (xs ((nI i + (2 : Int32))).toNatClampNeg)
  have q := t_purseAhead m
  refine ⟨X2, ?_, _, _, _, _, t⟩
  unfold fL_law_L1142
  rw [if_pos (show 0 ≤ (nI i + (1 : Int32)).toInt ∧ (nI i + (1 : Int32)).toInt < (L : Int) from g 1 (by omega)), if_pos (show 0 ≤ (nI i + (2 : Int32)).toInt ∧ (nI i + (2 : Int32)).toInt < (L : Int) from g 2 (by omega)), if_pos (show mT X 1 = 11 by rw [h.1.1]; exact rfl), c]
  unfold bd
  simp only []
  rw [if_pos q, m]
  simp only []
  rw [if_pos (cv_eq.mpr rfl)]
  unfold fL_law_L1402 nm
  rw [show nI i + (8 : Int32) = nI (i + 8) from nI_add i 8]
theorem t_waits {n : Nat} {a1 : Int32} {z : Int32 × Mm} (h : fX12_waits n 366 a1 X = some z) : mT X 366 = 12 := by
  by_cases q : mT X 366 = 12
  · exact q
  · unfold fX12_waits at h
    rw [if_neg q] at h
    exact absurd h (by simp)
theorem l_waits (h : TT X) (hn : 24000 ≤ n) (hi : i + 8 ≤ L) (hL : L ≤ 4096) : ∃ X2, fL_law_L1176 n xs L k18 1 366 (nI i) X = k18 1 366 (nI (i + 8)) X2 ∧ TT X2 := by
  obtain ⟨bk, dr, H, P, h⟩ := h
  have g := l_rng hi hL
  obtain ⟨r, X1, X2, c, m, t⟩ := s_waits h hn (xs ((nI i + (1 : Int32))).toNatClampNeg)
  have q := t_waits m
  refine ⟨X2, ?_, _, _, _, _, t⟩
  unfold fL_law_L1176
  rw [if_pos (show 0 ≤ (nI i + (1 : Int32)).toInt ∧ (nI i + (1 : Int32)).toInt < (L : Int) from g 1 (by omega)), if_pos (show mT X 1 = 11 by rw [h.1.1]; exact rfl), c]
  unfold bd
  simp only []
  rw [if_pos q, m]
  simp only [↓reduceIte]
  unfold fL_law_L1402 nm
  rw [show nI i + (8 : Int32) = nI (i + 8) from nI_add i 8]
theorem t_wants {n : Nat} {a1 a2 : Int32} {z : Int64 × Mm} (h : fX12_wants n 366 a1 a2 X = some z) : mT X 366 = 12 := by
  by_cases q : mT X 366 = 12
  · exact q
  · unfold fX12_wants at h
    rw [if_neg q] at h
    exact absurd h (by simp)
theorem l_wants (h : TT X) (hn : 24000 ≤ n) (hi : i + 8 ≤ L) (hL : L ≤ 4096) : ∃ X2, fL_law_L1199 n xs L k18 1 366 (nI i) X = k18 1 366 (nI (i + 8)) X2 ∧ TT X2 := by
  obtain ⟨bk, dr, H, P, h⟩ := h
  have g := l_rng hi hL
  obtain ⟨r, X1, X2, c, m, t⟩ := s_wants h hn (xs ((nI i + (1 : Int32))).toNatClampNeg) (xs ((nI i + (2 : Int32))).toNatClampNeg)
  have q := t_wants m
  refine ⟨X2, ?_, _, _, _, _, t⟩
  unfold fL_law_L1199
  rw [if_pos (show 0 ≤ (nI i + (1 : Int32)).toInt ∧ (nI i + (1 : Int32)).toInt < (L : Int) from g 1 (by omega)), if_pos (show 0 ≤ (nI i + (2 : Int32)).toInt ∧ (nI i + (2 : Int32)).toInt < (L : Int) from g 2 (by omega)), if_pos (show mT X 1 = 11 by rw [h.1.1]; exact rfl), c]
  unfold bd
  simp only []
  rw [if_pos q, m]
  simp only []
  rw [if_pos (cv_eq.mpr rfl)]
  unfold fL_law_L1402 nm
  rw [show nI i + (8 : Int32) = nI (i + 8) from nI_add i 8]
theorem t_carries {n : Nat} {a1 a2 a3 : Int32} {z : Int32 × Mm} (h : fX12_carries n 366 a1 a2 a3 X = some z) : mT X 366 = 12 := by
  by_cases q : mT X 366 = 12
  · exact q
  · unfold fX12_carries at h
    rw [if_neg q] at h
    exact absurd h (by simp)
theorem l_carries (h : TT X) (hn : 24000 ≤ n) (hi : i + 8 ≤ L) (hL : L ≤ 4096) : ∃ X2, fL_law_L1233 n xs L k18 1 366 (nI i) X = k18 1 366 (nI (i + 8)) X2 ∧ TT X2 := by
  obtain ⟨bk, dr, H, P, h⟩ := h
  have g := l_rng hi hL
  obtain ⟨r, X1, X2, c, m, t⟩ := s_carries h hn (xs ((nI i + (1 : Int32))).toNatClampNeg) (xs ((nI i + (2 : Int32))).toNatClampNeg) (xs ((nI i + (3 : Int32))).toNatClampNeg)
  have q := t_carries m
  refine ⟨X2, ?_, _, _, _, _, t⟩
  unfold fL_law_L1233
  rw [if_pos (show 0 ≤ (nI i + (1 : Int32)).toInt ∧ (nI i + (1 : Int32)).toInt < (L : Int) from g 1 (by omega)), if_pos (show 0 ≤ (nI i + (2 : Int32)).toInt ∧ (nI i + (2 : Int32)).toInt < (L : Int) from g 2 (by omega)), if_pos (show 0 ≤ (nI i + (3 : Int32)).toInt ∧ (nI i + (3 : Int32)).toInt < (L : Int) from g 3 (by omega)), if_pos (show mT X 1 = 11 by rw [h.1.1]; exact rfl), c]
  unfold bd
  simp only []
  rw [if_pos q, m]
  simp only [↓reduceIte]
  unfold fL_law_L1402 nm
  rw [show nI i + (8 : Int32) = nI (i + 8) from nI_add i 8]
theorem t_worst {n : Nat} {a1 a2 : Int32} {z : Int64 × Mm} (h : fX12_worst n 366 a1 a2 X = some z) : mT X 366 = 12 := by
  by_cases q : mT X 366 = 12
  · exact q
  · unfold fX12_worst at h
    rw [if_neg q] at h
    exact absurd h (by simp)
theorem l_worst (h : TT X) (hn : 24000 ≤ n) (hi : i + 8 ≤ L) (hL : L ≤ 4096) : ∃ X2, fL_law_L1276 n xs L k18 1 366 (nI i) X = k18 1 366 (nI (i + 8)) X2 ∧ TT X2 := by
  obtain ⟨bk, dr, H, P, h⟩ := h
  have g := l_rng hi hL
  obtain ⟨r, X1, X2, c, m, t⟩ := s_worst h hn (xs ((nI i + (1 : Int32))).toNatClampNeg) (xs ((nI i + (2 : Int32))).toNatClampNeg)
  have q := t_worst m
  refine ⟨X2, ?_, _, _, _, _, t⟩
  unfold fL_law_L1276
  rw [if_pos (show 0 ≤ (nI i + (1 : Int32)).toInt ∧ (nI i + (1 : Int32)).toInt < (L : Int) from g 1 (by omega)), if_pos (show 0 ≤ (nI i + (2 : Int32)).toInt ∧ (nI i + (2 : Int32)).toInt < (L : Int) from g 2 (by omega)), if_pos (show mT X 1 = 11 by rw [h.1.1]; exact rfl), c]
  unfold bd
  simp only []
  rw [if_pos q, m]
  simp only []
  rw [if_pos (cv_eq.mpr rfl)]
  unfold fL_law_L1402 nm
  rw [show nI i + (8 : Int32) = nI (i + 8) from nI_add i 8]
theorem t_show {n : Nat} {a1 : Int32} {z : Int32 × Mm} (h : fX12_show n 366 a1 X = some z) : mT X 366 = 12 := by
  by_cases q : mT X 366 = 12
  · exact q
  · unfold fX12_show at h
    rw [if_neg q] at h
    exact absurd h (by simp)
theorem l_show (h : TT X) (hn : 24000 ≤ n) (hi : i + 8 ≤ L) (hL : L ≤ 4096) : ∃ X2, fL_law_L1310 n xs L k18 1 366 (nI i) X = k18 1 366 (nI (i + 8)) X2 ∧ TT X2 := by
  obtain ⟨bk, dr, H, P, h⟩ := h
  have g := l_rng hi hL
  obtain ⟨r, X1, X2, c, m, t⟩ := s_show h hn (xs ((nI i + (1 : Int32))).toNatClampNeg)
  have q := t_show m
  refine ⟨X2, ?_, _, _, _, _, t⟩
  unfold fL_law_L1310
  rw [if_pos (show 0 ≤ (nI i + (1 : Int32)).toInt ∧ (nI i + (1 : Int32)).toInt < (L : Int) from g 1 (by omega)), if_pos (show mT X 1 = 11 by rw [h.1.1]; exact rfl), c]
  unfold bd
  simp only []
  rw [if_pos q, m]
  simp only [↓reduceIte]
  unfold fL_law_L1402 nm
  rw [show nI i + (8 : Int32) = nI (i + 8) from nI_add i 8]
theorem t_out {a1 : Int32} {z : Int32 × Mm} (h : fX12_out 366 a1 X = some z) : mT X 366 = 12 := by
  by_cases q : mT X 366 = 12
  · exact q
  · unfold fX12_out at h
    rw [if_neg q] at h
    exact absurd h (by simp)
theorem l_out (h : TT X) (hn : 24000 ≤ n) (hi : i + 8 ≤ L) (hL : L ≤ 4096) : ∃ X2, fL_law_L1333 n xs L k18 1 366 (nI i) X = k18 1 366 (nI (i + 8)) X2 ∧ TT X2 := by
  obtain ⟨bk, dr, H, P, h⟩ := h
  have g := l_rng hi hL
  obtain ⟨r, X1, X2, c, m, t⟩ := s_out h (xs ((nI i + (1 : Int32))).toNatClampNeg)
  have q := t_out m
  refine ⟨X2, ?_, _, _, _, _, t⟩
  unfold fL_law_L1333
  rw [if_pos (show 0 ≤ (nI i + (1 : Int32)).toInt ∧ (nI i + (1 : Int32)).toInt < (L : Int) from g 1 (by omega)), if_pos (show mT X 1 = 11 by rw [h.1.1]; exact rfl), c]
  unfold bd
  simp only []
  rw [if_pos q, m]
  simp only [↓reduceIte]
  unfold fL_law_L1402 nm
  rw [show nI i + (8 : Int32) = nI (i + 8) from nI_add i 8]
theorem t_named {n : Nat} {a1 : Int32} {z : Int32 × Mm} (h : fX12_named n 366 a1 X = some z) : mT X 366 = 12 := by
  by_cases q : mT X 366 = 12
  · exact q
  · unfold fX12_named at h
    rw [if_neg q] at h
    exact absurd h (by simp)
theorem l_named (h : TT X) (hn : 24000 ≤ n) (hi : i + 8 ≤ L) (hL : L ≤ 4096) : ∃ X2, fL_law_L1356 n xs L k18 1 366 (nI i) X = k18 1 366 (nI (i + 8)) X2 ∧ TT X2 := by
  obtain ⟨bk, dr, H, P, h⟩ := h
  have g := l_rng hi hL
  obtain ⟨r, X1, X2, c, m, t⟩ := s_named h hn (xs ((nI i + (1 : Int32))).toNatClampNeg)
  have q := t_named m
  refine ⟨X2, ?_, _, _, _, _, t⟩
  unfold fL_law_L1356
  rw [if_pos (show 0 ≤ (nI i + (1 : Int32)).toInt ∧ (nI i + (1 : Int32)).toInt < (L : Int) from g 1 (by omega)), if_pos (show mT X 1 = 11 by rw [h.1.1]; exact rfl), c]
  unfold bd
  simp only []
  rw [if_pos q, m]
  simp only [↓reduceIte]
  unfold fL_law_L1402 nm
  rw [show nI i + (8 : Int32) = nI (i + 8) from nI_add i 8]
theorem t_look {n : Nat} {a1 : Int32} {z : Int32 × Mm} (h : fX12_look n 366 a1 X = some z) : mT X 366 = 12 := by
  by_cases q : mT X 366 = 12
  · exact q
  · unfold fX12_look at h
    rw [if_neg q] at h
    exact absurd h (by simp)
theorem l_look (h : TT X) (hn : 24000 ≤ n) (hi : i + 8 ≤ L) (hL : L ≤ 4096) : ∃ X2, fL_law_L1379 n xs L k18 1 366 (nI i) X = k18 1 366 (nI (i + 8)) X2 ∧ TT X2 := by
  obtain ⟨bk, dr, H, P, h⟩ := h
  have g := l_rng hi hL
  obtain ⟨r, X1, X2, c, m, t⟩ := s_look h hn (xs ((nI i + (1 : Int32))).toNatClampNeg)
  have q := t_look m
  refine ⟨X2, ?_, _, _, _, _, t⟩
  unfold fL_law_L1379
  rw [if_pos (show 0 ≤ (nI i + (1 : Int32)).toInt ∧ (nI i + (1 : Int32)).toInt < (L : Int) from g 1 (by omega)), if_pos (show mT X 1 = 11 by rw [h.1.1]; exact rfl), c]
  unfold bd
  simp only []
  rw [if_pos q, m]
  simp only [↓reduceIte]
  unfold fL_law_L1402 nm
  rw [show nI i + (8 : Int32) = nI (i + 8) from nI_add i 8]
end
theorem law_loop {n L : Nat} {xs : Nat → Int32} (hn : 24000 ≤ n) (hL : L ≤ 4096) : ∀ (j i : Nat) (X : Mm), i ≤ L → L + 8 < i + 8 * j → TT X → ∃ Y, fL_law_L18 n xs L j 1 366 (nI i) X = some ((), Y) := by
  intro j
  induction j with
  | zero => intro i X h1 h2; omega
  | succ j ih =>
    intro i X h1 h2 h
    have e8 : (nI L - (8 : Int32)).toInt = (L : Int) - 8 := by
      have a : (nI L).toInt = L := nI_toInt (by omega)
      have b : (8 : Int32).toInt = 8 := by decide
      rw [Jvm.Kit.i32_sub (by omega) (by omega), a, b]
    have ei : (nI i).toInt = i := nI_toInt (by omega)
    rw [fL_law_L18]
    by_cases z : i + 8 ≤ L
    · have c1 : ¬ (Int32.ofNat L) - (8 : Int32) < nI i := fun y => by
        have q := Int32.lt_iff_toInt_lt.mp y
        have e8' : ((Int32.ofNat L) - (8 : Int32)).toInt = (L : Int) - 8 := e8
        omega
      have c2 : 0 ≤ (nI i).toInt ∧ (nI i).toInt < (L : Int) := by omega
      have go : ∀ X2, TT X2 → ∃ Y, fL_law_L18 n xs L j 1 366 (nI (i + 8)) X2 = some ((), Y) := fun X2 t => ih (i + 8) X2 z (by omega) t
      have use : ∀ {o : Option (Unit × Mm)}, (∃ X2, o = fL_law_L18 n xs L j 1 366 (nI (i + 8)) X2 ∧ TT X2) → ∃ Y, o = some ((), Y) := fun ⟨X2, e, t⟩ => by rw [e]; exact go X2 t
      rw [if_neg c1, if_pos c2]
      generalize (xs (nI i).toNatClampNeg) &&& (31 : Int32) = v
      by_cases d0 : v = 0
      · rw [if_pos d0]; exact use (l_feed h hn z hL)
      rw [if_neg d0]
      by_cases d1 : v = 1
      · rw [if_pos d1]; exact use (l_end h hn z hL)
      rw [if_neg d1]
      by_cases d2 : v = 2
      · rw [if_pos d2]; exact use (l_book h hn z hL)
      rw [if_neg d2]
      by_cases d3 : v = 3
      · rw [if_pos d3]; exact use (l_deeds h hn z hL)
      rw [if_neg d3]
      by_cases d4 : v = 4
      · rw [if_pos d4]; exact use (l_fault h hn z hL)
      rw [if_neg d4]
      by_cases d5 : v = 5
      · rw [if_pos d5]; exact use (l_trade h hn z hL)
      rw [if_neg d5]
      by_cases d6 : v = 6
      · rw [if_pos d6]; exact use (l_money h hn z hL)
      rw [if_neg d6]
      by_cases d7 : v = 7
      · rw [if_pos d7]; exact use (l_gift h hn z hL)
      rw [if_neg d7]
      by_cases d8 : v = 8
      · rw [if_pos d8]; exact use (l_rights h hn z hL)
      rw [if_neg d8]
      by_cases d9 : v = 9
      · rw [if_pos d9]; exact use (l_turn h hn z hL)
      rw [if_neg d9]
      by_cases d10 : v = 10
      · rw [if_pos d10]; exact use (l_choose h hn z hL)
      rw [if_neg d10]
      by_cases d11 : v = 11
      · rw [if_pos d11]; exact use (l_days h hn z hL)
      rw [if_neg d11]
      by_cases d12 : v = 12
      · rw [if_pos d12]; exact use (l_undo h hn z hL)
      rw [if_neg d12]
      by_cases d13 : v = 13
      · rw [if_pos d13]; exact use (l_has h hn z hL)
      rw [if_neg d13]
      by_cases d14 : v = 14
      · rw [if_pos d14]; exact use (l_purse h hn z hL)
      rw [if_neg d14]
      by_cases d15 : v = 15
      · rw [if_pos d15]; exact use (l_told h hn z hL)
      rw [if_neg d15]
      by_cases d16 : v = 16
      · rw [if_pos d16]; exact use (l_event h hn z hL)
      rw [if_neg d16]
      by_cases d17 : v = 17
      · rw [if_pos d17]; exact use (l_written h hn z hL)
      rw [if_neg d17]
      by_cases d18 : v = 18
      · rw [if_pos d18]; exact use (l_claim h hn z hL)
      rw [if_neg d18]
      by_cases d19 : v = 19
      · rw [if_pos d19]; exact use (l_issued h hn z hL)
      rw [if_neg d19]
      by_cases d20 : v = 20
      · rw [if_pos d20]; exact use (l_net h hn z hL)
      rw [if_neg d20]
      by_cases d21 : v = 21
      · rw [if_pos d21]; exact use (l_worth h hn z hL)
      rw [if_neg d21]
      by_cases d22 : v = 22
      · rw [if_pos d22]; exact use (l_ahead h hn z hL)
      rw [if_neg d22]
      by_cases d23 : v = 23
      · rw [if_pos d23]; exact use (l_purseAhead h hn z hL)
      rw [if_neg d23]
      by_cases d24 : v = 24
      · rw [if_pos d24]; exact use (l_waits h hn z hL)
      rw [if_neg d24]
      by_cases d25 : v = 25
      · rw [if_pos d25]; exact use (l_wants h hn z hL)
      rw [if_neg d25]
      by_cases d26 : v = 26
      · rw [if_pos d26]; exact use (l_carries h hn z hL)
      rw [if_neg d26]
      by_cases d27 : v = 27
      · rw [if_pos d27]; exact use (l_worst h hn z hL)
      rw [if_neg d27]
      by_cases d28 : v = 28
      · rw [if_pos d28]; exact use (l_show h hn z hL)
      rw [if_neg d28]
      by_cases d29 : v = 29
      · rw [if_pos d29]; exact use (l_out h hn z hL)
      rw [if_neg d29]
      by_cases d30 : v = 30
      · rw [if_pos d30]; exact use (l_named h hn z hL)
      rw [if_neg d30]
      by_cases d31 : v = 31
      · rw [if_pos d31]; exact use (l_look h hn z hL)
      rw [if_neg d31]
      unfold fL_law_L1402 nm
      rw [show nI i + (8 : Int32) = nI (i + 8) from nI_add i 8]
      exact go X h
    · have c1 : (Int32.ofNat L) - (8 : Int32) < nI i := Int32.lt_iff_toInt_lt.mpr (by
        have e8' : ((Int32.ofNat L) - (8 : Int32)).toInt = (L : Int) - 8 := e8
        omega)
      rw [if_pos c1]
      exact ⟨X, rfl⟩
theorem pure_law : ∀ (L : Nat) (xs : Nat → Int32), L ≤ 4096 → ∃ (n : Nat) (X' : Mm), fL_law n xs L q_X0 = some ((), X') := by
  intro L xs hL
  obtain ⟨X, h1, h2⟩ := s_start 30000 L xs
  obtain ⟨Y, e⟩ := law_loop (n := 30000) (xs := xs) (by omega) hL 30000 0 X (by omega) (by omega) h2
  exact ⟨30000, Y, h1.trans e⟩
