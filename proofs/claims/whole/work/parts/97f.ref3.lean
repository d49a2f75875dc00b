/-! TEXTS: the reference's next token, whole -/
def tkq (b : Nat → Int32) (L q : Nat) : Nat := if L ≤ q then 0 else if isL (b q) then 1 else if isD (b q) then 2 else 3
def rrI (b : Nat → Int32) (L q k : Nat) (old : Int32) : Int32 := if k = 14 then nI (te b L q) else if k = 15 then nI q else if k = 16 then nI (tkq b L q) else if k = 17 then (if tkq b L q = 3 then sv (b q) else 0) else if k = 18 then nI (te b L q - q) else if k = 19 then (if tkq b L q = 2 then nI (dgs b (min (te b L q - q) 9) q 0) else 0) else if k = 20 then (if tkq b L q = 1 then kw (lts b (te b L q - q) q) else -1) else old
def rrJ (b : Nat → Int32) (L q : Nat) : Int64 := if tkq b L q = 1 then lN (c27 (lts b (min (te b L q - q) 6) q)) else 0
section
variable {bk dr H P n : Nat} {X Z : Mm} {b : Nat → Int32} {L : Nat} {g : Nat → Int32} {c : Int64}
theorem fin_eq {g G : Nat → Int32} {q : Nat} (h14 : G 14 = nI (te b L q)) (h15 : G 15 = nI q) (h16 : G 16 = nI (tkq b L q)) (h17 : G 17 = if tkq b L q = 3 then sv (b q) else 0) (h18 : G 18 = nI (te b L q - q)) (h19 : G 19 = if tkq b L q = 2 then nI (dgs b (min (te b L q - q) 9) q 0) else 0) (h20 : G 20 = if tkq b L q = 1 then kw (lts b (te b L q - q) q) else -1) (ho : ∀ k, (k < 14 ∨ 20 < k) → G k = g k) : G = fun k => rrI b L q k (g k) := by
  funext k
  show G k = rrI b L q k (g k)
  unfold rrI
  by_cases e14 : k = 14
  · rw [if_pos e14, e14]; exact h14
  · rw [if_neg e14]
    by_cases e15 : k = 15
    · rw [if_pos e15, e15]; exact h15
    · rw [if_neg e15]
      by_cases e16 : k = 16
      · rw [if_pos e16, e16]; exact h16
      · rw [if_neg e16]
        by_cases e17 : k = 17
        · rw [if_pos e17, e17]; exact h17
        · rw [if_neg e17]
          by_cases e18 : k = 18
          · rw [if_pos e18, e18]; exact h18
          · rw [if_neg e18]
            by_cases e19 : k = 19
            · rw [if_pos e19, e19]; exact h19
            · rw [if_neg e19]
              by_cases e20 : k = 20
              · rw [if_pos e20, e20]; exact h20
              · rw [if_neg e20]; exact ho k (by omega)
theorem m_rest (h : Ref bk dr b L Z) (hn : 1000 ≤ n) {p : Nat} (hp : p ≤ L) (g13 : g 13 = nI L) (g14 : g 14 = nI p) (hb : p < L → isB (b p) = false) (j : Nat) : fX12_next_L0 n (j + 1) 366 (FM g c Z) = some ((), FM (fun k => rrI b L p k (g k)) (rrJ b L p) Z) := by
  have L7 := h.2.1
  have hr := h.2.2.2.2.1
  have hR := h.fm g c g13
  have hs := hR.1
  have see := m_see hR (k := p) hp
  have k14 := FM_I g c Z 14
  rw [g14] at k14
  have g1 : (q_u1 g 15 (nI p)) 13 = nI L := by rw [q_u1_n _ _ (by decide)]; exact g13
  have g2 : (q_u1 (q_u1 g 15 (nI p)) 20 (-1)) 13 = nI L := by rw [q_u1_n _ _ (by decide)]; exact g1
  have k14a := FM_I (q_u1 g 15 (nI p)) c Z 14
  have k14b := FM_I (q_u1 (q_u1 g 15 (nI p)) 20 (-1)) c Z 14
  rw [q_u1_n _ _ (by decide), g14] at k14a
  rw [q_u1_n _ _ (by decide), q_u1_n _ _ (by decide), g14] at k14b
  have hR2 := h.fm _ c g2
  have hs2 := hR2.1
  have see2 := m_see hR2 (k := p) hp
  have sa : ∀ g c, mT (FM g c Z) = sh_T := fun g c => h.1.1
  have w14 : (q_u1 (q_u1 g 15 (nI p)) 20 (-1)) 14 = nI p := by rw [q_u1_n _ _ (by decide), q_u1_n _ _ (by decide)]; exact g14
  have w15 : (q_u1 (q_u1 g 15 (nI p)) 20 (-1)) 15 = nI p := by rw [q_u1_n _ _ (by decide), q_u1_s]
  have w20 : (q_u1 (q_u1 g 15 (nI p)) 20 (-1)) 20 = -1 := q_u1_s _ _ _
  have wo : ∀ k, k ≠ 15 → k ≠ 20 → (q_u1 (q_u1 g 15 (nI p)) 20 (-1)) k = g k := fun k a b => by rw [q_u1_n _ _ b, q_u1_n _ _ a]
  by_cases pl : p < L
  · rw [if_pos pl] at see see2
    have bb := hr p (by omega)
    obtain ⟨sL, sD, s32, s10, s59, sm, -, -⟩ := sv_L bb.1 bb.2
    have nb := hb pl
    unfold isB at nb
    have nb := of_decide_eq_false nb
    have n32 : ¬ sv (b p) = 32 := fun z => nb (Or.inl (s32.mp z))
    have n10 : ¬ sv (b p) = 10 := fun z => nb (Or.inr (s10.mp z))
    have te_ : te b L p = if isL (b p) then rn isL b (L - p) p else if isD (b p) then rn isD b (L - p) p else p + 1 := by unfold te; rw [if_neg (by omega)]
    have tk_ : tkq b L p = if isL (b p) then 1 else if isD (b p) then 2 else 3 := by unfold tkq; rw [if_neg (by omega)]
    have teL := (te_b (b := b) (L := L) p hp).1
    have teg := (te_b (b := b) (L := L) p hp).2.1
    by_cases l : isL (b p) = true
    · rw [if_pos l] at te_ tk_
      have nl := sL.mpr l
      have s1 : fX12_next_L0 n (j + 1) 366 (FM g c Z) = fX12_next_L96 n 366 (sv (b p)) (nI 1) 366 (FM (q_u1 (q_u1 g 15 (nI p)) 20 (-1)) c Z) := by
        rw [fX12_next_L0]
        have h := hs
        simp only [h.1, h.2.1, h.2.2, li_T, li_L, li_R, nm, bd, q_b, ne_eq, Nat.reduceEqDiff, reduceCtorEq, and_false, false_and, and_true, true_and, and_self, not_false_eq_true, not_true_eq_false, ↓reduceIte, k14, see, n32, n10, sI_FM, sa, k14a, k14b, see2, sm, m_isL hs2, bo_t nl, b1]
        rfl
      have s2 := m_96 (n := n) (c := c) h g2 (sv (b p)) (t := 1) (by omega)
      rw [if_neg (by decide)] at s2
      generalize hg0 : q_u1 (q_u1 g 15 (nI p)) 20 (-1) = g0 at *
      have x13 : (q_u1 (q_u1 (q_u1 g0 16 (nI 1)) 19 0) 17 0) 13 = nI L := by simp only [q_u1_is, Nat.reduceEqDiff, ↓reduceIte]; exact g2
      have x14 : (q_u1 (q_u1 (q_u1 g0 16 (nI 1)) 19 0) 17 0) 14 = nI p := by simp only [q_u1_is, Nat.reduceEqDiff, ↓reduceIte]; exact w14
      have x15 : (q_u1 (q_u1 (q_u1 g0 16 (nI 1)) 19 0) 17 0) 15 = nI p := by simp only [q_u1_is, Nat.reduceEqDiff, ↓reduceIte]; exact w15
      have x16 : (q_u1 (q_u1 (q_u1 g0 16 (nI 1)) 19 0) 17 0) 16 = nI 1 := by simp only [q_u1_is, Nat.reduceEqDiff, ↓reduceIte]
      have s3 := m_144 (n := n) h (q := p) (L - p) p _ 0 n (by omega) (by omega) (Nat.le_refl _) x13 x14 x15 x16 (by rw [Nat.sub_self]; rfl) (fun k h1 h2 => by omega)
      rw [← te_] at s3
      have y13 : (q_u1 (q_u1 (q_u1 (q_u1 g0 16 (nI 1)) 19 0) 17 0) 14 (nI (te b L p))) 13 = nI L := by rw [q_u1_n _ _ (by decide)]; exact x13
      have s4 := m_222o (n := n) (c := lN (c27 (lts b (min (te b L p - p) 6) p))) h y13 (t := 1) (by rw [q_u1_n _ _ (by decide)]; exact x16) (by omega) (by omega) (by omega)
      have s5 := m_295 (n := n) (c := lN (c27 (lts b (min (te b L p - p) 6) p))) h y13 (by omega) (q := p) (e := te b L p) (t := 1) teg teL (q_u1_s _ _ _) (by rw [q_u1_n _ _ (by decide)]; exact x15) (by rw [q_u1_n _ _ (by decide)]; exact x16) (by omega) (fun _ k h1 h2 => by
        have r := (rn_b isL b (L - p) p).2.2.1 k h1
        rw [← te_] at r
        exact r h2)
      rw [if_pos rfl] at s5
      rw [s1, s2, s3, s4, s5]
      congr 1
      congr 1
      have rj : rrJ b L p = lN (c27 (lts b (min (te b L p - p) 6) p)) := by unfold rrJ; rw [tk_, if_pos rfl]
      rw [rj, fin_eq (b := b) (L := L) (q := p) (g := g) (G := q_u1 (q_u1 (q_u1 (q_u1 (q_u1 (q_u1 g0 16 (nI 1)) 19 0) 17 0) 14 (nI (te b L p))) 18 (nI (te b L p - p))) 20 (kw (lts b (te b L p - p) p)))]
      · simp only [q_u1_is, Nat.reduceEqDiff, ↓reduceIte]
      · simp only [q_u1_is, Nat.reduceEqDiff, ↓reduceIte]; exact w15
      · simp only [q_u1_is, Nat.reduceEqDiff, ↓reduceIte, tk_]
      · simp only [q_u1_is, Nat.reduceEqDiff, ↓reduceIte, tk_]
      · simp only [q_u1_is, Nat.reduceEqDiff, ↓reduceIte]
      · simp only [q_u1_is, Nat.reduceEqDiff, ↓reduceIte, tk_]
      · simp only [q_u1_is, Nat.reduceEqDiff, ↓reduceIte, tk_]
      · intro k hk
        rw [q_u1_n _ _ (by omega), q_u1_n _ _ (by omega), q_u1_n _ _ (by omega), q_u1_n _ _ (by omega), q_u1_n _ _ (by omega), q_u1_n _ _ (by omega)]
        exact wo k (by omega) (by omega)
    · rw [if_neg l] at te_ tk_
      have nl : ¬ (97 ≤ sv (b p) ∧ sv (b p) ≤ 122) := fun z => l (sL.mp z)
      by_cases d : isD (b p) = true
      · rw [if_pos d] at te_ tk_
        have nd := sD.mpr d
        have s1 : fX12_next_L0 n (j + 1) 366 (FM g c Z) = fX12_next_L96 n 366 (sv (b p)) (nI 2) 366 (FM (q_u1 (q_u1 g 15 (nI p)) 20 (-1)) c Z) := by
          rw [fX12_next_L0]
          have h := hs
          simp only [h.1, h.2.1, h.2.2, li_T, li_L, li_R, nm, bd, q_b, ne_eq, Nat.reduceEqDiff, reduceCtorEq, and_false, false_and, and_true, true_and, and_self, not_false_eq_true, not_true_eq_false, ↓reduceIte, k14, see, n32, n10, sI_FM, sa, k14a, k14b, see2, sm, m_isL hs2, m_isD hs2, bo_f nl, bo_t nd, b1]
          rfl
        have s2 := m_96 (n := n) (c := c) h g2 (sv (b p)) (t := 2) (by omega)
        rw [if_neg (by decide)] at s2
        generalize hg0 : q_u1 (q_u1 g 15 (nI p)) 20 (-1) = g0 at *
        have x13 : (q_u1 (q_u1 (q_u1 g0 16 (nI 2)) 19 0) 17 0) 13 = nI L := by simp only [q_u1_is, Nat.reduceEqDiff, ↓reduceIte]; exact g2
        have x14 : (q_u1 (q_u1 (q_u1 g0 16 (nI 2)) 19 0) 17 0) 14 = nI p := by simp only [q_u1_is, Nat.reduceEqDiff, ↓reduceIte]; exact w14
        have x15 : (q_u1 (q_u1 (q_u1 g0 16 (nI 2)) 19 0) 17 0) 15 = nI p := by simp only [q_u1_is, Nat.reduceEqDiff, ↓reduceIte]; exact w15
        have x16 : (q_u1 (q_u1 (q_u1 g0 16 (nI 2)) 19 0) 17 0) 16 = nI 2 := by simp only [q_u1_is, Nat.reduceEqDiff, ↓reduceIte]
        have x19 : (q_u1 (q_u1 (q_u1 g0 16 (nI 2)) 19 0) 17 0) 19 = 0 := by simp only [q_u1_is, Nat.reduceEqDiff, ↓reduceIte]
        have s3 := m_144o (n := n) (c := 0) h x13 x16 (by omega) (by omega) (by omega)
        have s4 := m_222 (n := n) (c := 0) h (q := p) (L - p) p _ n (by omega) (by omega) (Nat.le_refl _) x13 x14 x15 x16 (by rw [x19, Nat.sub_self]; rfl) (fun k h1 h2 => by omega)
        rw [← te_] at s4
        have s5 := m_295 (n := n) (c := 0) (g := q_u1 (q_u1 (q_u1 (q_u1 (q_u1 g0 16 (nI 2)) 19 0) 17 0) 19 (nI (dgs b (min (te b L p - p) 9) p 0))) 14 (nI (te b L p))) h (by rw [q_u1_n _ _ (by decide), q_u1_n _ _ (by decide)]; exact x13) (by omega) (q := p) (e := te b L p) (t := 2) teg teL (q_u1_s _ _ _) (by rw [q_u1_n _ _ (by decide), q_u1_n _ _ (by decide)]; exact x15) (by rw [q_u1_n _ _ (by decide), q_u1_n _ _ (by decide)]; exact x16) (by omega) (fun z => absurd z (by decide))
        rw [if_neg (by decide)] at s5
        rw [s1, s2, s3, s4, s5]
        congr 1
        congr 1
        have rj : rrJ b L p = 0 := by unfold rrJ; rw [tk_, if_neg (by decide)]
        rw [rj, fin_eq (b := b) (L := L) (q := p) (g := g) (G := q_u1 (q_u1 (q_u1 (q_u1 (q_u1 (q_u1 g0 16 (nI 2)) 19 0) 17 0) 19 (nI (dgs b (min (te b L p - p) 9) p 0))) 14 (nI (te b L p))) 18 (nI (te b L p - p)))]
        · simp only [q_u1_is, Nat.reduceEqDiff, ↓reduceIte]
        · simp only [q_u1_is, Nat.reduceEqDiff, ↓reduceIte]; exact w15
        · simp only [q_u1_is, Nat.reduceEqDiff, ↓reduceIte, tk_]
        · simp only [q_u1_is, Nat.reduceEqDiff, ↓reduceIte, tk_]
        · simp only [q_u1_is, Nat.reduceEqDiff, ↓reduceIte]
        · simp only [q_u1_is, Nat.reduceEqDiff, ↓reduceIte, tk_]
        · simp only [q_u1_is, Nat.reduceEqDiff, ↓reduceIte, tk_]; exact w20
        · intro k hk
          rw [q_u1_n _ _ (by omega), q_u1_n _ _ (by omega), q_u1_n _ _ (by omega), q_u1_n _ _ (by omega), q_u1_n _ _ (by omega), q_u1_n _ _ (by omega)]
          exact wo k (by omega) (by omega)
      · rw [if_neg d] at te_ tk_
        have nd : ¬ (48 ≤ sv (b p) ∧ sv (b p) ≤ 57) := fun z => d (sD.mp z)
        have s1 : fX12_next_L0 n (j + 1) 366 (FM g c Z) = fX12_next_L96 n 366 (sv (b p)) (nI 3) 366 (FM (q_u1 (q_u1 g 15 (nI p)) 20 (-1)) c Z) := by
          rw [fX12_next_L0]
          have h := hs
          simp only [h.1, h.2.1, h.2.2, li_T, li_L, li_R, nm, bd, q_b, ne_eq, Nat.reduceEqDiff, reduceCtorEq, and_false, false_and, and_true, true_and, and_self, not_false_eq_true, not_true_eq_false, ↓reduceIte, k14, see, n32, n10, sI_FM, sa, k14a, k14b, see2, sm, m_isL hs2, m_isD hs2, bo_f nl, bo_f nd]
          rfl
        have s2 := m_96 (n := n) (c := c) h g2 (sv (b p)) (t := 3) (by omega)
        rw [if_pos rfl, w14, nI_1] at s2
        generalize hg0 : q_u1 (q_u1 g 15 (nI p)) 20 (-1) = g0 at *
        have x13 : (q_u1 (q_u1 (q_u1 (q_u1 g0 16 (nI 3)) 19 0) 17 (sv (b p))) 14 (nI (p + 1))) 13 = nI L := by simp only [q_u1_is, Nat.reduceEqDiff, ↓reduceIte]; exact g2
        have x14 : (q_u1 (q_u1 (q_u1 (q_u1 g0 16 (nI 3)) 19 0) 17 (sv (b p))) 14 (nI (p + 1))) 14 = nI (te b L p) := by rw [te_, q_u1_s]
        have x15 : (q_u1 (q_u1 (q_u1 (q_u1 g0 16 (nI 3)) 19 0) 17 (sv (b p))) 14 (nI (p + 1))) 15 = nI p := by simp only [q_u1_is, Nat.reduceEqDiff, ↓reduceIte]; exact w15
        have x16 : (q_u1 (q_u1 (q_u1 (q_u1 g0 16 (nI 3)) 19 0) 17 (sv (b p))) 14 (nI (p + 1))) 16 = nI 3 := by simp only [q_u1_is, Nat.reduceEqDiff, ↓reduceIte]
        have s3 := m_144o (n := n) (c := 0) h x13 x16 (by omega) (by omega) (by omega)
        have s4 := m_222o (n := n) (c := 0) h x13 x16 (by omega) (by omega) (by omega)
        have s5 := m_295 (n := n) (c := 0) h x13 (by omega) (q := p) (e := te b L p) (t := 3) teg teL x14 x15 x16 (by omega) (fun z => absurd z (by decide))
        rw [if_neg (by decide)] at s5
        rw [s1, s2, s3, s4, s5]
        congr 1
        congr 1
        have rj : rrJ b L p = 0 := by unfold rrJ; rw [tk_, if_neg (by decide)]
        rw [rj, fin_eq (b := b) (L := L) (q := p) (g := g) (G := q_u1 (q_u1 (q_u1 (q_u1 (q_u1 g0 16 (nI 3)) 19 0) 17 (sv (b p))) 14 (nI (p + 1))) 18 (nI (te b L p - p)))]
        · rw [q_u1_n _ _ (by decide)]; exact x14
        · simp only [q_u1_is, Nat.reduceEqDiff, ↓reduceIte]; exact w15
        · simp only [q_u1_is, Nat.reduceEqDiff, ↓reduceIte, tk_]
        · simp only [q_u1_is, Nat.reduceEqDiff, ↓reduceIte, tk_]
        · simp only [q_u1_is, Nat.reduceEqDiff, ↓reduceIte]
        · simp only [q_u1_is, Nat.reduceEqDiff, ↓reduceIte, tk_]
        · simp only [q_u1_is, Nat.reduceEqDiff, ↓reduceIte, tk_]; exact w20
        · intro k hk
          rw [q_u1_n _ _ (by omega), q_u1_n _ _ (by omega), q_u1_n _ _ (by omega), q_u1_n _ _ (by omega), q_u1_n _ _ (by omega)]
          exact wo k (by omega) (by omega)
  · rw [if_neg pl] at see see2
    have n32 : ¬ (-1 : Int32) = 32 := by decide
    have n10 : ¬ (-1 : Int32) = 10 := by decide
    have te_ : te b L p = p := by unfold te; rw [if_pos (by omega)]
    have tk_ : tkq b L p = 0 := by unfold tkq; rw [if_pos (by omega)]
    have s1 : fX12_next_L0 n (j + 1) 366 (FM g c Z) = fX12_next_L96 n 366 (-1) (nI 0) 366 (FM (q_u1 (q_u1 g 15 (nI p)) 20 (-1)) c Z) := by
      rw [fX12_next_L0]
      have h := hs
      simp only [h.1, h.2.1, h.2.2, li_T, li_L, li_R, nm, bd, q_b, ne_eq, Nat.reduceEqDiff, reduceCtorEq, and_false, false_and, and_true, true_and, and_self, not_false_eq_true, not_true_eq_false, ↓reduceIte, k14, see, n32, n10, sI_FM, sa, k14a, k14b, see2]
      rfl
    have s2 := m_96 (n := n) (c := c) h g2 (-1) (t := 0) (by omega)
    rw [if_neg (by decide)] at s2
    generalize hg0 : q_u1 (q_u1 g 15 (nI p)) 20 (-1) = g0 at *
    have x13 : (q_u1 (q_u1 (q_u1 g0 16 (nI 0)) 19 0) 17 0) 13 = nI L := by simp only [q_u1_is, Nat.reduceEqDiff, ↓reduceIte]; exact g2
    have x14 : (q_u1 (q_u1 (q_u1 g0 16 (nI 0)) 19 0) 17 0) 14 = nI p := by simp only [q_u1_is, Nat.reduceEqDiff, ↓reduceIte]; exact w14
    have x15 : (q_u1 (q_u1 (q_u1 g0 16 (nI 0)) 19 0) 17 0) 15 = nI p := by simp only [q_u1_is, Nat.reduceEqDiff, ↓reduceIte]; exact w15
    have x16 : (q_u1 (q_u1 (q_u1 g0 16 (nI 0)) 19 0) 17 0) 16 = nI 0 := by simp only [q_u1_is, Nat.reduceEqDiff, ↓reduceIte]
    have s3 := m_144o (n := n) (c := 0) h x13 x16 (by omega) (by omega) (by omega)
    have s4 := m_222o (n := n) (c := 0) h x13 x16 (by omega) (by omega) (by omega)
    have s5 := m_295 (n := n) (c := 0) h x13 (by omega) (q := p) (e := p) (t := 0) (Nat.le_refl _) hp x14 x15 x16 (by omega) (fun z => absurd z (by decide))
    rw [if_neg (by decide)] at s5
    rw [s1, s2, s3, s4, s5]
    congr 1
    congr 1
    have rj : rrJ b L p = 0 := by unfold rrJ; rw [tk_, if_neg (by decide)]
    rw [rj, fin_eq (b := b) (L := L) (q := p) (g := g) (G := q_u1 (q_u1 (q_u1 (q_u1 g0 16 (nI 0)) 19 0) 17 0) 18 (nI (p - p)))]
    · rw [te_, q_u1_n _ _ (by decide)]; exact x14
    · rw [q_u1_n _ _ (by decide)]; exact x15
    · simp only [q_u1_is, Nat.reduceEqDiff, ↓reduceIte, tk_]
    · simp only [q_u1_is, Nat.reduceEqDiff, ↓reduceIte, tk_]
    · rw [te_, q_u1_s]
    · simp only [q_u1_is, Nat.reduceEqDiff, ↓reduceIte, tk_]
    · simp only [q_u1_is, Nat.reduceEqDiff, ↓reduceIte, tk_]
      exact w20
    · intro k hk
      rw [q_u1_n _ _ (by omega), q_u1_n _ _ (by omega), q_u1_n _ _ (by omega), q_u1_n _ _ (by omega)]
      exact wo k (by omega) (by omega)
theorem m_nextL (h : Ref bk dr b L Z) (hn : 1000 ≤ n) : ∀ (d p : Nat) (g : Nat → Int32) (j : Nat), L - p ≤ d → d < j → p ≤ L → g 13 = nI L → g 14 = nI p → fX12_next_L0 n j 366 (FM g c Z) = some ((), FM (fun k => rrI b L (sk b L p) k (g k)) (rrJ b L (sk b L p)) Z) := by
  have hr := h.2.2.2.2.1
  have L7 := h.2.1
  intro d
  induction d with
  | zero =>
    intro p g j hd hj hp g13 g14
    obtain ⟨j, rfl⟩ : ∃ k, j = k + 1 := ⟨j - 1, by omega⟩
    have e : sk b L p = p := rn_e (by omega)
    rw [e]
    exact m_rest h hn hp g13 g14 (fun z => by omega) j
  | succ d ih =>
    intro p g j hd hj hp g13 g14
    obtain ⟨j, rfl⟩ : ∃ k, j = k + 1 := ⟨j - 1, by omega⟩
    by_cases pl : p < L
    · by_cases bl : isB (b p) = true
      · have e : sk b L p = sk b L (p + 1) := rn_1 pl bl
        have r := ih (p + 1) (q_u1 g 14 (nI (p + 1))) j (by omega) (by omega) (by omega) (by rw [q_u1_n _ _ (by decide)]; exact g13) (q_u1_s _ _ _)
        have hR := h.fm g c g13
        have hs := hR.1
        have see := m_see hR (k := p) hp
        rw [if_pos pl] at see
        have k14 := FM_I g c Z 14
        rw [g14] at k14
        have bb := hr p (by omega)
        obtain ⟨-, -, s32, s10, -, -, -, -⟩ := sv_L bb.1 bb.2
        unfold isB at bl
        have bl := of_decide_eq_true bl
        have fe : (fun k => rrI b L (sk b L (p + 1)) k (q_u1 g 14 (nI (p + 1)) k)) = fun k => rrI b L (sk b L p) k (g k) := by
          funext k
          rw [e, q_u1_is]
          by_cases k14 : k = 14
          · subst k14
            unfold rrI
            rw [if_pos rfl, if_pos rfl]
          · rw [if_neg k14]
        rw [fe, ← e] at r
        rw [fX12_next_L0]
        have h := hs
        by_cases c32 : b p = 32
        · have q32 := s32.mpr c32
          simp only [h.1, h.2.1, h.2.2, li_T, li_L, li_R, nm, bd, q_b, ne_eq, Nat.reduceEqDiff, reduceCtorEq, and_false, false_and, and_true, true_and, and_self, not_false_eq_true, not_true_eq_false, ↓reduceIte, k14, see, q32, fX12_next_L26, sI_FM, nI_1]
          exact r
        · have q10 := s10.mpr (bl.resolve_left c32)
          have n10 : ¬ (10 : Int32) = 32 := by decide
          simp only [h.1, h.2.1, h.2.2, li_T, li_L, li_R, nm, bd, q_b, ne_eq, Nat.reduceEqDiff, reduceCtorEq, and_false, false_and, and_true, true_and, and_self, not_false_eq_true, not_true_eq_false, ↓reduceIte, k14, see, q10, n10, fX12_next_L26, sI_FM, nI_1]
          exact r
      · have e : sk b L p = p := rn_0 pl bl
        rw [e]
        exact m_rest h hn hp g13 g14 (fun _ => by simpa using bl) j
    · have e : sk b L p = p := rn_e (by omega)
      rw [e]
      exact m_rest h hn hp g13 g14 (fun z => absurd z pl) j
end
