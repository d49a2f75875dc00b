/-! DEEDS: the reference's EVENTS, choices, DAYS; the class's -/
section
variable {bk dr T G H P : Nat} {X : Mm} {f : Nat → Int64} {w : Wt} {d : Nat → Int32}
theorem m_canBe (h : Shp bk dr X) (R : Rl T G f w) (hG : w.1 13 16 = nI G) (hP : mI X 366 7 = nI P) (hP5 : P ≤ 5) (p a b c : Int32) : fX12_canBe 366 p a b c (wJ X 367 f) = some (bo ((0 ≤ p ∧ p < nI P) ∧ G < 8 ∧ w.1 0 8 < a ∧ a ≤ b ∧ b ≤ c ∧ c ≤ 999), wJ X 367 f) := by
  have hG8 := R.2.1
  have e8 : (8 : Int32) ≤ nI G ↔ ¬ G < 8 := by
    rw [show (8 : Int32) = nI 8 from rfl, nI_leI (by omega) (by omega)]
    omega
  simp only [fX12_canBe, fX12_canBe_L48, h.1, h.2.1, h.2.2, li_T, li_L, li_R, nm, bd, q_b, ne_eq, Nat.reduceEqDiff, reduceCtorEq, and_false, false_and, and_true, true_and, and_self, not_false_eq_true, not_true_eq_false, ↓reduceIte, mT_wJ, mL_wJ, mR_wJ, mI_wJ, mJ_wJ, sJ_wJ, Nat.reduceLT, l60.1, l60.2.1, l60.2.2, l61.1, l61.2.1, l61.2.2, l62.1, l62.2.1, l62.2.2, m_isPaper h hP hP5, bo_0, m_em h R, hG, m_today h R, e8]
  by_cases g1 : 0 ≤ p ∧ p < nI P
  · rw [if_neg (fun z => z g1)]
    by_cases g2 : G < 8
    · rw [if_neg (fun z => z g2)]
      by_cases g3 : w.1 0 8 < a
      · rw [if_neg (i32_nle.mpr g3)]
        by_cases g4 : a ≤ b
        · rw [if_neg (i32_nlt.mpr g4)]
          by_cases g5 : b ≤ c
          · rw [if_neg (i32_nlt.mpr g5)]
            by_cases g6 : c ≤ 999
            · rw [if_neg (i32_nlt.mpr g6), bo_t ⟨g1, g2, g3, g4, g5, g6⟩]
            · rw [if_pos (i32_nle.mp g6), bo_f (fun z => g6 z.2.2.2.2.2)]
          · rw [if_pos (i32_nle.mp g5), bo_f (fun z => g5 z.2.2.2.2.1)]
        · rw [if_pos (i32_nle.mp g4), bo_f (fun z => g4 z.2.2.2.1)]
      · rw [if_pos (i32_nlt.mp g3), bo_f (fun z => g3 z.2.2.1)]
    · rw [if_pos g2, bo_f (fun z => g2 z.2.1)]
  · rw [if_pos g1, bo_f (fun z => g1 z.1)]
/-- a new EVENT's row, as the four deeds leave it -/
theorem PE.of {e : Nat} {g : Nat → Int64} {k0 a b c x : Int32} (h0 : d 0 = k0) (ha : d 8 = a) (hb : d 9 = b) (hc : d 10 = c) (hx : d 11 = x)
    (h : (∀ p, (p < 604 + 500 * e ∨ 604 + 500 * e + 500 ≤ p) → p ≠ 61 → g p = f p) ∧ g 61 = (nI (e + 1)).toInt64 ∧ (∀ k, 5 ≤ k → k < 500 → (k < 8 ∨ 12 ≤ k) → g (604 + 500 * e + k) = 0) ∧ g (604 + 500 * e + 0) = k0.toInt64 ∧ g (604 + 500 * e + 1) = (d 1).toInt64 ∧ g (604 + 500 * e + 2) = (d 13).toInt64 ∧ g (604 + 500 * e + 3) = (d 14).toInt64 ∧ g (604 + 500 * e + 4) = (d 15).toInt64 ∧
      g (604 + 500 * e + 8) = a.toInt64 ∧ g (604 + 500 * e + 9) = b.toInt64 ∧ g (604 + 500 * e + 10) = c.toInt64 ∧ g (604 + 500 * e + 11) = x.toInt64) {q : Nat} {u : Int64} (hq : q = 7 ∨ q = 12) (h7 : k0 = 3 → q = 7 ∧ u = (d 7).toInt64) (h12 : k0 = 2 → q = 12 ∧ u = (d 12).toInt64) : PE d e f (q_u1 g (604 + 500 * e + q) u) := by
  obtain ⟨g1, g2, g3, v0, v1, v2, v3, v4, v8, v9, v10, v11⟩ := h
  refine ⟨fun p h1 h2 => ?_, ?_, fun k h1 h2 => ?_, ?_, ?_, ?_, ?_, ?_, ?_, ?_, fun z => ?_, ?_, ?_, ?_, ?_, fun z => ?_, ?_, ?_⟩
  · rw [q_u1_n _ _ (by omega)]; exact g1 p h1 h2
  · rw [q_u1_n _ _ (by omega)]; exact g2
  · rw [q_u1_n _ _ (by omega)]; exact g3 k (by omega) h2 (by omega)
  · rw [q_u1_n _ _ (by omega), h0]; exact v0
  · rw [q_u1_n _ _ (by omega)]; exact v1
  · rw [q_u1_n _ _ (by omega)]; exact v2
  · rw [q_u1_n _ _ (by omega)]; exact v3
  · rw [q_u1_n _ _ (by omega)]; exact v4
  · rw [q_u1_n _ _ (by omega)]; exact g3 5 (by omega) (by omega) (by omega)
  · rw [q_u1_n _ _ (by omega)]; exact g3 6 (by omega) (by omega) (by omega)
  · obtain ⟨rfl, rfl⟩ := h7 (h0 ▸ z)
    exact q_u1_s _ _ _
  · rw [q_u1_n _ _ (by omega), ha]; exact v8
  · rw [q_u1_n _ _ (by omega), hb]; exact v9
  · rw [q_u1_n _ _ (by omega), hc]; exact v10
  · rw [q_u1_n _ _ (by omega), hx]; exact v11
  · obtain ⟨rfl, rfl⟩ := h12 (h0 ▸ z)
    exact q_u1_s _ _ _
  · rw [q_u1_n _ _ (by omega)]; exact g3 13 (by omega) (by omega) (by omega)
  · rw [q_u1_n _ _ (by omega)]; exact g3 14 (by omega) (by omega) (by omega)
theorem q_u1_same {α : Type} {f : Nat → α} {k : Nat} {v : α} (h : f k = v) : q_u1 f k v = f := by
  funext j
  unfold q_u1
  split
  · rename_i z
    rw [z]; exact h.symm
  · rfl
theorem m_pays (h : Shp bk dr X) (R : Rl T G f w) (hG : w.1 13 16 = nI G) (hP : mI X 366 7 = nI P) (hP5 : P ≤ 5) {n : Nat} (hn : 512 ≤ n) (h0 : d 0 = 0) (h8 : d 8 = 0) (h9 : d 9 = 1) (h11 : d 11 = 0) :
    (kE P G (w.1 0 8) d → Ex (fX12_pays n 366 (d 1) (d 10) (d 13) (d 14) (d 15) (wJ X 367 f)) fun r Y => r = nI G ∧ RX X T (G + 1) (N_ev d G w) Y) ∧ (¬ kE P G (w.1 0 8) d → fX12_pays n 366 (d 1) (d 10) (d 13) (d 14) (d 15) (wJ X 367 f) = some (-1, wJ X 367 f)) := by
  constructor
  · rintro ⟨g1, g2, g3, g4, g5⟩
    have c1 := g2.1 h0
    simp only [fX12_pays, h.1, h.2.1, h.2.2, li_T, li_L, li_R, nm, bd, q_b, ne_eq, Nat.reduceEqDiff, reduceCtorEq, and_false, false_and, and_true, true_and, and_self, not_false_eq_true, not_true_eq_false, ↓reduceIte, mT_wJ, mL_wJ, mR_wJ, mI_wJ, mJ_wJ, sJ_wJ, Nat.reduceLT, l60.1, l60.2.1, l60.2.2, l61.1, l61.2.1, l61.2.2, l62.1, l62.2.1, l62.2.2, m_canBe h R hG hP hP5, bo_t (⟨g1, g5, g3⟩ : (0 ≤ d 1 ∧ d 1 < nI P) ∧ G < 8 ∧ w.1 0 8 < d 13 ∧ d 13 ≤ d 14 ∧ d 14 ≤ d 15 ∧ d 15 ≤ 999), r_inb (d 10) 1 999 (lo := 1) (hi := 999) (by decide) (by decide), bo_t c1, b1]
    refine m_newE h R hG g5 hn 0 1 (d 10) 0 0 (d 1) (d 13) (d 14) (d 15) (K := fun r Y => some (r, Y)) fun g hg => .ret ⟨rfl, g, rfl, ?_⟩
    have pe := PE.of (d := d) h0 h8 h9 rfl h11 hg (q := 7) (u := 0) (Or.inl rfl) (fun z => absurd z (by decide)) (fun z => absurd z (by decide))
    rw [q_u1_same (hg.2.2.1 7 (by omega) (by omega) (by omega))] at pe
    exact R.event g5 pe
  · intro g
    simp only [fX12_pays, fX12_pays_L26, h.1, h.2.1, h.2.2, li_T, li_L, li_R, nm, bd, q_b, ne_eq, Nat.reduceEqDiff, reduceCtorEq, and_false, false_and, and_true, true_and, and_self, not_false_eq_true, not_true_eq_false, ↓reduceIte, mT_wJ, mL_wJ, mR_wJ, mI_wJ, mJ_wJ, sJ_wJ, Nat.reduceLT, l60.1, l60.2.1, l60.2.2, l61.1, l61.2.1, l61.2.2, l62.1, l62.2.1, l62.2.2, m_canBe h R hG hP hP5, bo_0, r_inb (d 10) 1 999 (lo := 1) (hi := 999) (by decide) (by decide)]
    by_cases g1 : (0 ≤ d 1 ∧ d 1 < nI P) ∧ G < 8 ∧ w.1 0 8 < d 13 ∧ d 13 ≤ d 14 ∧ d 14 ≤ d 15 ∧ d 15 ≤ 999
    · rw [if_neg (fun z => z g1)]
      by_cases g2 : 1 ≤ d 10 ∧ d 10 ≤ 999
      · exact absurd ⟨g1.1, ⟨fun _ => g2, fun z => absurd (h0.symm.trans z) (by decide), fun z => absurd h0 z⟩, g1.2.2, fun z => absurd (h0.symm.trans z) (by decide), g1.2.1⟩ g
      · rw [if_pos g2]
    · rw [if_pos g1]
theorem m_gives (h : Shp bk dr X) (R : Rl T G f w) (hG : w.1 13 16 = nI G) (hP : mI X 366 7 = nI P) (hP5 : P ≤ 5) {n : Nat} (hn : 512 ≤ n) (h0 : d 0 = 1) (h10 : d 10 = 0) :
    (kE P G (w.1 0 8) d → Ex (fX12_gives n 366 (d 1) (d 8) (d 9) (d 11) (d 13) (d 14) (d 15) (wJ X 367 f)) fun r Y => r = nI G ∧ RX X T (G + 1) (N_ev d G w) Y) ∧ (¬ kE P G (w.1 0 8) d → fX12_gives n 366 (d 1) (d 8) (d 9) (d 11) (d 13) (d 14) (d 15) (wJ X 367 f) = some (-1, wJ X 367 f)) := by
  have n0 : ¬ d 0 = 0 := by rw [h0]; decide
  have n2 : ¬ d 0 = 2 := by rw [h0]; decide
  have n3 : ¬ d 0 = 3 := by rw [h0]; decide
  constructor
  · rintro ⟨g1, g2, g3, g4, g5⟩
    obtain ⟨c1, c2, c3, c4⟩ := g2.2.2 n0
    simp only [fX12_gives, h.1, h.2.1, h.2.2, li_T, li_L, li_R, nm, bd, q_b, ne_eq, Nat.reduceEqDiff, reduceCtorEq, and_false, false_and, and_true, true_and, and_self, not_false_eq_true, not_true_eq_false, ↓reduceIte, mT_wJ, mL_wJ, mR_wJ, mI_wJ, mJ_wJ, sJ_wJ, Nat.reduceLT, l60.1, l60.2.1, l60.2.2, l61.1, l61.2.1, l61.2.2, l62.1, l62.2.1, l62.2.2, m_canBe h R hG hP hP5, bo_t (⟨g1, g5, g3⟩ : (0 ≤ d 1 ∧ d 1 < nI P) ∧ G < 8 ∧ w.1 0 8 < d 13 ∧ d 13 ≤ d 14 ∧ d 14 ≤ d 15 ∧ d 15 ≤ 999), r_inb (d 8) 1 9 (lo := 1) (hi := 9) (by decide) (by decide), r_inb (d 9) 1 9 (lo := 1) (hi := 9) (by decide) (by decide), r_inb (d 11) 0 999 (lo := 0) (hi := 999) (by decide) (by decide), bo_t c1, bo_t c2, bo_t c4, b1]
    refine m_newE h R hG g5 hn (d 8) (d 9) 0 (d 11) 1 (d 1) (d 13) (d 14) (d 15) (K := fun r Y => some (r, Y)) fun g hg => .ret ⟨rfl, g, rfl, ?_⟩
    have pe := PE.of (d := d) h0 rfl rfl h10 rfl hg (q := 7) (u := 0) (Or.inl rfl) (fun z => absurd z (by decide)) (fun z => absurd z (by decide))
    rw [q_u1_same (hg.2.2.1 7 (by omega) (by omega) (by omega))] at pe
    exact R.event g5 pe
  · intro g
    simp only [fX12_gives, fX12_gives_L54, h.1, h.2.1, h.2.2, li_T, li_L, li_R, nm, bd, q_b, ne_eq, Nat.reduceEqDiff, reduceCtorEq, and_false, false_and, and_true, true_and, and_self, not_false_eq_true, not_true_eq_false, ↓reduceIte, mT_wJ, mL_wJ, mR_wJ, mI_wJ, mJ_wJ, sJ_wJ, Nat.reduceLT, l60.1, l60.2.1, l60.2.2, l61.1, l61.2.1, l61.2.2, l62.1, l62.2.1, l62.2.2, m_canBe h R hG hP hP5, bo_0, r_inb (d 8) 1 9 (lo := 1) (hi := 9) (by decide) (by decide), r_inb (d 9) 1 9 (lo := 1) (hi := 9) (by decide) (by decide), r_inb (d 11) 0 999 (lo := 0) (hi := 999) (by decide) (by decide)]
    by_cases g1 : (0 ≤ d 1 ∧ d 1 < nI P) ∧ G < 8 ∧ w.1 0 8 < d 13 ∧ d 13 ≤ d 14 ∧ d 14 ≤ d 15 ∧ d 15 ≤ 999
    · rw [if_neg (fun z => z g1)]
      by_cases c1 : 1 ≤ d 8 ∧ d 8 ≤ 9
      · rw [if_neg (fun z => z c1)]
        by_cases c2 : 1 ≤ d 9 ∧ d 9 ≤ 9
        · rw [if_neg (fun z => z c2)]
          by_cases c4 : 0 ≤ d 11 ∧ d 11 ≤ 999
          · exact absurd ⟨g1.1, ⟨fun z => absurd z n0, fun z => absurd z n3, fun _ => ⟨c1, c2, by rw [h10]; decide, c4⟩⟩, g1.2.2, fun z => absurd z n2, g1.2.1⟩ g
          · rw [if_pos c4]
        · rw [if_pos c2]
      · rw [if_pos c1]
    · rw [if_pos g1]
theorem m_offers (h : Shp bk dr X) (R : Rl T G f w) (hG : w.1 13 16 = nI G) (hP : mI X 366 7 = nI P) (hP5 : P ≤ 5) {n : Nat} (hn : 512 ≤ n) (h0 : d 0 = 2) :
    (kE P G (w.1 0 8) d → Ex (fX12_offers n 366 (d 1) (d 8) (d 9) (d 10) (d 11) (d 12) (d 13) (d 14) (d 15) (wJ X 367 f)) fun r Y => r = nI G ∧ RX X T (G + 1) (N_ev d G w) Y) ∧ (¬ kE P G (w.1 0 8) d → fX12_offers n 366 (d 1) (d 8) (d 9) (d 10) (d 11) (d 12) (d 13) (d 14) (d 15) (wJ X 367 f) = some (-1, wJ X 367 f)) := by
  have n0 : ¬ d 0 = 0 := by rw [h0]; decide
  have n3 : ¬ d 0 = 3 := by rw [h0]; decide
  have e8 : G ≤ 8 := R.2.1
  constructor
  · rintro ⟨g1, g2, g3, g4, g5⟩
    have e8 := g5
    obtain ⟨c1, c2, c3, c4⟩ := g2.2.2 n0
    have c5 := g4 h0
    simp only [fX12_offers, h.1, h.2.1, h.2.2, li_T, li_L, li_R, nm, bd, q_b, ne_eq, Nat.reduceEqDiff, reduceCtorEq, and_false, false_and, and_true, true_and, and_self, not_false_eq_true, not_true_eq_false, ↓reduceIte, mT_wJ, mL_wJ, mR_wJ, mI_wJ, mJ_wJ, sJ_wJ, Nat.reduceLT, l60.1, l60.2.1, l60.2.2, l61.1, l61.2.1, l61.2.2, l62.1, l62.2.1, l62.2.2, m_canBe h R hG hP hP5, bo_t (⟨g1, g5, g3⟩ : (0 ≤ d 1 ∧ d 1 < nI P) ∧ G < 8 ∧ w.1 0 8 < d 13 ∧ d 13 ≤ d 14 ∧ d 14 ≤ d 15 ∧ d 15 ≤ 999), r_inb (d 8) 1 9 (lo := 1) (hi := 9) (by decide) (by decide), r_inb (d 9) 1 9 (lo := 1) (hi := 9) (by decide) (by decide), r_inb (d 10) 0 999 (lo := 0) (hi := 999) (by decide) (by decide), r_inb (d 11) 0 999 (lo := 0) (hi := 999) (by decide) (by decide), r_inb (d 12) (d 14) (d 15) rfl rfl, bo_t c1, bo_t c2, bo_t c3, bo_t c4, bo_t c5, b1]
    refine m_newE h R hG g5 hn (d 8) (d 9) (d 10) (d 11) 2 (d 1) (d 13) (d 14) (d 15) (K := fun r Y => if mT Y 366 = 12 then if mR Y 366 1 ≠ 0 then bd (fX12_of 366 r 12 Y) fun q Z => if mT Z (mR Y 366 1) = 15 then if q_b Z (mR Y 366 1) q then nm (sJ Z (mR Y 366 1) q.toNatClampNeg (d 12).toInt64) fun V => some (r, V) else none else none else none else none) fun g hg => ?_
    simp only [h.1, h.2.1, h.2.2, li_T, li_L, li_R, nm, bd, q_b, ne_eq, Nat.reduceEqDiff, reduceCtorEq, and_false, false_and, and_true, true_and, and_self, not_false_eq_true, not_true_eq_false, ↓reduceIte, mT_wJ, mL_wJ, mR_wJ, mI_wJ, mJ_wJ, sJ_wJ, Nat.reduceLT, l60.1, l60.2.1, l60.2.2, l61.1, l61.2.1, l61.2.2, l62.1, l62.2.1, l62.2.2, r_of12, bE1 e8, bE2 e8, bE3 e8]
    refine .ret ⟨rfl, _, rfl, ?_⟩
    exact R.event g5 (PE.of (d := d) h0 rfl rfl rfl rfl hg (q := 12) (u := (d 12).toInt64) (Or.inr rfl) (fun z => absurd z (by decide)) (fun _ => ⟨rfl, rfl⟩))
  · intro g
    simp only [fX12_offers, fX12_offers_L84, h.1, h.2.1, h.2.2, li_T, li_L, li_R, nm, bd, q_b, ne_eq, Nat.reduceEqDiff, reduceCtorEq, and_false, false_and, and_true, true_and, and_self, not_false_eq_true, not_true_eq_false, ↓reduceIte, mT_wJ, mL_wJ, mR_wJ, mI_wJ, mJ_wJ, sJ_wJ, Nat.reduceLT, l60.1, l60.2.1, l60.2.2, l61.1, l61.2.1, l61.2.2, l62.1, l62.2.1, l62.2.2, m_canBe h R hG hP hP5, bo_0, r_inb (d 8) 1 9 (lo := 1) (hi := 9) (by decide) (by decide), r_inb (d 9) 1 9 (lo := 1) (hi := 9) (by decide) (by decide), r_inb (d 10) 0 999 (lo := 0) (hi := 999) (by decide) (by decide), r_inb (d 11) 0 999 (lo := 0) (hi := 999) (by decide) (by decide), r_inb (d 12) (d 14) (d 15) rfl rfl]
    by_cases g1 : (0 ≤ d 1 ∧ d 1 < nI P) ∧ G < 8 ∧ w.1 0 8 < d 13 ∧ d 13 ≤ d 14 ∧ d 14 ≤ d 15 ∧ d 15 ≤ 999
    · rw [if_neg (fun z => z g1)]
      by_cases c1 : 1 ≤ d 8 ∧ d 8 ≤ 9
      · rw [if_neg (fun z => z c1)]
        by_cases c2 : 1 ≤ d 9 ∧ d 9 ≤ 9
        · rw [if_neg (fun z => z c2)]
          by_cases c3 : 0 ≤ d 10 ∧ d 10 ≤ 999
          · rw [if_neg (fun z => z c3)]
            by_cases c4 : 0 ≤ d 11 ∧ d 11 ≤ 999
            · rw [if_neg (fun z => z c4)]
              by_cases c5 : d 14 ≤ d 12 ∧ d 12 ≤ d 15
              · exact absurd ⟨g1.1, ⟨fun z => absurd z n0, fun z => absurd z n3, fun _ => ⟨c1, c2, c3, c4⟩⟩, g1.2.2, fun _ => c5, g1.2.1⟩ g
              · rw [if_pos c5]
            · rw [if_pos c4]
          · rw [if_pos c3]
        · rw [if_pos c2]
      · rw [if_pos c1]
    · rw [if_pos g1]
theorem m_turns (h : Shp bk dr X) (R : Rl T G f w) (hG : w.1 13 16 = nI G) (hP : mI X 366 7 = nI P) (hP5 : P ≤ 5) {n : Nat} (hn : 512 ≤ n) (h0 : d 0 = 3) (h13 : d 13 = d 14) (h15 : d 15 = d 14) :
    (kE P G (w.1 0 8) d → Ex (fX12_turns n 366 (d 1) (d 7) (d 8) (d 9) (d 10) (d 11) (d 14) (wJ X 367 f)) fun r Y => r = nI G ∧ RX X T (G + 1) (N_ev d G w) Y) ∧ (¬ kE P G (w.1 0 8) d → fX12_turns n 366 (d 1) (d 7) (d 8) (d 9) (d 10) (d 11) (d 14) (wJ X 367 f) = some (-1, wJ X 367 f)) := by
  have n0 : ¬ d 0 = 0 := by rw [h0]; decide
  have n2 : ¬ d 0 = 2 := by rw [h0]; decide
  have e8 : G ≤ 8 := R.2.1
  constructor
  · rintro ⟨g1, g2, g3, g4, g5⟩
    have e8 := g5
    obtain ⟨c1, c2, c3, c4⟩ := g2.2.2 n0
    obtain ⟨c5, c6⟩ := g2.2.1 h0
    unfold kD at g3
    rw [h13, h15] at g3
    simp only [fX12_turns, h.1, h.2.1, h.2.2, li_T, li_L, li_R, nm, bd, q_b, ne_eq, Nat.reduceEqDiff, reduceCtorEq, and_false, false_and, and_true, true_and, and_self, not_false_eq_true, not_true_eq_false, ↓reduceIte, mT_wJ, mL_wJ, mR_wJ, mI_wJ, mJ_wJ, sJ_wJ, Nat.reduceLT, l60.1, l60.2.1, l60.2.2, l61.1, l61.2.1, l61.2.2, l62.1, l62.2.1, l62.2.2, m_canBe h R hG hP hP5, bo_t (⟨g1, g5, g3⟩ : (0 ≤ d 1 ∧ d 1 < nI P) ∧ G < 8 ∧ w.1 0 8 < d 14 ∧ d 14 ≤ d 14 ∧ d 14 ≤ d 14 ∧ d 14 ≤ 999), m_isPaper h hP hP5, c6, r_inb (d 8) 1 9 (lo := 1) (hi := 9) (by decide) (by decide), r_inb (d 9) 1 9 (lo := 1) (hi := 9) (by decide) (by decide), r_inb (d 10) 0 999 (lo := 0) (hi := 999) (by decide) (by decide), r_inb (d 11) 0 999 (lo := 0) (hi := 999) (by decide) (by decide), bo_t c1, bo_t c2, bo_t c3, bo_t c4, bo_t c5, b1]
    refine m_newE h R hG g5 hn (d 8) (d 9) (d 10) (d 11) 3 (d 1) (d 14) (d 14) (d 14) (K := fun r Y => if mT Y 366 = 12 then if mR Y 366 1 ≠ 0 then bd (fX12_of 366 r 7 Y) fun q Z => if mT Z (mR Y 366 1) = 15 then if q_b Z (mR Y 366 1) q then nm (sJ Z (mR Y 366 1) q.toNatClampNeg (d 7).toInt64) fun V => some (r, V) else none else none else none else none) fun g hg => ?_
    simp only [h.1, h.2.1, h.2.2, li_T, li_L, li_R, nm, bd, q_b, ne_eq, Nat.reduceEqDiff, reduceCtorEq, and_false, false_and, and_true, true_and, and_self, not_false_eq_true, not_true_eq_false, ↓reduceIte, mT_wJ, mL_wJ, mR_wJ, mI_wJ, mJ_wJ, sJ_wJ, Nat.reduceLT, l60.1, l60.2.1, l60.2.2, l61.1, l61.2.1, l61.2.2, l62.1, l62.2.1, l62.2.2, r_of7, bE1 e8, bE2 e8, bE3 e8]
    refine .ret ⟨rfl, _, rfl, ?_⟩
    have hg' := hg
    rw [← h13] at hg'
    exact R.event g5 (PE.of (d := d) h0 rfl rfl rfl rfl ⟨hg.1, hg.2.1, hg.2.2.1, hg.2.2.2.1, hg.2.2.2.2.1, by rw [h13]; exact hg.2.2.2.2.2.1, hg.2.2.2.2.2.2.1, by rw [h15]; exact hg.2.2.2.2.2.2.2.1, hg.2.2.2.2.2.2.2.2⟩ (q := 7) (u := (d 7).toInt64) (Or.inl rfl) (fun _ => ⟨rfl, rfl⟩) (fun z => absurd z (by decide)))
  · intro g
    simp only [fX12_turns, fX12_turns_L82, h.1, h.2.1, h.2.2, li_T, li_L, li_R, nm, bd, q_b, ne_eq, Nat.reduceEqDiff, reduceCtorEq, and_false, false_and, and_true, true_and, and_self, not_false_eq_true, not_true_eq_false, ↓reduceIte, mT_wJ, mL_wJ, mR_wJ, mI_wJ, mJ_wJ, sJ_wJ, Nat.reduceLT, l60.1, l60.2.1, l60.2.2, l61.1, l61.2.1, l61.2.2, l62.1, l62.2.1, l62.2.2, m_canBe h R hG hP hP5, bo_0, m_isPaper h hP hP5, r_inb (d 8) 1 9 (lo := 1) (hi := 9) (by decide) (by decide), r_inb (d 9) 1 9 (lo := 1) (hi := 9) (by decide) (by decide), r_inb (d 10) 0 999 (lo := 0) (hi := 999) (by decide) (by decide), r_inb (d 11) 0 999 (lo := 0) (hi := 999) (by decide) (by decide)]
    by_cases g1 : (0 ≤ d 1 ∧ d 1 < nI P) ∧ G < 8 ∧ w.1 0 8 < d 14 ∧ d 14 ≤ d 14 ∧ d 14 ≤ d 14 ∧ d 14 ≤ 999
    · rw [if_neg (fun z => z g1)]
      by_cases c5 : 0 ≤ d 7 ∧ d 7 < nI P
      · rw [if_neg (fun z => z c5)]
        by_cases c6 : d 7 = d 1
        · rw [if_pos c6]
        · rw [if_neg c6]
          by_cases c1 : 1 ≤ d 8 ∧ d 8 ≤ 9
          · rw [if_neg (fun z => z c1)]
            by_cases c2 : 1 ≤ d 9 ∧ d 9 ≤ 9
            · rw [if_neg (fun z => z c2)]
              by_cases c3 : 0 ≤ d 10 ∧ d 10 ≤ 999
              · rw [if_neg (fun z => z c3)]
                by_cases c4 : 0 ≤ d 11 ∧ d 11 ≤ 999
                · exact absurd ⟨g1.1, ⟨fun z => absurd z n0, fun _ => ⟨c5, c6⟩, fun _ => ⟨c1, c2, c3, c4⟩⟩, by unfold kD; rw [h13, h15]; exact g1.2.2, fun z => absurd z n2, g1.2.1⟩ g
                · rw [if_pos c4]
              · rw [if_pos c3]
            · rw [if_pos c2]
          · rw [if_pos c1]
      · rw [if_pos c5]
    · rw [if_pos g1]
end
