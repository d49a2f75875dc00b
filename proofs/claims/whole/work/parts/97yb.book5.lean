/-! TEXTS: the lines of a book -/
section
variable (b : Nat → Int32) (L : Nat)
noncomputable def ls : Nat → St3 × Bk
| 0 => ((0, 0, -1), (fun _ => [], 0, fun _ => [], 0, fun _ => 0))
| i + 1 => (lnS b L (ls i).2 (ls i).1, lnD b L (ls i).2 (ls i).1)
def Gln (i : Nat) : Prop := (ls b L i).1.2.1 = 0 ∧ kd b L (ls b L i).1.1 ≠ 0
end
section
variable {b : Nat → Int32} {L : Nat} {bk dr n K : Nat} {X W Z : Mm} {s t : St3} {D : Bk}
theorem ln_sz (hf : s.2.1 = 0) (z : (lnS b L D s).2.1 = 0) (hH : D.2.1 ≤ 10) (hP : D.2.2.2.1 ≤ 5) : (lnD b L D s).2.1 ≤ 10 ∧ (lnD b L D s).2.2.2.1 ≤ 5 := by
  have z2 := ((aS_go _).2.1 z).1
  unfold lnT at z2
  unfold lnD
  by_cases a0 : AW b L 0 s.1
  · rw [if_pos a0] at z2 ⊢
    by_cases y : D.2.1 = 10
    · rw [if_pos y] at z2; exact absurd z2 (aF_f (by decide) s)
    · exact ⟨by show D.2.1 + 1 ≤ 10; omega, hP⟩
  · rw [if_neg a0] at z2 ⊢
    by_cases a1 : AW b L 1 s.1
    · rw [if_pos a1] at z2 ⊢
      by_cases y : D.2.2.2.1 = 5
      · rw [if_pos y] at z2; exact absurd z2 (aF_f (by decide) s)
      · exact ⟨hH, by show D.2.2.2.1 + 1 ≤ 5; omega⟩
    · rw [if_neg a1]
      exact ⟨hH, hP⟩
theorem ls_go : ∀ i, (∀ j, j < i → Gln b L j) → VI b L (ls b L i).1.1 ∧ ((ls b L i).1.2.1 = 0 → i ≤ (ls b L i).1.1 ∧ (ls b L i).2.2.1 ≤ 10 ∧ (ls b L i).2.2.2.2.1 ≤ 5) := by
  intro i
  induction i with
  | zero => intro _; exact ⟨VI0, fun _ => ⟨Nat.zero_le _, Nat.zero_le _, Nat.zero_le _⟩⟩
  | succ i ih =>
    intro h
    obtain ⟨i1, i2⟩ := ih (fun j hj => h j (by omega))
    have gi := h i (by omega)
    obtain ⟨j1, j2, j3⟩ := i2 gi.1
    have g := lnT_go (D := (ls b L i).2) gi.1 i1
    have a := aS_go (b := b) (L := L) (lnT b L (ls b L i).2 (ls b L i).1)
    refine ⟨a.1 g.1, fun z => ⟨?_, ln_sz gi.1 z j2 j3⟩⟩
    have q : (ls b L (i + 1)).1.1 = (lnT b L (ls b L i).2 (ls b L i).1).1 + 1 := (a.2.1 z).2
    have := g.2
    omega
theorem K_lines (hL : L ≤ 700) : ∃ K, K ≤ 700 ∧ (∀ i, i < K → Gln b L i ∧ i < 700 ∧ (ls b L i).2.2.1 ≤ 10 ∧ (ls b L i).2.2.2.2.1 ≤ 5) ∧ ¬ Gln b L K ∧ (∀ i, i ≤ K → VI b L (ls b L i).1.1) ∧ ((ls b L K).1.2.1 = 0 → (ls b L K).2.2.1 ≤ 10 ∧ (ls b L K).2.2.2.2.1 ≤ 5) := by
  have ex : ∃ K, ¬ Gln b L K := by
    refine Classical.byContradiction fun h => ?_
    have all : ∀ i, Gln b L i := fun i => Classical.byContradiction fun q => h ⟨i, q⟩
    have a := ls_go (b := b) (L := L) 701 (fun j _ => all j)
    have c := a.1.le
    have d := (a.2 (all 701).1).1
    omega
  obtain ⟨K, h1, h2⟩ := pk_least (fun K => ¬ Gln b L K) ex
  have h3 : ∀ j, j < K → Gln b L j := fun j hj => Classical.byContradiction fun q => h2 j hj q
  have h4 : ∀ i, i < K → i < 700 ∧ (ls b L i).2.2.1 ≤ 10 ∧ (ls b L i).2.2.2.2.1 ≤ 5 := fun i hi => by
    have a := ls_go i (fun j hj => h3 j (by omega))
    have c := (a.1.kd0 (h3 i hi).2).le
    have d := a.2 (h3 i hi).1
    exact ⟨by omega, d.2⟩
  refine ⟨K, ?_, fun i hi => ⟨h3 i hi, h4 i hi⟩, h1, fun i hi => (ls_go i (fun j hj => h3 j (by omega))).1, fun z => ((ls_go K (fun j hj => h3 j hj)).2 z).2⟩
  by_cases z : K = 0
  · omega
  · have := (h4 (K - 1) (by omega)).1
    omega
theorem CF.trans {W1 W2 : Mm} (h : CF bk dr W W1) (g : CF bk dr W1 W2) : CF bk dr W W2 := ⟨g.1, fun c k a1 a2 a3 => (g.2.1 c k a1 a2 a3).trans (h.2.1 c k a1 a2 a3), fun c k a => (g.2.2 c k a).trans (h.2.2 c k a)⟩
theorem RFr.trans {Z1 Z2 : Mm} (h : RFr bk dr Z Z1) (g : RFr bk dr Z1 Z2) : RFr bk dr Z Z2 := ⟨g.1, fun c k a1 a2 => (g.2.1 c k a1 a2).trans (h.2.1 c k a1 a2), fun c a1 a2 => (g.2.2 c a1 a2).trans (h.2.2 c a1 a2)⟩
theorem c_L37 (hb : Bks bk dr) (hn : 1000 ≤ n) (hK : K ≤ 700) (k1 : ∀ i, i < K → Gln b L i ∧ i < 700) (k2 : ¬ Gln b L K) (k3 : ∀ i, i ≤ K → VI b L (ls b L i).1.1) : ∀ r i W j, i + r = K → r < j → CTok b L bk dr W → ((ls b L i).1.2.1 = 0 → BDD dr (ls b L i).2 W) → ∃ W', fX0_readBook_L37 n j dr 2 (nI i) (U2 (ls b L i).1 W) = fX0_readBook_L62 n 2 (nI K) (U2 (ls b L K).1 W') ∧ CF bk dr W W' ∧ ((ls b L K).1.2.1 = 0 → BDD dr (ls b L K).2 W') := by
  have b7 : dr = 7 ∨ dr = 11 := by rcases hb with z | z <;> omega
  have tb := (dr_R hb).1
  intro r
  induction r with
  | zero =>
    intro i W j hi hj h hd
    obtain ⟨j, rfl⟩ : ∃ k, j = k + 1 := ⟨j - 1, by omega⟩
    obtain rfl : i = K := by omega
    refine ⟨W, ?_, ⟨h.1, fun _ _ _ _ _ => rfl, fun _ _ _ => rfl⟩, hd⟩
    rw [fX0_readBook_L37]
    by_cases q : (700 : Int32) ≤ nI i
    · rw [if_pos q]
    · have go := c_goes h (k3 i (Nat.le_refl _))
      rw [bo_f (fun q : (ls b L i).1.2.1 = 0 ∧ ¬ kd b L (ls b L i).1.1 = 0 => k2 ⟨q.1, q.2⟩)] at go
      have hs := h.u (ls b L i).1
      have h := hs
      simp only [h.1, h.2.1, h.2.2, li_T, li_L, li_R, nm, bd, q_b, ne_eq, Nat.reduceEqDiff, reduceCtorEq, and_false, false_and, and_true, true_and, and_self, not_false_eq_true, not_true_eq_false, ↓reduceIte, q, go]
  | succ r ih =>
    intro i W j hi hj h hd
    obtain ⟨j, rfl⟩ : ∃ k, j = k + 1 := ⟨j - 1, by omega⟩
    have gi := k1 i (by omega)
    have e7 : ¬ (700 : Int32) ≤ nI i := nI_ge (a := i) (b := 700) (by omega) (by omega)
    have go := c_goes h (k3 i (by omega))
    rw [bo_t ⟨gi.1.1, gi.1.2⟩] at go
    obtain ⟨W1, e1, cf, bd_⟩ := c_line (n := n) h hb (hd gi.1.1) hn gi.1.1 (k3 i (by omega))
    have h1 := h.cg cf.1 (fun c k hc => cf.2.1 c k (by omega) (by omega) (by omega))
    obtain ⟨W2, e2, cf2, bd2⟩ := ih (i + 1) W1 j (by omega) (by omega) h1 bd_
    refine ⟨W2, ?_, cf.trans cf2, bd2⟩
    rw [← e2]
    have hs := h.u (ls b L i).1
    have h := hs
    rw [fX0_readBook_L37]
    simp only [h.1, h.2.1, h.2.2, li_T, li_L, li_R, nm, bd, q_b, ne_eq, Nat.reduceEqDiff, reduceCtorEq, and_false, false_and, and_true, true_and, and_self, not_false_eq_true, not_true_eq_false, ↓reduceIte, e7, go, b1, tb, e1, nI_1]
    rfl
theorem m_L42 (hn : 1000 ≤ n) (k1 : ∀ i, i < K → Gln b L i ∧ i < 700 ∧ (ls b L i).2.2.1 ≤ 10 ∧ (ls b L i).2.2.2.2.1 ≤ 5) (k2 : ¬ Gln b L K) : ∀ r i Z j, i + r = K → r < j → Ref bk dr b L Z → ((ls b L i).1.2.1 = 0 → BRD (ls b L i).2 Z) → ∃ Z', fX12_book_L42 n j 366 (nI i) (RS b L (ls b L i).1 Z) = fX12_book_L71 n 366 (nI K) (RS b L (ls b L K).1 Z') ∧ Ref bk dr b L Z' ∧ RFr bk dr Z Z' ∧ ((ls b L K).1.2.1 = 0 → BRD (ls b L K).2 Z') := by
  intro r
  induction r with
  | zero =>
    intro i Z j hi hj rf hd
    obtain ⟨j, rfl⟩ : ∃ k, j = k + 1 := ⟨j - 1, by omega⟩
    obtain rfl : i = K := by omega
    refine ⟨Z, ?_, rf, ⟨rf.1, fun _ _ _ _ => rfl, fun _ _ _ => rfl⟩, hd⟩
    have fi := m_fine rf (ls b L i).1
    have f3 := (RS_f (b := b) (L := L) (ls b L i).1 Z).2.2.1
    have hs := (rf.rs (ls b L i).1).1
    rw [fX12_book_L42]
    by_cases z : (ls b L i).1.2.1 = 0
    · have kz : kd b L (ls b L i).1.1 = 0 := Classical.byContradiction fun q => k2 ⟨z, q⟩
      have t0 := (tk_is (b := b) (L := L) (q := fr b L (ls b L i).1.1) (t := 0) (m := 0) rfl (by omega)).mpr (kd_k0.mpr kz)
      rw [bo_t z] at fi
      have h := hs
      simp only [h.1, h.2.1, h.2.2, li_T, li_L, li_R, nm, bd, q_b, ne_eq, Nat.reduceEqDiff, reduceCtorEq, and_false, false_and, and_true, true_and, and_self, not_false_eq_true, not_true_eq_false, ↓reduceIte, fi, b1, f3, t0]
    · rw [bo_f z] at fi
      have h := hs
      simp only [h.1, h.2.1, h.2.2, li_T, li_L, li_R, nm, bd, q_b, ne_eq, Nat.reduceEqDiff, reduceCtorEq, and_false, false_and, and_true, true_and, and_self, not_false_eq_true, not_true_eq_false, ↓reduceIte, fi]
  | succ r ih =>
    intro i Z j hi hj rf hd
    obtain ⟨j, rfl⟩ : ∃ k, j = k + 1 := ⟨j - 1, by omega⟩
    have gi := k1 i (by omega)
    obtain ⟨Z', e1, e2, rf2, fr1, bd_⟩ := m_line (n := n) rf (hd gi.1.1) gi.2.2.1 gi.2.2.2 hn gi.1.1
    obtain ⟨Z2, e4, rf3, fr2, bd2⟩ := ih (i + 1) Z' j (by omega) (by omega) rf2 bd_
    refine ⟨Z2, ?_, rf3, fr1.trans fr2, bd2⟩
    rw [← e4]
    have fi := m_fine rf (ls b L i).1
    have f3 := (RS_f (b := b) (L := L) (ls b L i).1 Z).2.2.1
    have t0 : ¬ nI (tkq b L (fr b L (ls b L i).1.1)) = 0 := fun q => gi.1.2 (kd_k0.mp ((tk_is (b := b) (L := L) (t := 0) (m := 0) rfl (by omega)).mp q))
    rw [bo_t gi.1.1] at fi
    have hs := (rf.rs (ls b L i).1).1
    have e3' := (rf2.rs (lnT b L (ls b L i).2 (ls b L i).1)).1.1
    have h := hs
    rw [fX12_book_L42]
    simp only [h.1, h.2.1, h.2.2, li_T, li_L, li_R, nm, bd, q_b, ne_eq, Nat.reduceEqDiff, reduceCtorEq, and_false, false_and, and_true, true_and, and_self, not_false_eq_true, not_true_eq_false, ↓reduceIte, fi, b1, f3, t0, e1, e3', e2, nI_1]
    rfl
theorem c_L14 (hb : Bks bk dr) (v2 : Int32) : ∀ r i X j, i + r = 50 → r < j → Shp bk dr X → ∃ X', fX0_readBook_L14 n j dr 2 v2 (nI i) X = (bd (fX9_startReading n 2 X') fun _ Y => fX0_readBook_L37 n n dr 2 v2 Y) ∧ Shp bk dr X' ∧ mI X' = mI X ∧ (∀ c k, c ≠ dr + 3 → mJ X' c k = mJ X c k) ∧ (∀ k, k < i → mJ X' (dr + 3) k = mJ X (dr + 3) k) ∧ ∀ k, i ≤ k → k < 50 → mJ X' (dr + 3) k = 0 := by
  obtain ⟨tb, r1, r2, r3, t1, t2, t3, l1, l2, l3⟩ := dr_R hb
  intro r
  induction r with
  | zero =>
    intro i X j hi hj h
    obtain ⟨j, rfl⟩ : ∃ k, j = k + 1 := ⟨j - 1, by omega⟩
    have e5 : (50 : Int32) ≤ nI i := nI_le (a := 50) (b := i) (by omega) (by omega)
    refine ⟨X, ?_, h, rfl, fun _ _ _ => rfl, fun _ _ => rfl, fun k h1 h2 => by omega⟩
    rw [fX0_readBook_L14, if_pos e5, if_pos (by rw [h.1]; exact li_T.2.1)]
  | succ r ih =>
    intro i X j hi hj h
    obtain ⟨j, rfl⟩ : ∃ k, j = k + 1 := ⟨j - 1, by omega⟩
    have e5 : ¬ (50 : Int32) ≤ nI i := nI_ge (a := i) (b := 50) (by omega) (by omega)
    have i1 : (nI i).toNatClampNeg = i := nI_clamp (by omega)
    have i2 := inL_nI (j := i) (n := 50) (by omega) (by decide)
    have m3 : dr + 3 ≠ 0 := by omega
    obtain ⟨X', e, g1, g2, g3, g4, g5⟩ := ih (i + 1) (sJ X (dr + 3) i 0) j (by omega) (by omega) (h.sJ _ _ _)
    refine ⟨X', ?_, g1, g2.trans (by rw [mI_sJ]), fun c k hc => by rw [g3 c k hc, mJ_sJ, if_neg (fun q => hc q.1)], fun k hk => by rw [g4 k (by omega), mJ_sJ, if_neg (by omega)], fun k h1 h2 => ?_⟩
    · rw [← e, fX0_readBook_L14]
      simp only [h.1, h.2.1, h.2.2, li_T, li_L, li_R, nm, bd, q_b, ne_eq, Nat.reduceEqDiff, reduceCtorEq, and_false, false_and, and_true, true_and, and_self, not_false_eq_true, not_true_eq_false, ↓reduceIte, e5, tb, r3, t3, l3, m3, i1, i2.1, i2.2, nI_1]
    · by_cases q : k = i
      · rw [g4 k (by omega), mJ_sJ, if_pos ⟨rfl, q⟩]
      · exact g5 k (by omega) h2
end
