/-! DEEDS: an EVENT, choices, DAYS -/
def kR (d : Nat → Int32) : Prop := (1 ≤ d 8 ∧ d 8 ≤ 9) ∧ (1 ≤ d 9 ∧ d 9 ≤ 9) ∧ (0 ≤ d 10 ∧ d 10 ≤ 999) ∧ (0 ≤ d 11 ∧ d 11 ≤ 999)
def kM (P : Nat) (d : Nat → Int32) : Prop := (d 0 = 0 → 1 ≤ d 10 ∧ d 10 ≤ 999) ∧ (d 0 = 3 → (0 ≤ d 7 ∧ d 7 < nI P) ∧ ¬ d 7 = d 1) ∧ (¬ d 0 = 0 → kR d)
def kD (y : Int32) (d : Nat → Int32) : Prop := y < d 13 ∧ d 13 ≤ d 14 ∧ d 14 ≤ d 15 ∧ d 15 ≤ 999
def kU (d : Nat → Int32) : Prop := d 0 = 2 → d 14 ≤ d 12 ∧ d 12 ≤ d 15
/-- what an EVENT needs -/
def kE (P G : Nat) (y : Int32) (d : Nat → Int32) : Prop := (0 ≤ d 1 ∧ d 1 < nI P) ∧ kM P d ∧ kD y d ∧ kU d ∧ G < 8
/-- what a choice needs -/
def kC (H G : Nat) (w : Wt) (d : Nat → Int32) : Prop := (0 ≤ d 16 ∧ d 16 < nI G) ∧ (0 ≤ d 2 ∧ d 2 < nI H) ∧ (0 ≤ d 17 ∧ d 17 ≤ 999999999) ∧ (0 ≤ d 18 ∧ d 18 ≤ 999999999) ∧ w.1 14 (d 16).toNatClampNeg = 2 ∧ w.1 0 8 ≤ w.1 21 (d 16).toNatClampNeg ∧ (w.1 25 (d 16).toNatClampNeg = 0 ∨ w.1 25 (d 16).toNatClampNeg = 1)
def N_ch (d : Nat → Int32) (w : Wt) : Wt := uJ (uJ w 32 (10 * (d 16).toNatClampNeg + (d 2).toNatClampNeg) (d 17).toInt64) 33 (10 * (d 16).toNatClampNeg + (d 2).toNatClampNeg) (d 18).toInt64
section
variable {bk dr s T G H P : Nat} {X : Mm} {f : Nat → Int64} {w : Wt} {d : Nat → Int32}
theorem c_ratio (h : Shp bk dr X) (hs : St s) (hd : mI X 15 = d) : fX8_ratioCanBe 15 (pW s w X) = some (bo (kR d), pW s w X) := by
  have hge := (st_ge s hs).1
  have o : ∀ k, mI (pW s w X) 15 k = d k := fun k => by rw [mI_pWo _ _ (by omega), hd]
  simp only [fX8_ratioCanBe, fX8_ratioCanBe_L58, o, h.1, li_T, mT_pW, nm, bd, ↓reduceIte, r_within, bo_0]
  unfold kR
  by_cases g1 : 1 ≤ d 8 ∧ d 8 ≤ 9
  · rw [if_neg (fun z => z g1)]
    by_cases g2 : 1 ≤ d 9 ∧ d 9 ≤ 9
    · rw [if_neg (fun z => z g2)]
      by_cases g3 : 0 ≤ d 10 ∧ d 10 ≤ 999
      · rw [if_neg (fun z => z g3)]
        by_cases g4 : 0 ≤ d 11 ∧ d 11 ≤ 999
        · rw [if_neg (fun z => z g4), bo_t ⟨g1, g2, g3, g4⟩]
        · rw [if_pos g4, bo_f (fun z => g4 z.2.2.2)]
      · rw [if_pos g3, bo_f (fun z => g3 z.2.2.1)]
    · rw [if_pos g2, bo_f (fun z => g2 z.2.1)]
  · rw [if_pos g1, bo_f (fun z => g1 z.1)]
theorem bo_congr {p q : Prop} (h : p ↔ q) : bo p = bo q := by
  by_cases g : p
  · rw [bo_t g, bo_t (h.mp g)]
  · rw [bo_f g, bo_f (fun z => g (h.mpr z))]
theorem c_terms (h : Shp bk dr X) (hs : St s) (hw7 : w.1 0 7 = nI P) (hd : mI X 15 = d) : fX8_termsCanBe s 15 (pW s w X) = some (bo (kM P d), pW s w X) := by
  have hge := (st_ge s hs).1
  have o : ∀ k, mI (pW s w X) 15 k = d k := fun k => by rw [mI_pWo _ _ (by omega), hd]
  simp only [fX8_termsCanBe, fX8_termsCanBe_L77, o, h.1, li_T, st_T s hs, mT_pW, nm, bd, ↓reduceIte, r_within, c_isPaper h hs, hw7, c_ratio h hs hd]
  by_cases k0 : d 0 = 0
  · rw [if_pos k0]
    have : kM P d ↔ (1 ≤ d 10 ∧ d 10 ≤ 999) := ⟨fun z => z.1 k0, fun z => ⟨fun _ => z, fun y => absurd (k0.symm.trans y) (by decide), fun y => absurd k0 y⟩⟩
    rw [if_pos (bo_01 _), bo_congr this]
  · rw [if_neg k0]
    by_cases k3 : d 0 = 3
    · rw [if_pos k3]
      by_cases g1 : 0 ≤ d 7 ∧ d 7 < nI P
      · rw [bo_t g1, if_neg b1]
        by_cases g2 : d 7 = d 1
        · rw [if_pos g2, bo_f (fun z => (z.2.1 k3).2 g2)]
        · rw [if_neg g2]
          by_cases g3 : kR d
          · rw [bo_t g3, if_neg b1, bo_t ⟨fun z => absurd z k0, fun _ => ⟨g1, g2⟩, fun _ => g3⟩]
          · rw [bo_f g3, if_pos rfl, bo_f (fun z => g3 (z.2.2 k0))]
      · rw [bo_f g1, if_pos rfl, bo_f (fun z => g1 (z.2.1 k3).1)]
    · rw [if_neg k3]
      have : kM P d ↔ kR d := ⟨fun z => z.2.2 k0, fun z => ⟨fun y => absurd y k0, fun y => absurd y k3, fun _ => z⟩⟩
      rw [if_pos (bo_01 _), bo_congr this]
theorem c_when (h : Shp bk dr X) (hs : St s) (hd : mI X 15 = d) : fX8_whenCanBe s 15 (pW s w X) = some (bo (kD (w.1 0 8) d ∧ kU d), pW s w X) := by
  have hge := (st_ge s hs).1
  have o : ∀ k, mI (pW s w X) 15 k = d k := fun k => by rw [mI_pWo _ _ (by omega), hd]
  have L48 : ∀ (z : Int32) (p : Prop), (z = 0 ↔ ¬ p) → fX8_whenCanBe_L48 15 z (pW s w X) = some (bo (p ∧ kU d), pW s w X) := by
    intro z p hz
    simp only [fX8_whenCanBe_L48, fX8_whenCanBe_L62, fX8_whenCanBe_L93, fX8_whenCanBe_L89, o, h.1, li_T, mT_pW, nm, bd, ↓reduceIte, r_within, b1, bo_0]
    by_cases g : p
    · have gz : ¬ z = 0 := fun y => hz.mp y g
      by_cases k2 : d 0 = 2
      · rw [if_pos k2, if_neg gz]
        by_cases u : d 14 ≤ d 12 ∧ d 12 ≤ d 15
        · rw [if_neg (fun y => y u), bo_t ⟨g, fun _ => u⟩]
        · rw [if_pos u, bo_f (fun y => u (y.2 k2))]
      · rw [if_neg k2, if_neg gz, bo_t ⟨g, fun y => absurd y k2⟩]
    · have gz : z = 0 := hz.mpr g
      rw [if_pos gz, if_pos gz, bo_f (fun y => g y.1)]
      split <;> rfl
  simp only [fX8_whenCanBe, fX8_whenCanBe_L47, o, h.1, h.2.1, h.2.2, st_T s hs, st_L s hs, st_R hs, mT_pW, mL_pW, mR_pW, mI_pW, mJ_pW, mI_pW0, mJ_pW0, sI_pW, sJ_pW, sI_pW0, nm, bd, q_b, ne_eq, Nat.add_eq_zero_iff, Nat.reduceEqDiff, Nat.reduceLeDiff, Nat.reduceAdd, and_false, false_and, and_true, true_and, and_self, not_false_eq_true, not_true_eq_false, reduceCtorEq, ↓reduceIte, li_T]
  unfold kD
  by_cases g1 : w.1 0 8 < d 13
  · rw [if_neg (i32_nle.mpr g1)]
    by_cases g2 : d 13 ≤ d 14
    · rw [if_neg (i32_nlt.mpr g2)]
      by_cases g3 : d 14 ≤ d 15
      · rw [if_neg (i32_nlt.mpr g3)]
        by_cases g4 : d 15 ≤ 999
        · rw [if_neg (i32_nlt.mpr g4)]
          exact L48 1 _ ⟨fun z => absurd z b1, fun z => absurd ⟨g1, g2, g3, g4⟩ z⟩
        · rw [if_pos (i32_nle.mp g4)]
          exact L48 0 _ ⟨fun _ z => g4 z.2.2.2, fun _ => rfl⟩
      · rw [if_pos (i32_nle.mp g3)]
        exact L48 0 _ ⟨fun _ z => g3 z.2.2.1, fun _ => rfl⟩
    · rw [if_pos (i32_nle.mp g2)]
      exact L48 0 _ ⟨fun _ z => g2 z.2.1, fun _ => rfl⟩
  · rw [if_pos (i32_nlt.mp g1)]
    exact L48 0 _ ⟨fun _ z => g1 z.1, fun _ => rfl⟩
theorem c_wipe (h : Shp bk dr X) (hs : St s) {e n : Nat} (e8 : e < 8) (hn : 64 ≤ n) : fX6_wipe n (s + 30) (nI e) (pW s w X) = some ((), pW s (nf (N_wi e) 10 0 w) X) := by
  have g := loop_ga (F := fun j i w => fX6_wipe_L2 n j (s + 30) (nI e) i (pW s w X)) (N := N_wi e) (I := fun _ _ => True) (out := fun w => some ((), pW s w X)) 10
    (fun j i w hi _ => by
      have k1 : (nI (10 * e + i)).toNatClampNeg = 10 * e + i := nI_clamp (by omega)
      have k2 := inL_nI (j := 10 * e + i) (n := 80) (by omega) (by decide)
      have e3 : ¬ (10 : Int32) ≤ nI i := nI_ge (a := i) (b := 10) hi (by decide)
      rw [fX6_wipe_L2]
      simp only [h.1, h.2.1, h.2.2, st_T s hs, st_L s hs, st_R hs, mT_pW, mL_pW, mR_pW, mI_pW, mJ_pW, mI_pW0, mJ_pW0, sI_pW, sJ_pW, sI_pW0, nm, bd, q_b, ne_eq, Nat.add_eq_zero_iff, Nat.reduceEqDiff, Nat.reduceLeDiff, Nat.reduceAdd, and_false, false_and, and_true, true_and, and_self, not_false_eq_true, not_true_eq_false, reduceCtorEq, ↓reduceIte, e3, fX6_at, at10, k1, k2.1, k2.2, nI_1, N_wi])
    (fun _ _ _ _ => trivial)
    (fun j w _ => by
      have e3 : (10 : Int32) ≤ nI 10 := by decide
      rw [fX6_wipe_L2, if_pos e3]) 10 0 w n (by omega) (by omega) trivial
  exact g.1
/-- class: an EVENT is told, if it can be -/
theorem c_event (h : Shp bk dr X) (hs : St s) (hG : w.1 13 16 = nI G) (hG8 : G ≤ 8) (hw7 : w.1 0 7 = nI P) (hd : mI X 15 = d) (hk : d 0 = 0 ∨ d 0 = 1 ∨ d 0 = 2 ∨ d 0 = 3) {n : Nat} (hn : 64 ≤ n) :
    (kE P G (w.1 0 8) d → fX8_perform n s 15 (pW s w X) = some (nI G, pW s (N_ev d G w) X)) ∧ (¬ kE P G (w.1 0 8) d → fX8_perform n s 15 (pW s w X) = some (-1, pW s w X)) := by
  have hge := (st_ge s hs).1
  have o : ∀ u k, mI (pW s u X) 15 k = d k := fun u k => by rw [mI_pWo _ _ (by omega), hd]
  have k4 : ¬ d 0 = 4 := by rcases hk with z | z | z | z <;> (rw [z]; decide)
  have k5 : ¬ d 0 = 5 := by rcases hk with z | z | z | z <;> (rw [z]; decide)
  have k6 : ¬ d 0 = 6 := by rcases hk with z | z | z | z <;> (rw [z]; decide)
  have ne1 : ∀ j : Nat, j < 1000 → ¬ nI j = (-1 : Int32) := fun j hj z => by
    have := congrArg Int32.toInt z
    rw [nI_toInt (by omega)] at this
    have e : (-1 : Int32).toInt = -1 := by decide
    omega
  constructor
  · rintro ⟨g1, g2, g3, g4, g5⟩
    have t1 : (nI G).toNatClampNeg = G := nI_clamp (by omega)
    have t2 := inL_nI (j := G) (n := 8) g5 (by decide)
    have t3 : nI G < (8 : Int32) := nI_lt g5 (by decide)
    have add : fX3_add (s + 13) 15 (pW s w X) = some (nI G, pW s (N_ev0 d G w) X) := by
      simp only [fX3_add, o, h.1, h.2.1, h.2.2, st_T s hs, st_L s hs, st_R hs, mT_pW, mL_pW, mR_pW, mI_pW, mJ_pW, mI_pW0, mJ_pW0, sI_pW, sJ_pW, sI_pW0, nm, bd, q_b, ne_eq, Nat.add_eq_zero_iff, Nat.reduceEqDiff, Nat.reduceLeDiff, Nat.reduceAdd, and_false, false_and, and_true, true_and, and_self, not_false_eq_true, not_true_eq_false, reduceCtorEq, ↓reduceIte, li_T, hG, t1, t2.1, t2.2, t3, uI_1, uJ_1, nI_1, N_ev0]
    simp only [fX8_perform, fX8_addEvent, fX8_addEvent_L27, fX8_addEvent_L51, k4, k5, k6, o, h.1, h.2.1, h.2.2, st_T s hs, st_R hs, li_T, mT_pW, mR_pW, nm, bd, ne_eq, Nat.add_eq_zero_iff, Nat.reduceEqDiff, and_false, not_false_eq_true, ↓reduceIte, c_isPaper h hs, hw7, c_terms h hs hw7 hd, c_when h hs hd, bo_t g1, bo_t g2, bo_t (⟨g3, g4⟩ : kD (w.1 0 8) d ∧ kU d), b1, add, ne1 G (by omega), c_wipe h hs g5 hn, N_ev]
  · intro g
    simp only [fX8_perform, fX8_addEvent, fX8_addEvent_L27, fX8_addEvent_L51, k4, k5, k6, o, h.1, h.2.1, h.2.2, st_T s hs, st_R hs, li_T, mT_pW, mR_pW, nm, bd, ne_eq, Nat.add_eq_zero_iff, Nat.reduceEqDiff, and_false, not_false_eq_true, ↓reduceIte, c_isPaper h hs, hw7, c_terms h hs hw7 hd, c_when h hs hd]
    by_cases g1 : 0 ≤ d 1 ∧ d 1 < nI P
    · rw [bo_t g1, if_neg b1]
      by_cases g2 : kM P d
      · rw [bo_t g2, if_neg b1]
        by_cases g3 : kD (w.1 0 8) d ∧ kU d
        · rw [bo_t g3, if_neg b1]
          have g5 : G = 8 := by
            have : ¬ G < 8 := fun z => g ⟨g1, g2, g3.1, g3.2, z⟩
            omega
          have t3 : ¬ nI G < (8 : Int32) := by rw [g5]; decide
          have add : fX3_add (s + 13) 15 (pW s w X) = some (-1, pW s w X) := by
            simp only [fX3_add, o, h.1, h.2.1, h.2.2, st_T s hs, st_L s hs, st_R hs, mT_pW, mL_pW, mR_pW, mI_pW, mJ_pW, mI_pW0, mJ_pW0, sI_pW, sJ_pW, sI_pW0, nm, bd, q_b, ne_eq, Nat.add_eq_zero_iff, Nat.reduceEqDiff, Nat.reduceLeDiff, Nat.reduceAdd, and_false, false_and, and_true, true_and, and_self, not_false_eq_true, not_true_eq_false, reduceCtorEq, ↓reduceIte, li_T, hG, t3]
          simp only [add, ↓reduceIte]
        · rw [bo_f g3, if_pos rfl]
      · rw [bo_f g2, if_pos rfl]
    · rw [bo_f g1, if_pos rfl]
end
