/-! TEXTS: the class reads a book -/
section
variable {b : Nat → Int32} {L : Nat} {bk dr n K H P : Nat} {X W Z : Mm} {s t : St3} {D : Bk} {f : Nat → Int64} {w : Wt}
theorem c_book (h : Shp bk dr X) (hb : Bks bk dr) (hL : mI X 2 1 = nI L) (L7 : L ≤ 700) (eb : mI X 3 = b) (hn : 1000 ≤ n) (hK : K ≤ 700) (k1 : ∀ i, i < K → Gln b L i ∧ i < 700) (k2 : ¬ Gln b L K) (k3 : ∀ i, i ≤ K → VI b L (ls b L i).1.1) :
    ∃ W, fX0_readBook n dr 2 X = some (if (ls b L K).1.2.1 = 0 then nI K else -1, U2 (ls b L K).1 W) ∧ Shp bk dr W ∧ (∀ c k, c ≠ 4 → c ≠ 5 → c ≠ 6 → c ≠ dr → c ≠ dr + 1 → c ≠ dr + 2 → mI W c k = mI X c k) ∧ (∀ c k, c ≠ dr + 3 → mJ W c k = mJ X c k) ∧ ((ls b L K).1.2.1 = 0 → BDD dr (ls b L K).2 W) := by
  have b7 : dr = 7 ∨ dr = 11 := by rcases hb with z | z <;> omega
  have tb := (dr_R hb).1
  have hA : Shp bk dr (sI (sI X dr 3 0) dr 4 0) := (h.sI _ _ _).sI _ _ _
  obtain ⟨X', e1, g1, g2, g3, g4, g5⟩ := c_L14 (n := n) hb (0 : Int32) 50 0 (sI (sI X dr 3 0) dr 4 0) n (by omega) (by omega) hA
  have xI : ∀ c k, c ≠ dr → mI X' c k = mI X c k := fun c k hc => by rw [g2, mI_sI, if_neg (fun q => hc q.1), mI_sI, if_neg (fun q => hc q.1)]
  obtain ⟨Y, st, ct, fI, fJ⟩ := c_start (n := n) (X := X') (L := L) (b := b) g1 ((xI _ _ (by omega)).trans hL) L7 hn (by rw [← eb]; exact funext fun k => xI _ _ (by omega))
  have bd0 : BDD dr (ls b L 0).2 Y := by
    refine ⟨by show 0 ≤ 10; omega, by show 0 ≤ 5; omega, ?_, ?_, fun i hi => absurd hi (Nat.not_lt_zero i), fun i hi => absurd hi (Nat.not_lt_zero i), fun k hk => ?_⟩
    · rw [fI _ _ (by omega), g2, mI_sI, if_neg (by omega), mI_sI, if_pos ⟨rfl, rfl⟩]; rfl
    · rw [fI _ _ (by omega), g2, mI_sI, if_pos ⟨rfl, rfl⟩]; rfl
    · rw [fJ, g5 k (Nat.zero_le _) hk]
      show (0 : Int64) = (0 : Int32).toInt64
      decide
  obtain ⟨W, e2, cf, bd_⟩ := c_L37 (n := n) hb hn hK k1 k2 k3 K 0 Y n (by omega) (by omega) ct (fun _ => bd0)
  have hU := ((ct.cg cf.1 (fun c k hc => cf.2.1 c k (by omega) (by omega) (by omega))).u (ls b L K).1)
  have m6 : mI (U2 (ls b L K).1 W) 2 6 = (ls b L K).1.2.1 := by rw [U2_I, if_neg (by omega), if_pos ⟨rfl, rfl⟩]
  have l62 : fX0_readBook_L62 n 2 (nI K) (U2 (ls b L K).1 W) = some (if (ls b L K).1.2.1 = 0 then nI K else -1, U2 (ls b L K).1 W) := by
    by_cases z : (ls b L K).1.2.1 = 0
    · rw [if_pos z]
      rw [z] at m6
      have h := hU
      simp only [fX0_readBook_L62, h.1, h.2.1, h.2.2, li_T, li_L, li_R, nm, bd, q_b, ne_eq, Nat.reduceEqDiff, reduceCtorEq, and_false, false_and, and_true, true_and, and_self, not_false_eq_true, not_true_eq_false, ↓reduceIte, m6]
    · rw [if_neg z]
      have h := hU
      simp only [fX0_readBook_L62, h.1, h.2.1, h.2.2, li_T, li_L, li_R, nm, bd, q_b, ne_eq, Nat.reduceEqDiff, reduceCtorEq, and_false, false_and, and_true, true_and, and_self, not_false_eq_true, not_true_eq_false, ↓reduceIte, m6, z]
  refine ⟨W, ?_, cf.1, fun c k c4 c5 c6 d0 d1 d2 => ?_, fun c k hc => ?_, bd_⟩
  · rw [← l62, ← e2]
    have e1' : fX0_readBook_L14 n n dr 2 0 0 (sI (sI X dr 3 0) dr 4 0) = fX0_readBook_L37 n n dr 2 0 (U2 (0, 0, -1) Y) := by
      have q : fX0_readBook_L14 n n dr 2 0 0 (sI (sI X dr 3 0) dr 4 0) = _ := e1
      rw [q, st]
      rfl
    have q : fX0_readBook_L37 n n dr 2 (nI 0) (U2 (ls b L 0).1 Y) = fX0_readBook_L37 n n dr 2 0 (U2 (0, 0, -1) Y) := rfl
    rw [q, ← e1']
    simp only [fX0_readBook, h.1, h.2.1, h.2.2, li_T, li_L, li_R, nm, bd, q_b, ne_eq, Nat.reduceEqDiff, reduceCtorEq, and_false, false_and, and_true, true_and, and_self, not_false_eq_true, not_true_eq_false, ↓reduceIte, tb, mT_sI]
  · rw [cf.2.1 c k d0 d1 d2, fI _ _ (by omega), xI _ _ d0]
  · rw [cf.2.2 c k hc, fJ, g3 c k hc, mJ_sI, mJ_sI]
end
