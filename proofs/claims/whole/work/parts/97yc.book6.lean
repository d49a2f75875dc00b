/-! TEXTS: a fresh book's State; shares of a book -/
section
variable {b : Nat → Int32} {L : Nat} {bk dr n K H P : Nat} {X W Z : Mm} {s t : St3} {D : Bk} {f : Nat → Int64} {w : Wt}
def shO (D : Bk) : Prop := ∀ k, k < 50 → 0 ≤ (D.2.2.2.2 k).toInt ∧ (D.2.2.2.2 k).toInt ≤ 100000
theorem ln_sh (z : (lnS b L D s).2.1 = 0) (h : shO D) : shO (lnD b L D s) := by
  have z2 := ((aS_go _).2.1 z).1
  unfold lnT at z2
  unfold lnD
  by_cases a0 : AW b L 0 s.1
  · rw [if_pos a0]; exact h
  · rw [if_neg a0] at z2 ⊢
    by_cases a1 : AW b L 1 s.1
    · rw [if_pos a1]; exact h
    · rw [if_neg a1] at z2 ⊢
      intro k hk
      show 0 ≤ (q_u1 D.2.2.2.2 _ _ k).toInt ∧ (q_u1 D.2.2.2.2 _ _ k).toInt ≤ 100000
      rw [q_u1_is]
      split
      · have y1 := ((aN_go _).2.1 z2).1
        have y2 := (aBy_go _).2 y1
        have kd3 : kd b L (h2S b L D s).1 = 3 := by
          have z := z2
          unfold aN at z
          rw [aA_f] at z
          by_cases q : kd b L (aBy b L (h2S b L D s)).1 = 3
          · rw [(aBy_go _).1] at q; exact q
          · rw [if_neg q] at z; exact absurd z (aF_f (by decide) _)
        have le : vl b L (h2S b L D s).1 ≤ 100000 := Classical.byContradiction fun q => by
          have e : aBy b L (h2S b L D s) = aF b L 3 (h2S b L D s) := by unfold aBy; rw [if_pos ⟨kd3, q⟩]
          rw [e] at y1
          exact aF_f (by decide) _ y1
        obtain ⟨x, x1, x2⟩ := kd_3 kd3
        rw [x2] at le ⊢
        rw [Int32.le_iff_toInt_le, nI_toInt (by omega)] at le
        rw [nI_toInt (by omega)]
        have e : (100000 : Int32).toInt = 100000 := by decide
        omega
      · exact h k hk
theorem ls_sh : ∀ i, (∀ j, j < i → Gln b L j) → (ls b L i).1.2.1 = 0 → shO (ls b L i).2 := by
  intro i
  induction i with
  | zero => intro _ _ k _; exact (by decide : 0 ≤ (0 : Int32).toInt ∧ (0 : Int32).toInt ≤ 100000)
  | succ i ih =>
    intro h z
    exact ln_sh z (ih (fun j hj => h j (by omega)) (h i (by omega)).1)
theorem sm_le {g : Nat → Int64} {c : Int} : ∀ m : Nat, (∀ i, i < m → (g i).toInt ≤ c) → sm g m ≤ m * c := by
  intro m
  induction m with
  | zero => intro _; show (0 : Int) ≤ _; omega
  | succ m ih =>
    intro h
    have a := ih (fun i hi => h i (by omega))
    have d := h m (by omega)
    show sm g m + (g m).toInt ≤ _
    rw [Int.natCast_succ, Int.add_mul]
    omega
theorem SR0 (hH : H ≤ 10) (hP : P ≤ 5) (c3 : w.1 3 9 = 0) (c13 : w.1 13 16 = 0) (c6 : w.1 0 6 = nI H) (c7 : w.1 0 7 = nI P) (c8 : w.1 0 8 = 0) (fs : ∀ k, k < 50 → f k = w.2 1 k) (ps : ∀ k, k < 10 → w.2 2 k = 0) (fz : ∀ k, 50 ≤ k → k < 4604 → f k = 0) (sh : ∀ k, k < 50 → 0 ≤ (w.2 1 k).toInt ∧ (w.2 1 k).toInt ≤ 100000) : SR H P f w := by
  refine ⟨0, 0, ⟨by omega, by omega, fun p a k hp => ?_⟩, ⟨⟨c3, by omega, c13, by omega, c6, hH, fun t ht => absurd ht (Nat.not_lt_zero t), fun e he => absurd he (Nat.not_lt_zero e)⟩, fun e he => absurd he (Nat.not_lt_zero e)⟩, ⟨c7, hP, ⟨0, by omega, c8⟩, fun t ht => absurd ht (Nat.not_lt_zero t), fun e he => absurd he (Nat.not_lt_zero e), fun e he => absurd he (Nat.not_lt_zero e), fun i hi => (sh i hi).1, ?_, fun t ht => absurd ht (Nat.not_lt_zero t), fun e he => absurd he (Nat.not_lt_zero e), fun e he => absurd he (Nat.not_lt_zero e)⟩⟩
  · have z0 : (0 : Int32).toInt64 = (0 : Int64) := by decide
    unfold Pl at hp
    rcases hp with ⟨rfl, rfl, h3⟩ | ⟨rfl, rfl, h3⟩ | ⟨rfl, rfl, rfl⟩ | ⟨rfl, rfl, rfl⟩ | ⟨rfl, rfl, rfl⟩ | ⟨j, h1, h2, h3, h4⟩ | ⟨j, h1, h2, h3, h4, -⟩ | ⟨e, i, j, h1, h2, h3, h4, h5, h6⟩ | ⟨e, i, j, h1, h2, h3, h4, h5, h6, -⟩
    · rw [fs _ h3]; rfl
    · rw [fz _ (by omega) (by omega)]; exact (ps _ h3).symm
    · rw [fz _ (by omega) (by omega)]
      show _ = (w.1 3 9).toInt64
      rw [c3, z0]
    · rw [fz _ (by omega) (by omega)]
      show _ = (w.1 13 16).toInt64
      rw [c13, z0]
    · rw [fz _ (by omega) (by omega)]
      show _ = (w.1 0 8).toInt64
      rw [c8, z0]
    · omega
    · omega
    · omega
    · omega
  · have a := sm_le (g := w.2 1) (c := 100000) 50 (fun i hi => (sh i hi).2)
    have e : mxS (dn w 0) = mxS 0 := rfl
    rw [e]
    have m : (5000000 : Int) ≤ mxS 0 := by decide
    omega
end
