/-! QUERIES: worst, class and reference -/
theorem N70_at (e : Nat) (w : Wt) (a : Nat) (ha : a < 10) : ∀ (m i : Nat) (g : Nat → Int64), (∀ k, k < i + m → ∃ b, b < 10 ∧ w.1 38 (60 * e + k) = nI b) → nf (N70 e w) m i g a = nf (sF1 e a w) m i (g a) := by
  intro m
  induction m with
  | zero => intro i g _; rfl
  | succ m ih =>
    intro i g hcl
    rw [nf, nf, ih (i + 1) _ (fun k hk => hcl k (by omega))]
    obtain ⟨b, hb, eb⟩ := hcl i (by omega)
    have e1 : (nI b).toNatClampNeg = b := nI_clamp (by omega)
    congr 1
    unfold N70 sF1
    rw [eb, e1]
    by_cases g1 : a = b
    · subst g1
      rw [q_u1_s, if_pos rfl]
    · rw [q_u1_n _ _ g1, if_neg (fun z => g1 (by
        have z2 := congrArg Int32.toNatClampNeg z
        rw [e1, nI_clamp (by omega)] at z2
        exact z2.symm))]
theorem z70_at (a : Nat) : ∀ (m i : Nat) (g : Nat → Int64), (a < i → g a = 0) → a < i + m → nf (fun i (g : Nat → Int64) => q_u1 g i 0) m i g a = 0 := by
  intro m
  induction m with
  | zero => intro i g h1 h2; exact h1 (by omega)
  | succ m ih =>
    intro i g h1 h2
    rw [nf]
    refine ih (i + 1) _ (fun h3 => ?_) (by omega)
    by_cases g1 : a = i
    · subst g1; rw [q_u1_s]
    · rw [q_u1_n _ _ g1]; exact h1 (by omega)
theorem wO_or (g : Nat → Int64) (i v : Nat) : wO g i v = v ∨ wO g i v = i := by
  unfold wO
  by_cases g1 : (lg_cmp (g i) (g v)) ≤ 0
  · rw [if_pos g1]; exact Or.inl rfl
  · rw [if_neg g1]; exact Or.inr rfl
theorem wO_cg {g g' : Nat → Int64} {i v : Nat} (h1 : g i = g' i) (h2 : g v = g' v) : wO g' i v = wO g i v := by
  unfold wO
  rw [h1, h2]
theorem wO_same {g g' : Nat → Int64} {H : Nat} (hg : ∀ a, a < H → g a = g' a) : ∀ (m i v : Nat), i + m ≤ H → v < H → nf (wO g) m i v = nf (wO g') m i v ∧ nf (wO g) m i v < H := by
  intro m
  induction m with
  | zero => intro i v h1 h2; exact ⟨(show v = v from rfl), h2⟩
  | succ m ih =>
    intro i v h1 h2
    have hi : i < H := by clear ih hg; omega
    have h3 : i + 1 + m ≤ H := by clear ih hg; omega
    have z : wO g' i v = wO g i v := wO_cg (hg i hi) (hg v h2)
    have b : wO g i v < H := by
      rcases wO_or g i v with r | r
      · rw [r]; exact h2
      · rw [r]; exact hi
    have q := ih (i + 1) (wO g i v) h3 b
    refine ⟨?_, q.2⟩
    refine q.1.trans ?_
    rw [← z, nf]
