/-! QUERIES: net, the sums -/
/-- how many are not 0 -/
def nzc (g : Nat → Int64) : Nat → Nat
| 0 => 0
| m + 1 => nzc g m + if g m = 0 then 0 else 1
theorem nzc_u1 (g : Nat → Int64) {k : Nat} (v : Int64) (hk : ¬ g k = 0) : ∀ m, nzc (q_u1 g k v) m + (if k < m then if v = 0 then 1 else 0 else 0) = nzc g m := by
  intro m
  induction m with
  | zero => rfl
  | succ m ih =>
    rw [nzc, nzc]
    by_cases e : k = m
    · subst e
      rw [if_neg (Nat.lt_irrefl k)] at ih
      rw [q_u1_s, if_pos (Nat.lt_succ_self k), if_neg hk]
      by_cases z : v = 0
      · rw [if_pos z, if_pos z]; omega
      · rw [if_neg z, if_neg z]; omega
    · rw [q_u1_n g v (fun z => e z.symm)]
      by_cases l : k < m
      · rw [if_pos l] at ih
        rw [if_pos (show k < m + 1 by omega)]; omega
      · rw [if_neg l] at ih
        rw [if_neg (show ¬ k < m + 1 by omega)]; omega
theorem nzc_pos {g : Nat → Int64} {h : Nat} (hz : ¬ g h = 0) : ∀ m, h < m → 1 ≤ nzc g m := by
  intro m
  induction m with
  | zero => intro hm; omega
  | succ m ih =>
    intro hm
    rw [nzc]
    by_cases e : h = m
    · subst e
      rw [if_neg hz]; omega
    · have := ih (by omega); omega
theorem nzc_le (g : Nat → Int64) : ∀ m, nzc g m ≤ m := by
  intro m
  induction m with
  | zero => exact Nat.le_refl _
  | succ m ih => rw [nzc]; split <;> omega
/-- the first above 0, below 0 -/
def fo (g : Nat → Int64) : Nat → Nat → Int32
| 0, _ => -1
| m + 1, i => if lg_cmp (g i) 0 ≤ 0 then fo g m (i + 1) else nI i
def fw (g : Nat → Int64) : Nat → Nat → Int32
| 0, _ => -1
| m + 1, i => if 0 ≤ lg_cmp (g i) 0 then fw g m (i + 1) else nI i
theorem fo_spec (g : Nat → Int64) : ∀ m i, (fo g m i = -1 ∧ ∀ h, i ≤ h → h < i + m → (g h).toInt ≤ 0) ∨ ∃ h, i ≤ h ∧ h < i + m ∧ fo g m i = nI h ∧ 0 < (g h).toInt := by
  intro m
  induction m with
  | zero => intro i; exact Or.inl ⟨rfl, fun h _ _ => by omega⟩
  | succ m ih =>
    intro i
    rw [fo]
    by_cases z : lg_cmp (g i) 0 ≤ 0
    · rw [if_pos z]
      have z' := Int64.le_iff_toInt_le.mp (cv_le.mp z)
      rw [i64_z] at z'
      rcases ih (i + 1) with ⟨a, b⟩ | ⟨h, h1, h2, h3, h4⟩
      · refine Or.inl ⟨a, fun h h1 h2 => ?_⟩
        by_cases e : h = i
        · subst e; exact z'
        · exact b h (by omega) (by omega)
      · exact Or.inr ⟨h, by omega, by omega, h3, h4⟩
    · rw [if_neg z]
      refine Or.inr ⟨i, by omega, by omega, rfl, ?_⟩
      have : ¬ (g i).toInt ≤ (0 : Int64).toInt := fun q => z (cv_le.mpr (Int64.le_iff_toInt_le.mpr q))
      rw [i64_z] at this
      omega
theorem fw_spec (g : Nat → Int64) : ∀ m i, (fw g m i = -1 ∧ ∀ h, i ≤ h → h < i + m → 0 ≤ (g h).toInt) ∨ ∃ h, i ≤ h ∧ h < i + m ∧ fw g m i = nI h ∧ (g h).toInt < 0 := by
  intro m
  induction m with
  | zero => intro i; exact Or.inl ⟨rfl, fun h _ _ => by omega⟩
  | succ m ih =>
    intro i
    rw [fw]
    by_cases z : 0 ≤ lg_cmp (g i) 0
    · rw [if_pos z]
      have z' := Int64.le_iff_toInt_le.mp (cv_ge.mp z)
      rw [i64_z] at z'
      rcases ih (i + 1) with ⟨a, b⟩ | ⟨h, h1, h2, h3, h4⟩
      · refine Or.inl ⟨a, fun h h1 h2 => ?_⟩
        by_cases e : h = i
        · subst e; exact z'
        · exact b h (by omega) (by omega)
      · exact Or.inr ⟨h, by omega, by omega, h3, h4⟩
    · rw [if_neg z]
      refine Or.inr ⟨i, by omega, by omega, rfl, ?_⟩
      have : ¬ (0 : Int64).toInt ≤ (g i).toInt := fun q => z (cv_ge.mpr (Int64.le_iff_toInt_le.mpr q))
      rw [i64_z] at this
      omega
theorem fo_same {g g' : Nat → Int64} : ∀ m i, (∀ h, i ≤ h → h < i + m → g' h = g h) → fo g' m i = fo g m i := by
  intro m
  induction m with
  | zero => intro i _; rfl
  | succ m ih =>
    intro i hg
    rw [fo, fo, hg i (by omega) (by omega), ih (i + 1) (fun h h1 h2 => hg h (by omega) (by omega))]
theorem fw_same {g g' : Nat → Int64} : ∀ m i, (∀ h, i ≤ h → h < i + m → g' h = g h) → fw g' m i = fw g m i := by
  intro m
  induction m with
  | zero => intro i _; rfl
  | succ m ih =>
    intro i hg
    rw [fw, fw, hg i (by omega) (by omega), ih (i + 1) (fun h h1 h2 => hg h (by omega) (by omega))]
theorem fo_zero {g : Nat → Int64} : ∀ m i, (∀ h, i ≤ h → h < i + m → g h = 0) → fo g m i = -1 ∧ fw g m i = -1 := by
  intro m
  induction m with
  | zero => intro i _; exact ⟨rfl, rfl⟩
  | succ m ih =>
    intro i hg
    have := ih (i + 1) (fun h h1 h2 => hg h (by omega) (by omega))
    rw [fo, fw, hg i (by omega) (by omega), if_pos (by decide), if_pos (by decide)]
    exact this
theorem fo_ext {g : Nat → Int64} (k : Nat) : ∀ m i, (∀ h, i + m ≤ h → h < i + m + k → g h = 0) → fo g (m + k) i = fo g m i ∧ fw g (m + k) i = fw g m i := by
  intro m
  induction m with
  | zero =>
    intro i hg
    rw [Nat.zero_add]
    exact fo_zero k i (fun h h1 h2 => hg h (by omega) (by omega))
  | succ m ih =>
    intro i hg
    obtain ⟨a, b⟩ := ih (i + 1) (fun h h1 h2 => hg h (by omega) (by omega))
    rw [show m + 1 + k = m + k + 1 by omega, fo, fo, fw, fw, a, b]
    exact ⟨rfl, rfl⟩
theorem nf_fill (D : Nat → Int64) : ∀ (m i : Nat) (g : Nat → Int64) (a : Nat), (i ≤ a → a < i + m → nf (fun i (g : Nat → Int64) => q_u1 g i (D i)) m i g a = D a) ∧ ((a < i ∨ i + m ≤ a) → nf (fun i (g : Nat → Int64) => q_u1 g i (D i)) m i g a = g a) := by
  intro m
  induction m with
  | zero => intro i g a; exact ⟨fun _ _ => by omega, fun _ => rfl⟩
  | succ m ih =>
    intro i g a
    obtain ⟨h1, h2⟩ := ih (i + 1) (q_u1 g i (D i)) a
    rw [nf]
    refine ⟨fun a1 a2 => ?_, fun a1 => ?_⟩
    · by_cases e : a = i
      · subst e
        rw [h2 (by omega), q_u1_s]
      · exact h1 (by omega) (by omega)
    · rw [h2 (by omega), q_u1_n _ _ (by omega)]
/-- what the HOLDERS have by CLAIMS is 0 in all -/
theorem B_sum {e H C : Nat} {w : Wt} {M : Int} (hH : H ≤ 10) (hM : 0 ≤ M) (hM2 : M ≤ 4304672100000) (hC : C ≤ 60) (hft : ∀ i, i < C → inL (w.1 38 (60 * e + i)) H ∧ inL (w.1 39 (60 * e + i)) H ∧ w.1 38 (60 * e + i) ≠ w.1 39 (60 * e + i)) (hs : ∀ i, i < C → 0 ≤ (w.2 40 (60 * e + i)).toInt ∧ (w.2 40 (60 * e + i)).toInt ≤ M) :
    ∀ (m i : Nat) (v : Nat → Int64), i + m ≤ C → (∀ h, h < 10 → -((i : Int) * M) ≤ (v h).toInt ∧ (v h).toInt ≤ (i : Int) * M) → (∀ h, h < 10 → -(((i + m : Nat) : Int) * M) ≤ (nf (sB1 e h w) m i (v h)).toInt ∧ (nf (sB1 e h w) m i (v h)).toInt ≤ ((i + m : Nat) : Int) * M) ∧ sm (fun h => nf (sB1 e h w) m i (v h)) H = sm v H ∧ ∀ h, H ≤ h → h < 10 → nf (sB1 e h w) m i (v h) = v h := by
  intro m
  induction m with
  | zero => intro i v _ hv; exact ⟨hv, rfl, fun _ _ _ => rfl⟩
  | succ m ih =>
    intro i v hi hv
    obtain ⟨f1, f2, f3⟩ := hft i (by omega)
    obtain ⟨s1, s2⟩ := hs i (by omega)
    obtain ⟨q, hq, eq⟩ := inL_of f1 (by omega)
    obtain ⟨p, hp, ep⟩ := inL_of f2 (by omega)
    have hne : q ≠ p := fun z => f3 (by rw [eq, ep, z])
    have iM : (i : Int) * M ≤ 60 * 4304672100000 := Int.le_trans (Int.mul_le_mul_of_nonneg_right (show (i : Int) ≤ 60 by omega) hM) (by omega)
    have iM0 : 0 ≤ (i : Int) * M := Int.mul_nonneg (by omega) hM
    have iM1 : ((i + 1 : Nat) : Int) * M = (i : Int) * M + M := by rw [Int.natCast_add, Int.add_mul]; simp
    generalize hS : w.2 40 (60 * e + i) = S at *
    have st : ∀ h, h < 10 → sB1 e h w i (v h) = if h = q then v h - S else if h = p then v h + S else v h := by
      intro h hh
      unfold sB1
      rw [eq, ep, hS]
      by_cases z : h = q
      · subst z
        rw [if_pos rfl, if_pos rfl, if_neg (fun y => hne ((nI_eq (by omega) (by omega)).mp y).symm)]
      · rw [if_neg (fun y => z ((nI_eq (by omega) (by omega)).mp y).symm), if_neg z]
        by_cases y : h = p
        · subst y
          rw [if_pos rfl, if_pos rfl]
        · rw [if_neg (fun x => y ((nI_eq (by omega) (by omega)).mp x).symm), if_neg y]
    have sub : (v q - S).toInt = (v q).toInt - S.toInt := Jvm.Kit.i64_sub (by have := hv q (by omega); omega) (by have := hv q (by omega); omega)
    have add : (v p + S).toInt = (v p).toInt + S.toInt := Jvm.Kit.i64_add (by have := hv p (by omega); omega) (by have := hv p (by omega); omega)
    have hv' : ∀ h, h < 10 → -(((i + 1 : Nat) : Int) * M) ≤ (sB1 e h w i (v h)).toInt ∧ (sB1 e h w i (v h)).toInt ≤ ((i + 1 : Nat) : Int) * M := by
      intro h hh
      have b := hv h hh
      rw [st h hh, iM1]
      by_cases z : h = q
      · subst z
        rw [if_pos rfl, sub]; omega
      · rw [if_neg z]
        by_cases y : h = p
        · subst y
          rw [if_pos rfl, add]; omega
        · rw [if_neg y]; omega
    obtain ⟨i1, i2, i3⟩ := ih (i + 1) (fun h => sB1 e h w i (v h)) (by omega) hv'
    refine ⟨fun h hh => ?_, ?_, fun h h1 h2 => ?_⟩
    · have := i1 h hh
      rw [show i + (m + 1) = i + 1 + m by omega]
      exact this
    · refine i2.trans ?_
      have c : sm (fun h => sB1 e h w i (v h)) H = sm (q_u1 (q_u1 v q (v q - S)) p (v p + S)) H := sm_congr H (fun h hh => by
        show sB1 e h w i (v h) = _
        rw [st h (by omega)]
        by_cases z : h = q
        · subst z
          rw [if_pos rfl, q_u1_n _ _ hne, q_u1_s]
        · rw [if_neg z]
          by_cases y : h = p
          · subst y
            rw [if_pos rfl, q_u1_s]
          · rw [if_neg y, q_u1_n _ _ y, q_u1_n _ _ z])
      rw [c, sm_u1, sm_u1, if_pos hp, if_pos hq, q_u1_n _ _ (fun z => hne z.symm), sub, add]
      omega
    · refine (i3 h h1 h2).trans ?_
      show sB1 e h w i (v h) = v h
      rw [st h h2, if_neg (by omega), if_neg (by omega)]
