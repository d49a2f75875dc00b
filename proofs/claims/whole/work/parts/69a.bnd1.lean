/-! BOUNDS: SHARES go from one to another, sums -/
theorem i64_z : (0 : Int64).toInt = 0 := by decide
theorem sm_u1 (g : Nat → Int64) {k : Nat} (v : Int64) : ∀ m, sm (q_u1 g k v) m = sm g m + if k < m then v.toInt - (g k).toInt else 0 := by
  intro m
  induction m with
  | zero => rfl
  | succ m ih =>
    rw [sm, sm, ih]
    by_cases e : k = m
    · subst e
      rw [if_neg (by omega), if_pos (by omega), q_u1_s]
      omega
    · rw [q_u1_n g v (fun z => e z.symm)]
      by_cases l : k < m
      · rw [if_pos l, if_pos (by omega)]; omega
      · rw [if_neg l, if_neg (by omega)]; omega
theorem sm_pos {g : Nat → Int64} : ∀ m, (∀ h, h < m → 0 ≤ (g h).toInt) → 0 ≤ sm g m ∧ ∀ h, h < m → 0 < (g h).toInt → 0 < sm g m := by
  intro m
  induction m with
  | zero => intro _; exact ⟨Int.le_refl _, fun h hh => by omega⟩
  | succ m ih =>
    intro hg
    obtain ⟨i1, i2⟩ := ih (fun h hh => hg h (by omega))
    have l := hg m (by omega)
    rw [sm]
    refine ⟨by omega, fun h hh p => ?_⟩
    by_cases e : h = m
    · subst e; omega
    · have := i2 h (by omega) p; omega
theorem sm_ge {g : Nat → Int64} : ∀ m, (∀ h, h < m → 0 ≤ (g h).toInt) → ∀ h, h < m → (g h).toInt ≤ sm g m := by
  intro m
  induction m with
  | zero => intro _ h hh; omega
  | succ m ih =>
    intro hg h hh
    have i1 := (sm_pos m (fun h hh => hg h (by omega))).1
    have l := hg m (by omega)
    rw [sm]
    by_cases e : h = m
    · subst e; omega
    · have := ih (fun h hh => hg h (by omega)) h (by omega); omega
theorem sm_mono {g : Nat → Int64} (m : Nat) : ∀ d, (∀ h, h < m + d → 0 ≤ (g h).toInt) → sm g m ≤ sm g (m + d) := by
  intro d
  induction d with
  | zero => intro _; exact Int.le_refl _
  | succ d ih =>
    intro hg
    have := ih (fun h hh => hg h (by omega))
    have l := hg (m + d) (by omega)
    rw [← Nat.add_assoc, sm]
    omega
theorem mxT_8 : ∀ k, k ≤ 8 → mxT k ≤ 4304672100000 := by
  intro k hk
  have : ∀ j, j < 9 → mxT j ≤ 4304672100000 := by decide
  exact this k (by omega)
theorem mxS_8 : ∀ k, k ≤ 8 → mxS k ≤ 4000000000000000 := by
  intro k hk
  have : ∀ j, j < 9 → mxS j ≤ 4000000000000000 := by decide
  exact this k (by omega)
theorem dn_le (w : Wt) : ∀ m, dn w m ≤ m := by
  intro m
  induction m with
  | zero => exact Nat.le_refl _
  | succ m ih => rw [dn]; split <;> omega
theorem mxT_mono {a : Nat} : ∀ d, mxT a ≤ mxT (a + d) := by
  intro d
  induction d with
  | zero => exact Int.le_refl _
  | succ d ih =>
    have := mxT_pos (a + d)
    rw [← Nat.add_assoc, mxT]
    omega
theorem mxS_mono {a : Nat} : ∀ d, mxS a ≤ mxS (a + d) := by
  intro d
  induction d with
  | zero => exact Int.le_refl _
  | succ d ih =>
    have := mxT_pos (a + d)
    have := mxS_pos (a + d)
    rw [← Nat.add_assoc, mxS]
    omega
theorem mxT_le {a b : Nat} (h : a ≤ b) : mxT a ≤ mxT b := by
  have := mxT_mono (a := a) (b - a)
  rw [show a + (b - a) = b by omega] at this
  exact this
theorem mxS_le {a b : Nat} (h : a ≤ b) : mxS a ≤ mxS b := by
  have := mxS_mono (a := a) (b - a)
  rw [show a + (b - a) = b by omega] at this
  exact this
/-- done with: never fewer, one more -/
theorem dn_mono {w u : Wt} : ∀ m, (∀ e, e < m → u.1 25 e = w.1 25 e ∨ (w.1 25 e = 0 ∧ u.1 25 e = 1) ∨ (u.1 25 e ≠ 0 ∧ u.1 25 e ≠ 1)) → dn w m ≤ dn u m ∧ ∀ e, e < m → (w.1 25 e = 0 ∨ w.1 25 e = 1) → (u.1 25 e ≠ 0 ∧ u.1 25 e ≠ 1) → dn w m + 1 ≤ dn u m := by
  intro m
  induction m with
  | zero => intro _; exact ⟨Nat.le_refl _, fun e he => by omega⟩
  | succ m ih =>
    intro hu
    obtain ⟨i1, i2⟩ := ih (fun e he => hu e (by omega))
    have st : (if w.1 25 m = 0 ∨ w.1 25 m = 1 then 0 else 1) ≤ (if u.1 25 m = 0 ∨ u.1 25 m = 1 then 0 else 1) := by
      rcases hu m (by omega) with z | ⟨z1, z2⟩ | ⟨z1, z2⟩
      · rw [z]; exact Nat.le_refl _
      · rw [if_pos (Or.inl z1)]; exact Nat.zero_le _
      · rw [if_neg (c := u.1 25 m = 0 ∨ u.1 25 m = 1) (fun y => y.elim z1 z2)]
        split <;> omega
    rw [dn, dn]
    refine ⟨by omega, fun e he a b => ?_⟩
    by_cases z : e = m
    · subst z
      rw [if_pos a, if_neg (fun y => y.elim b.1 b.2)]
      omega
    · have := i2 e (by omega) a b
      omega
def Sh0 (M : Int) (g : Nat → Int64) : Prop := (∀ i, i < 50 → 0 ≤ (g i).toInt) ∧ sm g 50 ≤ M
theorem Sh0.le {M N : Int} {g : Nat → Int64} (h : Sh0 M g) (hM : M ≤ N) : Sh0 N g := ⟨h.1, Int.le_trans h.2 hM⟩
theorem Sh0.sub {M : Int} {g : Nat → Int64} {i : Nat} {v : Int64} (h : Sh0 M g) (hM : M ≤ 2 ^ 61) (hi : i < 50) (h0 : 0 ≤ v.toInt) (hv : v.toInt ≤ (g i).toInt) : Sh0 (M - v.toInt) (q_u1 g i (g i + -v)) := by
  have b := sm_ge 50 h.1 i hi
  have hm := h.2
  have n : (-v).toInt = -v.toInt := Jvm.Kit.i64_neg (by omega)
  have a : (g i + -v).toInt = (g i).toInt - v.toInt := by rw [Jvm.Kit.i64_add (by rw [n]; omega) (by rw [n]; omega), n]; omega
  refine ⟨fun k hk => ?_, ?_⟩
  · by_cases e : k = i
    · subst e; rw [q_u1_s, a]; omega
    · rw [q_u1_n _ _ e]; exact h.1 k hk
  · rw [sm_u1, if_pos hi, a]; omega
theorem Sh0.add {M : Int} {g : Nat → Int64} {j : Nat} {v : Int64} (h : Sh0 M g) (hM : M + v.toInt ≤ 2 ^ 61) (hj : j < 50) (h0 : 0 ≤ v.toInt) : Sh0 (M + v.toInt) (q_u1 g j (g j + v)) := by
  have b := sm_ge 50 h.1 j hj
  have c := h.1 j hj
  have hm := h.2
  have a : (g j + v).toInt = (g j).toInt + v.toInt := Jvm.Kit.i64_add (by omega) (by omega)
  refine ⟨fun k hk => ?_, ?_⟩
  · by_cases e : k = j
    · subst e; rw [q_u1_s, a]; omega
    · rw [q_u1_n _ _ e]; exact h.1 k hk
  · rw [sm_u1, if_pos hj, a]; omega
theorem Sh0.move {M : Int} {g : Nat → Int64} {i j : Nat} {v : Int64} (h : Sh0 M g) (hM : M ≤ 2 ^ 61) (hi : i < 50) (hj : j < 50) (h0 : 0 ≤ v.toInt) (hv : v.toInt ≤ (g i).toInt) : Sh0 M (q_u1 (q_u1 g i (g i + -v)) j (q_u1 g i (g i + -v) j + v)) := by
  have := (h.sub hM hi h0 hv).add (j := j) (v := v) (by omega) hj h0
  rw [Int.sub_add_cancel] at this
  exact this
theorem N_add_row (i : Nat) (v : Int64) (w : Wt) : (N_add i v w).2 1 = q_u1 (w.2 1) i (w.2 1 i + v) := by
  show q_u1 w.2 1 (q_u1 (w.2 1) i (w.2 1 i + v)) 1 = _
  exact q_u1_s _ _ _
theorem N_mv_row (a b : Nat) (v : Int64) (w : Wt) : (N_mv a b v w).2 1 = w.2 1 := funext fun k => N_mv_2 a b v w (by decide) k
theorem N_pu_row (a : Nat) (v : Int64) (w : Wt) : (N_pu a v w).2 1 = w.2 1 := funext fun k => N_pu_2 a v w (by decide) k
theorem N_issue_o (e : Nat) (x y : Int64) (w : Wt) {a : Nat} (h : a ≠ 28 ∧ a ≠ 29) (k : Nat) : (N_issue e x y w).2 a k = w.2 a k := by
  unfold N_issue
  rw [uJ_2, if_neg (by omega), uJ_2, if_neg (by omega)]
theorem ge_of {a b : Int64} (h : ¬ lg_cmp a b < 0) : b.toInt ≤ a.toInt := by
  have : ¬ a.toInt < b.toInt := fun q => h (cv_lt.mpr (Int64.lt_iff_toInt_lt.mpr q))
  omega
theorem Sh0.settle {M : Int} {t : Nat} {w : Wt} (h : Sh0 M (w.2 1)) (hM : M ≤ 2 ^ 61) (h7 : 0 ≤ (w.2 7 t).toInt) (ok : okF w.1 t) : Sh0 M ((N_settle t w).2 1) := by
  unfold N_settle
  split
  · split
    · exact h
    · split
      · exact h
      · rename_i z
        have i1 := (i5_ix ok.2.1 ok.2.2).2.2
        have i2 := (i5_ix ok.1 ok.2.2).2.2
        show Sh0 M ((N_mv (w.1 4 t).toNatClampNeg (w.1 5 t).toNatClampNeg (w.2 8 t) (N_add (ix (w.1 4 t) (w.1 6 t)) (w.2 7 t) (N_add (ix (w.1 5 t) (w.1 6 t)) (-(w.2 7 t)) w))).2 1)
        rw [N_mv_row, N_add_row, N_add_row]
        exact h.move hM i1 i2 h7 (ge_of z)
  · exact h
/-- what a ratio gives -/
theorem N_sf_b {e : Nat} {v : Int64} {w : Wt} (ha : inL (w.1 17 e) 10) (hb : inL (w.1 18 e) 10) (b1 : 1 ≤ w.1 18 e) (v0 : 0 ≤ v.toInt) (vM : v.toInt ≤ 2 ^ 58) : 0 ≤ (N_sf e v w).toInt ∧ (N_sf e v w).toInt ≤ 9 * v.toInt := by
  obtain ⟨a, a10, ea⟩ := inL_of ha (by decide)
  obtain ⟨b, b10, eb⟩ := inL_of hb (by decide)
  have bn : 1 ≤ b := by
    rw [eb, show (1 : Int32) = nI 1 from rfl, nI_leI (by omega) (by omega)] at b1
    exact b1
  obtain ⟨k, hk, rfl⟩ : ∃ k : Nat, (k : Int) = v.toInt ∧ v = lN k := ⟨v.toInt.toNat, by omega, Int64.toInt_inj.mp (by rw [pk_lT (by omega)]; omega)⟩
  unfold N_sf
  rw [if_pos b1, ea, eb, nI_l (by omega), nI_l (by omega), lN_mul]
  have m := Nat.mul_le_mul_left k (show a ≤ 9 by omega)
  have kb : k < 2 ^ 59 := by omega
  rw [pk_lDiv (a := k * a) (b := b) (by omega) (by omega) (by omega)]
  have d := Nat.div_le_self (k * a) b
  generalize k * a / b = y at d ⊢
  generalize k * a = x at d m
  rw [pk_lT (by omega), pk_lT (by omega)]
  omega
/-! a TURN of all HOLDERS' SHARES -/
def Pt (M : Int) (k : Nat) (g : Nat → Int64) : Prop := (∀ i, i < 50 → 0 ≤ (g i).toInt) ∧ sm g k + 9 * (sm g 50 - sm g k) ≤ M
theorem sm_blk {g : Nat → Int64} (hg : ∀ i, i < 50 → 0 ≤ (g i).toInt) {h p : Nat} (hh : h < 10) (hp : p < 5) : sm g (5 * h) + (g (5 * h + p)).toInt ≤ sm g (5 * (h + 1)) := by
  have e : sm g (5 * (h + 1)) = sm g (5 * h) + (g (5 * h)).toInt + (g (5 * h + 1)).toInt + (g (5 * h + 2)).toInt + (g (5 * h + 3)).toInt + (g (5 * h + 4)).toInt := by
    rw [show 5 * (h + 1) = 5 * h + 4 + 1 by omega, sm, sm, sm, sm, sm]
  have c0 := hg (5 * h) (by omega)
  have c1 := hg (5 * h + 1) (by omega)
  have c2 := hg (5 * h + 2) (by omega)
  have c3 := hg (5 * h + 3) (by omega)
  have c4 := hg (5 * h + 4) (by omega)
  rw [e]
  rcases (by omega : p = 0 ∨ p = 1 ∨ p = 2 ∨ p = 3 ∨ p = 4) with rfl | rfl | rfl | rfl | rfl
  · rw [Nat.add_zero]; omega
  · omega
  · omega
  · omega
  · omega
theorem Pt.step {M : Int} {h p q : Nat} {g : Nat → Int64} {s : Int64} (H : Pt M (5 * h) g) (hM : M ≤ 2 ^ 57) (hh : h < 10) (hp : p < 5) (hq : q < 5) (s0 : 0 ≤ s.toInt) (s9 : s.toInt ≤ 9 * (g (5 * h + p)).toInt) : Pt M (5 * (h + 1)) (q_u1 (q_u1 g (5 * h + p) (g (5 * h + p) + -(g (5 * h + p)))) (5 * h + q) (q_u1 g (5 * h + p) (g (5 * h + p) + -(g (5 * h + p))) (5 * h + q) + s)) := by
  obtain ⟨H1, H2⟩ := H
  have b1 := sm_blk H1 hh hp
  have m1 : sm g (5 * h) ≤ sm g 50 := by
    have := sm_mono (g := g) (5 * h) (50 - 5 * h) (fun k hk => H1 k (by omega))
    rw [show 5 * h + (50 - 5 * h) = 50 by omega] at this
    exact this
  have m2 : sm g (5 * (h + 1)) ≤ sm g 50 := by
    have := sm_mono (g := g) (5 * (h + 1)) (50 - 5 * (h + 1)) (fun k hk => H1 k (by omega))
    rw [show 5 * (h + 1) + (50 - 5 * (h + 1)) = 50 by omega] at this
    exact this
  have m0 := (sm_pos (g := g) (5 * h) (fun k hk => H1 k (by omega))).1
  have gp := H1 (5 * h + p) (by omega)
  have gq := H1 (5 * h + q) (by omega)
  have gpl := sm_ge 50 H1 (5 * h + p) (by omega)
  have gql := sm_ge 50 H1 (5 * h + q) (by omega)
  have n : (-(g (5 * h + p))).toInt = -(g (5 * h + p)).toInt := Jvm.Kit.i64_neg (by omega)
  have z0 : (g (5 * h + p) + -(g (5 * h + p))).toInt = 0 := by rw [Jvm.Kit.i64_add (by rw [n]; omega) (by rw [n]; omega), n]; omega
  have u : (q_u1 g (5 * h + p) (g (5 * h + p) + -(g (5 * h + p))) (5 * h + q)).toInt = if q = p then 0 else (g (5 * h + q)).toInt := by
    by_cases e : q = p
    · subst e; rw [q_u1_s, z0, if_pos rfl]
    · rw [q_u1_n _ _ (by omega), if_neg e]
  have us : (q_u1 g (5 * h + p) (g (5 * h + p) + -(g (5 * h + p))) (5 * h + q) + s).toInt = (if q = p then 0 else (g (5 * h + q)).toInt) + s.toInt := by
    rw [Jvm.Kit.i64_add (by rw [u]; split <;> omega) (by rw [u]; split <;> omega), u]
  refine ⟨fun k hk => ?_, ?_⟩
  · by_cases e : k = 5 * h + q
    · subst e; rw [q_u1_s, us]; split <;> omega
    · rw [q_u1_n _ _ e]
      by_cases e2 : k = 5 * h + p
      · subst e2; rw [q_u1_s, z0]; exact Int.le_refl _
      · rw [q_u1_n _ _ e2]; exact H1 k hk
  · have t : ∀ m, sm (q_u1 (q_u1 g (5 * h + p) (g (5 * h + p) + -(g (5 * h + p)))) (5 * h + q) (q_u1 g (5 * h + p) (g (5 * h + p) + -(g (5 * h + p))) (5 * h + q) + s)) m = sm g m + (if 5 * h + p < m then 0 - (g (5 * h + p)).toInt else 0) + if 5 * h + q < m then s.toInt else 0 := by
      intro m
      rw [sm_u1, sm_u1, us, u, z0]
      by_cases e : 5 * h + q < m
      · rw [if_pos e, if_pos e]; omega
      · rw [if_neg e, if_neg e]
    rw [t, t, if_pos (by omega), if_pos (by omega), if_pos (by omega), if_pos (by omega)]
    omega
