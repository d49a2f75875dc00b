/-! TEXTS: names; what the reference does at a token -/
theorem aA_f (s : St3) : (aA s).2.1 = s.2.1 := by unfold aA; split <;> rfl
def fnm (nh : Nat → List Nat) (l : List Nat) : Nat → Nat → Int32
| 0, _ => -1
| m + 1, i => if nh i = l then nI i else fnm nh l m (i + 1)
/-- the names of a row -/
def NR (f : Nat → Int32) (g : Nat → Int64) (nh : Nat → List Nat) (N : Nat) : Prop := ∀ i, i < N → Nm (nh i) ∧ f i = nI (c5 (nh i)) ∧ g i = lN (c27 (nh i))
theorem fnv_fnm {f : Nat → Int32} {nh : Nat → List Nat} {l : List Nat} (hl : Nm l) : ∀ m i, (∀ k, k < i + m → Nm (nh k) ∧ f k = nI (c5 (nh k))) → fnv f (nI (c5 l)) m i = fnm nh l m i := by
  intro m
  induction m with
  | zero => intro i _; rfl
  | succ m ih =>
    intro i h
    obtain ⟨h1, h2⟩ := h i (by omega)
    have a := c5_6 h1
    have b := c5_6 hl
    rw [fnv, fnm, h2, ih (i + 1) (fun k hk => h k (by omega))]
    by_cases e : nh i = l
    · rw [if_pos (by rw [e]), if_pos e]
    · rw [if_neg (fun z => e (c5_inj h1 hl ((nI_eq (by omega) (by omega)).mp z))), if_neg e]
theorem c27_inj {k l : List Nat} (hk : Nm k) (hl : Nm l) (h : c27 k = c27 l) : k = l := by
  have ge : ∀ {k : List Nat}, Nm k → 27 ^ (k.length - 1) ≤ c27 k := by
    intro k hk
    cases k with
    | nil => exact absurd hk.1 (by decide)
    | cons x k =>
      rw [c27_cons, List.length_cons, Nat.add_sub_cancel]
      have := Nat.mul_le_mul_right (27 ^ k.length) (hk.2.2 x List.mem_cons_self).1
      omega
  have len : k.length = l.length := by
    have a := c27_lt k hk.2.2
    have b := c27_lt l hl.2.2
    have c := ge hk
    have d := ge hl
    rcases Nat.lt_trichotomy k.length l.length with z | z | z
    · have := Nat.pow_le_pow_right (n := 27) (by decide) (show k.length ≤ l.length - 1 by omega)
      omega
    · exact z
    · have := Nat.pow_le_pow_right (n := 27) (by decide) (show l.length ≤ k.length - 1 by omega)
      omega
  have g : ∀ (k l : List Nat), k.length = l.length → (∀ x, x ∈ k → 1 ≤ x ∧ x ≤ 26) → (∀ x, x ∈ l → 1 ≤ x ∧ x ≤ 26) → c27 k = c27 l → k = l := by
    intro k
    induction k with
    | nil => intro l e _ _ _; exact (List.length_eq_zero_iff.mp e.symm).symm
    | cons x k ih =>
      intro l e h1 h2 hc
      cases l with
      | nil => exact absurd e (by simp)
      | cons y l =>
        have e' : k.length = l.length := by simpa using e
        have lk := c27_lt k (fun z hz => h1 z (List.mem_cons_of_mem _ hz))
        have ll := c27_lt l (fun z hz => h2 z (List.mem_cons_of_mem _ hz))
        rw [c27_cons, c27_cons, e'] at hc
        rw [e'] at lk
        have d1 := dv_ad (p := 0) (q := x) lk (Nat.pow_pos (by decide))
        have d2 := dv_ad (p := 0) (q := y) ll (Nat.pow_pos (by decide))
        have xy : x = y := by rw [← d1.1, hc, d2.1]
        have kl : c27 k = c27 l := by rw [← d1.2, hc, d2.2]
        rw [xy, ih l e' (fun z hz => h1 z (List.mem_cons_of_mem _ hz)) (fun z hz => h2 z (List.mem_cons_of_mem _ hz)) kl]
  exact g k l len hk.2.2 hl.2.2 h
def fnj (f : Nat → Int64) (v : Int64) : Nat → Nat → Int32
| 0, _ => -1
| m + 1, i => if f i = v then nI i else fnj f v m (i + 1)
theorem fnj_fnm {f : Nat → Int64} {nh : Nat → List Nat} {l : List Nat} (hl : Nm l) : ∀ m i, (∀ k, k < i + m → Nm (nh k) ∧ f k = lN (c27 (nh k))) → fnj f (lN (c27 l)) m i = fnm nh l m i := by
  intro m
  induction m with
  | zero => intro i _; rfl
  | succ m ih =>
    intro i h
    obtain ⟨h1, h2⟩ := h i (by omega)
    have a := c27_6 h1
    have b := c27_6 hl
    rw [fnj, fnm, h2, ih (i + 1) (fun k hk => h k (by omega))]
    by_cases e : nh i = l
    · rw [if_pos (by rw [e]), if_pos e]
    · rw [if_neg (fun z => e (c27_inj h1 hl ((lN_eq (by omega) (by omega)).mp z))), if_neg e]
theorem fnm_r (nh : Nat → List Nat) (l : List Nat) : ∀ m i, fnm nh l m i = -1 ∨ ∃ k, i ≤ k ∧ k < i + m ∧ fnm nh l m i = nI k := by
  intro m
  induction m with
  | zero => intro i; exact Or.inl rfl
  | succ m ih =>
    intro i
    rw [fnm]
    by_cases e : nh i = l
    · rw [if_pos e]; exact Or.inr ⟨i, Nat.le_refl _, by omega, rfl⟩
    · rw [if_neg e]
      rcases ih (i + 1) with z | ⟨k, k1, k2, k3⟩
      · exact Or.inl z
      · exact Or.inr ⟨k, by omega, by omega, k3⟩
section
variable (b : Nat → Int32) (L : Nat)
/-- a known name is asked for: the state behind it, which one -/
def aK (nh : Nat → List Nat) (N : Nat) (s : St3) : St3 := aA (if kd b L s.1 = 2 then (if fnm nh (wlt b L s.1) N 0 = -1 then aF b L 2 s else s) else aF b L 1 s)
def vK (nh : Nat → List Nat) (N : Nat) (s : St3) : Int32 := if (aK b L nh N s).2.1 = 0 then fnm nh (wlt b L s.1) N 0 else -1
end
section
variable {bk dr H P n : Nat} {W Z : Mm} {b : Nat → Int32} {L : Nat} {s : St3}
/-- a class name's token -/
theorem kd_2 {i : Nat} (h : kd b L i = 2) : Nm (wlt b L i) ∧ kw (wlt b L i) = -1 ∧ vl b L i = nI (c5 (wlt b L i)) ∧ fr b L i < L ∧ isL (b (fr b L i)) = true := by
  unfold kd at h
  by_cases z : L ≤ fr b L i
  · rw [if_pos z] at h; exact absurd h (by decide)
  · rw [if_neg z] at h
    by_cases l : isL (b (fr b L i)) = true
    · rw [if_pos l] at h
      by_cases w6 : 6 < wd b L i
      · rw [if_pos w6] at h; exact absurd h (by decide)
      · rw [if_neg w6] at h
        by_cases k : kw (wlt b L i) = -1
        · have w := wd_pos (b := b) (L := L) (i := i) (by omega)
          have te_ : sp b L (i + 1) = rn isL b (L - fr b L i) (fr b L i) := by rw [sp_next]; unfold te; rw [if_neg z, if_pos l]
          refine ⟨⟨by unfold wlt; rw [lts_len]; exact w.1, by unfold wlt; rw [lts_len]; omega, lts_ok _ _ (fun j h1 h2 => ?_)⟩, k, ?_, by omega, l⟩
          · have r := (rn_b isL b (L - fr b L i) (fr b L i)).2.2.1 j h1
            rw [← te_] at r
            exact r (by omega)
          · unfold vl; rw [if_pos l, if_pos k]
        · rw [if_neg k] at h; exact absurd h (by decide)
    · rw [if_neg l] at h
      split at h
      · split at h <;> exact absurd h (by decide)
      · split at h <;> exact absurd h (by decide)
theorem c_known (h : CTok b L bk dr W) (hv : VI b L s.1) (hn : 1000 ≤ n) {q N M : Nat} (hq : sh_T q = 14) (hM : sh_L q = M) (hN : N ≤ M) (hM5 : M < 1000) (q2 : q ≠ 2) {nh : Nat → List Nat} (hnr : ∀ i, i < N → Nm (nh i) ∧ mI W q i = nI (c5 (nh i))) :
    fX9_takeKnown n 2 q (nI N) (U2 s W) = some (vK b L nh N s, U2 (aK b L nh N s) W) := by
  obtain ⟨t1, t2, t3, t4, t5, t6, t7⟩ := h.at hv
  have hs := h.u s
  have ci := c_ix (n := n) (U2 s W) (q := q) (N := N) (by rw [hs.1]; exact hq) (M := M) (by rw [hs.2.1]; exact hM) hN hM5 hn
  have rowq : mI (U2 s W) q = mI W q := funext fun k => U2_Io _ _ q2 k
  rw [rowq] at ci
  have v0 := c_val h hv
  have v1 := c_val (s := aF b L 1 s) h (by rw [aF_1]; exact hv)
  have v2 := c_val (s := aF b L 2 s) h (by rw [aF_1]; exact hv)
  have cf1 := c_fail h hv 1
  have cf2 := c_fail h hv 2
  have s1 := (h.u (aF b L 1 s)).1
  have s2 := (h.u (aF b L 2 s)).1
  rw [if_neg (aF_f (by decide) s)] at v1 v2
  unfold vK
  by_cases z : kd b L s.1 = 2
  · obtain ⟨k1, k2, k3, k4, k5⟩ := kd_2 z
    have tv := t2 (Or.inr (Or.inl z))
    rw [k3] at tv
    have f := fnv_fnm (f := mI W q) (nh := nh) k1 N 0 (fun k hk => hnr k (by omega))
    have ci2 := ci (nI (c5 (wlt b L s.1)))
    rw [f] at ci2
    unfold aK
    rw [if_pos z]
    by_cases y : fnm nh (wlt b L s.1) N 0 = -1
    · rw [if_pos y, aA_f, if_neg (aF_f (by decide) s)]
      rw [y] at ci2
      have h := hs
      simp only [fX9_takeKnown, fX9_takeKnown_L46, h.1, h.2.1, h.2.2, li_T, li_L, li_R, nm, bd, q_b, ne_eq, Nat.reduceEqDiff, reduceCtorEq, and_false, false_and, and_true, true_and, and_self, not_false_eq_true, not_true_eq_false, ↓reduceIte, t4, t6, t7.1, t7.2, tv, ci2, t1, z, cf2, s2, v2]
    · rw [if_neg y, aA_f]
      have vne : ¬ nI (c5 (wlt b L s.1)) = (-1 : Int32) := fun x => by
        have := congrArg Int32.toInt x
        rw [nI_toInt (by have := c5_6 k1; omega)] at this
        have e : (-1 : Int32).toInt = -1 := by decide
        omega
      rw [U2_Io _ _ (by decide)] at tv
      rw [tv] at v0
      rw [← U2_Io s W (show 6 ≠ 2 by decide) s.1] at tv
      by_cases u : s.2.1 = 0
      · rw [if_pos u]
        rw [if_pos u] at v0
        have h := hs
        simp only [fX9_takeKnown, fX9_takeKnown_L46, h.1, h.2.1, h.2.2, li_T, li_L, li_R, nm, bd, q_b, ne_eq, Nat.reduceEqDiff, reduceCtorEq, and_false, false_and, and_true, true_and, and_self, not_false_eq_true, not_true_eq_false, ↓reduceIte, t4, t6, t7.1, t7.2, tv, ci2, t1, z, y, v0, vne]
      · rw [if_neg u]
        rw [if_neg u] at v0
        have h := hs
        simp only [fX9_takeKnown, fX9_takeKnown_L46, h.1, h.2.1, h.2.2, li_T, li_L, li_R, nm, bd, q_b, ne_eq, Nat.reduceEqDiff, reduceCtorEq, and_false, false_and, and_true, true_and, and_self, not_false_eq_true, not_true_eq_false, ↓reduceIte, t4, t6, t7.1, t7.2, tv, ci2, t1, z, y, v0]
  · have ci3 := ci (mI (U2 s W) 6 s.1)
    unfold aK
    rw [if_neg z, aA_f, if_neg (aF_f (by decide) s)]
    have h := hs
    simp only [fX9_takeKnown, fX9_takeKnown_L46, h.1, h.2.1, h.2.2, li_T, li_L, li_R, nm, bd, q_b, ne_eq, Nat.reduceEqDiff, reduceCtorEq, and_false, false_and, and_true, true_and, and_self, not_false_eq_true, not_true_eq_false, ↓reduceIte, t4, t6, t7.1, t7.2, ci3, t1, z, cf1, s1, v1]
/-! the reference -/
def RS (b : Nat → Int32) (L : Nat) (s : St3) (Z : Mm) : Mm := FM (fun k => if k = 22 then s.2.1 else if k = 23 then s.2.2 else rrI b L (fr b L s.1) k (mI Z 366 k)) (rrJ b L (fr b L s.1)) Z
theorem FM_N (g : Nat → Int32) (c : Int64) (Z : Mm) : mN (FM g c Z) = mN Z ∧ mS (FM g c Z) = mS Z := ⟨rfl, rfl⟩
theorem FM_Jk (g : Nat → Int32) (c : Int64) (Z : Mm) (j : Nat) : mJ (FM g c Z) 366 j = if j = 21 then c else mJ Z 366 j := by
  unfold FM
  rw [mJ_wJ]
theorem FM_Jo (g : Nat → Int32) (c : Int64) (Z : Mm) {a : Nat} (h : a ≠ 366) (j : Nat) : mJ (FM g c Z) a j = mJ Z a j := by
  unfold FM
  rw [mJ_wJo h]
  rfl
theorem rrI_out {b : Nat → Int32} {L q k : Nat} (h : k < 14 ∨ 20 < k) (x : Int32) : rrI b L q k x = x := by
  unfold rrI
  rw [if_neg (by omega), if_neg (by omega), if_neg (by omega), if_neg (by omega), if_neg (by omega), if_neg (by omega), if_neg (by omega)]
theorem rrI_in {b : Nat → Int32} {L q k : Nat} (h1 : 14 ≤ k) (h2 : k ≤ 20) (x y : Int32) : rrI b L q k x = rrI b L q k y := by
  rcases (by omega : k = 14 ∨ k = 15 ∨ k = 16 ∨ k = 17 ∨ k = 18 ∨ k = 19 ∨ k = 20) with rfl | rfl | rfl | rfl | rfl | rfl | rfl <;> rfl
theorem rrI_rr {b : Nat → Int32} {L q q' k : Nat} (x : Int32) : rrI b L q k (rrI b L q' k x) = rrI b L q k x := by
  by_cases h : 14 ≤ k ∧ k ≤ 20
  · exact rrI_in h.1 h.2 _ _
  · rw [rrI_out (by omega), rrI_out (by omega), rrI_out (by omega)]
theorem FM_FM (g h : Nat → Int32) (c d : Int64) (Z : Mm) : FM g c (FM h d Z) = FM g c Z := by
  refine Mm_ext rfl rfl rfl ?_ ?_ rfl rfl
  · funext a j
    by_cases e : a = 366
    · subst e; rw [FM_I, FM_I]
    · rw [FM_Io _ _ _ e, FM_Io _ _ _ e, FM_Io _ _ _ e]
  · funext a j
    by_cases e : a = 366
    · subst e
      rw [FM_Jk, FM_Jk, FM_Jk]
      by_cases e2 : j = 21
      · rw [if_pos e2, if_pos e2]
      · rw [if_neg e2, if_neg e2, if_neg e2]
    · rw [FM_Jo _ _ _ e, FM_Jo _ _ _ e, FM_Jo _ _ _ e]
theorem RS_I (s : St3) (Z : Mm) (k : Nat) : mI (RS b L s Z) 366 k = if k = 22 then s.2.1 else if k = 23 then s.2.2 else rrI b L (fr b L s.1) k (mI Z 366 k) := FM_I _ _ _ _
theorem RS_Io (s : St3) (Z : Mm) {a : Nat} (h : a ≠ 366) (k : Nat) : mI (RS b L s Z) a k = mI Z a k := FM_Io _ _ _ h k
theorem RS_J (s : St3) (Z : Mm) : mJ (RS b L s Z) 366 21 = rrJ b L (fr b L s.1) := FM_J _ _ _
theorem RS_o (s : St3) (Z : Mm) {k : Nat} (h : k < 14 ∨ 23 < k ∨ k = 21) : mI (RS b L s Z) 366 k = mI Z 366 k := by
  rw [RS_I, if_neg (by omega), if_neg (by omega)]
  unfold rrI
  rw [if_neg (by omega), if_neg (by omega), if_neg (by omega), if_neg (by omega), if_neg (by omega), if_neg (by omega), if_neg (by omega)]
theorem RS_22 (s : St3) (Z : Mm) (v : Int32) : sI (RS b L s Z) 366 22 v = RS b L (s.1, v, s.2.2) Z := by
  unfold RS
  rw [sI_FM]
  congr 1
  funext k
  rw [q_u1_is]
  by_cases e : k = 22
  · rw [if_pos e, if_pos e]
  · rw [if_neg e, if_neg e, if_neg e]
theorem RS_23 (s : St3) (Z : Mm) (v : Int32) : sI (RS b L s Z) 366 23 v = RS b L (s.1, s.2.1, v) Z := by
  unfold RS
  rw [sI_FM]
  congr 1
  funext k
  rw [q_u1_is]
  by_cases e : k = 23
  · rw [if_pos e, if_neg (by omega), if_pos e]
  · rw [if_neg e, if_neg e, if_neg e]
theorem Ref.rs (h : Ref bk dr b L Z) (s : St3) : Ref bk dr b L (RS b L s Z) := h.fm _ _ (by
  show (if 13 = 22 then _ else if 13 = 23 then _ else rrI b L (fr b L s.1) 13 (mI Z 366 13)) = _
  rw [if_neg (by decide), if_neg (by decide)]
  unfold rrI
  rw [if_neg (by decide), if_neg (by decide), if_neg (by decide), if_neg (by decide), if_neg (by decide), if_neg (by decide), if_neg (by decide)]
  exact h.2.2.1)
theorem m_next (h : Ref bk dr b L Z) (hn : 1000 ≤ n) (s : St3) : fX12_next n 366 (RS b L s Z) = some ((), RS b L (s.1 + 1, s.2.1, s.2.2) Z) := by
  have hs := sp_le (b := b) (L := L) (s.1 + 1)
  have L7 := h.2.1
  have r := m_nextL (n := n) (c := rrJ b L (fr b L s.1)) h hn 700 (sp b L (s.1 + 1)) (fun k => if k = 22 then s.2.1 else if k = 23 then s.2.2 else rrI b L (fr b L s.1) k (mI Z 366 k)) n (by omega) (by omega) hs.1 (by
    show (if 13 = 22 then _ else if 13 = 23 then _ else rrI b L (fr b L s.1) 13 (mI Z 366 13)) = _
    rw [if_neg (by decide), if_neg (by decide)]
    unfold rrI
    rw [if_neg (by decide), if_neg (by decide), if_neg (by decide), if_neg (by decide), if_neg (by decide), if_neg (by decide), if_neg (by decide)]
    exact h.2.2.1) (by
    show (if 14 = 22 then _ else if 14 = 23 then _ else rrI b L (fr b L s.1) 14 (mI Z 366 14)) = _
    rw [if_neg (by decide), if_neg (by decide)]
    unfold rrI
    rw [if_pos rfl]
    rfl)
  unfold fX12_next
  refine Eq.trans r ?_
  congr 1
  congr 1
  unfold RS
  congr 1
  funext k
  show rrI b L (fr b L (s.1 + 1)) k (if k = 22 then s.2.1 else if k = 23 then s.2.2 else rrI b L (fr b L s.1) k (mI Z 366 k)) = _
  by_cases e22 : k = 22
  · rw [if_pos e22, if_pos e22, e22]
    unfold rrI
    rw [if_neg (by decide), if_neg (by decide), if_neg (by decide), if_neg (by decide), if_neg (by decide), if_neg (by decide), if_neg (by decide)]
  · rw [if_neg e22, if_neg e22]
    by_cases e23 : k = 23
    · rw [if_pos e23, if_pos e23, e23]
      unfold rrI
      rw [if_neg (by decide), if_neg (by decide), if_neg (by decide), if_neg (by decide), if_neg (by decide), if_neg (by decide), if_neg (by decide)]
    · rw [if_neg e23, if_neg e23]
      exact rrI_rr _
end
