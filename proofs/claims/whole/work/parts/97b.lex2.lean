/-! TEXTS: the class's tokens -/
def wl (v c : Int32) : Int32 := (v <<< ((5 : Int32) &&& 31)) ||| ((c - (97 : Int32)) + (1 : Int32))
def wlf (b : Nat → Int32) : Nat → Nat → Int32 → Int32
| 0, _, v => v
| m + 1, q, v => wlf b m (q + 1) (wl v (b q))
theorem isL_nI {c : Int32} (h : isL c = true) : ∃ x, 1 ≤ x ∧ x ≤ 26 ∧ c = nI (96 + x) ∧ ltr c = x := by
  unfold isL at h
  have h := of_decide_eq_true h
  have a := Int32.le_iff_toInt_le.mp h.1
  have b := Int32.le_iff_toInt_le.mp h.2
  have e1 : (97 : Int32).toInt = 97 := by decide
  have e2 : (122 : Int32).toInt = 122 := by decide
  refine ⟨c.toInt.toNat - 96, by omega, by omega, Int32.toInt_inj.mp ?_, rfl⟩
  rw [nI_toInt (by omega)]
  omega
theorem isD_nI {c : Int32} (h : isD c = true) : ∃ x, x ≤ 9 ∧ c = nI (48 + x) ∧ c.toInt.toNat - 48 = x := by
  unfold isD at h
  have h := of_decide_eq_true h
  have a := Int32.le_iff_toInt_le.mp h.1
  have b := Int32.le_iff_toInt_le.mp h.2
  have e1 : (48 : Int32).toInt = 48 := by decide
  have e2 : (57 : Int32).toInt = 57 := by decide
  refine ⟨c.toInt.toNat - 48, by omega, Int32.toInt_inj.mp ?_, rfl⟩
  rw [nI_toInt (by omega)]
  omega
theorem wl_nI {a x : Nat} (ha : a < 2 ^ 25) (h1 : 1 ≤ x) (h2 : x ≤ 26) : wl (nI a) (nI (96 + x)) = nI (32 * a + x) := by
  have s : (nI (96 + x) - (97 : Int32)) + 1 = nI x := by
    rw [show (97 : Int32) = nI 97 from rfl, pk_sub (by omega), nI_1, show 96 + x - 97 + 1 = x by omega]
  unfold wl
  rw [s]
  refine Int32.toBitVec_inj.mp (BitVec.eq_of_toNat_eq ?_)
  have e1 := pk_shl (nI a) ((5 : Int32) &&& 31) 5 (by decide)
  have e2 : (nI a).toBitVec.toNat = a := pk_tn (by omega)
  have e3 : (nI x).toBitVec.toNat = x := pk_tn (by omega)
  have e4 : (nI (32 * a + x)).toBitVec.toNat = 32 * a + x := pk_tn (by omega)
  show ((nI a <<< ((5 : Int32) &&& 31)).toBitVec ||| (nI x).toBitVec).toNat = _
  rw [BitVec.toNat_or, e1, e2, e3, e4, Nat.mod_eq_of_lt (by omega), Nat.mul_comm]
  exact (Nat.two_pow_add_eq_or_of_lt (i := 5) (b := x) (by omega) a).symm
theorem c5_app (l : List Nat) (a : Nat) : l.foldl (fun a x => 32 * a + x) a = a * 32 ^ l.length + c5 l := fold_b 32 l a
theorem lts_len (b : Nat → Int32) : ∀ m q, (lts b m q).length = m := by
  intro m
  induction m with
  | zero => intro q; rfl
  | succ m ih => intro q; rw [lts, List.length_cons, ih]
theorem lts_ok {b : Nat → Int32} : ∀ m q, (∀ j, q ≤ j → j < q + m → isL (b j) = true) → ∀ x, x ∈ lts b m q → 1 ≤ x ∧ x ≤ 26 := by
  intro m
  induction m with
  | zero => intro q _ x hx; exact absurd hx (by rw [lts]; simp)
  | succ m ih =>
    intro q h x hx
    rw [lts] at hx
    rcases List.mem_cons.mp hx with e | e
    · obtain ⟨y, y1, y2, -, y4⟩ := isL_nI (h q (Nat.le_refl _) (by omega))
      rw [e, y4]
      exact ⟨y1, y2⟩
    · exact ih (q + 1) (fun j h1 h2 => h j (by omega) (by omega)) x e
theorem wlf_c5 {b : Nat → Int32} : ∀ m q a, (∀ j, q ≤ j → j < q + m → isL (b j) = true) → (m = 0 ∨ a < 32 ^ (6 - m)) → m ≤ 6 → wlf b m q (nI a) = nI (a * 32 ^ m + c5 (lts b m q)) := by
  intro m
  induction m with
  | zero =>
    intro q a _ _ _
    show nI a = nI (a * 32 ^ 0 + 0)
    rw [Nat.pow_zero, Nat.mul_one, Nat.add_zero]
  | succ m ih =>
    intro q a h ha hm
    obtain ⟨y, y1, y2, y3, y4⟩ := isL_nI (h q (Nat.le_refl _) (by omega))
    have a6 : a < 32 ^ (6 - (m + 1)) := by
      rcases ha with z | z
      · omega
      · exact z
    have a5 : 32 ^ (6 - (m + 1)) ≤ 32 ^ 5 := Nat.pow_le_pow_right (by decide) (by omega)
    have n5 : (32 : Nat) ^ 5 = 2 ^ 25 := by decide
    rw [wlf, y3, wl_nI (by omega) y1 y2, ih (q + 1) (32 * a + y) (fun j h1 h2 => h j (by omega) (by omega)) (by
      by_cases z : m = 0
      · exact Or.inl z
      · refine Or.inr ?_
        have e : 32 ^ (6 - m) = 32 ^ (6 - (m + 1)) * 32 := by rw [show 6 - m = 6 - (m + 1) + 1 by omega, Nat.pow_succ]
        rw [e]
        omega) (by omega), lts, c5_cons, lts_len, y4, Nat.pow_succ, Nat.add_mul, Nat.add_assoc]
    rw [Nat.mul_comm 32 a, Nat.mul_assoc, Nat.mul_comm 32]
/-- keywords by code -/
def kwc (v : Int32) : List (List Nat) → Nat → Int32
| [], _ => -1
| k :: r, w => if nI (c5 k) = v then nI w else kwc v r (w + 1)
theorem c5_inj {k l : List Nat} (hk : Nm k) (hl : Nm l) (h : c5 k = c5 l) : k = l := by
  have e := (rbC_nm hk).symm.trans ((congrArg (rbC 6) h).trans (rbC_nm hl))
  have g : ∀ k l : List Nat, (∀ x, x ∈ k → 1 ≤ x ∧ x ≤ 26) → (∀ x, x ∈ l → 1 ≤ x ∧ x ≤ 26) → nmB k = nmB l → k = l := by
    intro k
    induction k with
    | nil =>
      intro l _ _ e
      cases l with
      | nil => rfl
      | cons y l => exact absurd e (by unfold nmB; simp)
    | cons x k ih =>
      intro l h1 h2 e
      cases l with
      | nil => exact absurd e (by unfold nmB; simp)
      | cons y l =>
        have e' : nI (96 + x) :: nmB k = nI (96 + y) :: nmB l := e
        obtain ⟨a, b⟩ := List.cons.inj e'
        have bx := h1 x List.mem_cons_self
        have yx := h2 y List.mem_cons_self
        have xy := (nI_eq (a := 96 + x) (b := 96 + y) (by omega) (by omega)).mp a
        rw [show x = y by omega, ih l (fun z hz => h1 z (List.mem_cons_of_mem _ hz)) (fun z hz => h2 z (List.mem_cons_of_mem _ hz)) b]
  exact g k l hk.2.2 hl.2.2 e
theorem kws_nm : ∀ k, k ∈ kws → Nm k := by
  have : ∀ k, k ∈ kws → (1 ≤ k.length ∧ k.length ≤ 6 ∧ (k.all fun x => decide (1 ≤ x ∧ x ≤ 26)) = true) := by decide
  intro k hk
  obtain ⟨a, b, c⟩ := this k hk
  exact ⟨a, b, fun x hx => of_decide_eq_true (List.all_eq_true.mp c x hx)⟩
theorem kwc_kw {l : List Nat} (hl : Nm l) : kwc (nI (c5 l)) kws 0 = kw l := by
  have g : ∀ (r : List (List Nat)) (w : Nat), (∀ k, k ∈ r → Nm k) → kwc (nI (c5 l)) r w = kwi l r w := by
    intro r
    induction r with
    | nil => intro w _; rfl
    | cons k r ih =>
      intro w h
      have hk := h k List.mem_cons_self
      have a := c5_6 hk
      have b := c5_6 hl
      rw [kwc, kwi, ih (w + 1) (fun z hz => h z (List.mem_cons_of_mem _ hz))]
      by_cases e : k = l
      · subst e; rw [if_pos rfl, if_pos rfl]
      · rw [if_neg e, if_neg (fun z => e (c5_inj hk hl ((nI_eq (by omega) (by omega)).mp z)))]
  exact g kws 0 kws_nm
section
variable {bk dr H P n : Nat} {X : Mm}
theorem kw_let (n : Nat) (v : Int32) (w : Nat) : ∀ (l : List Nat) (a o j : Nat), (∀ i, i < l.length → q_kb.getD (o + i) 0 = nI (96 + l.getD i 0)) → q_kb.getD (o + l.length) 0 = 32 → o + l.length < 113 → (∀ x, x ∈ l → 1 ≤ x ∧ x ≤ 26) → (l = [] ∨ a < 32 ^ (6 - l.length)) → l.length ≤ 6 →
    fX9_keywordOf_L6 n (j + l.length + 1) v (nI w) (nI a) (nI o) X = if nI (l.foldl (fun a x => 32 * a + x) a) = v then some (nI w, X) else fX9_keywordOf_L6 n j v (nI (w + 1)) 0 (nI (o + l.length + 1)) X := by
  intro l
  induction l with
  | nil =>
    intro a o j h1 h2 h3 h4 h5 h6
    have e3 : ¬ (113 : Int32) ≤ nI o := nI_ge (a := o) (b := 113) h3 (by omega)
    have e4 : 0 ≤ (nI o).toInt ∧ (nI o).toInt < 113 := inL_nI (j := o) (n := 113) h3 (by decide)
    have at' : q_kw_at (nI o) = 32 := by
      unfold q_kw_at
      rw [nI_clamp (by have : o < 113 := h3; omega)]
      exact h2
    show fX9_keywordOf_L6 n (j + 1) v (nI w) (nI a) (nI o) X = _
    rw [fX9_keywordOf_L6, if_neg e3, if_pos e4]
    simp only [nm, at', ↓reduceIte, fX9_keywordOf_L52, nI_1]
    rfl
  | cons x l ih =>
    intro a o j h1 h2 h3 h4 h5 h6
    rw [List.length_cons] at h1 h2 h3 h5 h6
    have bx := h4 x List.mem_cons_self
    have e3 : ¬ (113 : Int32) ≤ nI o := nI_ge (a := o) (b := 113) (by omega) (by omega)
    have e4 : 0 ≤ (nI o).toInt ∧ (nI o).toInt < 113 := inL_nI (j := o) (n := 113) (by omega) (by decide)
    have at' : q_kw_at (nI o) = nI (96 + x) := by
      unfold q_kw_at
      rw [nI_clamp (by omega)]
      exact h1 0 (by omega)
    have ne : ¬ nI (96 + x) = (32 : Int32) := fun z => by
      have := (nI_eq (a := 96 + x) (b := 32) (by omega) (by omega)).mp z
      omega
    have a6 : a < 32 ^ (6 - (l.length + 1)) := by
      rcases h5 with z | z
      · exact absurd z (by simp)
      · exact z
    have a5 : 32 ^ (6 - (l.length + 1)) ≤ 32 ^ 5 := Nat.pow_le_pow_right (by decide) (by omega)
    have n5 : (32 : Nat) ^ 5 = 2 ^ 25 := by decide
    have w1 := wl_nI (a := a) (x := x) (by omega) bx.1 bx.2
    unfold wl at w1
    rw [List.length_cons, show j + (l.length + 1) + 1 = j + l.length + 1 + 1 by omega, fX9_keywordOf_L6, if_neg e3, if_pos e4]
    simp only [nm, at', ne, ↓reduceIte, fX9_keywordOf_L52, fX9_withLetter, bd, w1, nI_1]
    rw [ih (32 * a + x) (o + 1) j (fun i hi => by
      have := h1 (i + 1) (by omega)
      rw [List.getD_cons_succ, show o + (i + 1) = o + 1 + i by omega] at this
      exact this) (by rw [show o + 1 + l.length = o + (l.length + 1) by omega]; exact h2) (by omega) (fun z hz => h4 z (List.mem_cons_of_mem _ hz)) (by
        by_cases z : l = []
        · exact Or.inl z
        · refine Or.inr ?_
          have lp : 1 ≤ l.length := List.length_pos_iff.mpr z
          have e : 32 ^ (6 - l.length) = 32 ^ (6 - (l.length + 1)) * 32 := by rw [show 6 - l.length = 6 - (l.length + 1) + 1 by omega, Nat.pow_succ]
          rw [e]
          omega) (by omega), show o + 1 + l.length + 1 = o + (l.length + 1) + 1 by omega]
    rfl
/-- where each keyword begins -/
def kwo : List (List Nat) → Nat → Bool
| [], o => o == 113
| k :: r, o => (List.range k.length).all (fun i => q_kb.getD (o + i) 0 == nI (96 + k.getD i 0)) && (q_kb.getD (o + k.length) 0 == 32 && (decide (o + k.length < 113) && kwo r (o + k.length + 1)))
theorem kw_all (n : Nat) (v : Int32) : ∀ (r : List (List Nat)) (w o j : Nat), (∀ k, k ∈ r → Nm k) → kwo r o = true → 113 + r.length < o + j → o ≤ 113 → fX9_keywordOf_L6 n j v (nI w) 0 (nI o) X = some (kwc v r w, X) := by
  intro r
  induction r with
  | nil =>
    intro w o j _ h hj ho
    unfold kwo at h
    have o3 : o = 113 := by simpa using h
    subst o3
    obtain ⟨j, rfl⟩ : ∃ k, j = k + 1 := ⟨j - 1, by omega⟩
    have e3 : (113 : Int32) ≤ nI 113 := by decide
    rw [fX9_keywordOf_L6, if_pos e3, kwc]
  | cons k r ih =>
    intro w o j hr h hj ho
    have hk := hr k List.mem_cons_self
    unfold kwo at h
    simp only [Bool.and_eq_true, decide_eq_true_eq, beq_iff_eq] at h
    obtain ⟨h1, h2, h3, h4⟩ := h
    rw [List.length_cons] at hj
    obtain ⟨j2, rfl⟩ : ∃ x, j = x + k.length + 1 := ⟨j - (k.length + 1), by omega⟩
    have g := kw_let (X := X) n v w k 0 o j2 (fun i hi => by
      have := List.all_eq_true.mp h1 i (List.mem_range.mpr hi)
      simpa using this) h2 h3 hk.2.2 (Or.inr (Nat.pow_pos (by decide))) hk.2.1
    have g' : fX9_keywordOf_L6 n (j2 + k.length + 1) v (nI w) 0 (nI o) X = _ := g
    rw [g', kwc]
    show (if nI (c5 k) = v then _ else _) = _
    by_cases z : nI (c5 k) = v
    · rw [if_pos z, if_pos z]
    · rw [if_neg z, if_neg z]
      exact ih (w + 1) (o + k.length + 1) j2 (fun y hy => hr y (List.mem_cons_of_mem _ hy)) h4 (by omega) (by omega)
theorem c_kw (hn : 200 ≤ n) (v : Int32) : fX9_keywordOf n v X = some (kwc v kws 0, X) := by
  have l : kws.length = 21 := by decide
  exact kw_all n v kws 0 0 n kws_nm (by decide +kernel) (by omega) (by omega)
/-! a token is written down -/
def TokW (b : Nat → Int32) (L i : Nat) (X Y : Mm) : Prop := mI Y 4 i = kd b L i ∧ ((kd b L i = 1 ∨ kd b L i = 2 ∨ kd b L i = 3) → mI Y 6 i = vl b L i) ∧ mI Y 5 i = nI (fr b L i) ∧ (∀ c k, ¬ ((c = 4 ∨ c = 5 ∨ c = 6) ∧ k = i) → mI Y c k = mI X c k) ∧ mJ Y = mJ X ∧ mT Y = mT X ∧ mL Y = mL X ∧ mR Y = mR X
theorem c_isL (v : Int32) : fX9_isLetter v X = some (if isL v then 1 else 0, X) := by
  unfold fX9_isLetter fX9_isLetter_L16 isL
  by_cases h1 : v < 97
  · rw [if_pos h1, if_neg (by simp only [decide_eq_true_eq]; exact fun z => i32_nlt.mpr z.1 h1)]
  · rw [if_neg h1]
    by_cases h2 : 122 < v
    · rw [if_pos h2, if_neg (by simp only [decide_eq_true_eq]; exact fun z => i32_nlt.mpr z.2 h2)]
    · rw [if_neg h2, if_pos (by simp only [decide_eq_true_eq]; exact ⟨i32_nlt.mp h1, i32_nlt.mp h2⟩)]
theorem c_isD (v : Int32) : fX9_isDigit v X = some (if isD v then 1 else 0, X) := by
  unfold fX9_isDigit fX9_isDigit_L16 isD
  by_cases h1 : v < 48
  · rw [if_pos h1, if_neg (by simp only [decide_eq_true_eq]; exact fun z => i32_nlt.mpr z.1 h1)]
  · rw [if_neg h1]
    by_cases h2 : 57 < v
    · rw [if_pos h2, if_neg (by simp only [decide_eq_true_eq]; exact fun z => i32_nlt.mpr z.2 h2)]
    · rw [if_neg h2, if_pos (by simp only [decide_eq_true_eq]; exact ⟨i32_nlt.mp h1, i32_nlt.mp h2⟩)]
theorem c_swL (h : Shp bk dr X) {L : Nat} (hL : mI X 2 1 = nI L) (hL7 : L ≤ 700) (n : Nat) (v1 v2 : Int32) : ∀ (m p : Nat) (v : Int32) (j : Nat), p + m = L → m < j → fX9_scanWord_L5 n j 2 v1 v2 v (nI p) X = fX9_scanWord_L45 n 2 v1 v2 (wlf (mI X 3) (rn isL (mI X 3) m p - p) p v) (nI (rn isL (mI X 3) m p)) X := by
  intro m
  induction m with
  | zero =>
    intro p v j hp hj
    obtain ⟨j, rfl⟩ : ∃ k, j = k + 1 := ⟨j - 1, by omega⟩
    have e3 : nI L ≤ nI p := nI_le (by omega) (by omega)
    rw [fX9_scanWord_L5, rn, Nat.sub_self, wlf]
    simp only [h.1, h.2.1, h.2.2, li_T, li_L, li_R, nm, bd, q_b, ne_eq, Nat.reduceEqDiff, reduceCtorEq, and_false, false_and, and_true, true_and, and_self, not_false_eq_true, not_true_eq_false, ↓reduceIte, hL, e3]
  | succ m ih =>
    intro p v j hp hj
    obtain ⟨j, rfl⟩ : ∃ k, j = k + 1 := ⟨j - 1, by omega⟩
    have e3 : ¬ nI L ≤ nI p := nI_ge (by omega) (by omega)
    have e1 : (nI p).toNatClampNeg = p := nI_clamp (by omega)
    have e2 := inL_nI (j := p) (n := 700) (by omega) (by decide)
    rw [fX9_scanWord_L5, rn]
    by_cases z : isL (mI X 3 p) = true
    · have r := (rn_b isL (mI X 3) m (p + 1)).1
      rw [if_pos z, show rn isL (mI X 3) m (p + 1) - p = rn isL (mI X 3) m (p + 1) - (p + 1) + 1 by omega, wlf]
      simp only [h.1, h.2.1, h.2.2, li_T, li_L, li_R, nm, bd, q_b, ne_eq, Nat.reduceEqDiff, reduceCtorEq, and_false, false_and, and_true, true_and, and_self, not_false_eq_true, not_true_eq_false, ↓reduceIte, hL, e3, e1, e2.1, e2.2, c_isL, z, b1, fX9_withLetter, nI_1]
      exact ih (p + 1) _ j (by omega) (by omega)
    · rw [if_neg z, Nat.sub_self, wlf]
      simp only [h.1, h.2.1, h.2.2, li_T, li_L, li_R, nm, bd, q_b, ne_eq, Nat.reduceEqDiff, reduceCtorEq, and_false, false_and, and_true, true_and, and_self, not_false_eq_true, not_true_eq_false, ↓reduceIte, hL, e3, e1, e2.1, e2.2, c_isL, z]
theorem c_snL (h : Shp bk dr X) {L : Nat} (hL : mI X 2 1 = nI L) (hL7 : L ≤ 700) (n : Nat) (v1 v2 : Int32) : ∀ (m p v : Nat) (j : Nat), p + m = L → m < j → ∃ v', fX9_scanNumber_L5 n j 2 v1 v2 (nI v) (nI p) X = fX9_scanNumber_L49 n 2 v1 v2 v' (nI (rn isD (mI X 3) m p)) X ∧ ((rn isD (mI X 3) m p - p) ≤ 9 → v < 10 ^ (9 - (rn isD (mI X 3) m p - p)) → v' = nI (dgs (mI X 3) (rn isD (mI X 3) m p - p) p v)) := by
  intro m
  induction m with
  | zero =>
    intro p v j hp hj
    obtain ⟨j, rfl⟩ : ∃ k, j = k + 1 := ⟨j - 1, by omega⟩
    have e3 : nI L ≤ nI p := nI_le (by omega) (by omega)
    refine ⟨nI v, ?_, fun _ _ => ?_⟩
    · rw [fX9_scanNumber_L5, rn]
      simp only [h.1, h.2.1, h.2.2, li_T, li_L, li_R, nm, bd, q_b, ne_eq, Nat.reduceEqDiff, reduceCtorEq, and_false, false_and, and_true, true_and, and_self, not_false_eq_true, not_true_eq_false, ↓reduceIte, hL, e3]
    · rw [rn, Nat.sub_self, dgs]
  | succ m ih =>
    intro p v j hp hj
    obtain ⟨j, rfl⟩ : ∃ k, j = k + 1 := ⟨j - 1, by omega⟩
    have e3 : ¬ nI L ≤ nI p := nI_ge (by omega) (by omega)
    have e1 : (nI p).toNatClampNeg = p := nI_clamp (by omega)
    have e2 := inL_nI (j := p) (n := 700) (by omega) (by decide)
    by_cases z : isD (mI X 3 p) = true
    · have r := (rn_b isD (mI X 3) m (p + 1)).1
      obtain ⟨x, x1, x2, x3⟩ := isD_nI z
      have e4 : ((nI v * (10 : Int32)) + nI (48 + x)) - (48 : Int32) = nI (10 * v + x) := by
        rw [show (10 : Int32) = nI 10 from rfl, pk_mul, nI_add, show (48 : Int32) = nI 48 from rfl, pk_sub (by omega)]
        congr 1
        omega
      obtain ⟨v', w1, w2⟩ := ih (p + 1) (10 * v + x) j (by omega) (by omega)
      refine ⟨v', ?_, fun h1 h2 => ?_⟩
      · rw [fX9_scanNumber_L5, rn, if_pos z]
        simp only [h.1, h.2.1, h.2.2, li_T, li_L, li_R, nm, bd, q_b, ne_eq, Nat.reduceEqDiff, reduceCtorEq, and_false, false_and, and_true, true_and, and_self, not_false_eq_true, not_true_eq_false, ↓reduceIte, hL, e3, e1, e2.1, e2.2, c_isD, z, b1, nI_1]
        rw [x2, e4]
        exact w1
      · rw [rn, if_pos z] at h1 h2 ⊢
        rw [show rn isD (mI X 3) m (p + 1) - p = rn isD (mI X 3) m (p + 1) - (p + 1) + 1 by omega] at h1 h2 ⊢
        rw [dgs, x3]
        refine w2 (by omega) ?_
        have e : 10 ^ (9 - (rn isD (mI X 3) m (p + 1) - (p + 1))) = 10 ^ (9 - (rn isD (mI X 3) m (p + 1) - (p + 1) + 1)) * 10 := by rw [show 9 - (rn isD (mI X 3) m (p + 1) - (p + 1)) = 9 - (rn isD (mI X 3) m (p + 1) - (p + 1) + 1) + 1 by omega, Nat.pow_succ]
        rw [e]
        omega
    · refine ⟨nI v, ?_, fun _ _ => ?_⟩
      · rw [fX9_scanNumber_L5, rn, if_neg z]
        simp only [h.1, h.2.1, h.2.2, li_T, li_L, li_R, nm, bd, q_b, ne_eq, Nat.reduceEqDiff, reduceCtorEq, and_false, false_and, and_true, true_and, and_self, not_false_eq_true, not_true_eq_false, ↓reduceIte, hL, e3, e1, e2.1, e2.2, c_isD, z]
      · rw [rn, if_neg z, Nat.sub_self, dgs]
end
