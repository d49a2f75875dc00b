/-! QUERIES: show, rows of bytes that grow -/
def App (c b k L : Nat) (l : List Int32) (X Y : Mm) : Prop := mI X c k = nI L ∧ mI Y c k = nI (L + l.length) ∧ (∀ i, (i < L ∨ L + l.length ≤ i) → mI Y b i = mI X b i) ∧ (∀ i, i < l.length → mI Y b (L + i) = l.getD i 0) ∧ (∀ c' k', c' ≠ b → ¬ (c' = c ∧ k' = k) → mI Y c' k' = mI X c' k') ∧ mJ Y = mJ X ∧ mT Y = mT X ∧ mL Y = mL X ∧ mR Y = mR X
theorem App.nil {c b k L : Nat} {X : Mm} (h : mI X c k = nI L) : App c b k L [] X X := ⟨h, h, fun _ _ => rfl, fun i hi => absurd hi (Nat.not_lt_zero i), fun _ _ _ _ => rfl, rfl, rfl, rfl, rfl⟩
theorem getD_app1 (l m : List Int32) (i : Nat) (h : i < l.length) : (l ++ m).getD i 0 = l.getD i 0 := by
  rw [List.getD_eq_getElem?_getD, List.getD_eq_getElem?_getD, List.getElem?_append_left h]
theorem getD_app2 (l m : List Int32) (i : Nat) (h : l.length ≤ i) : (l ++ m).getD i 0 = m.getD (i - l.length) 0 := by
  rw [List.getD_eq_getElem?_getD, List.getD_eq_getElem?_getD, List.getElem?_append_right h]
theorem App.trans {c b k L : Nat} {l m : List Int32} {X Y Z : Mm} (h : App c b k L l X Y) (g : App c b k (L + l.length) m Y Z) : App c b k L (l ++ m) X Z := by
  obtain ⟨a1, a2, a3, a4, a5, a6, a7, a8, a9⟩ := h
  obtain ⟨b1, b2, b3, b4, b5, b6, b7, b8, b9⟩ := g
  refine ⟨a1, ?_, fun i hi => ?_, fun i hi => ?_, fun c' k' h1 h2 => (b5 c' k' h1 h2).trans (a5 c' k' h1 h2), b6.trans a6, b7.trans a7, b8.trans a8, b9.trans a9⟩
  · rw [b2, List.length_append, Nat.add_assoc]
  · rw [List.length_append] at hi
    rw [b3 i (by omega)]; exact a3 i (by omega)
  · rw [List.length_append] at hi
    by_cases z : i < l.length
    · rw [b3 _ (Or.inl (by omega)), a4 i z, getD_app1 _ _ _ z]
    · have y := b4 (i - l.length) (by omega)
      rw [show L + l.length + (i - l.length) = L + i by omega] at y
      rw [y, getD_app2 _ _ _ (by omega)]
theorem App.shp {c b k L bk dr : Nat} {l : List Int32} {X Y : Mm} (h : App c b k L l X Y) (g : Shp bk dr X) : Shp bk dr Y := by
  obtain ⟨-, -, -, -, -, -, a7, a8, a9⟩ := h
  exact ⟨a7.trans g.1, a8.trans g.2.1, a9.trans g.2.2⟩
def by8 (v : Int32) : Int32 := v.toInt8.toInt32.toInt8.toInt32
theorem by8_nI {k : Nat} (h : k < 128) : by8 (nI k) = nI k := by
  have e : (nI k).toInt = k := nI_toInt (by omega)
  unfold by8
  have f := lg_i2b_small (v := nI k) (by rw [e]; omega) (by rw [e]; omega)
  rw [f, f]
section
variable {bk dr H P n T G L : Nat} {X : Mm}
theorem App.one {c b k L : Nat} {X : Mm} (hcb : c ≠ b) (h : mI X c k = nI L) (v : Int32) : App c b k L [v] X (sI (sI X b L v) c k (nI L + 1)) := by
  refine ⟨h, ?_, fun i hi => ?_, fun i hi => ?_, fun c' k' h1 h2 => ?_, rfl, rfl, rfl, rfl⟩
  · rw [mI_sI, if_pos ⟨rfl, rfl⟩, nI_1]
    rfl
  · have hi' : i < L ∨ L + 1 ≤ i := hi
    rw [mI_sI, if_neg (fun z => hcb z.1.symm), mI_sI, if_neg (by omega)]
  · have i0 : i = 0 := by
      have : i < 1 := hi
      omega
    subst i0
    rw [mI_sI, if_neg (fun z => hcb z.1.symm), mI_sI, if_pos ⟨rfl, rfl⟩]
    rfl
  · rw [mI_sI, if_neg h2, mI_sI, if_neg (fun z => h1 z.1)]
theorem c_ab (h : Shp bk dr X) (hL : mI X 362 1 = nI L) (hL3 : L < 300) (v : Int32) : ∃ Y, fX7_addByte 362 v X = some ((), Y) ∧ App 362 363 1 L [by8 v] X Y := by
  have e1 : (nI L).toNatClampNeg = L := nI_clamp (by omega)
  have e2 := inL_nI (j := L) (n := 300) hL3 (by decide)
  have e3 : ¬ (300 : Int32) ≤ nI L := nI_ge (a := L) (b := 300) hL3 (by omega)
  refine ⟨_, ?_, App.one (by decide) hL (by8 v)⟩
  have r : mI (sI X 363 L v.toInt8.toInt32.toInt8.toInt32) 362 1 = nI L := by rw [mI_sI, if_neg (by omega)]; exact hL
  simp only [fX7_addByte, h.1, h.2.1, h.2.2, li_T, li_L, li_R, nm, bd, q_b, ne_eq, Nat.reduceEqDiff, reduceCtorEq, and_false, false_and, and_true, true_and, and_self, not_false_eq_true, not_true_eq_false, ↓reduceIte, hL, e1, e2.1, e2.2, e3, mT_sI, r, by8]
theorem m_ps (h : Shp bk dr X) (hL : mI X 366 34 = nI L) (hL3 : L < 400) (v : Int32) : ∃ Y, fX12_puts 366 v X = some ((), Y) ∧ App 366 381 34 L [by8 v] X Y := by
  have e1 : (nI L).toNatClampNeg = L := nI_clamp (by omega)
  have e2 := inL_nI (j := L) (n := 400) hL3 (by decide)
  refine ⟨_, ?_, App.one (by decide) hL (by8 v)⟩
  have r : mI (sI X 381 L v.toInt8.toInt32.toInt8.toInt32) 366 34 = nI L := by rw [mI_sI, if_neg (by omega)]; exact hL
  simp only [fX12_puts, h.1, h.2.1, h.2.2, li_T, li_L, li_R, nm, bd, q_b, ne_eq, Nat.reduceEqDiff, reduceCtorEq, and_false, false_and, and_true, true_and, and_self, not_false_eq_true, not_true_eq_false, ↓reduceIte, hL, e1, e2.1, e2.2, mT_sI, r, by8]
end
/-! names -/
def nmB (l : List Nat) : List Int32 := l.map fun x => nI (96 + x)
def rbC : Nat → Nat → List Int32
| 0, _ => []
| p + 1, k => if k / 32 ^ p % 32 = 0 then rbC p k else nI (96 + k / 32 ^ p % 32) :: rbC p k
def rbM : Nat → Nat → List Int32
| 0, k => [nI (96 + k)]
| p + 1, k => nI (96 + k / 27 ^ (p + 1)) :: rbM p (k % 27 ^ (p + 1))
theorem fold_b (b : Nat) : ∀ (l : List Nat) (a : Nat), l.foldl (fun a x => b * a + x) a = a * b ^ l.length + l.foldl (fun a x => b * a + x) 0 := by
  intro l
  induction l with
  | nil => intro a; simp
  | cons x l ih =>
    intro a
    rw [List.foldl_cons, List.foldl_cons, ih (b * a + x), ih (b * 0 + x), List.length_cons, Nat.pow_succ, Nat.mul_zero, Nat.zero_add, Nat.add_mul, Nat.add_assoc, Nat.mul_comm b a, Nat.mul_assoc, Nat.mul_comm b]
theorem c5_cons (x : Nat) (l : List Nat) : c5 (x :: l) = x * 32 ^ l.length + c5 l := by
  unfold c5
  rw [List.foldl_cons, fold_b, Nat.mul_zero, Nat.zero_add]
theorem c27_cons (x : Nat) (l : List Nat) : c27 (x :: l) = x * 27 ^ l.length + c27 l := by
  unfold c27
  rw [List.foldl_cons, fold_b, Nat.mul_zero, Nat.zero_add]
theorem c5_lt : ∀ l : List Nat, (∀ x ∈ l, 1 ≤ x ∧ x ≤ 26) → c5 l < 32 ^ l.length := by
  intro l
  induction l with
  | nil => intro _; decide
  | cons x l ih =>
    intro h
    have i := ih (fun y hy => h y (List.mem_cons_of_mem _ hy))
    have hx := (h x List.mem_cons_self).2
    rw [c5_cons, List.length_cons, Nat.pow_succ]
    have := Nat.mul_le_mul_right (32 ^ l.length) hx
    omega
theorem c27_lt : ∀ l : List Nat, (∀ x ∈ l, 1 ≤ x ∧ x ≤ 26) → c27 l < 27 ^ l.length := by
  intro l
  induction l with
  | nil => intro _; decide
  | cons x l ih =>
    intro h
    have i := ih (fun y hy => h y (List.mem_cons_of_mem _ hy))
    have hx := (h x List.mem_cons_self).2
    rw [c27_cons, List.length_cons, Nat.pow_succ]
    have := Nat.mul_le_mul_right (27 ^ l.length) hx
    omega
theorem dv_ad {b p q r : Nat} (hr : r < b) (hp : 0 < b) : (q * b + r) / b = q ∧ (q * b + r) % b = r := by
  constructor
  · rw [Nat.add_comm, Nat.add_mul_div_right _ _ hp, Nat.div_eq_of_lt hr, Nat.zero_add]
  · rw [Nat.add_comm, Nat.add_mul_mod_self_right, Nat.mod_eq_of_lt hr]
theorem rbC_l : ∀ (l : List Nat) (K : Nat), (∀ x ∈ l, 1 ≤ x ∧ x ≤ 26) → rbC l.length (K * 32 ^ l.length + c5 l) = nmB l := by
  intro l
  induction l with
  | nil => intro K _; rfl
  | cons x l ih =>
    intro K h
    have hl := fun y hy => h y (List.mem_cons_of_mem _ hy)
    have hx := h x List.mem_cons_self
    have lt := c5_lt l hl
    have e : K * 32 ^ (x :: l).length + c5 (x :: l) = (K * 32 + x) * 32 ^ l.length + c5 l := by
      rw [c5_cons, List.length_cons, Nat.pow_succ, Nat.add_mul, Nat.mul_assoc, Nat.mul_comm 32, Nat.add_assoc]
    rw [e, List.length_cons, rbC, (dv_ad (p := 0) lt (Nat.pow_pos (by decide))).1, show (K * 32 + x) % 32 = x by omega, if_neg (by omega), ih _ hl]
    rfl
theorem rbC_hi {k : Nat} : ∀ (d p : Nat), k < 32 ^ p → rbC (p + d) k = rbC p k := by
  intro d
  induction d with
  | zero => intro p _; rfl
  | succ d ih =>
    intro p hk
    have : k < 32 ^ (p + d) := Nat.lt_of_lt_of_le hk (Nat.pow_le_pow_right (by decide) (by omega))
    rw [← Nat.add_assoc, rbC, Nat.div_eq_of_lt this, if_pos rfl, ih p hk]
theorem rbC_nm {l : List Nat} (h : Nm l) : rbC 6 (c5 l) = nmB l := by
  have e := rbC_l l 0 h.2.2
  rw [Nat.zero_mul, Nat.zero_add] at e
  have g := rbC_hi (k := c5 l) (6 - l.length) l.length (c5_lt l h.2.2)
  rw [show l.length + (6 - l.length) = 6 by have := h.2.1; omega] at g
  rw [g, e]
theorem rbM_l : ∀ (l : List Nat) (x : Nat), (∀ y ∈ l, 1 ≤ y ∧ y ≤ 26) → rbM l.length (c27 (x :: l)) = nmB (x :: l) := by
  intro l
  induction l with
  | nil =>
    intro x _
    show [nI (96 + (27 * 0 + x))] = [nI (96 + x)]
    rw [Nat.mul_zero, Nat.zero_add]
  | cons y l ih =>
    intro x h
    have lt := c27_lt (y :: l) h
    have d := dv_ad (p := 0) (q := x) lt (Nat.pow_pos (by decide))
    rw [c27_cons, List.length_cons, rbM]
    rw [List.length_cons] at d
    rw [d.1, d.2, ih y (fun z hz => h z (List.mem_cons_of_mem _ hz))]
    rfl
theorem c5_6 {l : List Nat} (h : Nm l) : c5 l < 2 ^ 30 := Nat.lt_of_lt_of_le (c5_lt l h.2.2) (Nat.le_trans (Nat.pow_le_pow_right (by decide) h.2.1) (by decide))
theorem c27_6 {l : List Nat} (h : Nm l) : c27 l < 2 ^ 29 := Nat.lt_of_lt_of_le (c27_lt l h.2.2) (Nat.le_trans (Nat.pow_le_pow_right (by decide) h.2.1) (by decide))
theorem rbC_len : ∀ p k, (rbC p k).length ≤ p := by
  intro p
  induction p with
  | zero => intro k; exact Nat.le_refl _
  | succ p ih =>
    intro k
    rw [rbC]
    split
    · have := ih k; omega
    · rw [List.length_cons]; have := ih k; omega
