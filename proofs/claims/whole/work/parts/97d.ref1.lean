/-! TEXTS: the reference's words -/
def sv (c : Int32) : Int32 := c &&& 255
theorem sv_b {c : Int32} (h1 : -128 ≤ c.toInt) (h2 : c.toInt ≤ 127) : (0 ≤ c.toInt → sv c = c) ∧ (c.toInt < 0 → 128 ≤ (sv c).toInt) := by
  have e := pk_and c (m := 255) 8 (by decide)
  have t : c.toInt = if 2 * c.toBitVec.toNat < 2 ^ 32 then (c.toBitVec.toNat : Int) else (c.toBitVec.toNat : Int) - ((2 ^ 32 : Nat) : Int) := BitVec.toInt_eq_toNat_cond c.toBitVec
  have lt := c.toBitVec.isLt
  unfold sv
  generalize c.toBitVec.toNat = x at *
  have em : (nI (x % 2 ^ 8)).toInt = ((x % 2 ^ 8 : Nat) : Int) := nI_toInt (by omega)
  refine ⟨fun h => ?_, fun h => ?_⟩
  · refine Int32.toInt_inj.mp ?_
    rw [e, em]
    split at t <;> omega
  · rw [e, em]
    split at t <;> omega
theorem sv_L {c : Int32} (h1 : -128 ≤ c.toInt) (h2 : c.toInt ≤ 127) : ((97 ≤ sv c ∧ sv c ≤ 122) ↔ isL c = true) ∧ ((48 ≤ sv c ∧ sv c ≤ 57) ↔ isD c = true) ∧ (sv c = 32 ↔ c = 32) ∧ (sv c = 10 ↔ c = 10) ∧ (sv c = 59 ↔ c = 59) ∧ sv c ≠ -1 ∧ (isL c = true → sv c = c) ∧ (isD c = true → sv c = c) := by
  obtain ⟨a, b⟩ := sv_b h1 h2
  have l97 : (97 : Int32).toInt = 97 := by decide
  have l122 : (122 : Int32).toInt = 122 := by decide
  have l48 : (48 : Int32).toInt = 48 := by decide
  have l57 : (57 : Int32).toInt = 57 := by decide
  have l32 : (32 : Int32).toInt = 32 := by decide
  have l10 : (10 : Int32).toInt = 10 := by decide
  have l59 : (59 : Int32).toInt = 59 := by decide
  have lm : (-1 : Int32).toInt = -1 := by decide
  unfold isL isD
  by_cases z : 0 ≤ c.toInt
  · rw [a z]
    refine ⟨by simp, by simp, Iff.rfl, Iff.rfl, Iff.rfl, fun y => ?_, fun _ => rfl, fun _ => rfl⟩
    rw [y, lm] at z
    omega
  · have b' := b (by omega)
    have n1 : ¬ (97 ≤ c ∧ c ≤ 122) := fun y => by have := Int32.le_iff_toInt_le.mp y.1; omega
    have n2 : ¬ (48 ≤ c ∧ c ≤ 57) := fun y => by have := Int32.le_iff_toInt_le.mp y.1; omega
    refine ⟨⟨fun y => ?_, fun y => absurd (of_decide_eq_true y) n1⟩, ⟨fun y => ?_, fun y => absurd (of_decide_eq_true y) n2⟩, ⟨fun y => ?_, fun y => ?_⟩, ⟨fun y => ?_, fun y => ?_⟩, ⟨fun y => ?_, fun y => ?_⟩, fun y => ?_, fun y => absurd (of_decide_eq_true y) n1, fun y => absurd (of_decide_eq_true y) n2⟩
    · have := Int32.le_iff_toInt_le.mp y.2; omega
    · have := Int32.le_iff_toInt_le.mp y.2; omega
    · rw [y] at b'; omega
    · rw [y, l32] at z; omega
    · rw [y] at b'; omega
    · rw [y, l10] at z; omega
    · rw [y] at b'; omega
    · rw [y, l59] at z; omega
    · rw [y] at b'; omega
theorem lts_snoc (b : Nat → Int32) : ∀ m q, lts b (m + 1) q = lts b m q ++ [ltr (b (q + m))] := by
  intro m
  induction m with
  | zero => intro q; rfl
  | succ m ih =>
    intro q
    rw [lts, ih (q + 1), lts, List.cons_append, show q + 1 + m = q + (m + 1) by omega]
theorem c27_snoc (l : List Nat) (x : Nat) : c27 (l ++ [x]) = 27 * c27 l + x := by
  unfold c27
  rw [List.foldl_append]
  rfl
theorem dgs_snoc (b : Nat → Int32) : ∀ m q v, dgs b (m + 1) q v = 10 * dgs b m q v + ((b (q + m)).toInt.toNat - 48) := by
  intro m
  induction m with
  | zero => intro q v; rfl
  | succ m ih =>
    intro q v
    rw [dgs, ih (q + 1), dgs, show q + 1 + m = q + (m + 1) by omega]
theorem dgs_lt {b : Nat → Int32} : ∀ m q v, (∀ j, q ≤ j → j < q + m → isD (b j) = true) → dgs b m q v < (v + 1) * 10 ^ m := by
  intro m
  induction m with
  | zero => intro q v _; rw [dgs, Nat.pow_zero]; omega
  | succ m ih =>
    intro q v h
    obtain ⟨x, x1, -, x3⟩ := isD_nI (h q (Nat.le_refl _) (by omega))
    have := ih (q + 1) (10 * v + x) (fun j h1 h2 => h j (by omega) (by omega))
    rw [dgs, x3, Nat.pow_succ, Nat.mul_comm (10 ^ m), ← Nat.mul_assoc]
    exact Nat.lt_of_lt_of_le this (Nat.mul_le_mul_right _ (by omega))
section
variable {bk dr H P n : Nat} {X : Mm} {b : Nat → Int32} {L : Nat}
/-- the tape as the reference sees it -/
def Ref (bk dr : Nat) (b : Nat → Int32) (L : Nat) (X : Mm) : Prop := Shp bk dr X ∧ L ≤ 700 ∧ mI X 366 13 = nI L ∧ (∀ i, i < 700 → mI X 374 i = b i) ∧ (∀ i, i < 700 → -128 ≤ (b i).toInt ∧ (b i).toInt ≤ 127) ∧ LtR X
theorem m_see (h : Ref bk dr b L X) {k : Nat} (hk : k ≤ L) : fX12_see 366 (nI k) X = some (if k < L then sv (b k) else -1, X) := by
  obtain ⟨h, hL7, hL, hb, -, -⟩ := h
  by_cases z : k < L
  · have e3 : ¬ nI L ≤ nI k := nI_ge z (by omega)
    have e1 : (nI k).toNatClampNeg = k := nI_clamp (by omega)
    have e2 := inL_nI (j := k) (n := 700) (by omega) (by decide)
    have hbk := hb k (by omega)
    simp only [fX12_see, h.1, h.2.1, h.2.2, li_T, li_L, li_R, nm, bd, q_b, ne_eq, Nat.reduceEqDiff, reduceCtorEq, and_false, false_and, and_true, true_and, and_self, not_false_eq_true, not_true_eq_false, ↓reduceIte, hL, e3, e1, e2.1, e2.2, hbk, z, sv]
  · have e3 : nI L ≤ nI k := nI_le (by omega) (by omega)
    simp only [fX12_see, h.1, h.2.1, h.2.2, li_T, li_L, li_R, nm, bd, q_b, ne_eq, Nat.reduceEqDiff, reduceCtorEq, and_false, false_and, and_true, true_and, and_self, not_false_eq_true, not_true_eq_false, ↓reduceIte, hL, e3, z]
theorem m_isL (h : Shp bk dr X) (v : Int32) : fX12_isLetter 366 v X = some (bo (97 ≤ v ∧ v ≤ 122), X) := by
  simp only [fX12_isLetter, h.1, h.2.1, h.2.2, li_T, li_L, li_R, nm, bd, q_b, ne_eq, Nat.reduceEqDiff, reduceCtorEq, and_false, false_and, and_true, true_and, and_self, not_false_eq_true, not_true_eq_false, ↓reduceIte, r_inb v 97 122 (lo := 97) (hi := 122) (by decide) (by decide), bo_01]
theorem m_isD (h : Shp bk dr X) (v : Int32) : fX12_isDigit 366 v X = some (bo (48 ≤ v ∧ v ≤ 57), X) := by
  simp only [fX12_isDigit, h.1, h.2.1, h.2.2, li_T, li_L, li_R, nm, bd, q_b, ne_eq, Nat.reduceEqDiff, reduceCtorEq, and_false, false_and, and_true, true_and, and_self, not_false_eq_true, not_true_eq_false, ↓reduceIte, r_inb v 48 57 (lo := 48) (hi := 57) (by decide) (by decide), bo_01]
/-! wordAt -/
theorem m_w54 (h : Ref bk dr b L X) (n : Nat) (k5 : Nat → Int32 → Int32 → Int32 → Int32 → Mm → Option (Int32 × Mm)) {q many o w N : Nat} (hN : N ≤ 6) (ho : o + N < 113) (hq : q + N ≤ L) (hlet : ∀ j, q ≤ j → j < q + N → isL (b j) = true) : ∀ (l : List Nat) (i j : Nat), i + l.length = N → l.length + 1 < j → (∀ x, x < l.length → q_kb.getD (o + i + x) 0 = nI (96 + l.getD x 0)) → (∀ x, x ∈ l → 1 ≤ x ∧ x ≤ 26) →
    fX12_wordAt_L54 n k5 j 366 (nI q) (nI many) (nI o) (nI w) (nI N) 1 (nI i) X = if l = lts b l.length (q + i) then some (nI w, X) else k5 366 (nI q) (nI many) (nI (o + N + 1)) (nI (w + 1)) X := by
  obtain ⟨hs, hL7, hL, hb, hr, hl⟩ := h
  have h := hs
  have l100 : ∀ i, fX12_wordAt_L100 n k5 366 (nI q) (nI many) (nI o) (nI w) (nI N) 0 X = k5 366 (nI q) (nI many) (nI (o + N + 1)) (nI (w + 1)) X := fun i : Nat => by
    unfold fX12_wordAt_L100
    rw [if_pos rfl]
    simp only [nm, nI_add, nI_1]
  intro l
  induction l with
  | nil =>
    intro i j hi hj _ _
    obtain ⟨j, rfl⟩ : ∃ k, j = k + 1 := ⟨j - 1, by omega⟩
    have hi' : i = N := hi
    have e3 : nI N ≤ nI i := nI_le (by omega) (by omega)
    rw [fX12_wordAt_L54, if_pos e3, if_pos (show ([] : List Nat) = lts b ([] : List Nat).length (q + i) from rfl)]
    unfold fX12_wordAt_L100
    rw [if_neg b1]
  | cons x l ih =>
    intro i j hi hj hx hle
    rw [List.length_cons] at hi hj hx
    obtain ⟨j, rfl⟩ : ∃ k, j = k + 1 := ⟨j - 1, by omega⟩
    have bx := hle x List.mem_cons_self
    have e3 : ¬ nI N ≤ nI i := nI_ge (by omega) (by omega)
    have a1 : (nI (q + i)).toNatClampNeg = q + i := nI_clamp (by omega)
    have a2 := inL_nI (j := q + i) (n := 700) (by omega) (by decide)
    have c1 : (nI (o + i)).toNatClampNeg = o + i := nI_clamp (by omega)
    have c2 := inL_nI (j := o + i) (n := 113) (by omega) (by decide)
    have t1 : mI X 374 (q + i) = b (q + i) := hb _ (by omega)
    have t2 : mI X 373 (o + i) = nI (96 + x) := by
      rw [hl _ (by omega)]
      exact hx 0 (by omega)
    obtain ⟨y, y1, y2, y3, y4⟩ := isL_nI (hlet (q + i) (by omega) (by omega))
    have g := ih (i + 1) j (by omega) (by omega) (fun z hz => by
      have := hx (z + 1) (by omega)
      rw [List.getD_cons_succ, show o + i + (z + 1) = o + (i + 1) + z by omega] at this
      exact this) (fun z hz => hle z (List.mem_cons_of_mem _ hz))
    rw [fX12_wordAt_L54, if_neg e3, if_neg b1, List.length_cons, lts, y4]
    simp only [h.1, h.2.1, h.2.2, li_T, li_L, li_R, nm, bd, q_b, ne_eq, Nat.reduceEqDiff, reduceCtorEq, and_false, false_and, and_true, true_and, and_self, not_false_eq_true, not_true_eq_false, ↓reduceIte, nI_add, a1, a2.1, a2.2, c1, c2.1, c2.2, t1, t2]
    by_cases z : y = x
    · subst z
      rw [if_pos y3, fX12_wordAt_L92]
      simp only [nm, nI_1]
      rw [g, show q + (i + 1) = q + i + 1 by omega]
      by_cases u : l = lts b l.length (q + i + 1)
      · rw [if_pos u, if_pos (by rw [← u])]
      · rw [if_neg u, if_neg (fun v => u (List.cons.inj v).2)]
    · have ne : ¬ b (q + i) = nI (96 + x) := fun v => by
        rw [y3] at v
        have := (nI_eq (a := 96 + y) (b := 96 + x) (by omega) (by omega)).mp v
        omega
      rw [if_neg ne, fX12_wordAt_L92, if_neg (fun v => z (List.cons.inj v).1.symm)]
      simp only [nm, nI_1]
      obtain ⟨j, rfl⟩ : ∃ k, j = k + 1 := ⟨j - 1, by omega⟩
      rw [fX12_wordAt_L54]
      by_cases u : nI N ≤ nI (i + 1)
      · rw [if_pos u]; exact l100 0
      · rw [if_neg u, if_pos rfl]; exact l100 0
theorem m_w15 (h : Ref bk dr b L X) (n : Nat) (k5 : Nat → Int32 → Int32 → Int32 → Int32 → Mm → Option (Int32 × Mm)) (v1 v2 : Int32) {o : Nat} (w : Int32) : ∀ (l : List Nat) (i j : Nat), l.length < j → o + i + l.length < 113 → (∀ x, x < l.length → q_kb.getD (o + i + x) 0 = nI (96 + l.getD x 0)) → q_kb.getD (o + i + l.length) 0 = 32 → (∀ x, x ∈ l → 1 ≤ x ∧ x ≤ 26) →
    fX12_wordAt_L15 n k5 j 366 v1 v2 (nI o) w (nI i) X = if nI (i + l.length) = v2 then fX12_wordAt_L49 n k5 366 v1 v2 (nI o) w (nI (i + l.length)) 1 X else fX12_wordAt_L49 n k5 366 v1 v2 (nI o) w (nI (i + l.length)) 0 X := by
  obtain ⟨hs, hL7, hL, hb, hr, hl⟩ := h
  have h := hs
  intro l
  induction l with
  | nil =>
    intro i j hj ho hx h32 _
    obtain ⟨j, rfl⟩ : ∃ k, j = k + 1 := ⟨j - 1, by omega⟩
    have ho' : o + i < 113 := ho
    have c1 : (nI (o + i)).toNatClampNeg = o + i := nI_clamp (by omega)
    have c2 := inL_nI (j := o + i) (n := 113) (by omega) (by decide)
    have t2 : mI X 373 (o + i) = 32 := by rw [hl _ ho']; exact h32
    rw [fX12_wordAt_L15]
    simp only [h.1, h.2.1, h.2.2, li_T, li_L, li_R, nm, bd, q_b, ne_eq, Nat.reduceEqDiff, reduceCtorEq, and_false, false_and, and_true, true_and, and_self, not_false_eq_true, not_true_eq_false, ↓reduceIte, nI_add, c1, c2.1, c2.2, t2, List.length_nil, Nat.add_zero]
  | cons x l ih =>
    intro i j hj ho hx h32 hle
    rw [List.length_cons] at hj ho hx h32
    obtain ⟨j, rfl⟩ : ∃ k, j = k + 1 := ⟨j - 1, by omega⟩
    have bx := hle x List.mem_cons_self
    have c1 : (nI (o + i)).toNatClampNeg = o + i := nI_clamp (by omega)
    have c2 := inL_nI (j := o + i) (n := 113) (by omega) (by decide)
    have t2 : mI X 373 (o + i) = nI (96 + x) := by rw [hl _ (by omega)]; exact hx 0 (by omega)
    have ne : ¬ nI (96 + x) = (32 : Int32) := fun z => by
      have := (nI_eq (a := 96 + x) (b := 32) (by omega) (by omega)).mp z
      omega
    rw [fX12_wordAt_L15]
    simp only [h.1, h.2.1, h.2.2, li_T, li_L, li_R, nm, bd, q_b, ne_eq, Nat.reduceEqDiff, reduceCtorEq, and_false, false_and, and_true, true_and, and_self, not_false_eq_true, not_true_eq_false, ↓reduceIte, nI_add, c1, c2.1, c2.2, t2, ne, nI_1]
    rw [ih (i + 1) j (by omega) (by omega) (fun z hz => by
      have := hx (z + 1) (by omega)
      rw [List.getD_cons_succ, show o + i + (z + 1) = o + (i + 1) + z by omega] at this
      exact this) (by rw [show o + (i + 1) + l.length = o + i + (l.length + 1) by omega]; exact h32) (fun z hz => hle z (List.mem_cons_of_mem _ hz)), List.length_cons, show i + 1 + l.length = i + (l.length + 1) by omega]
theorem m_wA (h : Ref bk dr b L X) (n : Nat) (hn : 200 ≤ n) {q many : Nat} (hm : many ≤ 700) (hq : q + many ≤ L) (hlet : ∀ j, q ≤ j → j < q + many → isL (b j) = true) : ∀ (r : List (List Nat)) (w o j : Nat), (∀ k, k ∈ r → Nm k) → kwo r o = true → w + r.length = 21 → r.length < j →
    fX12_wordAt_L5 n j 366 (nI q) (nI many) (nI o) (nI w) X = some (kwi (lts b many q) r w, X) := by
  intro r
  induction r with
  | nil =>
    intro w o j _ _ hw hj
    obtain ⟨j, rfl⟩ : ∃ k, j = k + 1 := ⟨j - 1, by omega⟩
    have hw' : w = 21 := hw
    subst hw'
    have e3 : (21 : Int32) ≤ nI 21 := by decide
    rw [fX12_wordAt_L5, if_pos e3, kwi]
  | cons k r ih =>
    intro w o j hr hk hw hj
    obtain ⟨j, rfl⟩ : ∃ k, j = k + 1 := ⟨j - 1, by omega⟩
    rw [List.length_cons] at hw hj
    have nk := hr k List.mem_cons_self
    unfold kwo at hk
    simp only [Bool.and_eq_true, decide_eq_true_eq, beq_iff_eq] at hk
    obtain ⟨h1, h2, h3, h4⟩ := hk
    have hx : ∀ x, x < k.length → q_kb.getD (o + x) 0 = nI (96 + k.getD x 0) := fun i hi => by
      have := List.all_eq_true.mp h1 i (List.mem_range.mpr hi)
      simpa using this
    have e3 : ¬ (21 : Int32) ≤ nI w := nI_ge (a := w) (b := 21) (by omega) (by omega)
    have k6 := nk.2.1
    have g := m_w15 h n (fX12_wordAt_L5 n j) (nI q) (nI many) (o := o) (nI w) k 0 n (by omega) (by omega) (fun x hx' => by rw [Nat.add_zero]; exact hx x hx') (by rw [Nat.add_zero]; exact h2) nk.2.2
    have g' : fX12_wordAt_L15 n (fX12_wordAt_L5 n j) n 366 (nI q) (nI many) (nI o) (nI w) 0 X = _ := g
    have nxt := ih (w + 1) (o + k.length + 1) j (fun y hy => hr y (List.mem_cons_of_mem _ hy)) h4 (by omega) (by omega)
    rw [fX12_wordAt_L5, if_neg e3, g', Nat.zero_add, kwi]
    by_cases z : k.length = many
    · rw [if_pos (by rw [z]), fX12_wordAt_L49]
      have c := m_w54 h n (fX12_wordAt_L5 n j) (q := q) (many := many) (o := o) (w := w) (N := k.length) k6 h3 (by omega) (fun j h1 h2 => hlet j h1 (by omega)) k 0 n (by omega) (by omega) (fun x hx' => by rw [Nat.add_zero]; exact hx x hx') nk.2.2
      have c' : fX12_wordAt_L54 n (fX12_wordAt_L5 n j) n 366 (nI q) (nI many) (nI o) (nI w) (nI k.length) 1 0 X = _ := c
      rw [c', Nat.add_zero, z]
      by_cases y : k = lts b many q
      · rw [if_pos y, if_pos y]
      · rw [if_neg y, if_neg y]; rw [z] at nxt; exact nxt
    · rw [if_neg (fun y => z ((nI_eq (by omega) (by omega)).mp y)), fX12_wordAt_L49, if_neg (fun y => z (by rw [y, lts_len]))]
      obtain ⟨m, hmm⟩ : ∃ m, n = m + 1 := ⟨n - 1, by omega⟩
      have l100 : fX12_wordAt_L100 n (fX12_wordAt_L5 n j) 366 (nI q) (nI many) (nI o) (nI w) (nI k.length) 0 X = some (kwi (lts b many q) r (w + 1), X) := by
        unfold fX12_wordAt_L100
        rw [if_pos rfl]
        simp only [nm, nI_add, nI_1]
        exact nxt
      have s54 : fX12_wordAt_L54 n (fX12_wordAt_L5 n j) (m + 1) 366 (nI q) (nI many) (nI o) (nI w) (nI k.length) 0 0 X = some (kwi (lts b many q) r (w + 1), X) := by
        rw [fX12_wordAt_L54]
        by_cases u : nI k.length ≤ 0
        · rw [if_pos u]; exact l100
        · rw [if_neg u, if_pos rfl]; exact l100
      rw [← hmm] at s54
      exact s54
theorem m_wordAt (h : Ref bk dr b L X) (n : Nat) (hn : 200 ≤ n) {q many : Nat} (hm : many ≤ 700) (hq : q + many ≤ L) (hlet : ∀ j, q ≤ j → j < q + many → isL (b j) = true) : fX12_wordAt n 366 (nI q) (nI many) X = some (kw (lts b many q), X) := by
  have l : kws.length = 21 := by decide
  exact m_wA h n hn hm hq hlet kws 0 0 n kws_nm (by decide +kernel) (by omega) (by omega)
end
