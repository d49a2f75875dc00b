/-! QUERIES: net -/
theorem pW_wJ (X : Mm) (g : Nat → Int64) : pW 16 (gW 16 X) (wJ X 365 g) = wJ X 365 g := by
  have k : (fun c k => if 16 ≤ c ∧ c ≤ 16 + 42 then (gW 16 X).2 (c - 16) k else mJ (wJ X 365 g) c k) = mJ (wJ X 365 g) := by
    funext c k
    by_cases z : 16 ≤ c ∧ c ≤ 16 + 42
    · rw [if_pos z, mJ_wJo (by omega)]
      show mJ X (16 + (c - 16)) k = _
      rw [show 16 + (c - 16) = c by omega]
    · rw [if_neg z]
  have k2 : (fun c k => if 16 ≤ c ∧ c ≤ 16 + 42 then (gW 16 X).1 (c - 16) k else mI (wJ X 365 g) c k) = mI (wJ X 365 g) := by
    funext c k
    by_cases z : 16 ≤ c ∧ c ≤ 16 + 42
    · rw [if_pos z, mI_wJ]
      show mI X (16 + (c - 16)) k = _
      rw [show 16 + (c - 16) = c by omega]
    · rw [if_neg z]
  unfold pW
  rw [k, k2]
  rfl
def pdN (g : Nat → Int64) (a b : Nat) : Int64 := if -(g b) < g a then -(g b) else g a
def Nt (H : Nat) (g : Nat → Int64) : Prop := (∀ h, h < 10 → -1000000000000000 ≤ (g h).toInt ∧ (g h).toInt ≤ 1000000000000000) ∧ (∀ h, H ≤ h → h < 10 → g h = 0) ∧ sm g H = 0
section
variable {bk dr s H P n T G : Nat} {X Y : Mm} {f : Nat → Int64} {w : Wt}
theorem c_fo (h : Shp bk dr X) (hn : 64 ≤ n) : fX5_firstOwed n 364 X = some (fo (mJ X 365) 10 0, X) := by
  have g : ∀ m i j, i + m = 10 → m < j → fX5_firstOwed_L2 n j 364 (nI i) X = some (fo (mJ X 365) m i, X) := by
    intro m
    induction m with
    | zero =>
      intro i j hi hj
      obtain ⟨j, rfl⟩ : ∃ k, j = k + 1 := ⟨j - 1, by omega⟩
      have e3 : (10 : Int32) ≤ nI i := nI_le (a := 10) (by omega) (by omega)
      rw [fX5_firstOwed_L2, if_pos e3, fo]
    | succ m ih =>
      intro i j hi hj
      obtain ⟨j, rfl⟩ : ∃ k, j = k + 1 := ⟨j - 1, by omega⟩
      have e3 : ¬ (10 : Int32) ≤ nI i := nI_ge (a := i) (b := 10) (by omega) (by omega)
      have e1 : (nI i).toNatClampNeg = i := nI_clamp (by omega)
      have e2 := inL_nI (j := i) (n := 10) (by omega) (by decide)
      rw [fX5_firstOwed_L2, fo]
      simp only [h.1, h.2.1, h.2.2, li_T, li_L, li_R, nm, bd, q_b, ne_eq, Nat.reduceEqDiff, reduceCtorEq, and_false, false_and, and_true, true_and, and_self, not_false_eq_true, not_true_eq_false, ↓reduceIte, e3, e1, e2.1, e2.2, nI_1, ih (i + 1) j (by omega) (by omega)]
      by_cases z : lg_cmp (mJ X 365 i) 0 ≤ 0
      · rw [if_pos z, if_pos z]
      · rw [if_neg z, if_neg z]
  exact g 10 0 n (by omega) (by omega)
theorem c_fw (h : Shp bk dr X) (hn : 64 ≤ n) : fX5_firstOwing n 364 X = some (fw (mJ X 365) 10 0, X) := by
  have g : ∀ m i j, i + m = 10 → m < j → fX5_firstOwing_L2 n j 364 (nI i) X = some (fw (mJ X 365) m i, X) := by
    intro m
    induction m with
    | zero =>
      intro i j hi hj
      obtain ⟨j, rfl⟩ : ∃ k, j = k + 1 := ⟨j - 1, by omega⟩
      have e3 : (10 : Int32) ≤ nI i := nI_le (a := 10) (by omega) (by omega)
      rw [fX5_firstOwing_L2, if_pos e3, fw]
    | succ m ih =>
      intro i j hi hj
      obtain ⟨j, rfl⟩ : ∃ k, j = k + 1 := ⟨j - 1, by omega⟩
      have e3 : ¬ (10 : Int32) ≤ nI i := nI_ge (a := i) (b := 10) (by omega) (by omega)
      have e1 : (nI i).toNatClampNeg = i := nI_clamp (by omega)
      have e2 := inL_nI (j := i) (n := 10) (by omega) (by decide)
      rw [fX5_firstOwing_L2, fw]
      simp only [h.1, h.2.1, h.2.2, li_T, li_L, li_R, nm, bd, q_b, ne_eq, Nat.reduceEqDiff, reduceCtorEq, and_false, false_and, and_true, true_and, and_self, not_false_eq_true, not_true_eq_false, ↓reduceIte, e3, e1, e2.1, e2.2, nI_1, ih (i + 1) j (by omega) (by omega)]
      by_cases z : 0 ≤ lg_cmp (mJ X 365 i) 0
      · rw [if_pos z, if_pos z]
      · rw [if_neg z, if_neg z]
  exact g 10 0 n (by omega) (by omega)
theorem m_fo (h : Shp bk dr X) (hH : mI X 366 6 = nI H) (hH2 : H ≤ 10) (hn : 64 ≤ n) : fX12_firstOwed n 366 0 X = some (fo (mJ X 380) H 0, X) := by
  have g : ∀ m i j, i + m = H → m < j → fX12_firstOwed_L2 n j 366 0 (nI i) X = some (fo (mJ X 380) m i, X) := by
    intro m
    induction m with
    | zero =>
      intro i j hi hj
      obtain ⟨j, rfl⟩ : ∃ k, j = k + 1 := ⟨j - 1, by omega⟩
      have e3 : nI H ≤ nI i := nI_le (by omega) (by omega)
      rw [fX12_firstOwed_L2, fo]
      simp only [h.1, h.2.1, h.2.2, li_T, li_L, li_R, nm, bd, q_b, ne_eq, Nat.reduceEqDiff, reduceCtorEq, and_false, false_and, and_true, true_and, and_self, not_false_eq_true, not_true_eq_false, ↓reduceIte, hH, e3]
    | succ m ih =>
      intro i j hi hj
      obtain ⟨j, rfl⟩ : ∃ k, j = k + 1 := ⟨j - 1, by omega⟩
      have e3 : ¬ nI H ≤ nI i := nI_ge (by omega) (by omega)
      have e1 : (nI i).toNatClampNeg = i := nI_clamp (by omega)
      have e2 := inL_nI (j := i) (n := 10) (by omega) (by decide)
      rw [fX12_firstOwed_L2, fo]
      simp only [h.1, h.2.1, h.2.2, li_T, li_L, li_R, nm, bd, q_b, ne_eq, Nat.reduceEqDiff, reduceCtorEq, and_false, false_and, and_true, true_and, and_self, not_false_eq_true, not_true_eq_false, ↓reduceIte, hH, e3, e1, e2.1, e2.2, fX12_firstOwed_L41, fX12_firstOwed_L39, nI_1, ih (i + 1) j (by omega) (by omega)]
      by_cases z : lg_cmp (mJ X 380 i) 0 ≤ 0
      · rw [if_pos z, if_pos z]
      · rw [if_neg z, if_neg z]
  exact g H 0 n (by omega) (by omega)
theorem m_fw (h : Shp bk dr X) (hH : mI X 366 6 = nI H) (hH2 : H ≤ 10) (hn : 64 ≤ n) : fX12_firstOwed n 366 1 X = some (fw (mJ X 380) H 0, X) := by
  have g : ∀ m i j, i + m = H → m < j → fX12_firstOwed_L2 n j 366 1 (nI i) X = some (fw (mJ X 380) m i, X) := by
    intro m
    induction m with
    | zero =>
      intro i j hi hj
      obtain ⟨j, rfl⟩ : ∃ k, j = k + 1 := ⟨j - 1, by omega⟩
      have e3 : nI H ≤ nI i := nI_le (by omega) (by omega)
      rw [fX12_firstOwed_L2, fw]
      simp only [h.1, h.2.1, h.2.2, li_T, li_L, li_R, nm, bd, q_b, ne_eq, Nat.reduceEqDiff, reduceCtorEq, and_false, false_and, and_true, true_and, and_self, not_false_eq_true, not_true_eq_false, ↓reduceIte, hH, e3]
    | succ m ih =>
      intro i j hi hj
      obtain ⟨j, rfl⟩ : ∃ k, j = k + 1 := ⟨j - 1, by omega⟩
      have e3 : ¬ nI H ≤ nI i := nI_ge (by omega) (by omega)
      have e1 : (nI i).toNatClampNeg = i := nI_clamp (by omega)
      have e2 := inL_nI (j := i) (n := 10) (by omega) (by decide)
      rw [fX12_firstOwed_L2, fw]
      simp only [h.1, h.2.1, h.2.2, li_T, li_L, li_R, nm, bd, q_b, ne_eq, Nat.reduceEqDiff, reduceCtorEq, and_false, false_and, and_true, true_and, and_self, not_false_eq_true, not_true_eq_false, ↓reduceIte, hH, e3, b1, e1, e2.1, e2.2, fX12_firstOwed_L41, fX12_firstOwed_L39, nI_1, ih (i + 1) j (by omega) (by omega)]
      by_cases z : 0 ≤ lg_cmp (mJ X 380 i) 0
      · rw [if_pos z, if_pos z]
      · rw [if_neg z, if_neg z]
  exact g H 0 n (by omega) (by omega)
theorem pdN_step {g : Nat → Int64} {a b : Nat} (nt : Nt H g) (hH : H ≤ 10) (ha : a < H) (hb : b < H) (ga : 0 < (g a).toInt) (gb : (g b).toInt < 0) : a ≠ b ∧ Nt H (q_u1 (q_u1 g a (g a - pdN g a b)) b (g b + pdN g a b)) ∧ nzc (q_u1 (q_u1 g a (g a - pdN g a b)) b (g b + pdN g a b)) H < nzc g H := by
  obtain ⟨n1, n2, n3⟩ := nt
  have ne : a ≠ b := fun z => by subst z; omega
  have ba := n1 a (by omega)
  have bb := n1 b (by omega)
  have ng : (-(g b)).toInt = -(g b).toInt := Jvm.Kit.i64_neg (by omega)
  have pv : (pdN g a b).toInt = min (-(g b).toInt) (g a).toInt := by
    unfold pdN
    by_cases z : -(g b) < g a
    · have z' := Int64.lt_iff_toInt_lt.mp z
      rw [if_pos z, ng]; omega
    · have z' : ¬ (-(g b)).toInt < (g a).toInt := fun q => z (Int64.lt_iff_toInt_lt.mpr q)
      rw [ng] at z'
      rw [if_neg z]; omega
  generalize pdN g a b = p at *
  have s1 : (g a - p).toInt = (g a).toInt - p.toInt := Jvm.Kit.i64_sub (by omega) (by omega)
  have s2 : (g b + p).toInt = (g b).toInt + p.toInt := Jvm.Kit.i64_add (by omega) (by omega)
  have za : ¬ g a = 0 := fun z => by rw [z, i64_z] at ga; omega
  have zb : ¬ g b = 0 := fun z => by rw [z, i64_z] at gb; omega
  refine ⟨ne, ⟨fun h hh => ?_, fun h h1 h2 => ?_, ?_⟩, ?_⟩
  · by_cases e : h = b
    · subst e
      rw [q_u1_s, s2]; omega
    · rw [q_u1_n _ _ e]
      by_cases e2 : h = a
      · subst e2
        rw [q_u1_s, s1]; omega
      · rw [q_u1_n _ _ e2]; exact n1 h hh
  · rw [q_u1_n _ _ (by omega), q_u1_n _ _ (by omega)]
    exact n2 h h1 h2
  · rw [sm_u1, sm_u1, if_pos ha, if_pos hb, q_u1_n _ _ (fun z => ne z.symm), s1, s2, n3]
    omega
  · have m1 := nzc_u1 g (k := a) (g a - p) za H
    have m2 := nzc_u1 (q_u1 g a (g a - p)) (k := b) (g b + p) (by rw [q_u1_n _ _ (fun z => ne z.symm)]; exact zb) H
    rw [if_pos ha] at m1
    rw [if_pos hb] at m2
    have or : g a - p = 0 ∨ g b + p = 0 := by
      by_cases y : (g a).toInt ≤ -(g b).toInt
      · exact Or.inl (Int64.toInt_inj.mp (by rw [s1, i64_z]; omega))
      · exact Or.inr (Int64.toInt_inj.mp (by rw [s2, i64_z]; omega))
    rcases or with y | y
    · rw [if_pos y] at m1; omega
    · rw [if_pos y] at m2; omega
theorem net_loop (hX : Shp bk dr X) (hY : Shp bk dr Y) (hH : mI Y 366 6 = nI H) (hH2 : H ≤ 10) (hn : 64 ≤ n) (v2 v3 : Int32) : ∀ (k : Nat) (g g' : Nat → Int64) (cnt jc jm : Nat), nzc g H ≤ k → cnt + k ≤ 10 → k < jc → k < jm → Nt H g → (∀ h, h < H → g' h = g h) →
    ∃ r g1 g2, fX5_answer_L53 n jc 364 v2 v3 (nI cnt) (fo g 10 0) (fw g 10 0) (wJ X 365 g) = some (r, wJ X 365 g1) ∧ fX12_net_L59 n jm 366 v2 v3 (nI cnt) (fo g H 0) (wJ Y 380 g') = some (r, wJ Y 380 g2) ∧ (v2 < -1 → r = -1) := by
  intro k
  induction k with
  | zero =>
    intro g g' cnt jc jm hk hc hjc hjm nt hg
    obtain ⟨jc, rfl⟩ : ∃ k, jc = k + 1 := ⟨jc - 1, by omega⟩
    obtain ⟨jm, rfl⟩ : ∃ k, jm = k + 1 := ⟨jm - 1, by omega⟩
    have ext := (fo_ext (g := g) (10 - H) H 0 (fun h h1 h2 => nt.2.1 h (by omega) (by omega))).1
    rw [show H + (10 - H) = 10 by omega] at ext
    rw [ext]
    rcases fo_spec g H 0 with ⟨z, -⟩ | ⟨h, h1, h2, h3, h4⟩
    · rw [z, fX5_answer_L53, fX12_net_L59, if_pos rfl, if_pos rfl, fX5_answer_L152]
      by_cases y : v2 = -1
      · rw [if_pos y, if_pos y]
        exact ⟨_, _, _, rfl, rfl, fun q => by rw [y] at q; exact absurd q (by decide)⟩
      · rw [if_neg y, if_neg y]
        exact ⟨_, _, _, rfl, rfl, fun _ => rfl⟩
    · have := nzc_pos (g := g) (h := h) (fun z => by rw [z, i64_z] at h4; omega) H (by omega)
      omega
  | succ k ih =>
    intro g g' cnt jc jm hk hc hjc hjm nt hg
    obtain ⟨jc, rfl⟩ : ∃ k, jc = k + 1 := ⟨jc - 1, by omega⟩
    obtain ⟨jm, rfl⟩ : ∃ k, jm = k + 1 := ⟨jm - 1, by omega⟩
    have ext := fo_ext (g := g) (10 - H) H 0 (fun h h1 h2 => nt.2.1 h (by omega) (by omega))
    rw [show H + (10 - H) = 10 by omega] at ext
    rw [ext.1, ext.2]
    rcases fo_spec g H 0 with ⟨z, -⟩ | ⟨a, a1, a2, a3, a4⟩
    · rw [z, fX5_answer_L53, fX12_net_L59, if_pos rfl, if_pos rfl, fX5_answer_L152]
      by_cases y : v2 = -1
      · rw [if_pos y, if_pos y]
        exact ⟨_, _, _, rfl, rfl, fun q => by rw [y] at q; exact absurd q (by decide)⟩
      · rw [if_neg y, if_neg y]
        exact ⟨_, _, _, rfl, rfl, fun _ => rfl⟩
    · rcases fw_spec g H 0 with ⟨-, y⟩ | ⟨b, b1', b2, b3, b4⟩
      · have := (sm_pos (g := g) H (fun h hh => y h (by omega) (by omega))).2 a (by omega) a4
        have := nt.2.2
        omega
      · have ha : a < H := by omega
        have hb : b < H := by omega
        obtain ⟨ne, nt', dec⟩ := pdN_step nt hH2 ha hb a4 b4
        have c1 : ¬ nI a = (-1 : Int32) := nI_nm1 (by omega)
        have c2 : ¬ nI b = (-1 : Int32) := nI_nm1 (by omega)
        have c3 : ¬ (20 : Int32) ≤ nI cnt := nI_ge (a := cnt) (b := 20) (by omega) (by omega)
        have e1 : (nI a).toNatClampNeg = a := nI_clamp (by omega)
        have e2 := inL_nI (j := a) (n := 10) (by omega) (by decide)
        have e3 : (nI b).toNatClampNeg = b := nI_clamp (by omega)
        have e4 := inL_nI (j := b) (n := 10) (by omega) (by decide)
        have gfw : fw g' H 0 = nI b := (fw_same H 0 (fun h _ h2 => hg h (by omega))).trans b3
        have hYf : mI (wJ Y 380 g') 366 6 = nI H := by rw [mI_wJ]; exact hH
        have mf := m_fw (n := n) (hY.wJ 380 g') hYf hH2 (by omega)
        rw [mJ_wJ, gfw] at mf
        have pdm : (0 ≤ lg_cmp (g a) (-(g b)) → -(g b) = pdN g a b) ∧ (¬ 0 ≤ lg_cmp (g a) (-(g b)) → g a = pdN g a b) := by
          have q := i64_min (-(g b)) (g a)
          unfold pdN
          rw [← q]
          exact ⟨fun z => by rw [if_pos (cv_ge.mp z)], fun z => by rw [if_neg (fun y => z (cv_ge.mpr y))]⟩
        -- the reference's step
        have ref : fX12_net_L59 n (jm + 1) 366 v2 v3 (nI cnt) (nI a) (wJ Y 380 g') = fX12_net_L109 n (fX12_net_L59 n jm) 366 v2 v3 (nI cnt) (nI a) (nI b) (pdN g a b) (wJ Y 380 g') := by
          have h := hY
          rw [fX12_net_L59]
          simp only [h.1, h.2.1, h.2.2, li_T, li_L, li_R, nm, bd, q_b, ne_eq, Nat.reduceEqDiff, reduceCtorEq, and_false, false_and, and_true, true_and, and_self, not_false_eq_true, not_true_eq_false, ↓reduceIte, mT_wJ, mL_wJ, mR_wJ, mI_wJ, mJ_wJ, sJ_wJ, Nat.reduceLT, l60.1, l60.2.1, l60.2.2, l61.1, l61.2.1, l61.2.2, l62.1, l62.2.1, l62.2.2, c1, mf, e1, e2.1, e2.2, e3, e4.1, e4.2, hg a ha, hg b hb]
          by_cases z : 0 ≤ lg_cmp (g a) (-(g b))
          · rw [if_pos z, pdm.1 z]
          · rw [if_neg z, pdm.2 z]
        rw [a3, b3, ref]
        have pdd : (if -(g b) < g a then -(g b) else g a) = pdN g a b := rfl
        have d10 : ¬ (1 : Int32) = 0 := by decide
        have d20 : ¬ (2 : Int32) = 0 := by decide
        have d21 : ¬ (2 : Int32) = 1 := by decide
        by_cases y : nI cnt = v2
        · subst y
          refine ⟨if v3 = 0 then (nI b).toInt64 else if v3 = 1 then (nI a).toInt64 else if v3 = 2 then pdN g a b else -1, g, g', ?_, ?_, fun q => ?_⟩
          · have h := hX
            rw [fX5_answer_L53]
            simp only [h.1, h.2.1, h.2.2, li_T, li_L, li_R, nm, bd, q_b, ne_eq, Nat.reduceEqDiff, reduceCtorEq, and_false, false_and, and_true, true_and, and_self, not_false_eq_true, not_true_eq_false, ↓reduceIte, mT_wJ, mL_wJ, mR_wJ, mI_wJ, mJ_wJ, sJ_wJ, Nat.reduceLT, l60.1, l60.2.1, l60.2.2, l61.1, l61.2.1, l61.2.2, l62.1, l62.2.1, l62.2.2, c1, c2, c3, e1, e2.1, e2.2, e3, e4.1, e4.2, pdd, fX5_partOf]
            by_cases y0 : v3 = 0
            · simp only [y0, ↓reduceIte]
            · by_cases y1 : v3 = 1
              · simp only [y0, y1, d10, ↓reduceIte]
              · by_cases y2 : v3 = 2
                · simp only [y0, y1, y2, d20, d21, ↓reduceIte]
                · simp only [y0, y1, y2, d20, d21, ↓reduceIte]
          · rw [fX12_net_L109, if_pos rfl]
            by_cases y0 : v3 = 0
            · simp only [y0, ↓reduceIte]
            · by_cases y1 : v3 = 1
              · simp only [y0, y1, d10, ↓reduceIte]
              · by_cases y2 : v3 = 2
                · simp only [y0, y1, y2, d20, d21, ↓reduceIte]
                · simp only [y0, y1, y2, d20, d21, ↓reduceIte]
          · have q2 : nI cnt < 0 := Int32.lt_trans q (by decide)
            exact absurd q2 (nI_pos (by omega))
        · have hg' : ∀ h, h < H → q_u1 (q_u1 g' a (g' a - pdN g a b)) b (q_u1 g' a (g' a - pdN g a b) b + pdN g a b) h = q_u1 (q_u1 g a (g a - pdN g a b)) b (g b + pdN g a b) h := by
            intro h hh
            rw [q_u1_n (k := a) (j := b) _ _ (fun z => ne z.symm), hg a ha, hg b hb]
            by_cases e : h = b
            · subst e; rw [q_u1_s, q_u1_s]
            · rw [q_u1_n _ _ e, q_u1_n _ _ e]
              by_cases e2 : h = a
              · subst e2; rw [q_u1_s, q_u1_s]
              · rw [q_u1_n _ _ e2, q_u1_n _ _ e2]; exact hg h hh
          obtain ⟨r, g1, g2, r1, r2, r3⟩ := ih _ _ (cnt + 1) jc jm (by omega) (by omega) (by omega) (by omega) nt' hg'
          refine ⟨r, g1, g2, ?_, ?_, r3⟩
          · have h := hX
            have f1 := c_fo (n := n) (h.wJ 365 (q_u1 (q_u1 g a (g a - pdN g a b)) b (g b + pdN g a b))) (by omega)
            have f2 := c_fw (n := n) (h.wJ 365 (q_u1 (q_u1 g a (g a - pdN g a b)) b (g b + pdN g a b))) (by omega)
            rw [mJ_wJ] at f1 f2
            have gb : q_u1 g a (g a - pdN g a b) b = g b := q_u1_n _ _ (fun z => ne z.symm)
            rw [fX5_answer_L53]
            simp only [h.1, h.2.1, h.2.2, li_T, li_L, li_R, nm, bd, q_b, ne_eq, Nat.reduceEqDiff, reduceCtorEq, and_false, false_and, and_true, true_and, and_self, not_false_eq_true, not_true_eq_false, ↓reduceIte, mT_wJ, mL_wJ, mR_wJ, mI_wJ, mJ_wJ, sJ_wJ, Nat.reduceLT, l60.1, l60.2.1, l60.2.2, l61.1, l61.2.1, l61.2.2, l62.1, l62.2.1, l62.2.2, c1, c2, c3, e1, e2.1, e2.2, e3, e4.1, e4.2, y, pdd, gb, f1, f2, nI_1]
            exact r1
          · have h := hY
            have hYf2 : ∀ z, mI (wJ Y 380 z) 366 6 = nI H := fun z => by rw [mI_wJ]; exact hH
            have f1 := m_fo (n := n) (hY.wJ 380 (q_u1 (q_u1 g' a (g' a - pdN g a b)) b (q_u1 g' a (g' a - pdN g a b) b + pdN g a b))) (hYf2 _) hH2 (by omega)
            rw [mJ_wJ, fo_same H 0 (fun h _ h2 => hg' h (by omega))] at f1
            rw [fX12_net_L109, if_neg y]
            simp only [h.1, h.2.1, h.2.2, li_T, li_L, li_R, nm, bd, q_b, ne_eq, Nat.reduceEqDiff, reduceCtorEq, and_false, false_and, and_true, true_and, and_self, not_false_eq_true, not_true_eq_false, ↓reduceIte, mT_wJ, mL_wJ, mR_wJ, mI_wJ, mJ_wJ, sJ_wJ, Nat.reduceLT, l60.1, l60.2.1, l60.2.2, l61.1, l61.2.1, l61.2.2, l62.1, l62.2.1, l62.2.2, e1, e2.1, e2.2, e3, e4.1, e4.2, f1, nI_1]
            exact r2
/-- the rows are filled -/
theorem c_net1 (h : Shp bk dr X) {e C : Nat} (he : e < 8) (hC : (gW 16 X).1 26 e = nI C) (hC6 : C ≤ 60) (hn : 64 ≤ n) (v2 v3 : Int32) (g : Nat → Int64) {D : Nat → Int64} (hD : ∀ a, a < 10 → nf (sT1 e a (gW 16 X)) C 0 0 - nf (sF1 e a (gW 16 X)) C 0 0 = D a) :
    fX5_answer_L3 n n 364 16 (nI e) v2 v3 0 (wJ X 365 g) = fX5_answer_L53 n n 364 v2 v3 0 (fo (nf (fun i (g : Nat → Int64) => q_u1 g i (D i)) 10 0 g) 10 0) (fw (nf (fun i (g : Nat → Int64) => q_u1 g i (D i)) 10 0 g) 10 0) (wJ X 365 (nf (fun i (g : Nat → Int64) => q_u1 g i (D i)) 10 0 g)) := by
  have z := loop_ga (F := fun j i (g : Nat → Int64) => fX5_answer_L3 n j 364 16 (nI e) v2 v3 i (wJ X 365 g)) (N := fun i g => q_u1 g i (D i)) (I := fun _ _ => True) (out := fun g => fX5_answer_L53 n n 364 v2 v3 0 (fo g 10 0) (fw g 10 0) (wJ X 365 g)) 10
    (fun j i g hi _ => by
      have e3 : ¬ (10 : Int32) ≤ nI i := nI_ge (a := i) (b := 10) hi (by omega)
      have e1 : (nI i).toNatClampNeg = i := nI_clamp (by omega)
      have e2 := inL_nI (j := i) (n := 10) (by omega) (by decide)
      have t := c_clTo (n := n) (a := i) (X := wJ X 365 g) (w := gW 16 X) (h.wJ 365 g) St.now he hC hC6 hn
      have u := c_clFr (n := n) (a := i) (X := wJ X 365 g) (w := gW 16 X) (h.wJ 365 g) St.now he hC hC6 hn
      rw [pW_wJ] at t u
      have d := hD i hi
      rw [fX5_answer_L3]
      simp only [h.1, h.2.1, h.2.2, li_T, li_L, li_R, nm, bd, q_b, ne_eq, Nat.reduceEqDiff, reduceCtorEq, and_false, false_and, and_true, true_and, and_self, not_false_eq_true, not_true_eq_false, ↓reduceIte, mT_wJ, mL_wJ, mR_wJ, mI_wJ, mJ_wJ, sJ_wJ, Nat.reduceLT, l60.1, l60.2.1, l60.2.2, l61.1, l61.2.1, l61.2.2, l62.1, l62.2.1, l62.2.2, n16_T, e3, t, u, e1, e2.1, e2.2, nI_1, d])
    (fun _ _ _ _ => trivial)
    (fun j g _ => by
      have e3 : (10 : Int32) ≤ nI 10 := by decide
      have f1 := c_fo (n := n) (h.wJ 365 g) (by omega)
      have f2 := c_fw (n := n) (h.wJ 365 g) (by omega)
      rw [mJ_wJ] at f1 f2
      rw [fX5_answer_L3]
      simp only [h.1, h.2.1, h.2.2, li_T, li_L, li_R, nm, bd, q_b, ne_eq, Nat.reduceEqDiff, reduceCtorEq, and_false, false_and, and_true, true_and, and_self, not_false_eq_true, not_true_eq_false, ↓reduceIte, mT_wJ, mL_wJ, mR_wJ, mI_wJ, mJ_wJ, sJ_wJ, Nat.reduceLT, l60.1, l60.2.1, l60.2.2, l61.1, l61.2.1, l61.2.2, l62.1, l62.2.1, l62.2.2, e3, f1, f2]) 10 0 g n (by omega) (by omega) trivial
  exact z.1
theorem m_net1 (h : Shp bk dr X) (R : Rl T G (mJ X 367) w) (hH : mI X 366 6 = nI H) (hH2 : H ≤ 10) {e C : Nat} (he : e < G) (hC : w.1 26 e = nI C) (hC6 : C ≤ 60) (hn : 64 ≤ n) (v2 v3 : Int32) (g : Nat → Int64) {D : Nat → Int64} (hD : ∀ a, a < 10 → nf (sB1 e a w) C 0 0 = D a) :
    fX12_net_L20 n n 366 (nI e) v2 v3 0 (wJ X 380 g) = fX12_net_L59 n n 366 v2 v3 0 (fo (nf (fun i (g : Nat → Int64) => q_u1 g i (D i)) H 0 g) H 0) (wJ X 380 (nf (fun i (g : Nat → Int64) => q_u1 g i (D i)) H 0 g)) := by
  have z := loop_ga (F := fun j i (g : Nat → Int64) => fX12_net_L20 n j 366 (nI e) v2 v3 i (wJ X 380 g)) (N := fun i g => q_u1 g i (D i)) (I := fun _ _ => True) (out := fun g => fX12_net_L59 n n 366 v2 v3 0 (fo g H 0) (wJ X 380 g)) H
    (fun j i g hi _ => by
      have e3 : ¬ nI H ≤ nI i := nI_ge hi (by omega)
      have e1 : (nI i).toNatClampNeg = i := nI_clamp (by omega)
      have e2 := inL_nI (j := i) (n := 10) (by omega) (by decide)
      have RM : Rl T G (mJ (wJ X 380 g) 367) w := by rw [mJ_wJo (by decide)]; exact R
      have t := p_clBy (n := n) (a := i) (h.wJ 380 g) RM he hC hC6 hn
      rw [hD i (by omega)] at t
      rw [fX12_net_L20]
      simp only [h.1, h.2.1, h.2.2, li_T, li_L, li_R, nm, bd, q_b, ne_eq, Nat.reduceEqDiff, reduceCtorEq, and_false, false_and, and_true, true_and, and_self, not_false_eq_true, not_true_eq_false, ↓reduceIte, mT_wJ, mL_wJ, mR_wJ, mI_wJ, mJ_wJ, sJ_wJ, Nat.reduceLT, l60.1, l60.2.1, l60.2.2, l61.1, l61.2.1, l61.2.2, l62.1, l62.2.1, l62.2.2, hH, e3, t, e1, e2.1, e2.2, nI_1])
    (fun _ _ _ _ => trivial)
    (fun j g _ => by
      have e3 : nI H ≤ nI H := nI_le (Nat.le_refl _) (by omega)
      have f1 := m_fo (n := n) (h.wJ 380 g) (by rw [mI_wJ]; exact hH) hH2 (by omega)
      rw [mJ_wJ] at f1
      rw [fX12_net_L20]
      simp only [h.1, h.2.1, h.2.2, li_T, li_L, li_R, nm, bd, q_b, ne_eq, Nat.reduceEqDiff, reduceCtorEq, and_false, false_and, and_true, true_and, and_self, not_false_eq_true, not_true_eq_false, ↓reduceIte, mT_wJ, mL_wJ, mR_wJ, mI_wJ, mJ_wJ, sJ_wJ, Nat.reduceLT, l60.1, l60.2.1, l60.2.2, l61.1, l61.2.1, l61.2.2, l62.1, l62.2.1, l62.2.2, hH, e3, f1]) H 0 g n (by omega) (by omega) trivial
  exact z.1
theorem Tp.owed5 (h : Tp bk dr H P X) (g : Nat → Int64) : Tp bk dr H P (wJ X 365 g) :=
  h.same (h.1.wJ _ _) (fun c k _ => by rw [mI_wJ]) (fun c hr k => by rw [mJ_wJo (by unfold rlJ at hr; omega)])
theorem s_net (h : Tp bk dr H P X) (hn : 24000 ≤ n) (v1 v2 v3 : Int32) : ∃ r X1 X2, fX11_net n 1 v1 v2 v3 X = some (r, X1) ∧ fX12_net n 366 v1 v2 v3 X1 = some (r, X2) ∧ Tp bk dr H P X2 := by
  have hT := h
  obtain ⟨h1, h2, h3, h4, h5, h6, ⟨T, G, R, iv, iw⟩, -, -, -, -, -, -⟩ := h
  have h := h1
  have hs := h1.sI 366 0 0
  have wG : mI X 29 16 = nI G := iv.1.2.2.1
  have hH10 : H ≤ 10 := h3
  have hG8 := R.2.1
  by_cases g1 : 0 ≤ v1 ∧ v1 < nI G
  · obtain ⟨e, he, rfl⟩ := nI_ex g1 (by omega)
    have e8 : e < 8 := by omega
    have hc := iv.cnt he
    have md := mxT_8 (dn (gW 16 X) G) (by have := dn_le (gW 16 X) G; omega)
    have mp := mxT_pos (dn (gW 16 X) G)
    obtain ⟨i1, i2, i3⟩ := B_sum (e := e) (H := H) (C := Cn (gW 16 X) e) (w := gW 16 X) (M := mxT (dn (gW 16 X) G)) hH10 (by omega) md hc.2 (iw.2.2.2.2.2.1 e he) (iw.2.2.2.2.2.2.2.2.2.1 e he) (Cn (gW 16 X) e) 0 (fun _ => 0) (by omega) (fun h hh => by rw [i64_z]; simp)
    have bnd : ((0 + Cn (gW 16 X) e : Nat) : Int) * mxT (dn (gW 16 X) G) ≤ 1000000000000000 := by
      have := Int.mul_le_mul_of_nonneg_right (show ((0 + Cn (gW 16 X) e : Nat) : Int) ≤ 60 by have := hc.2; omega) (show 0 ≤ mxT (dn (gW 16 X) G) by omega)
      omega
    generalize hM : ((0 + Cn (gW 16 X) e : Nat) : Int) * mxT (dn (gW 16 X) G) = M at i1 bnd
    have hDm : ∀ a, a < 10 → nf (sB1 e a (gW 16 X)) (Cn (gW 16 X) e) 0 0 = (fun a => nf (sB1 e a (gW 16 X)) (Cn (gW 16 X) e) 0 0) a := fun a _ => rfl
    have hDc : ∀ a, a < 10 → nf (sT1 e a (gW 16 X)) (Cn (gW 16 X) e) 0 0 - nf (sF1 e a (gW 16 X)) (Cn (gW 16 X) e) 0 0 = (fun a => nf (sB1 e a (gW 16 X)) (Cn (gW 16 X) e) 0 0) a := fun a _ => (sB_TF e a (gW 16 X) _ 0 0 0).symm
    generalize hDD : (fun a => nf (sB1 e a (gW 16 X)) (Cn (gW 16 X) e) 0 0) = D at hDm hDc i2
    have hDa : ∀ a, nf (sB1 e a (gW 16 X)) (Cn (gW 16 X) e) 0 0 = D a := fun a => by rw [← hDD]
    have cA := c_net1 (n := n) h e8 hc.1 hc.2 (by omega) v2 v3 (mJ X 365) hDc
    rw [wJ_self] at cA
    have zm : sm (fun _ => (0 : Int64)) H = 0 := by
      have : ∀ m, sm (fun _ => (0 : Int64)) m = 0 := by
        intro m
        induction m with
        | zero => rfl
        | succ m ih => rw [sm, ih, i64_z]; rfl
      exact this H
    have fil := nf_fill D 10 0 (mJ X 365)
    generalize nf (fun i (g : Nat → Int64) => q_u1 g i (D i)) 10 0 (mJ X 365) = gc at cA fil
    have gcD : ∀ a, a < 10 → gc a = D a := fun a ha => (fil a).1 (by omega) (by omega)
    have nt : Nt H gc := by
      refine ⟨fun h hh => ?_, fun h ha hb => ?_, ?_⟩
      · have := i1 h hh
        rw [hDa h] at this
        rw [gcD h hh]
        omega
      · have := i3 h ha hb
        rw [hDa h] at this
        rw [gcD h hb, this]
      · rw [sm_congr H (fun h hh => gcD h (by omega)), i2, zm]
    -- the reference, on any memory with the same State
    have R0 : ∀ u, Rl T G (mJ (sI (wJ X 365 u) 366 0 0) 367) (gW 16 X) := fun u => by rw [mJ_sI, mJ_wJo (by decide)]; exact R
    have y6 : ∀ u, mI (sI (wJ X 365 u) 366 0 0) 366 6 = nI H := fun u => by rw [mI_sI, if_neg (by omega), mI_wJ]; exact h5
    have hsu : ∀ u, Shp bk dr (sI (wJ X 365 u) 366 0 0) := fun u => (h1.wJ 365 u).sI 366 0 0
    have mA : ∀ u, ∃ gm, fX12_net_L20 n n 366 (nI e) v2 v3 0 (sI (wJ X 365 u) 366 0 0) = fX12_net_L59 n n 366 v2 v3 0 (fo gc H 0) (wJ (sI (wJ X 365 u) 366 0 0) 380 gm) ∧ ∀ h, h < H → gm h = gc h := by
      intro u
      have mA := m_net1 (n := n) (hsu u) (R0 u) (y6 u) hH10 he hc.1 hc.2 (by omega) v2 v3 (mJ (sI (wJ X 365 u) 366 0 0) 380) hDm
      rw [wJ_self] at mA
      have fm := nf_fill D H 0 (mJ (sI (wJ X 365 u) 366 0 0) 380)
      generalize nf (fun i (g : Nat → Int64) => q_u1 g i (D i)) H 0 (mJ (sI (wJ X 365 u) 366 0 0) 380) = gm at mA fm
      have gmc : ∀ h, h < H → gm h = gc h := fun h hh => by rw [(fm h).1 (by omega) (by omega), gcD h (by omega)]
      rw [fo_same H 0 (fun h _ h2 => gmc h (by omega))] at mA
      exact ⟨gm, mA, gmc⟩
    have nz10 : nzc gc H ≤ 10 := Nat.le_trans (nzc_le gc H) hH10
    by_cases q2 : (-1 : Int32) ≤ v2
    · obtain ⟨gm0, m1, m2⟩ := mA gc
      obtain ⟨r, ga, gb, r1, -, -⟩ := net_loop (n := n) h1 (hsu gc) (y6 gc) hH10 (by omega) v2 v3 10 gc gm0 0 n n nz10 (by omega) (by omega) (by omega) nt m2
      obtain ⟨gm, m3, m4⟩ := mA ga
      obtain ⟨r', ga', gb', p1, p2, -⟩ := net_loop (n := n) h1 (hsu ga) (y6 ga) hH10 (by omega) v2 v3 10 gc gm 0 n n nz10 (by omega) (by omega) (by omega) nt m4
      have er : r' = r := (Prod.mk.inj (Option.some.inj (p1.symm.trans r1))).1
      subst er
      have cB : fX5_answer n 364 16 (nI e) v2 v3 X = some (r', wJ X 365 ga) := cA.trans r1
      have mB : fX12_net_L20 n n 366 (nI e) v2 v3 0 (sI (wJ X 365 ga) 366 0 0) = some (r', wJ (sI (wJ X 365 ga) 366 0 0) 380 gb') := m3.trans p2
      have hX1 := h1.wJ 365 ga
      refine ⟨r', wJ X 365 ga, wJ (sI (wJ X 365 ga) 366 0 0) 380 gb', ?_, ?_, ((hT.owed5 ga).told 0).owed gb'⟩
      · simp only [fX11_net, h.1, h.2.1, h.2.2, li_T, li_L, li_R, nm, bd, q_b, ne_eq, Nat.reduceEqDiff, reduceCtorEq, and_false, false_and, and_true, true_and, and_self, not_false_eq_true, not_true_eq_false, ↓reduceIte, n16_T, n16_L, n16_R, q_isE h wG, bo_t g1, b1, q2, cB]
      · simp only [fX12_net, h.1, h.2.1, h.2.2, li_T, li_L, li_R, nm, bd, q_b, ne_eq, Nat.reduceEqDiff, reduceCtorEq, and_false, false_and, and_true, true_and, and_self, not_false_eq_true, not_true_eq_false, ↓reduceIte, n16_T, n16_L, n16_R, hX1.1, mT_sI, mT_wJ, p_isE (hsu ga) (R0 ga) iv.1.2.2.1, bo_t g1, b1, mB]
    · obtain ⟨gm, m3, m4⟩ := mA (mJ X 365)
      obtain ⟨r', ga', gb', p1, p2, p3⟩ := net_loop (n := n) h1 (hsu (mJ X 365)) (y6 (mJ X 365)) hH10 (by omega) v2 v3 10 gc gm 0 n n nz10 (by omega) (by omega) (by omega) nt m4
      have er : r' = -1 := p3 (i32_nle.mp q2)
      subst er
      have mB := m3.trans p2
      have R' := R0 (mJ X 365)
      rw [wJ_self] at mB R'
      refine ⟨-1, X, wJ (sI X 366 0 0) 380 gb', ?_, ?_, (hT.told 0).owed gb'⟩
      · simp only [fX11_net, fX11_net_L19, h.1, h.2.1, h.2.2, li_T, li_L, li_R, nm, bd, q_b, ne_eq, Nat.reduceEqDiff, reduceCtorEq, and_false, false_and, and_true, true_and, and_self, not_false_eq_true, not_true_eq_false, ↓reduceIte, n16_T, n16_L, n16_R, q_isE h wG, bo_t g1, b1, q2]
      · simp only [fX12_net, h.1, h.2.1, h.2.2, li_T, li_L, li_R, nm, bd, q_b, ne_eq, Nat.reduceEqDiff, reduceCtorEq, and_false, false_and, and_true, true_and, and_self, not_false_eq_true, not_true_eq_false, ↓reduceIte, n16_T, n16_L, n16_R, mT_sI, p_isE hs R' iv.1.2.2.1, bo_t g1, b1, mB]
  · refine ⟨-1, X, sI X 366 0 0, ?_, ?_, hT.told 0⟩
    · simp only [fX11_net, fX11_net_L19, h.1, h.2.1, h.2.2, li_T, li_L, li_R, nm, bd, q_b, ne_eq, Nat.reduceEqDiff, reduceCtorEq, and_false, false_and, and_true, true_and, and_self, not_false_eq_true, not_true_eq_false, ↓reduceIte, n16_T, n16_L, n16_R, q_isE h wG, bo_f g1]
    · have R' : Rl T G (mJ (sI X 366 0 0) 367) (gW 16 X) := R
      simp only [fX12_net, h.1, h.2.1, h.2.2, li_T, li_L, li_R, nm, bd, q_b, ne_eq, Nat.reduceEqDiff, reduceCtorEq, and_false, false_and, and_true, true_and, and_self, not_false_eq_true, not_true_eq_false, ↓reduceIte, n16_T, n16_L, n16_R, mT_sI, p_isE hs R' iv.1.2.2.1, bo_f g1]
end
