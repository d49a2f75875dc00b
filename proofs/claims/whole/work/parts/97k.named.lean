/-! TEXTS: a NAME alone -/
section
variable {bk dr H P n : Nat} {X Z : Mm} {b : Nat → Int32} {L : Nat} {s : St3}
theorem fnv_none {f : Nat → Int32} {v : Int32} : ∀ m i, (∀ k, k < i + m → f k ≠ v) → fnv f v m i = -1 := by
  intro m
  induction m with
  | zero => intro i _; rfl
  | succ m ih => intro i h; rw [fnv, if_neg (h i (by omega)), ih (i + 1) (fun k hk => h k (by omega))]
theorem c5_ne {l : List Nat} (h : Nm l) : nI (c5 l) ≠ (-1 : Int32) := fun x => by
  have := congrArg Int32.toInt x
  rw [nI_toInt (by have := c5_6 h; omega)] at this
  have e : (-1 : Int32).toInt = -1 := by decide
  omega
/-- what stands alone -/
def al (b : Nat → Int32) (L : Nat) : Prop := kd b L 0 = 2 ∧ kd b L 1 = 0
theorem VI0 : VI b L 0 := fun m hm => absurd hm (by omega)
theorem c_alone (h : Shp bk dr X) (hL : mI X 2 1 = nI L) (hL7 : L ≤ 700) (hn : 1000 ≤ n) (hb : mI X 3 = b) : ∃ w Y, fX9_nameAlone n 2 X = some (w, Y) ∧ (al b L → w = nI (c5 (wlt b L 0))) ∧ (¬ al b L → w = -1) ∧ (∀ c k, ¬ (c = 4 ∨ c = 5 ∨ c = 6) → mI Y c k = mI X c k) ∧ mJ Y = mJ X ∧ Shp bk dr Y := by
  obtain ⟨Y, e, t, fI, fJ, hY⟩ := c_scan h hL hL7 hn hb
  obtain ⟨t1, t2, -⟩ := t 0 VI0
  have h0 : (0 : Int32).toNatClampNeg = 0 := by decide
  have h1 : (1 : Int32).toNatClampNeg = 1 := by decide
  have i0 : ¬ (0 : Int32) < 0 ∧ (0 : Int32) < Int32.ofNat 701 := by decide
  have i1 : ¬ (1 : Int32) < 0 ∧ (1 : Int32) < Int32.ofNat 701 := by decide
  have j0 : inL (0 : Int32) 701 := inL_nI (j := 0) (by omega) (by decide)
  have j1 : inL (1 : Int32) 701 := inL_nI (j := 1) (by omega) (by decide)
  by_cases z : kd b L 0 = 2
  · have k1 := kd_2 z
    obtain ⟨u1, -, -⟩ := t 1 (VI0.kd0 (by rw [z]; decide))
    have tv := t2 (Or.inr (Or.inl z))
    rw [k1.2.2.1] at tv
    by_cases y : kd b L 1 = 0
    · refine ⟨nI (c5 (wlt b L 0)), Y, ?_, fun _ => rfl, fun x => absurd ⟨z, y⟩ x, fI, fJ, hY⟩
      have hs := h
      have h := hY
      simp only [fX9_nameAlone, h.1, h.2.1, h.2.2, li_T, li_L, li_R, nm, bd, q_b, ne_eq, Nat.reduceEqDiff, reduceCtorEq, and_false, false_and, and_true, true_and, and_self, not_false_eq_true, not_true_eq_false, ↓reduceIte, hs.1, e, h0, h1, j0.1, j0.2, j1.1, j1.2, t1, z, u1, y, tv]
    · refine ⟨-1, Y, ?_, fun x => absurd x.2 y, fun _ => rfl, fI, fJ, hY⟩
      have hs := h
      have h := hY
      simp only [fX9_nameAlone, fX9_nameAlone_L32, h.1, h.2.1, h.2.2, li_T, li_L, li_R, nm, bd, q_b, ne_eq, Nat.reduceEqDiff, reduceCtorEq, and_false, false_and, and_true, true_and, and_self, not_false_eq_true, not_true_eq_false, ↓reduceIte, hs.1, e, h0, h1, j0.1, j0.2, j1.1, j1.2, t1, z, u1, y]
  · refine ⟨-1, Y, ?_, fun x => absurd x.1 z, fun _ => rfl, fI, fJ, hY⟩
    have hs := h
    have h := hY
    simp only [fX9_nameAlone, fX9_nameAlone_L32, h.1, h.2.1, h.2.2, li_T, li_L, li_R, nm, bd, q_b, ne_eq, Nat.reduceEqDiff, reduceCtorEq, and_false, false_and, and_true, true_and, and_self, not_false_eq_true, not_true_eq_false, ↓reduceIte, hs.1, e, h0, j0.1, j0.2, t1, z]
theorem isIn_01 (v : Int32) (X : Mm) : fX12_isIn 366 v.toInt64 0 1 X = some (if v = 0 ∨ v = 1 then 1 else 0, X) := by
  have z0 : (0 : Int64).toInt = 0 := by decide
  have z1 : (1 : Int64).toInt = 1 := by decide
  have y0 : (0 : Int32).toInt = 0 := by decide
  have y1 : (1 : Int32).toInt = 1 := by decide
  have e0 : v = 0 ↔ v.toInt = 0 := by rw [← Int32.toInt_inj, y0]
  have e1 : v = 1 ↔ v.toInt = 1 := by rw [← Int32.toInt_inj, y1]
  unfold fX12_isIn fX12_isIn_L17
  by_cases a : lg_cmp v.toInt64 0 < 0
  · rw [if_pos a, if_neg]
    rw [cv_lt, Int64.lt_iff_toInt_lt, Int32.toInt_toInt64, z0] at a
    rw [e0, e1]; omega
  · rw [if_neg a]
    rw [cv_lt, Int64.lt_iff_toInt_lt, Int32.toInt_toInt64, z0] at a
    by_cases c : 0 < lg_cmp v.toInt64 1
    · rw [if_pos c, if_neg]
      rw [cv_gt, Int64.lt_iff_toInt_lt, Int32.toInt_toInt64, z1] at c
      rw [e0, e1]; omega
    · rw [if_neg c, if_pos]
      rw [cv_gt, Int64.lt_iff_toInt_lt, Int32.toInt_toInt64, z1] at c
      rw [e0, e1]; omega
def vA (b : Nat → Int32) (L : Nat) (nh : Nat → List Nat) (N : Nat) : Int32 := if kd b L 0 = 2 then (if kd b L 1 = 0 then fnm nh (wlt b L 0) N 0 else -1) else -1
theorem vA_al (nh : Nat → List Nat) (N : Nat) : (al b L → vA b L nh N = fnm nh (wlt b L 0) N 0) ∧ (¬ al b L → vA b L nh N = -1) := by
  unfold vA
  refine ⟨fun z => by rw [if_pos z.1, if_pos z.2], fun z => ?_⟩
  by_cases y : kd b L 0 = 2
  · rw [if_pos y, if_neg (fun x => z ⟨y, x⟩)]
  · rw [if_neg y]
theorem Rb.at (h : Rb bk dr b L X) {k : Nat} (hk : k ≠ 12) (v : Int32) : Rb bk dr b L (sI X 366 k v) := by
  obtain ⟨h1, h2, h3, h4, h5, h6⟩ := h
  refine ⟨⟨h1.1, h1.2.1, h1.2.2⟩, h2, by rw [mI_sI, if_neg (by omega)]; exact h3, fun i hi => ?_, h5, fun i hi => ?_⟩
  · rw [mI_sI, if_neg (by omega)]; exact h4 i hi
  · rw [mI_sI, if_neg (by omega)]; exact h6 i hi
theorem m_n62 (h : Ref bk dr b L Z) (hn : 1000 ≤ n) (h6 : mI Z 366 6 = nI H) (hH : H ≤ 10) (h7 : mI Z 366 7 = nI P) (hP : P ≤ 5) (v1 v2 v3 : Int32) (s : St3) (v5 : Int64) :
    fX12_named_L62 n 366 v1 v2 v3 v5 1 (RS b L s Z) = some (if v1 = 0 then fnj (mJ Z 371) v5 H 0 else if v1 = 1 then fnj (mJ Z 372) v5 P 0 else -1, RS b L (s.1, v2, v3) Z) ∧ fX12_named_L62 n 366 v1 v2 v3 v5 0 (RS b L s Z) = some (-1, RS b L (s.1, v2, v3) Z) := by
  have hs := (h.rs s).1
  have hs2 := (h.rs (s.1, v2, s.2.2)).1.1
  have hs3 := (h.rs (s.1, v2, v3)).1
  have i0 : ¬ (1 : Int32) = 0 := by decide
  have is := isIn_01 v1 (RS b L (s.1, v2, v3) Z)
  have o6 := RS_o (b := b) (L := L) (s.1, v2, v3) Z (k := 6) (by omega)
  have o7 := RS_o (b := b) (L := L) (s.1, v2, v3) Z (k := 7) (by omega)
  rw [h6] at o6
  rw [h7] at o7
  have r1 : mJ (RS b L (s.1, v2, v3) Z) 371 = mJ Z 371 := funext fun k => FM_Jo _ _ _ (by decide) k
  have r2 : mJ (RS b L (s.1, v2, v3) Z) 372 = mJ Z 372 := funext fun k => FM_Jo _ _ _ (by decide) k
  have f1 := m_find (n := n) (RS b L (s.1, v2, v3) Z) (q := 371) (N := H) (by rw [hs3.1]; exact rfl) (M := 10) (by rw [hs3.2.1]; exact rfl) hH (by decide) hn v5
  have f2 := m_find (n := n) (RS b L (s.1, v2, v3) Z) (q := 372) (N := P) (by rw [hs3.1]; exact rfl) (M := 5) (by rw [hs3.2.1]; exact rfl) hP (by decide) hn v5
  rw [r1] at f1
  rw [r2] at f2
  constructor
  · by_cases z : v1 = 0
    · rw [if_pos (Or.inl z)] at is
      rw [if_pos z]
      have h := hs
      simp only [fX12_named_L62, fX12_named_L90, h.1, h.2.1, h.2.2, li_T, li_L, li_R, nm, bd, q_b, ne_eq, Nat.reduceEqDiff, reduceCtorEq, and_false, false_and, and_true, true_and, and_self, not_false_eq_true, not_true_eq_false, ↓reduceIte, RS_22, RS_23, hs2, hs3.1, hs3.2.2, i0, is, z, o6, f1] at is ⊢
      simp only [is, i0, h.1, h.2.1, h.2.2, li_T, li_L, li_R, nm, bd, q_b, ne_eq, Nat.reduceEqDiff, reduceCtorEq, and_false, false_and, and_true, true_and, and_self, not_false_eq_true, not_true_eq_false, ↓reduceIte, hs3.1, hs3.2.2, o6, f1]
    · rw [if_neg z]
      by_cases y : v1 = 1
      · rw [if_pos (Or.inr y)] at is
        rw [if_pos y]
        have h := hs
        simp only [fX12_named_L62, fX12_named_L90, h.1, h.2.1, h.2.2, li_T, li_L, li_R, nm, bd, q_b, ne_eq, Nat.reduceEqDiff, reduceCtorEq, and_false, false_and, and_true, true_and, and_self, not_false_eq_true, not_true_eq_false, ↓reduceIte, RS_22, RS_23, hs2, hs3.1, hs3.2.2, i0, is, z, o7, f2]
      · rw [if_neg (fun x => x.elim z y)] at is
        rw [if_neg y]
        have h := hs
        simp only [fX12_named_L62, fX12_named_L90, h.1, h.2.1, h.2.2, li_T, li_L, li_R, nm, bd, q_b, ne_eq, Nat.reduceEqDiff, reduceCtorEq, and_false, false_and, and_true, true_and, and_self, not_false_eq_true, not_true_eq_false, ↓reduceIte, RS_22, RS_23, hs2, hs3.1, i0, is]
  · have h := hs
    simp only [fX12_named_L62, fX12_named_L90, h.1, h.2.1, h.2.2, li_T, li_L, li_R, nm, bd, q_b, ne_eq, Nat.reduceEqDiff, reduceCtorEq, and_false, false_and, and_true, true_and, and_self, not_false_eq_true, not_true_eq_false, ↓reduceIte, RS_22, RS_23, hs2]
theorem m_named (h : Rb bk dr b L X) (hn : 1000 ≤ n) (h6 : mI X 366 6 = nI H) (hH : H ≤ 10) (h7 : mI X 366 7 = nI P) (hP : P ≤ 5) (v1 : Int32) {nh np : Nat → List Nat} (rh : ∀ i, i < H → Nm (nh i) ∧ mJ X 371 i = lN (c27 (nh i))) (rp : ∀ i, i < P → Nm (np i) ∧ mJ X 372 i = lN (c27 (np i))) :
    ∃ i, fX12_named n 366 v1 X = some (if v1 = 0 then vA b L nh H else if v1 = 1 then vA b L np P else -1, RS b L (i, mI X 366 22, mI X 366 23) (Z0 L (sI (sI X 366 0 0) 366 22 0))) := by
  have hB := (h.at (k := 0) (by decide) 0).at (k := 22) (by decide) 0
  have R := hB.ref
  have st := m_starts hB hn
  have e22 : mI (sI (sI X 366 0 0) 366 22 0) 366 22 = 0 := by rw [mI_sI, if_pos ⟨rfl, rfl⟩]
  have e23 : mI (sI (sI X 366 0 0) 366 22 0) 366 23 = mI X 366 23 := by rw [mI_sI, if_neg (by omega), mI_sI, if_neg (by omega)]
  have a22 : mI (sI X 366 0 0) 366 22 = mI X 366 22 := by rw [mI_sI, if_neg (by omega)]
  have a23 : mI (sI X 366 0 0) 366 23 = mI X 366 23 := by rw [mI_sI, if_neg (by omega)]
  rw [e22, e23] at st
  have q6 : mI (Z0 L (sI (sI X 366 0 0) 366 22 0)) 366 6 = nI H := by rw [Z0_I, if_neg (by omega), if_neg (by omega), mI_sI, if_neg (by omega), mI_sI, if_neg (by omega)]; exact h6
  have q7 : mI (Z0 L (sI (sI X 366 0 0) 366 22 0)) 366 7 = nI P := by rw [Z0_I, if_neg (by omega), if_neg (by omega), mI_sI, if_neg (by omega), mI_sI, if_neg (by omega)]; exact h7
  have qJ : mJ (Z0 L (sI (sI X 366 0 0) 366 22 0)) = mJ X := by unfold Z0; rw [mJ_sI, mJ_sI, mJ_sI, mJ_sI]
  have sa : mT (sI X 366 0 0) = mT X := rfl
  have hs := h.1
  have hT := h.1.1
  generalize Z0 L (sI (sI X 366 0 0) 366 22 0) = Z at *
  have h0 := (R.rs (0, 0, mI X 366 23)).1
  have h1 := (R.rs (1, 0, mI X 366 23)).1
  have iN := m_isName R (0, 0, mI X 366 23)
  have nx := m_next R hn (0, 0, mI X 366 23)
  have f16 := (RS_f (b := b) (L := L) (1, 0, mI X 366 23) Z).2.2.1
  have k0 := kd_k0 (b := b) (L := L) (i := 1)
  have t0 := tk_is (b := b) (L := L) (q := fr b L 1) (t := 0) (m := 0) rfl (by omega)
  have fin := m_n62 R hn q6 hH q7 hP v1 (mI X 366 22) (mI X 366 23)
  rw [qJ] at fin
  have c1 := fin (1, 0, mI X 366 23) (rrJ b L (fr b L 0))
  have c0 := fin (0, 0, mI X 366 23) (rrJ b L (fr b L 0))
  have j0 := RS_J (b := b) (L := L) (0, 0, mI X 366 23) Z
  have n1 : ¬ (1 : Int32) = 0 := by decide
  by_cases z : kd b L 0 = 2
  · rw [bo_t ⟨rfl, z⟩] at iN
    obtain ⟨k1, k2, k3, k4, k5⟩ := kd_2 z
    have rj : rrJ b L (fr b L 0) = lN (c27 (wlt b L 0)) := by
      have t := (kd_k2 (b := b) (L := L) (i := 0)).mpr z
      unfold rrJ
      rw [if_pos t.1]
      show lN (c27 (lts b (min (wd b L 0) 6) (fr b L 0))) = _
      rw [Nat.min_eq_left (by omega)]
      rfl
    rw [rj] at c1 j0
    rw [fnj_fnm k1 H 0 (fun k hk => rh k (by omega)), fnj_fnm k1 P 0 (fun k hk => rp k (by omega))] at c1
    refine ⟨1, ?_⟩
    by_cases y : kd b L 1 = 0
    · have y' := t0.mpr (k0.mpr y)
      rw [(vA_al nh H).1 ⟨z, y⟩, (vA_al np P).1 ⟨z, y⟩, ← c1.1]
      have h := hs
      simp only [fX12_named, fX12_named_L45, h.1, h.2.1, h.2.2, li_T, li_L, li_R, nm, bd, q_b, ne_eq, Nat.reduceEqDiff, reduceCtorEq, and_false, false_and, and_true, true_and, and_self, not_false_eq_true, not_true_eq_false, ↓reduceIte, sa, hT, mT_sI, a22, a23, st, h0.1, h1.1, iN, n1, j0, nx, f16, y']
    · have y' : ¬ nI (tkq b L (fr b L 1)) = 0 := fun x => y (k0.mp (t0.mp x))
      rw [(vA_al nh H).2 (fun x => y x.2), (vA_al np P).2 (fun x => y x.2)]
      have q : (if v1 = 0 then (-1 : Int32) else if v1 = 1 then -1 else -1) = -1 := by
        split
        · rfl
        · split <;> rfl
      rw [q, ← c1.2]
      have h := hs
      simp only [fX12_named, fX12_named_L45, fX12_named_L61, h.1, h.2.1, h.2.2, li_T, li_L, li_R, nm, bd, q_b, ne_eq, Nat.reduceEqDiff, reduceCtorEq, and_false, false_and, and_true, true_and, and_self, not_false_eq_true, not_true_eq_false, ↓reduceIte, sa, hT, mT_sI, a22, a23, st, h0.1, h1.1, iN, n1, j0, nx, f16, y']
  · rw [bo_f (fun x => z x.2)] at iN
    refine ⟨0, ?_⟩
    rw [(vA_al nh H).2 (fun x => z x.1), (vA_al np P).2 (fun x => z x.1)]
    have q : (if v1 = 0 then (-1 : Int32) else if v1 = 1 then -1 else -1) = -1 := by
      split
      · rfl
      · split <;> rfl
    rw [q, ← c0.2]
    have h := hs
    simp only [fX12_named, fX12_named_L45, fX12_named_L61, h.1, h.2.1, h.2.2, li_T, li_L, li_R, nm, bd, q_b, ne_eq, Nat.reduceEqDiff, reduceCtorEq, and_false, false_and, and_true, true_and, and_self, not_false_eq_true, not_true_eq_false, ↓reduceIte, sa, hT, mT_sI, a22, a23, st, h0.1, h1.1, iN, j0]
theorem bk_R (h : Bks bk dr) : sh_R bk dr bk 0 = bk + 1 ∧ sh_R bk dr bk 1 = bk + 2 ∧ sh_R bk dr bk 2 = bk + 3 ∧ sh_R bk dr dr 0 = dr + 1 ∧ sh_R bk dr dr 1 = dr + 2 ∧ sh_R bk dr dr 2 = dr + 3 := by
  rcases h with ⟨rfl, rfl⟩ | ⟨rfl, rfl⟩ <;> decide +kernel
theorem bk_T (h : Bks bk dr) : sh_T bk = 0 ∧ sh_T (bk + 1) = 14 ∧ sh_T (bk + 2) = 14 ∧ sh_T (bk + 3) = 15 ∧ sh_T dr = 0 ∧ sh_T (dr + 1) = 14 ∧ sh_T (dr + 2) = 14 ∧ sh_T (dr + 3) = 15 ∧ sh_L (bk + 1) = 10 ∧ sh_L (bk + 2) = 5 ∧ sh_L (bk + 3) = 50 ∧ sh_L (dr + 1) = 10 ∧ sh_L (dr + 2) = 5 ∧ sh_L (dr + 3) = 50 := by
  rcases h with ⟨rfl, rfl⟩ | ⟨rfl, rfl⟩ <;> decide +kernel
theorem RS_shp (h : Shp bk dr Z) (s : St3) : Shp bk dr (RS b L s Z) := ⟨h.1, h.2.1, h.2.2⟩
theorem s_named (h : Tp bk dr H P X) (hn : 24000 ≤ n) (v1 : Int32) : ∃ r X1 X2, fX11_named n 1 v1 X = some (r, X1) ∧ fX12_named n 366 v1 X1 = some (r, X2) ∧ Tp bk dr H P X2 := by
  have hT := h
  obtain ⟨L, L7, hL, rb⟩ := h.rb
  obtain ⟨h1, hb, hH, hP, h6, h7, -, -, ⟨n1, n2, ⟨nh, n3⟩, ⟨np, n4⟩⟩, -, fa, -, -⟩ := h
  obtain ⟨w, Y, e, w1, w2, fI, fJ, hY⟩ := c_alone h1 hL L7 (n := n) (by omega) rfl
  have b7 : bk = 7 ∨ bk = 11 := by rcases hb with z | z <;> omega
  have fh : ∀ i, i < H → Nm (nh i) ∧ mI (sI Y 2 1 0) (bk + 1) i = nI (c5 (nh i)) ∧ mJ (sI Y 2 1 0) 371 i = lN (c27 (nh i)) := fun i hi => by
    rw [mI_sI, if_neg (by omega), mJ_sI, fI _ _ (by omega), fJ]; exact n3 i hi
  have fp : ∀ i, i < P → Nm (np i) ∧ mI (sI Y 2 1 0) (bk + 2) i = nI (c5 (np i)) ∧ mJ (sI Y 2 1 0) 372 i = lN (c27 (np i)) := fun i hi => by
    rw [mI_sI, if_neg (by omega), mJ_sI, fI _ _ (by omega), fJ]; exact n4 i hi
  have hS : Shp bk dr (sI Y 2 1 0) := hY.sI 2 1 0
  have rb2 : Rb bk dr (mI X 3) L (sI Y 2 1 0) := by
    obtain ⟨-, b2, b3, b4, b5, b6⟩ := rb
    refine ⟨hS, b2, by rw [mI_sI, if_neg (by omega), fI _ _ (by omega)]; exact b3, fun i hi => ?_, b5, fun i hi => ?_⟩
    · rw [mI_sI, if_neg (by omega), fI _ _ (by omega)]; exact b4 i hi
    · rw [mI_sI, if_neg (by omega), fI _ _ (by omega)]; exact b6 i hi
  have m6 : mI (sI Y 2 1 0) 366 6 = nI H := by rw [mI_sI, if_neg (by omega), fI _ _ (by omega)]; exact h6
  have m7 : mI (sI Y 2 1 0) 366 7 = nI P := by rw [mI_sI, if_neg (by omega), fI _ _ (by omega)]; exact h7
  obtain ⟨i, em⟩ := m_named rb2 (n := n) (by omega) m6 hH m7 hP v1 (nh := nh) (np := np) (fun i hi => ⟨(fh i hi).1, (fh i hi).2.2⟩) (fun i hi => ⟨(fp i hi).1, (fp i hi).2.2⟩)
  refine ⟨_, _, _, ?_, em, ?_⟩
  · have x1 := c_ix (n := n) (sI Y 2 1 0) (q := bk + 1) (N := H) (by rw [hS.1]; exact (bk_T hb).2.1) (M := 10) (by rw [hS.2.1]; exact (bk_T hb).2.2.2.2.2.2.2.2.1) hH (by decide) (by omega) w
    have x2 := c_ix (n := n) (sI Y 2 1 0) (q := bk + 2) (N := P) (by rw [hS.1]; exact (bk_T hb).2.2.1) (M := 5) (by rw [hS.2.1]; exact (bk_T hb).2.2.2.2.2.2.2.2.2.1) hP (by decide) (by omega) w
    have y1 : fnv (mI (sI Y 2 1 0) (bk + 1)) w H 0 = vA (mI X 3) L nh H := by
      by_cases z : al (mI X 3) L
      · rw [w1 z, (vA_al nh H).1 z]
        exact fnv_fnm (kd_2 z.1).1 H 0 (fun k hk => ⟨(fh k (by omega)).1, (fh k (by omega)).2.1⟩)
      · rw [w2 z, (vA_al nh H).2 z]
        exact fnv_none H 0 (fun k hk => by rw [(fh k (by omega)).2.1]; exact c5_ne (fh k (by omega)).1)
    have y2 : fnv (mI (sI Y 2 1 0) (bk + 2)) w P 0 = vA (mI X 3) L np P := by
      by_cases z : al (mI X 3) L
      · rw [w1 z, (vA_al np P).1 z]
        exact fnv_fnm (kd_2 z.1).1 P 0 (fun k hk => ⟨(fp k (by omega)).1, (fp k (by omega)).2.1⟩)
      · rw [w2 z, (vA_al np P).2 z]
        exact fnv_none P 0 (fun k hk => by rw [(fp k (by omega)).2.1]; exact c5_ne (fp k (by omega)).1)
    rw [y1] at x1
    rw [y2] at x2
    have a3 : mI (sI Y 2 1 0) bk 3 = nI H := by rw [mI_sI, if_neg (by omega), fI _ _ (by omega)]; exact n1
    have a4 : mI (sI Y 2 1 0) bk 4 = nI P := by rw [mI_sI, if_neg (by omega), fI _ _ (by omega)]; exact n2
    have tb := (bk_T hb).1
    have r1 := (bk_R hb).1
    have r2 := (bk_R hb).2.1
    have bne : bk ≠ 0 := by omega
    have s1 : mT (sI Y 2 1 0) = sh_T := hS.1
    have s2 : mR (sI Y 2 1 0) = sh_R bk dr := hS.2.2
    have s0 := h1
    by_cases z : v1 = 0
    · rw [if_pos z]
      have h := hY
      simp only [fX11_named, fX0_holderNamed, fX0_paperNamed, h.1, h.2.1, h.2.2, li_T, li_L, li_R, nm, bd, q_b, ne_eq, Nat.reduceEqDiff, reduceCtorEq, and_false, false_and, and_true, true_and, and_self, not_false_eq_true, not_true_eq_false, ↓reduceIte, s0.1, s0.2.2, e, s1, s2, z, tb, r1, a3, x1, bne, Nat.add_eq_zero_iff]
    · rw [if_neg z]
      by_cases y : v1 = 1
      · rw [if_pos y]
        have h := hY
        have n10 : ¬ (1 : Int32) = 0 := by decide
        simp only [fX11_named, fX0_holderNamed, fX0_paperNamed, h.1, h.2.1, h.2.2, li_T, li_L, li_R, nm, bd, q_b, ne_eq, Nat.reduceEqDiff, reduceCtorEq, and_false, false_and, and_true, true_and, and_self, not_false_eq_true, not_true_eq_false, ↓reduceIte, s0.1, s0.2.2, e, s1, s2, y, n10, tb, r2, a4, x2, bne, Nat.add_eq_zero_iff]
      · rw [if_neg y]
        have h := hY
        simp only [fX11_named, h.1, h.2.1, h.2.2, li_T, li_L, li_R, nm, bd, q_b, ne_eq, Nat.reduceEqDiff, reduceCtorEq, and_false, false_and, and_true, true_and, and_self, not_false_eq_true, not_true_eq_false, ↓reduceIte, s0.1, s0.2.2, e, s1, s2, z, y]
  · have zI : ∀ c k, ¬ (c = 366 ∧ (k = 0 ∨ k = 12 ∨ k = 13 ∨ k = 22)) → mI (Z0 L (sI (sI (sI Y 2 1 0) 366 0 0) 366 22 0)) c k = mI (sI Y 2 1 0) c k := fun c k hc => by
      rw [Z0_I, if_neg (by omega), if_neg (by omega), mI_sI, if_neg (by omega), mI_sI, if_neg (by omega)]
    have y12 : mI (Z0 L (sI (sI (sI Y 2 1 0) 366 0 0) 366 22 0)) 366 12 = 0 := by rw [Z0_I, if_pos ⟨rfl, rfl⟩]
    have zJ : mJ (Z0 L (sI (sI (sI Y 2 1 0) 366 0 0) 366 22 0)) = mJ Y := by unfold Z0; rw [mJ_sI, mJ_sI, mJ_sI, mJ_sI, mJ_sI]
    have zS : Shp bk dr (Z0 L (sI (sI (sI Y 2 1 0) 366 0 0) 366 22 0)) := by unfold Z0; exact (((hS.sI 366 0 0).sI 366 22 0).sI 366 13 (nI L)).sI 366 12 0
    generalize Z0 L (sI (sI (sI Y 2 1 0) 366 0 0) 366 22 0) = Z at *
    have u22 : mI (sI Y 2 1 0) 366 22 = mI X 366 22 := by rw [mI_sI, if_neg (by omega), fI _ _ (by omega)]
    have u23 : mI (sI Y 2 1 0) 366 23 = mI X 366 23 := by rw [mI_sI, if_neg (by omega), fI _ _ (by omega)]
    rw [u22, u23]
    refine hT.read (L' := 0) (RS_shp zS _) (fun c k hr a b => ?_) (fun c hr k => ?_) (by omega) ?_ ?_ ⟨?_, ?_⟩
    · by_cases c3 : c = 366
      · subst c3
        rw [RS_o _ _ (by unfold rlI at hr; omega), zI _ _ (by unfold rlI at hr; omega), mI_sI, if_neg (by omega), fI _ _ (by omega)]
      · rw [RS_Io _ _ c3, zI _ _ (by omega), mI_sI, if_neg (by unfold rlI at hr; omega), fI _ _ (by unfold rlI at hr; omega)]
    · have c3 : c ≠ 366 := by unfold rlJ at hr; omega
      show mJ (FM _ _ _) c k = _
      rw [FM_Jo _ _ _ c3, zJ, fJ]
    · rw [RS_Io _ _ (by decide), zI _ _ (by omega), mI_sI, if_pos ⟨rfl, rfl⟩]; rfl
    · rw [RS_o _ _ (by omega), y12]; rfl
    · rw [RS_Io _ _ (by decide), zI _ _ (by omega), mI_sI, if_neg (by omega), fI _ _ (by omega), RS_I, if_pos rfl]; exact fa.1
    · rw [RS_Io _ _ (by decide), zI _ _ (by omega), mI_sI, if_neg (by omega), fI _ _ (by omega), RS_I, if_neg (by decide), if_pos rfl]; exact fa.2
end
