/-! TEXTS: the loops that read deeds (RA_cg printed by mk97r.py) -/
section
variable {b : Nat → Int32} {L : Nat} {nh np : Nat → List Nat} {H P bk dr n m K : Nat} {W Z : Mm} {s : St3}
theorem RA_cg {w : Nat} {V a a' : Nat → Int32} (h : RA w V a) (e : ∀ k, k < 10 → a' k = a k) : RA w V a' := by
  obtain ⟨h3, h5, h6, h7, h8, h19, h20⟩ := h
  refine ⟨fun z => ?_, fun z => ?_, fun z => ?_, fun z => ?_, fun z => ?_, fun z => ?_, fun z => ?_⟩
  · obtain ⟨q0, q1, q2, q3, q4, q5⟩ := h3 z
    exact ⟨(e 0 (by decide)).trans q0, (e 1 (by decide)).trans q1, (e 2 (by decide)).trans q2, (e 3 (by decide)).trans q3, (e 4 (by decide)).trans q4, (e 5 (by decide)).trans q5⟩
  · obtain ⟨q0, q1, q2, q3, q4⟩ := h5 z
    exact ⟨(e 0 (by decide)).trans q0, (e 1 (by decide)).trans q1, (e 2 (by decide)).trans q2, (e 3 (by decide)).trans q3, (e 4 (by decide)).trans q4⟩
  · obtain ⟨q0, q1, q2, q3, q4, q5, q6⟩ := h6 z
    exact ⟨(e 0 (by decide)).trans q0, (e 1 (by decide)).trans q1, (e 2 (by decide)).trans q2, (e 3 (by decide)).trans q3, (e 4 (by decide)).trans q4, (e 5 (by decide)).trans q5, (e 6 (by decide)).trans q6⟩
  · obtain ⟨q0, q1, q2, q3, q4, q5, q6, q7, q8⟩ := h7 z
    exact ⟨(e 0 (by decide)).trans q0, (e 1 (by decide)).trans q1, (e 2 (by decide)).trans q2, (e 3 (by decide)).trans q3, (e 4 (by decide)).trans q4, (e 5 (by decide)).trans q5, (e 6 (by decide)).trans q6, (e 7 (by decide)).trans q7, (e 8 (by decide)).trans q8⟩
  · obtain ⟨q0, q1, q2, q3, q4, q5, q6⟩ := h8 z
    exact ⟨(e 0 (by decide)).trans q0, (e 1 (by decide)).trans q1, (e 2 (by decide)).trans q2, (e 3 (by decide)).trans q3, (e 4 (by decide)).trans q4, (e 5 (by decide)).trans q5, (e 6 (by decide)).trans q6⟩
  · obtain ⟨q0, q1, q2, q3⟩ := h19 z
    exact ⟨(e 0 (by decide)).trans q0, (e 1 (by decide)).trans q1, (e 2 (by decide)).trans q2, (e 3 (by decide)).trans q3⟩
  · exact (e 0 (by decide)).trans (h20 z)
theorem sp_mono (i d : Nat) : sp b L i ≤ sp b L (i + d) := by
  induction d with
  | zero => exact Nat.le_refl _
  | succ d ih =>
    have a := sp_le (b := b) (L := L) (i + d)
    have t := te_b (b := b) (L := L) (fr b L (i + d)) a.2.1
    have e : sp b L (i + (d + 1)) = te b L (fr b L (i + d)) := sp_next (i + d)
    omega
theorem kwi_get (l : List Nat) : ∀ (r : List (List Nat)) (w v : Nat), w + r.length < 100 → v < 100 → kwi l r w = nI v → w ≤ v ∧ r.getD (v - w) [] = l := by
  intro r
  induction r with
  | nil => intro w v _ hv h; exact absurd h.symm (nI_nm1 (by omega))
  | cons k r ih =>
    intro w v hw hv h
    rw [List.length_cons] at hw
    rw [kwi] at h
    by_cases e : k = l
    · rw [if_pos e] at h
      have q := (nI_eq (by omega) (by omega)).mp h
      subst q
      exact ⟨Nat.le_refl _, by rw [Nat.sub_self]; exact e⟩
    · rw [if_neg e] at h
      obtain ⟨a, c⟩ := ih (w + 1) v (by omega) hv h
      refine ⟨by omega, ?_⟩
      rw [show v - w = (v - (w + 1)) + 1 by omega]
      exact c
theorem kw_4 {l : List Nat} {w : Nat} (x : isW w) (h : kw l = nI w) : 4 ≤ l.length := by
  have g := (kwi_get l kws 0 w (by decide) (by unfold isW at x; omega) h).2
  rw [← g]
  rcases x with rfl | rfl | rfl | rfl | rfl | rfl | rfl <;> decide
theorem kd_lt {i : Nat} (h : kd b L i ≠ 0) : fr b L i < L := by
  by_cases z : L ≤ fr b L i
  · exact absurd (by unfold kd; rw [if_pos z]) h
  · omega
theorem dst_go (hf : s.2.1 = 0) (hv : VI b L s.1) : VI b L (dst b L nh np H P s).1 ∧ ((dst b L nh np H P s).2.1 = 0 → sp b L s.1 + 5 ≤ sp b L (dst b L nh np H P s).1) := by
  unfold dst
  rcases dw_c (b := b) (L := L) s.1 with ⟨z, x⟩ | ⟨x, y⟩
  · rw [if_pos z]
    exact ⟨by rw [aF_1]; exact hv, fun q => absurd q (aF_f (by decide) s)⟩
  · rw [if_neg (isW_ne x)]
    have k0 : kd b L s.1 ≠ 0 := by rw [y.1]; decide
    have v1 : VI b L (s.1 + 1, s.2.1, s.2.2).1 := hv.kd0 k0
    have g := sts_go (b := b) (L := L) (nh := nh) (np := np) (H := H) (P := P) (opsL (dw b L s.1)) (s.1 + 1, s.2.1, s.2.2)
    generalize sts b L nh np H P (opsL (dw b L s.1)) (s.1 + 1, s.2.1, s.2.2) = t at *
    have a := aS_go (b := b) (L := L) t
    have v2 := a.1 (g.1 v1)
    refine ⟨v2, fun q => ?_⟩
    obtain ⟨q1, q2⟩ := a.2.1 q
    rw [q2] at v2 ⊢
    have f1 := v2 t.1 (by omega)
    have e1 := te_b (b := b) (L := L) (fr b L t.1) (by omega)
    have e2 := e1.2.2 f1
    have e3 := (sp_le (b := b) (L := L) t.1).2.2
    have e4 : sp b L (t.1 + 1) = te b L (fr b L t.1) := sp_next _
    have g2 : s.1 + 1 ≤ t.1 := g.2.2
    have e5 := sp_mono (b := b) (L := L) (s.1 + 1) (t.1 - (s.1 + 1))
    rw [show s.1 + 1 + (t.1 - (s.1 + 1)) = t.1 by omega] at e5
    have e6 := wd_pos (b := b) (L := L) (kd_lt k0)
    have e7 := (sp_le (b := b) (L := L) s.1).2.2
    have ar := (AW_ref (b := b) (L := L) (i := s.1) (k := nI (dw b L s.1)) (nI_nm1 (by unfold isW at x; omega))).mpr y
    have e8 := kw_4 x ar.2
    unfold wlt at e8
    rw [lts_len] at e8
    omega
end
section
variable (b : Nat → Int32) (L : Nat) (nh np : Nat → List Nat) (H P : Nat)
/-- the states between deeds -/
noncomputable def ds : Nat → St3
| 0 => (0, 0, -1)
| i + 1 => dst b L nh np H P (ds i)
/-- one more deed is read -/
def Go (i : Nat) : Prop := (ds b L nh np H P i).2.1 = 0 ∧ kd b L (ds b L nh np H P i).1 ≠ 0
end
section
variable {b : Nat → Int32} {L : Nat} {nh np : Nat → List Nat} {H P bk dr n m K : Nat} {W Z : Mm} {s : St3}
theorem ds_go : ∀ i, (∀ j, j < i → Go b L nh np H P j) → VI b L (ds b L nh np H P i).1 ∧ ((ds b L nh np H P i).2.1 = 0 → 5 * i ≤ sp b L (ds b L nh np H P i).1) := by
  intro i
  induction i with
  | zero => intro _; exact ⟨VI0, fun _ => Nat.zero_le _⟩
  | succ i ih =>
    intro h
    obtain ⟨i1, i2⟩ := ih (fun j hj => h j (by omega))
    have gi := h i (by omega)
    have d := dst_go (nh := nh) (np := np) (H := H) (P := P) gi.1 i1
    refine ⟨d.1, fun z => ?_⟩
    have a := d.2 z
    have c := i2 gi.1
    show 5 * (i + 1) ≤ sp b L (dst b L nh np H P (ds b L nh np H P i)).1
    omega
/-- how many deeds are begun -/
theorem K_deeds (hL : L ≤ 700) : ∃ K, K ≤ 140 ∧ (∀ i, i < K → Go b L nh np H P i ∧ i < 140) ∧ ¬ Go b L nh np H P K ∧ ∀ i, i ≤ K → VI b L (ds b L nh np H P i).1 := by
  have ex : ∃ K, ¬ Go b L nh np H P K := by
    refine Classical.byContradiction fun h => ?_
    have all : ∀ i, Go b L nh np H P i := fun i => Classical.byContradiction fun q => h ⟨i, q⟩
    have a := (ds_go (b := b) (L := L) (nh := nh) (np := np) (H := H) (P := P) 141 (fun j _ => all j)).2 (all 141).1
    have c := (sp_le (b := b) (L := L) (ds b L nh np H P 141).1).1
    omega
  obtain ⟨K, h1, h2⟩ := pk_least (fun K => ¬ Go b L nh np H P K) ex
  have h3 : ∀ j, j < K → Go b L nh np H P j := fun j hj => Classical.byContradiction fun q => h2 j hj q
  have h4 : ∀ i, i < K → i < 140 := fun i hi => by
    have a := (ds_go i (fun j hj => h3 j (by omega))).2 (h3 i hi).1
    have c := (sp_le (b := b) (L := L) (ds b L nh np H P i).1).2.2
    have d := kd_lt (h3 i hi).2
    omega
  refine ⟨K, ?_, fun i hi => ⟨h3 i hi, h4 i hi⟩, h1, fun i hi => (ds_go i (fun j hj => h3 j (by omega))).1⟩
  by_cases z : K = 0
  · omega
  · have := h4 (K - 1) (by omega)
    omega
theorem c_goW (h : CB b L nh np H P bk dr W) (hv : VI b L s.1) (d : Nat → Int32) : fX9_goesOn 2 (U2 s (wI W 15 d)) = some (bo (s.2.1 = 0 ∧ ¬ kd b L s.1 = 0), U2 s (wI W 15 d)) := c_goes (h.1.w15 d) hv
theorem c_L9 (h : CB b L nh np H P bk dr W) (hn : 1000 ≤ n) (hK : K ≤ 140) (k1 : ∀ i, i < K → Go b L nh np H P i ∧ i < 140) (k2 : ¬ Go b L nh np H P K) (k3 : ∀ i, i ≤ K → VI b L (ds b L nh np H P i).1) : ∀ r i d j, i + r = K → r < j → ∃ d', fX11_readAhead_L9 n j 1 (nI i) (U2 (ds b L nh np H P i) (wI W 15 d)) = fX11_readAhead_L47 n 1 (nI K) (U2 (ds b L nh np H P K) (wI W 15 d')) := by
  have b0 : bk ≠ 0 := by rcases h.2.1 with z | z <;> omega
  intro r
  induction r with
  | zero =>
    intro i d j hi hj
    obtain ⟨j, rfl⟩ : ∃ k, j = k + 1 := ⟨j - 1, by omega⟩
    obtain rfl : i = K := by omega
    have e7 : ¬ (700 : Int32) ≤ nI i := nI_ge (a := i) (b := 700) (by omega) (by omega)
    have go := c_goW h (k3 i (Nat.le_refl _)) d
    rw [bo_f (fun q : (ds b L nh np H P i).2.1 = 0 ∧ ¬ kd b L (ds b L nh np H P i).1 = 0 => k2 ⟨q.1, q.2⟩)] at go
    refine ⟨d, ?_⟩
    have hs := (h.at (ds b L nh np H P i) d).1
    have h := hs
    rw [fX11_readAhead_L9]
    simp only [h.1, h.2.1, h.2.2, li_T, li_L, li_R, nm, bd, q_b, ne_eq, Nat.reduceEqDiff, reduceCtorEq, and_false, false_and, and_true, true_and, and_self, not_false_eq_true, not_true_eq_false, ↓reduceIte, e7, go]
  | succ r ih =>
    intro i d j hi hj
    obtain ⟨j, rfl⟩ : ∃ k, j = k + 1 := ⟨j - 1, by omega⟩
    have gi := k1 i (by omega)
    have e7 : ¬ (700 : Int32) ≤ nI i := nI_ge (a := i) (b := 700) (by omega) (by omega)
    have go := c_goW h (k3 i (by omega)) d
    rw [bo_t ⟨gi.1.1, gi.1.2⟩] at go
    obtain ⟨d2, e2, -⟩ := c_deed (n := n) h (k3 i (by omega)) hn gi.1.1 d
    obtain ⟨d3, e3⟩ := ih (i + 1) d2 j (by omega) (by omega)
    refine ⟨d3, ?_⟩
    rw [← e3]
    have hs := (h.at (ds b L nh np H P i) d).1
    have h := hs
    rw [fX11_readAhead_L9]
    simp only [h.1, h.2.1, h.2.2, li_T, li_L, li_R, nm, bd, q_b, ne_eq, Nat.reduceEqDiff, reduceCtorEq, and_false, false_and, and_true, true_and, and_self, not_false_eq_true, not_true_eq_false, ↓reduceIte, e7, go, b1, b0, e2, nI_1]
    rfl
/-- the reference's memory after i deeds -/
def IR (b : Nat → Int32) (L : Nat) (nh np : Nat → List Nat) (H P bk dr : Nat) (Z0 : Mm) (i : Nat) (Z : Mm) : Prop := Shp bk dr Z ∧ (∀ c k, c ≠ 378 → c ≠ 379 → ¬ (c = 366 ∧ k = 31) → mI Z c k = mI Z0 c k) ∧ mJ Z = mJ Z0 ∧ ((ds b L nh np H P i).2.1 = 0 → mI Z 366 31 = nI i ∧ ∀ j, j < i → dw b L (ds b L nh np H P j).1 ≠ 0 ∧ mI Z 378 j = nI (dw b L (ds b L nh np H P j).1) ∧ RA (dw b L (ds b L nh np H P j).1) (VV b L nh np H P (ds b L nh np H P j)) (fun k => mI Z 379 (10 * j + k)))
def RG (b : Nat → Int32) (L : Nat) (nh np : Nat → List Nat) (H P bk dr : Nat) (Z : Mm) : Prop := Ref bk dr b L Z ∧ H ≤ 10 ∧ P ≤ 5 ∧ mI Z 366 6 = nI H ∧ mI Z 366 7 = nI P ∧ (∀ i, i < H → Nm (nh i) ∧ mJ Z 371 i = lN (c27 (nh i))) ∧ ∀ i, i < P → Nm (np i) ∧ mJ Z 372 i = lN (c27 (np i))
theorem IR.ref {Z0 : Mm} (h : RG b L nh np H P bk dr Z0) (g : IR b L nh np H P bk dr Z0 m Z) : Ref bk dr b L Z := h.1.cg g.1 (fun c k z => g.2.1 c k (by omega) (by omega) (by omega))
theorem IR.rb {Z0 : Mm} (h : RG b L nh np H P bk dr Z0) (g : IR b L nh np H P bk dr Z0 m Z) (hf : (ds b L nh np H P m).2.1 = 0) (m1 : m < 140) : RB b L nh np H P bk dr m Z :=
  ⟨IR.ref h g, h.2.1, h.2.2.1, (g.2.1 _ _ (by omega) (by omega) (by omega)).trans h.2.2.2.1, (g.2.1 _ _ (by omega) (by omega) (by omega)).trans h.2.2.2.2.1, (g.2.2.2 hf).1, m1, by rw [g.2.2.1]; exact h.2.2.2.2.2.1, by rw [g.2.2.1]; exact h.2.2.2.2.2.2⟩
theorem IR.step {Z0 Z' : Mm} (hf : (ds b L nh np H P m).2.1 = 0) (g : IR b L nh np H P bk dr Z0 m Z) (d : DR b L nh np H P bk dr m (ds b L nh np H P m) Z Z') : IR b L nh np H P bk dr Z0 (m + 1) Z' := by
  obtain ⟨g1, g2, g3, g4⟩ := g
  obtain ⟨d1, d2, d3, d4, d5, d6⟩ := d
  obtain ⟨g5, g6⟩ := g4 hf
  refine ⟨d1, fun c k a1 a2 a3 => (d2 c k a1 a2 a3).trans (g2 c k a1 a2 a3), d3.trans g3, fun q => ?_⟩
  obtain ⟨q1, q2, q3, q4⟩ := d6 q
  refine ⟨q2, fun j hj => ?_⟩
  by_cases e : j = m
  · subst e
    exact ⟨q1, q3, q4⟩
  · obtain ⟨p1, p2, p3⟩ := g6 j (by omega)
    exact ⟨p1, (d4 j (by omega)).trans p2, RA_cg p3 (fun k hk => d5 _ (by omega))⟩
theorem m_L14 {Z0 : Mm} (h : RG b L nh np H P bk dr Z0) (hn : 1000 ≤ n) (k1 : ∀ i, i < K → Go b L nh np H P i ∧ i < 140) (k2 : ¬ Go b L nh np H P K) (k3 : ∀ i, i ≤ K → VI b L (ds b L nh np H P i).1) : ∀ r i Z j, i + r = K → r < j → IR b L nh np H P bk dr Z0 i Z → ∃ Z', fX12_deeds_L14 n j 366 (RS b L (ds b L nh np H P i) Z) = fX12_deeds_L39 n 366 (RS b L (ds b L nh np H P K) Z') ∧ IR b L nh np H P bk dr Z0 K Z' := by
  intro r
  induction r with
  | zero =>
    intro i Z j hi hj g
    obtain ⟨j, rfl⟩ : ∃ k, j = k + 1 := ⟨j - 1, by omega⟩
    obtain rfl : i = K := by omega
    have rf := IR.ref h g
    refine ⟨Z, ?_, g⟩
    have fi := m_fine rf (ds b L nh np H P i)
    have f3 := (RS_f (b := b) (L := L) (ds b L nh np H P i) Z).2.2.1
    have hs := (rf.rs (ds b L nh np H P i)).1
    rw [fX12_deeds_L14]
    by_cases z : (ds b L nh np H P i).2.1 = 0
    · have kz : kd b L (ds b L nh np H P i).1 = 0 := Classical.byContradiction fun q => k2 ⟨z, q⟩
      have t0 := (tk_is (b := b) (L := L) (q := fr b L (ds b L nh np H P i).1) (t := 0) (m := 0) rfl (by omega)).mpr (kd_k0.mpr kz)
      rw [bo_t z] at fi
      have h := hs
      simp only [h.1, h.2.1, h.2.2, li_T, li_L, li_R, nm, bd, q_b, ne_eq, Nat.reduceEqDiff, reduceCtorEq, and_false, false_and, and_true, true_and, and_self, not_false_eq_true, not_true_eq_false, ↓reduceIte, fi, b1, f3, t0]
    · rw [bo_f z] at fi
      have h := hs
      simp only [h.1, h.2.1, h.2.2, li_T, li_L, li_R, nm, bd, q_b, ne_eq, Nat.reduceEqDiff, reduceCtorEq, and_false, false_and, and_true, true_and, and_self, not_false_eq_true, not_true_eq_false, ↓reduceIte, fi]
  | succ r ih =>
    intro i Z j hi hj g
    obtain ⟨j, rfl⟩ : ∃ k, j = k + 1 := ⟨j - 1, by omega⟩
    have gi := k1 i (by omega)
    have rf := IR.ref h g
    have rb := IR.rb h g gi.1.1 gi.2
    obtain ⟨t, Z', e1, e2, e3, d⟩ := m_deed rb hn gi.1.1 (k3 i (by omega))
    obtain ⟨Z2, e4, g2⟩ := ih (i + 1) Z' j (by omega) (by omega) (IR.step gi.1.1 g d)
    refine ⟨Z2, ?_, g2⟩
    rw [← e4]
    have fi := m_fine rf (ds b L nh np H P i)
    have f3 := (RS_f (b := b) (L := L) (ds b L nh np H P i) Z).2.2.1
    have t0 : ¬ nI (tkq b L (fr b L (ds b L nh np H P i).1)) = 0 := fun q => gi.1.2 (kd_k0.mp ((tk_is (b := b) (L := L) (t := 0) (m := 0) rfl (by omega)).mp q))
    rw [bo_t gi.1.1] at fi
    have hs := (rf.rs (ds b L nh np H P i)).1
    have e3' := e3.1
    have h := hs
    rw [fX12_deeds_L14]
    simp only [h.1, h.2.1, h.2.2, li_T, li_L, li_R, nm, bd, q_b, ne_eq, Nat.reduceEqDiff, reduceCtorEq, and_false, false_and, and_true, true_and, and_self, not_false_eq_true, not_true_eq_false, ↓reduceIte, fi, b1, f3, t0, e1, e3', e2]
    rfl
end
