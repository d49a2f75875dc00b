/-! TEXTS: a book's new name -/
section
variable (b : Nat → Int32) (L : Nat) (nh np : Nat → List Nat) (H P : Nat)
/-- a new NAME is asked for -/
def aQ (s : St3) : St3 := aA (if kd b L s.1 = 2 then (if fnm nh (wlt b L s.1) H 0 = -1 ∧ fnm np (wlt b L s.1) P 0 = -1 then s else aF b L 2 s) else aF b L 1 s)
/-- the draft: holders, papers, shares -/
def BD (dr : Nat) (sh : Nat → Int32) (W : Mm) : Prop := H ≤ 10 ∧ P ≤ 5 ∧ mI W dr 3 = nI H ∧ mI W dr 4 = nI P ∧ (∀ i, i < H → Nm (nh i) ∧ mI W (dr + 1) i = nI (c5 (nh i))) ∧ (∀ i, i < P → Nm (np i) ∧ mI W (dr + 2) i = nI (c5 (np i))) ∧ ∀ k, k < 50 → mJ W (dr + 3) k = (sh k).toInt64
/-- the reference's draft -/
def BR (sh : Nat → Int32) (Z : Mm) : Prop := mI Z 366 27 = nI H ∧ mI Z 366 28 = nI P ∧ (∀ i, i < H → Nm (nh i) ∧ mJ Z 375 i = lN (c27 (nh i))) ∧ (∀ i, i < P → Nm (np i) ∧ mJ Z 376 i = lN (c27 (np i))) ∧ ∀ k, k < 50 → mI Z 377 k = sh k
end
section
variable {b : Nat → Int32} {L : Nat} {nh np : Nat → List Nat} {H P bk dr n : Nat} {W Z : Mm} {s t : St3} {sh : Nat → Int32}
theorem aQ_sel (s : St3) : (if kd b L s.1 = 2 then (if fnm nh (wlt b L s.1) H 0 = -1 ∧ fnm np (wlt b L s.1) P 0 = -1 then s else aF b L 2 s) else aF b L 1 s).1 = s.1 ∧ ((if kd b L s.1 = 2 then (if fnm nh (wlt b L s.1) H 0 = -1 ∧ fnm np (wlt b L s.1) P 0 = -1 then s else aF b L 2 s) else aF b L 1 s).2.1 = 0 → kd b L s.1 = 2 ∧ (fnm nh (wlt b L s.1) H 0 = -1 ∧ fnm np (wlt b L s.1) P 0 = -1) ∧ s.2.1 = 0) := by
  by_cases y : kd b L s.1 = 2
  · rw [if_pos y]
    by_cases x : fnm nh (wlt b L s.1) H 0 = -1 ∧ fnm np (wlt b L s.1) P 0 = -1
    · rw [if_pos x]; exact ⟨rfl, fun z => ⟨y, x, z⟩⟩
    · rw [if_neg x]; exact ⟨aF_1 _ _, fun z => absurd z (aF_f (by decide) s)⟩
  · rw [if_neg y]; exact ⟨aF_1 _ _, fun z => absurd z (aF_f (by decide) s)⟩
theorem aQ_go (s : St3) : (VI b L s.1 → VI b L (aQ b L nh np H P s).1) ∧ ((aQ b L nh np H P s).2.1 = 0 → s.2.1 = 0 ∧ (aQ b L nh np H P s).1 = s.1 + 1) ∧ s.1 ≤ (aQ b L nh np H P s).1 := by
  have q := aQ_sel (b := b) (L := L) (nh := nh) (np := np) (H := H) (P := P) s
  exact aA_go q.1 (fun z => ⟨(q.2 z).2.2, by rw [(q.2 z).1]; decide⟩)
theorem aQ_n (s : St3) (z : (aQ b L nh np H P s).2.1 = 0) : kd b L s.1 = 2 ∧ (fnm nh (wlt b L s.1) H 0 = -1 ∧ fnm np (wlt b L s.1) P 0 = -1) ∧ s.2.1 = 0 := by
  unfold aQ at z
  rw [aA_f] at z
  exact (aQ_sel s).2 z
def vQ (b : Nat → Int32) (L : Nat) (nh np : Nat → List Nat) (H P : Nat) (s : St3) : Int32 := if (aQ b L nh np H P s).2.1 = 0 then nI (c5 (wlt b L s.1)) else -1
theorem dr_R (h : Bks bk dr) : sh_T dr = 0 ∧ sh_R bk dr dr 0 = dr + 1 ∧ sh_R bk dr dr 1 = dr + 2 ∧ sh_R bk dr dr 2 = dr + 3 ∧ sh_T (dr + 1) = 14 ∧ sh_T (dr + 2) = 14 ∧ sh_T (dr + 3) = 15 ∧ sh_L (dr + 1) = 10 ∧ sh_L (dr + 2) = 5 ∧ sh_L (dr + 3) = 50 := by
  have a := bk_T h
  have c := bk_R h
  exact ⟨a.2.2.2.2.1, c.2.2.2.1, c.2.2.2.2.1, c.2.2.2.2.2, a.2.2.2.2.2.1, a.2.2.2.2.2.2.1, a.2.2.2.2.2.2.2.1, a.2.2.2.2.2.2.2.2.2.2.2.1, a.2.2.2.2.2.2.2.2.2.2.2.2.1, a.2.2.2.2.2.2.2.2.2.2.2.2.2⟩
theorem c_hasN (h : CTok b L bk dr W) (hb : Bks bk dr) (hd : BD nh np H P dr sh W) (hn : 1000 ≤ n) {l : List Nat} (hl : Nm l) : fX0_hasName n dr (nI (c5 l)) (U2 s W) = some (if fnm nh l H 0 = -1 ∧ fnm np l P 0 = -1 then 0 else 1, U2 s W) := by
  obtain ⟨q1, q2, q3, q4, q5, q6, q7⟩ := hd
  obtain ⟨tb, r1, r2, r3, t1, t2, t3, l1, l2, l3⟩ := dr_R hb
  have b7 : dr = 7 ∨ dr = 11 := by rcases hb with z | z <;> omega
  have hs := h.u s
  have d3 : mI (U2 s W) dr 3 = nI H := by rw [U2_Io _ _ (by omega)]; exact q3
  have d4 : mI (U2 s W) dr 4 = nI P := by rw [U2_Io _ _ (by omega)]; exact q4
  have x1 := c_ix (n := n) (U2 s W) (q := dr + 1) (N := H) (by rw [hs.1]; exact t1) (M := 10) (by rw [hs.2.1]; exact l1) q1 (by decide) hn (nI (c5 l))
  have x2 := c_ix (n := n) (U2 s W) (q := dr + 2) (N := P) (by rw [hs.1]; exact t2) (M := 5) (by rw [hs.2.1]; exact l2) q2 (by decide) hn (nI (c5 l))
  rw [fnv_fnm hl H 0 (fun k hk => by rw [U2_Io _ _ (by omega)]; exact q5 k (by omega))] at x1
  rw [fnv_fnm hl P 0 (fun k hk => by rw [U2_Io _ _ (by omega)]; exact q6 k (by omega))] at x2
  by_cases c1 : fnm nh l H 0 = -1
  · rw [c1] at x1
    by_cases c2 : fnm np l P 0 = -1
    · rw [if_pos ⟨c1, c2⟩]
      rw [c2] at x2
      have h := hs
      simp only [fX0_hasName, fX0_holderNamed, fX0_paperNamed, h.1, h.2.1, h.2.2, li_T, li_L, li_R, nm, bd, q_b, ne_eq, Nat.reduceEqDiff, reduceCtorEq, and_false, false_and, and_true, true_and, and_self, not_false_eq_true, not_true_eq_false, ↓reduceIte, tb, r1, r2, d3, d4, x1, x2, Nat.add_eq_zero_iff]
    · rw [if_neg (fun z => c2 z.2)]
      have h := hs
      simp only [fX0_hasName, fX0_hasName_L18, fX0_holderNamed, fX0_paperNamed, h.1, h.2.1, h.2.2, li_T, li_L, li_R, nm, bd, q_b, ne_eq, Nat.reduceEqDiff, reduceCtorEq, and_false, false_and, and_true, true_and, and_self, not_false_eq_true, not_true_eq_false, ↓reduceIte, tb, r1, r2, d3, d4, x1, x2, c2, Nat.add_eq_zero_iff]
  · rw [if_neg (fun z => c1 z.1)]
    have h := hs
    simp only [fX0_hasName, fX0_hasName_L18, fX0_holderNamed, h.1, h.2.1, h.2.2, li_T, li_L, li_R, nm, bd, q_b, ne_eq, Nat.reduceEqDiff, reduceCtorEq, and_false, false_and, and_true, true_and, and_self, not_false_eq_true, not_true_eq_false, ↓reduceIte, tb, r1, d3, x1, c1, Nat.add_eq_zero_iff]
theorem c_new (h : CTok b L bk dr W) (hb : Bks bk dr) (hd : BD nh np H P dr sh W) (hv : VI b L s.1) (hn : 1000 ≤ n) : fX9_takeNew n 2 dr (U2 s W) = some (vQ b L nh np H P s, U2 (aQ b L nh np H P s) W) := by
  obtain ⟨t1, t2, t3, t4, t5, t6, t7⟩ := h.at hv
  have hs := h.u s
  have tb := (dr_R hb).1
  have v0 := c_val h hv
  have v1 := c_val (s := aF b L 1 s) h (by rw [aF_1]; exact hv)
  have v2 := c_val (s := aF b L 2 s) h (by rw [aF_1]; exact hv)
  have cf1 := c_fail h hv 1
  have cf2 := c_fail h hv 2
  have s1 := (h.u (aF b L 1 s)).1
  have s2 := (h.u (aF b L 2 s)).1
  rw [if_neg (aF_f (by decide) s)] at v1 v2
  unfold vQ aQ
  rw [aA_f]
  by_cases z : kd b L s.1 = 2
  · obtain ⟨k1, k2, k3, k4, k5⟩ := kd_2 z
    have tv := t2 (Or.inr (Or.inl z))
    have tv0 := tv
    rw [k3] at tv
    rw [U2_Io _ _ (by decide), k3] at tv0
    rw [tv0] at v0
    have ha := c_hasN (s := s) (n := n) h hb hd hn k1
    rw [if_pos z]
    by_cases y : fnm nh (wlt b L s.1) H 0 = -1 ∧ fnm np (wlt b L s.1) P 0 = -1
    · rw [if_pos y]
      rw [if_pos y] at ha
      have h := hs
      simp only [fX9_takeNew, fX9_takeNew_L42, h.1, h.2.1, h.2.2, li_T, li_L, li_R, nm, bd, q_b, ne_eq, Nat.reduceEqDiff, reduceCtorEq, and_false, false_and, and_true, true_and, and_self, not_false_eq_true, not_true_eq_false, ↓reduceIte, t4, t6, t7.1, t7.2, t1, z, tv, tb, ha, v0]
    · rw [if_neg y, if_neg (aF_f (by decide) s)]
      rw [if_neg y] at ha
      have h := hs
      simp only [fX9_takeNew, fX9_takeNew_L42, h.1, h.2.1, h.2.2, li_T, li_L, li_R, nm, bd, q_b, ne_eq, Nat.reduceEqDiff, reduceCtorEq, and_false, false_and, and_true, true_and, and_self, not_false_eq_true, not_true_eq_false, ↓reduceIte, t4, t6, t7.1, t7.2, t1, z, tv, tb, ha, b1, cf2, s2, v2]
  · rw [if_neg z, if_neg (aF_f (by decide) s)]
    have h := hs
    simp only [fX9_takeNew, fX9_takeNew_L42, h.1, h.2.1, h.2.2, li_T, li_L, li_R, nm, bd, q_b, ne_eq, Nat.reduceEqDiff, reduceCtorEq, and_false, false_and, and_true, true_and, and_self, not_false_eq_true, not_true_eq_false, ↓reduceIte, t4, t6, t7.1, t7.2, t1, z, cf1, s1, v1]
theorem r_new (h : Ref bk dr b L Z) (hd : BR nh np H P sh Z) (hH : H ≤ 10) (hP : P ≤ 5) (hn : 1000 ≤ n) (s : St3) : ∃ v, fX12_fresh n 366 (RS b L s Z) = some (v, RS b L (aQ b L nh np H P s) Z) ∧ ((aQ b L nh np H P s).2.1 = 0 → v = lN (c27 (wlt b L s.1))) := by
  obtain ⟨q1, q2, q3, q4, q5⟩ := hd
  have hsA : ∀ s : St3, Shp bk dr (RS b L s Z) := fun s => (h.rs s).1
  have fiA := m_fine h
  have nxA := m_next h hn
  have in_ := m_isName h s
  have hf1 := m_faulty h s 1
  have hf2 := m_faulty h s 2
  have l64 : ∀ s : St3, fX12_fresh_L64 n 366 (RS b L s Z) = some (mJ (RS b L s Z) 366 21, RS b L (aA s) Z) := fun s => by
    have h := hsA s
    have fi := fiA s
    have nx := nxA s
    unfold aA
    by_cases z : s.2.1 = 0
    · rw [if_pos z]
      rw [bo_t z] at fi
      simp only [fX12_fresh_L64, fX12_fresh_L80, h.1, h.2.1, h.2.2, li_T, li_L, li_R, nm, bd, q_b, ne_eq, Nat.reduceEqDiff, reduceCtorEq, and_false, false_and, and_true, true_and, and_self, not_false_eq_true, not_true_eq_false, ↓reduceIte, fi, b1, nx]
    · rw [if_neg z]
      rw [bo_f z] at fi
      simp only [fX12_fresh_L64, fX12_fresh_L80, h.1, h.2.1, h.2.2, li_T, li_L, li_R, nm, bd, q_b, ne_eq, Nat.reduceEqDiff, reduceCtorEq, and_false, false_and, and_true, true_and, and_self, not_false_eq_true, not_true_eq_false, ↓reduceIte, fi]
  unfold aQ
  rw [aA_f]
  by_cases z : s.2.1 = 0 ∧ kd b L s.1 = 2
  · rw [bo_t z] at in_
    obtain ⟨z0, z2⟩ := z
    obtain ⟨k1, k2, k3, k4, k5⟩ := kd_2 z2
    have fi := fiA s
    rw [bo_t z0] at fi
    have rj : mJ (RS b L s Z) 366 21 = lN (c27 (wlt b L s.1)) := by
      rw [RS_J]
      have t := (kd_k2 (b := b) (L := L) (i := s.1)).mpr z2
      unfold rrJ
      rw [if_pos t.1]
      show lN (c27 (lts b (min (wd b L s.1) 6) (fr b L s.1))) = _
      rw [Nat.min_eq_left (by omega)]
      rfl
    have i27 : mI (RS b L s Z) 366 27 = nI H := by rw [RS_o _ _ (by omega)]; exact q1
    have i28 : mI (RS b L s Z) 366 28 = nI P := by rw [RS_o _ _ (by omega)]; exact q2
    have fd1 := m_find (n := n) (RS b L s Z) (q := 375) (N := H) (by rw [(hsA s).1]; exact rfl) (M := 10) (by rw [(hsA s).2.1]; exact rfl) hH (by decide) hn (lN (c27 (wlt b L s.1)))
    have fd2 := m_find (n := n) (RS b L s Z) (q := 376) (N := P) (by rw [(hsA s).1]; exact rfl) (M := 5) (by rw [(hsA s).2.1]; exact rfl) hP (by decide) hn (lN (c27 (wlt b L s.1)))
    have row1 : mJ (RS b L s Z) 375 = mJ Z 375 := funext fun k => FM_Jo _ _ _ (by decide) k
    have row2 : mJ (RS b L s Z) 376 = mJ Z 376 := funext fun k => FM_Jo _ _ _ (by decide) k
    rw [row1, fnj_fnm k1 H 0 (fun k hk => q3 k (by omega))] at fd1
    rw [row2, fnj_fnm k1 P 0 (fun k hk => q4 k (by omega))] at fd2
    rw [if_pos z2]
    by_cases c1 : fnm nh (wlt b L s.1) H 0 = -1
    · rw [c1] at fd1
      by_cases c2 : fnm np (wlt b L s.1) P 0 = -1
      · rw [c2] at fd2
        rw [if_pos ⟨c1, c2⟩]
        refine ⟨_, ?_, fun _ => rj⟩
        have e := l64 s
        have h := hsA s
        simp only [fX12_fresh, fX12_fresh_L12, h.1, h.2.1, h.2.2, li_T, li_L, li_R, nm, bd, q_b, ne_eq, Nat.reduceEqDiff, reduceCtorEq, and_false, false_and, and_true, true_and, and_self, not_false_eq_true, not_true_eq_false, ↓reduceIte, in_, b1, fi, i27, i28, rj, fd1, fd2, e]
      · rw [if_neg (fun z => c2 z.2)]
        refine ⟨mJ (RS b L (aF b L 2 s) Z) 366 21, ?_, fun q => absurd q (aF_f (by decide) s)⟩
        have e := l64 (aF b L 2 s)
        have h := hsA s
        simp only [fX12_fresh, fX12_fresh_L12, fX12_fresh_L59, h.1, h.2.1, h.2.2, li_T, li_L, li_R, nm, bd, q_b, ne_eq, Nat.reduceEqDiff, reduceCtorEq, and_false, false_and, and_true, true_and, and_self, not_false_eq_true, not_true_eq_false, ↓reduceIte, in_, b1, fi, i27, i28, rj, fd1, fd2, c2, hf2, e]
    · rw [if_neg (fun z => c1 z.1)]
      refine ⟨mJ (RS b L (aF b L 2 s) Z) 366 21, ?_, fun q => absurd q (aF_f (by decide) s)⟩
      have e := l64 (aF b L 2 s)
      have h := hsA s
      simp only [fX12_fresh, fX12_fresh_L12, fX12_fresh_L59, h.1, h.2.1, h.2.2, li_T, li_L, li_R, nm, bd, q_b, ne_eq, Nat.reduceEqDiff, reduceCtorEq, and_false, false_and, and_true, true_and, and_self, not_false_eq_true, not_true_eq_false, ↓reduceIte, in_, b1, fi, i27, rj, fd1, c1, hf2, e]
  · rw [bo_f z] at in_
    have bad : (aF b L 1 s).2.1 ≠ 0 := aF_f (by decide) s
    have fi := fiA (aF b L 1 s)
    rw [bo_f bad] at fi
    have e := l64 (aF b L 1 s)
    have e' : aA (aF b L 1 s) = aF b L 1 s := by unfold aA; rw [if_neg bad]
    have st : aA (if kd b L s.1 = 2 then (if fnm nh (wlt b L s.1) H 0 = -1 ∧ fnm np (wlt b L s.1) P 0 = -1 then s else aF b L 2 s) else aF b L 1 s) = aF b L 1 s ∧ (if kd b L s.1 = 2 then (if fnm nh (wlt b L s.1) H 0 = -1 ∧ fnm np (wlt b L s.1) P 0 = -1 then s else aF b L 2 s) else aF b L 1 s).2.1 ≠ 0 := by
      by_cases y : kd b L s.1 = 2
      · have z0 : ¬ s.2.1 = 0 := fun x => z ⟨x, y⟩
        have e1 : ∀ w, aF b L w s = s := fun w => by unfold aF; rw [if_neg z0]
        rw [if_pos y, e1, e1]
        have e3 : (if fnm nh (wlt b L s.1) H 0 = -1 ∧ fnm np (wlt b L s.1) P 0 = -1 then s else s) = s := by split <;> rfl
        rw [e3]
        unfold aA
        rw [if_neg z0]
        exact ⟨rfl, z0⟩
      · rw [if_neg y, e']
        exact ⟨rfl, bad⟩
    rw [e'] at e
    rw [st.1]
    refine ⟨mJ (RS b L (aF b L 1 s) Z) 366 21, ?_, fun q => absurd q st.2⟩
    have h1 := (hsA (aF b L 1 s)).1
    have h := hsA s
    simp only [fX12_fresh, fX12_fresh_L12, h.1, h.2.1, h.2.2, li_T, li_L, li_R, nm, bd, q_b, ne_eq, Nat.reduceEqDiff, reduceCtorEq, and_false, false_and, and_true, true_and, and_self, not_false_eq_true, not_true_eq_false, ↓reduceIte, in_, hf1, h1, fi, e]
end
