/-! TEXTS: a line of a book, the reference (r_addP printed by mk97ya.py) -/
section
variable {b : Nat → Int32} {L : Nat} {nh np : Nat → List Nat} {H P bk dr n : Nat} {W Z : Mm} {s t : St3} {sh : Nat → Int32} {D : Bk}
theorem RS_N (s : St3) (Z : Mm) : mN (RS b L s Z) = mN Z := (FM_N _ _ _).1
theorem RS_S (s : St3) (Z : Mm) : mS (RS b L s Z) = mS Z := (FM_N _ _ _).2
theorem RS_T (s : St3) (Z : Mm) : mT (RS b L s Z) = mT Z := (FM_T _ _ _).1
theorem RS_L (s : St3) (Z : Mm) : mL (RS b L s Z) = mL Z := (FM_T _ _ _).2.1
theorem RS_R (s : St3) (Z : Mm) : mR (RS b L s Z) = mR Z := (FM_T _ _ _).2.2
theorem RS_sJ {c : Nat} (h : c ≠ 366) (s : St3) (Z : Mm) (k : Nat) (v : Int64) : sJ (RS b L s Z) c k v = RS b L s (sJ Z c k v) := by
  refine Mm_ext (by rw [mN_sJ, RS_N, RS_N, mN_sJ]) (by rw [mT_sJ, RS_T, RS_T, mT_sJ]) (by rw [mL_sJ, RS_L, RS_L, mL_sJ]) (funext fun a => funext fun j => ?_) (funext fun a => funext fun j => ?_) (by rw [mR_sJ, RS_R, RS_R, mR_sJ]) (by rw [mS_sJ, RS_S, RS_S, mS_sJ])
  · rw [mI_sJ]
    by_cases e : a = 366
    · subst e
      rw [RS_I, RS_I, mI_sJ]
    · rw [RS_Io _ _ e, RS_Io _ _ e, mI_sJ]
  · rw [mJ_sJ]
    unfold RS
    by_cases e : a = 366
    · subst e
      have q : mJ (sJ Z c k v) 366 j = mJ Z 366 j := by rw [mJ_sJ, if_neg (fun z => h z.1.symm)]
      rw [if_neg (fun z => h z.1.symm), FM_Jk, FM_Jk, q]
    · rw [FM_Jo _ _ _ e, FM_Jo _ _ _ e, mJ_sJ]
/-- what a line leaves of the reference's memory -/
def RFr (bk dr : Nat) (Z Z' : Mm) : Prop := Shp bk dr Z' ∧ (∀ c k, c ≠ 377 → ¬ (c = 366 ∧ (k = 27 ∨ k = 28)) → mI Z' c k = mI Z c k) ∧ ∀ c, c ≠ 375 → c ≠ 376 → mJ Z' c = mJ Z c
theorem r_addH (h : Ref bk dr b L Z) (hd : BRD D Z) (hH : D.2.1 ≤ 10) (hP : D.2.2.2.1 ≤ 5) (hn : 1000 ≤ n) (hf : s.2.1 = 0) (a : AW b L 0 s.1) : ∃ Z', fX12_readsLine n 366 (RS b L s Z) = some ((), RS b L (lnT b L D s) Z') ∧ RFr bk dr Z Z' ∧ ((lnT b L D s).2.1 = 0 → BRD (lnD b L D s) Z') := by
  obtain ⟨nh, H, np, P, sh⟩ := D
  obtain ⟨q1, q2, q3, q4, q5⟩ := id hd
  simp only [] at q1 q2 q3 q4 q5 hH hP
  have hsA : ∀ s : St3, Shp bk dr (RS b L s Z) := fun s => (h.rs s).1
  have iw := m_isWord h s (k := 0) (by decide)
  rw [bo_t ⟨hf, a⟩] at iw
  have i27 : ∀ s : St3, mI (RS b L s Z) 366 27 = nI H := fun s => by rw [RS_o _ _ (by omega)]; exact q1
  have eT : lnT b L (nh, H, np, P, sh) s = if H = 10 then aF b L 4 s else aQ b L nh np H P (s.1 + 1, s.2.1, s.2.2) := by unfold lnT; rw [if_pos a]
  have eD : lnD b L (nh, H, np, P, sh) s = (q_u1 nh H (wlt b L (s.1 + 1)), H + 1, np, P, sh) := by unfold lnD; rw [if_pos a]
  rw [eT, eD]
  by_cases z : H = 10
  · rw [if_pos z]
    have bad : (aF b L 4 s).2.1 ≠ 0 := aF_f (by decide) s
    have c10 : nI H = (10 : Int32) := by rw [z]; rfl
    have fa := m_faulty h s 4
    have pw := m_passes h hn (aF b L 4 s) (k := 0) (by decide)
    rw [bo_f (fun q => bad q.1), aP_n (fun q => bad q.1)] at pw
    have h1 := (hsA (aF b L 4 s)).1
    refine ⟨Z, ?_, ⟨h.1, fun _ _ _ _ => rfl, fun _ _ _ => rfl⟩, fun y => absurd y bad⟩
    have h := hsA s
    simp only [fX12_readsLine, fX12_readsLine_L22, h.1, h.2.1, h.2.2, li_T, li_L, li_R, nm, bd, q_b, ne_eq, Nat.reduceEqDiff, reduceCtorEq, and_false, false_and, and_true, true_and, and_self, not_false_eq_true, not_true_eq_false, ↓reduceIte, iw, b1, i27, c10, fa, h1, pw]
  · rw [if_neg z]
    have c10 : ¬ nI H = (10 : Int32) := fun q => z ((nI_eq (b := 10) (by omega) (by omega)).mp q)
    have pw := m_passes h hn s (k := 0) (by decide)
    rw [bo_t ⟨hf, a⟩, aP_t ⟨hf, a⟩] at pw
    obtain ⟨v, nw, vv⟩ := r_new (n := n) h hd hH hP hn (s.1 + 1, s.2.1, s.2.2)
    simp only [] at nw vv
    have h1 := (hsA (s.1 + 1, s.2.1, s.2.2)).1
    have h2 := hsA (aQ b L nh np H P (s.1 + 1, s.2.1, s.2.2))
    have fi := m_fine h (aQ b L nh np H P (s.1 + 1, s.2.1, s.2.2))
    by_cases y : (aQ b L nh np H P (s.1 + 1, s.2.1, s.2.2)).2.1 = 0
    · rw [bo_t y] at fi
      have k2 := (kd_2 (aQ_n _ y).1).1
      have i1 : (nI H).toNatClampNeg = H := nI_clamp (by omega)
      have i2 := inL_nI (j := H) (n := 10) (by omega) (by decide)
      have mo := RS_sJ (b := b) (L := L) (c := 375) (by decide) (aQ b L nh np H P (s.1 + 1, s.2.1, s.2.2)) Z H v
      have hT2 : mT (RS b L (aQ b L nh np H P (s.1 + 1, s.2.1, s.2.2)) (sJ Z 375 H v)) = sh_T := (RS_shp (h.1.sJ 375 H v) _).1
      have j27 : mI (RS b L (aQ b L nh np H P (s.1 + 1, s.2.1, s.2.2)) (sJ Z 375 H v)) 366 27 = nI H := by rw [RS_o _ _ (by omega), mI_sJ]; exact q1
      have mo2 := RS_s66 (b := b) (L := L) (k := 27) (by decide) (aQ b L nh np H P (s.1 + 1, s.2.1, s.2.2)) (sJ Z 375 H v) (nI (H + 1))
      refine ⟨sI (sJ Z 375 H v) 366 27 (nI (H + 1)), ?_, ⟨(h.1.sJ _ _ _).sI _ _ _, fun c k c1 c2 => by rw [mI_sI, if_neg (by omega), mI_sJ], fun c c1 c2 => funext fun k => by rw [mJ_sI, mJ_sJ, if_neg (fun q => c1 q.1)]⟩, fun _ => ?_⟩
      · have h := hsA s
        simp only [fX12_readsLine, fX12_readsLine_L22, h.1, h.2.1, h.2.2, li_T, li_L, li_R, nm, bd, q_b, ne_eq, Nat.reduceEqDiff, reduceCtorEq, and_false, false_and, and_true, true_and, and_self, not_false_eq_true, not_true_eq_false, ↓reduceIte, iw, b1, i27, c10, pw, h1, nw, h2.1, h2.2.1, h2.2.2, fi, i1, i2.1, i2.2, mo, hT2, j27, nI_1, mo2]
      · refine ⟨?_, ?_, fun i hi => ?_, fun i hi => ?_, fun k hk => ?_⟩
        · rw [mI_sI, if_pos ⟨rfl, rfl⟩]
        · rw [mI_sI, if_neg (by omega), mI_sJ]; exact q2
        · show Nm (q_u1 nh H (wlt b L (s.1 + 1)) i) ∧ mJ (sI (sJ Z 375 H v) 366 27 (nI (H + 1))) 375 i = lN (c27 (q_u1 nh H (wlt b L (s.1 + 1)) i))
          rw [mJ_sI, mJ_sJ, q_u1_is]
          by_cases e : i = H
          · rw [if_pos e, if_pos ⟨rfl, e⟩]; exact ⟨k2, vv y⟩
          · rw [if_neg e, if_neg (fun q => e q.2)]
            have hi' : i < H + 1 := hi
            exact q3 i (by omega)
        · show Nm (np i) ∧ _ = lN (c27 (np i))
          rw [mJ_sI, mJ_sJ, if_neg (by omega)]; exact q4 i hi
        · rw [mI_sI, if_neg (by omega), mI_sJ]; exact q5 k hk
    · rw [bo_f y] at fi
      refine ⟨Z, ?_, ⟨h.1, fun _ _ _ _ => rfl, fun _ _ _ => rfl⟩, fun x => absurd x y⟩
      have h := hsA s
      simp only [fX12_readsLine, fX12_readsLine_L22, h.1, h.2.1, h.2.2, li_T, li_L, li_R, nm, bd, q_b, ne_eq, Nat.reduceEqDiff, reduceCtorEq, and_false, false_and, and_true, true_and, and_self, not_false_eq_true, not_true_eq_false, ↓reduceIte, iw, b1, i27, c10, pw, h1, nw, h2.1, fi]
theorem r_addP (h : Ref bk dr b L Z) (hd : BRD D Z) (hH : D.2.1 ≤ 10) (hP : D.2.2.2.1 ≤ 5) (hn : 1000 ≤ n) (hf : s.2.1 = 0) (a0 : ¬ AW b L 0 s.1) (a : AW b L 1 s.1) : ∃ Z', fX12_readsLine n 366 (RS b L s Z) = some ((), RS b L (lnT b L D s) Z') ∧ RFr bk dr Z Z' ∧ ((lnT b L D s).2.1 = 0 → BRD (lnD b L D s) Z') := by
  obtain ⟨nh, H, np, P, sh⟩ := D
  obtain ⟨q1, q2, q3, q4, q5⟩ := id hd
  simp only [] at q1 q2 q3 q4 q5 hH hP
  have hsA : ∀ s : St3, Shp bk dr (RS b L s Z) := fun s => (h.rs s).1
  have iw0 := m_isWord h s (k := 0) (by decide)
  rw [bo_f (fun q => a0 q.2)] at iw0
  have iw := m_isWord h s (k := 1) (by decide)
  rw [bo_t ⟨hf, a⟩] at iw
  have i27 : ∀ s : St3, mI (RS b L s Z) 366 28 = nI P := fun s => by rw [RS_o _ _ (by omega)]; exact q2
  have eT : lnT b L (nh, H, np, P, sh) s = if P = 5 then aF b L 4 s else aQ b L nh np H P (s.1 + 1, s.2.1, s.2.2) := by unfold lnT; rw [if_neg a0, if_pos a]
  have eD : lnD b L (nh, H, np, P, sh) s = (nh, H, q_u1 np P (wlt b L (s.1 + 1)), P + 1, sh) := by unfold lnD; rw [if_neg a0, if_pos a]
  rw [eT, eD]
  by_cases z : P = 5
  · rw [if_pos z]
    have bad : (aF b L 4 s).2.1 ≠ 0 := aF_f (by decide) s
    have c10 : nI P = (5 : Int32) := by rw [z]; rfl
    have fa := m_faulty h s 4
    have pw := m_passes h hn (aF b L 4 s) (k := 1) (by decide)
    rw [bo_f (fun q => bad q.1), aP_n (fun q => bad q.1)] at pw
    have h1 := (hsA (aF b L 4 s)).1
    refine ⟨Z, ?_, ⟨h.1, fun _ _ _ _ => rfl, fun _ _ _ => rfl⟩, fun y => absurd y bad⟩
    have h := hsA s
    simp only [fX12_readsLine, fX12_readsLine_L88, h.1, h.2.1, h.2.2, li_T, li_L, li_R, nm, bd, q_b, ne_eq, Nat.reduceEqDiff, reduceCtorEq, and_false, false_and, and_true, true_and, and_self, not_false_eq_true, not_true_eq_false, ↓reduceIte, iw0, iw, b1, i27, c10, fa, h1, pw]
  · rw [if_neg z]
    have c10 : ¬ nI P = (5 : Int32) := fun q => z ((nI_eq (b := 5) (by omega) (by omega)).mp q)
    have pw := m_passes h hn s (k := 1) (by decide)
    rw [bo_t ⟨hf, a⟩, aP_t ⟨hf, a⟩] at pw
    obtain ⟨v, nw, vv⟩ := r_new (n := n) h hd hH hP hn (s.1 + 1, s.2.1, s.2.2)
    simp only [] at nw vv
    have h1 := (hsA (s.1 + 1, s.2.1, s.2.2)).1
    have h2 := hsA (aQ b L nh np H P (s.1 + 1, s.2.1, s.2.2))
    have fi := m_fine h (aQ b L nh np H P (s.1 + 1, s.2.1, s.2.2))
    by_cases y : (aQ b L nh np H P (s.1 + 1, s.2.1, s.2.2)).2.1 = 0
    · rw [bo_t y] at fi
      have k2 := (kd_2 (aQ_n _ y).1).1
      have i1 : (nI P).toNatClampNeg = P := nI_clamp (by omega)
      have i2 := inL_nI (j := P) (n := 5) (by omega) (by decide)
      have mo := RS_sJ (b := b) (L := L) (c := 376) (by decide) (aQ b L nh np H P (s.1 + 1, s.2.1, s.2.2)) Z P v
      have hT2 : mT (RS b L (aQ b L nh np H P (s.1 + 1, s.2.1, s.2.2)) (sJ Z 376 P v)) = sh_T := (RS_shp (h.1.sJ 376 P v) _).1
      have j27 : mI (RS b L (aQ b L nh np H P (s.1 + 1, s.2.1, s.2.2)) (sJ Z 376 P v)) 366 28 = nI P := by rw [RS_o _ _ (by omega), mI_sJ]; exact q2
      have mo2 := RS_s66 (b := b) (L := L) (k := 28) (by decide) (aQ b L nh np H P (s.1 + 1, s.2.1, s.2.2)) (sJ Z 376 P v) (nI (P + 1))
      refine ⟨sI (sJ Z 376 P v) 366 28 (nI (P + 1)), ?_, ⟨(h.1.sJ _ _ _).sI _ _ _, fun c k c1 c2 => by rw [mI_sI, if_neg (by omega), mI_sJ], fun c c1 c2 => funext fun k => by rw [mJ_sI, mJ_sJ, if_neg (fun q => c2 q.1)]⟩, fun _ => ?_⟩
      · have h := hsA s
        simp only [fX12_readsLine, fX12_readsLine_L88, h.1, h.2.1, h.2.2, li_T, li_L, li_R, nm, bd, q_b, ne_eq, Nat.reduceEqDiff, reduceCtorEq, and_false, false_and, and_true, true_and, and_self, not_false_eq_true, not_true_eq_false, ↓reduceIte, iw0, iw, b1, i27, c10, pw, h1, nw, h2.1, h2.2.1, h2.2.2, fi, i1, i2.1, i2.2, mo, hT2, j27, nI_1, mo2]
      · refine ⟨?_, ?_, fun i hi => ?_, fun i hi => ?_, fun k hk => ?_⟩
        · rw [mI_sI, if_neg (by omega), mI_sJ]; exact q1
        · rw [mI_sI, if_pos ⟨rfl, rfl⟩]
        · show Nm (nh i) ∧ _ = lN (c27 (nh i))
          rw [mJ_sI, mJ_sJ, if_neg (by omega)]; exact q3 i hi
        · show Nm (q_u1 np P (wlt b L (s.1 + 1)) i) ∧ mJ (sI (sJ Z 376 P v) 366 28 (nI (P + 1))) 376 i = lN (c27 (q_u1 np P (wlt b L (s.1 + 1)) i))
          rw [mJ_sI, mJ_sJ, q_u1_is]
          by_cases e : i = P
          · rw [if_pos e, if_pos ⟨rfl, e⟩]; exact ⟨k2, vv y⟩
          · rw [if_neg e, if_neg (fun q => e q.2)]
            have hi' : i < P + 1 := hi
            exact q4 i (by omega)
        · rw [mI_sI, if_neg (by omega), mI_sJ]; exact q5 k hk
    · rw [bo_f y] at fi
      refine ⟨Z, ?_, ⟨h.1, fun _ _ _ _ => rfl, fun _ _ _ => rfl⟩, fun x => absurd x y⟩
      have h := hsA s
      simp only [fX12_readsLine, fX12_readsLine_L88, h.1, h.2.1, h.2.2, li_T, li_L, li_R, nm, bd, q_b, ne_eq, Nat.reduceEqDiff, reduceCtorEq, and_false, false_and, and_true, true_and, and_self, not_false_eq_true, not_true_eq_false, ↓reduceIte, iw0, iw, b1, i27, c10, pw, h1, nw, h2.1, fi]
theorem r_has (h : Ref bk dr b L Z) (hd : BRD D Z) (hH : D.2.1 ≤ 10) (hP : D.2.2.2.1 ≤ 5) (hn : 1000 ≤ n) (hf : s.2.1 = 0) (a0 : ¬ AW b L 0 s.1) (a1 : ¬ AW b L 1 s.1) : ∃ Z', fX12_readsLine n 366 (RS b L s Z) = some ((), RS b L (lnT b L D s) Z') ∧ RFr bk dr Z Z' ∧ ((lnT b L D s).2.1 = 0 → BRD (lnD b L D s) Z') := by
  obtain ⟨nh, H, np, P, sh⟩ := D
  obtain ⟨q1, q2, q3, q4, q5⟩ := id hd
  simp only [] at q1 q2 q3 q4 q5 hH hP
  have hsA : ∀ s : St3, Shp bk dr (RS b L s Z) := fun s => (h.rs s).1
  have iw0 := m_isWord h s (k := 0) (by decide)
  rw [bo_f (fun q => a0 q.2)] at iw0
  have iw1 := m_isWord h s (k := 1) (by decide)
  rw [bo_f (fun q => a1 q.2)] at iw1
  have iw2 := m_isWord h s (k := 2) (by decide)
  have eT : lnT b L (nh, H, np, P, sh) s = aN b L (aBy b L (aK b L np P (aK b L nh H (aW b L 2 s)))) := by unfold lnT; rw [if_neg a0, if_neg a1]; rfl
  have eD : lnD b L (nh, H, np, P, sh) s = (nh, H, np, P, q_u1 sh (nI 5 * vK b L nh H (aW b L 2 s) + vK b L np P (aK b L nh H (aW b L 2 s))).toNatClampNeg (vl b L (aK b L np P (aK b L nh H (aW b L 2 s))).1)) := by unfold lnD; rw [if_neg a0, if_neg a1]; rfl
  rw [eT, eD]
  by_cases a2 : AW b L 2 s.1
  · rw [bo_t ⟨hf, a2⟩] at iw2
    have nx := m_next h hn s
    rw [← aW_t ⟨hf, a2⟩] at nx
    generalize aW b L 2 s = s1 at *
    have i27 : ∀ s : St3, mI (RS b L s Z) 366 27 = nI H := fun s => by rw [RS_o _ _ (by omega)]; exact q1
    have i28 : ∀ s : St3, mI (RS b L s Z) 366 28 = nI P := fun s => by rw [RS_o _ _ (by omega)]; exact q2
    have k1 := m_known (n := n) (q := 375) (N := H) (M := 10) h hn s1 rfl rfl hH (by decide) (by decide) q3
    have k2 := m_known (n := n) (q := 376) (N := P) (M := 5) h hn (aK b L nh H s1) rfl rfl hP (by decide) (by decide) q4
    have h1 := hsA s1
    have h2 := hsA (aK b L nh H s1)
    have h3 := hsA (aK b L np P (aK b L nh H s1))
    obtain ⟨f1, f2, f3, f4, f5, f6, f7⟩ := RS_f (b := b) (L := L) (aK b L np P (aK b L nh H s1)) Z
    have fi := m_fine h (aK b L np P (aK b L nh H s1))
    have by_ : fX12_readsHas n 366 (RS b L s Z) = fX12_readsHas_L69 n 366 (vK b L nh H s1) (vK b L np P (aK b L nh H s1)) (RS b L (aBy b L (aK b L np P (aK b L nh H s1))) Z) := by
      have k3 := kd_k3 (b := b) (L := L) (i := (aK b L np P (aK b L nh H s1)).1)
      have fa := m_faulty h (aK b L np P (aK b L nh H s1)) 3
      have t2 := tk_is (b := b) (L := L) (q := fr b L (aK b L np P (aK b L nh H s1)).1) (t := 2) (m := 2) rfl (by omega)
      have L7 := h.2.1
      have wl : wd b L (aK b L np P (aK b L nh H s1)).1 ≤ 700 := by
        have := (te_b (b := b) (L := L) (fr b L (aK b L np P (aK b L nh H s1)).1) (sp_le _).2.1).1
        unfold wd
        omega
      unfold aBy
      by_cases z : (aK b L np P (aK b L nh H s1)).2.1 = 0
      · rw [bo_t z] at fi
        by_cases y : tkq b L (fr b L (aK b L np P (aK b L nh H s1)).1) = 2
        · have y' := t2.mpr y
          by_cases w : wd b L (aK b L np P (aK b L nh H s1)).1 ≤ 9
          · have w' : ¬ (9 : Int32) < nI (wd b L (aK b L np P (aK b L nh H s1)).1) := nI_nlt (a := 9) (b := wd b L (aK b L np P (aK b L nh H s1)).1) (by omega) (by omega)
            have kk := k3.mp ⟨y, w⟩
            have nl : ¬ isL (b (fr b L (aK b L np P (aK b L nh H s1)).1)) = true := fun l => by
              rw [tk_c] at y
              split at y
              · omega
              · omega
            have vv : vl b L (aK b L np P (aK b L nh H s1)).1 = nI (dgs b (wd b L (aK b L np P (aK b L nh H s1)).1) (fr b L (aK b L np P (aK b L nh H s1)).1) 0) := by unfold vl; rw [if_neg nl]
            rw [if_pos y, Nat.min_eq_left w, ← vv] at f6
            by_cases x : vl b L (aK b L np P (aK b L nh H s1)).1 ≤ 100000
            · rw [if_neg (fun q => q.2 x)]
              have h := hsA s
              simp only [fX12_readsHas, h.1, h.2.1, h.2.2, li_T, li_L, li_R, nm, bd, q_b, ne_eq, Nat.reduceEqDiff, reduceCtorEq, and_false, false_and, and_true, true_and, and_self, not_false_eq_true, not_true_eq_false, ↓reduceIte, nx, h1.1, h1.2.2, i27, i28, k1, h2.1, h2.2.2, k2, h3.1, fi, b1, f3, y', f5, w', f6, x]
            · rw [if_pos ⟨kk, x⟩]
              have h := hsA s
              simp only [fX12_readsHas, h.1, h.2.1, h.2.2, li_T, li_L, li_R, nm, bd, q_b, ne_eq, Nat.reduceEqDiff, reduceCtorEq, and_false, false_and, and_true, true_and, and_self, not_false_eq_true, not_true_eq_false, ↓reduceIte, nx, h1.1, h1.2.2, i27, i28, k1, h2.1, h2.2.2, k2, h3.1, fi, b1, f3, y', f5, w', f6, x, fa]
          · have w' : (9 : Int32) < nI (wd b L (aK b L np P (aK b L nh H s1)).1) := nI_lt (a := 9) (by omega) (by omega)
            rw [if_neg (fun q => w (k3.mpr q.1).2)]
            have h := hsA s
            simp only [fX12_readsHas, h.1, h.2.1, h.2.2, li_T, li_L, li_R, nm, bd, q_b, ne_eq, Nat.reduceEqDiff, reduceCtorEq, and_false, false_and, and_true, true_and, and_self, not_false_eq_true, not_true_eq_false, ↓reduceIte, nx, h1.1, h1.2.2, i27, i28, k1, h2.1, h2.2.2, k2, h3.1, fi, b1, f3, y', f5, w']
        · have y' : ¬ nI (tkq b L (fr b L (aK b L np P (aK b L nh H s1)).1)) = 2 := fun q => y (t2.mp q)
          rw [if_neg (fun q => y (k3.mpr q.1).1)]
          have h := hsA s
          simp only [fX12_readsHas, h.1, h.2.1, h.2.2, li_T, li_L, li_R, nm, bd, q_b, ne_eq, Nat.reduceEqDiff, reduceCtorEq, and_false, false_and, and_true, true_and, and_self, not_false_eq_true, not_true_eq_false, ↓reduceIte, nx, h1.1, h1.2.2, i27, i28, k1, h2.1, h2.2.2, k2, h3.1, fi, b1, f3, y']
      · rw [bo_f z] at fi
        have q := f_B (b := b) (L := L) z
        unfold aBy at q
        rw [q]
        have h := hsA s
        simp only [fX12_readsHas, h.1, h.2.1, h.2.2, li_T, li_L, li_R, nm, bd, q_b, ne_eq, Nat.reduceEqDiff, reduceCtorEq, and_false, false_and, and_true, true_and, and_self, not_false_eq_true, not_true_eq_false, ↓reduceIte, nx, h1.1, h1.2.2, i27, i28, k1, h2.1, h2.2.2, k2, h3.1, fi]
    obtain ⟨v, e5, v5⟩ := m_n h hn (aBy b L (aK b L np P (aK b L nh H s1)))
    have h4 := (hsA (aBy b L (aK b L np P (aK b L nh H s1)))).1
    have h5 := hsA (aN b L (aBy b L (aK b L np P (aK b L nh H s1))))
    have fi5 := m_fine h (aN b L (aBy b L (aK b L np P (aK b L nh H s1))))
    have main : fX12_readsLine n 366 (RS b L s Z) = fX12_readsHas_L69 n 366 (vK b L nh H s1) (vK b L np P (aK b L nh H s1)) (RS b L (aBy b L (aK b L np P (aK b L nh H s1))) Z) := by
      rw [← by_]
      have h := hsA s
      simp only [fX12_readsLine, h.1, h.2.1, h.2.2, li_T, li_L, li_R, nm, bd, q_b, ne_eq, Nat.reduceEqDiff, reduceCtorEq, and_false, false_and, and_true, true_and, and_self, not_false_eq_true, not_true_eq_false, ↓reduceIte, iw0, iw1, iw2, b1]
      cases fX12_readsHas n 366 (RS b L s Z) with
      | none => rfl
      | some p => rfl
    rw [main]
    by_cases y : (aN b L (aBy b L (aK b L np P (aK b L nh H s1)))).2.1 = 0
    · rw [bo_t y] at fi5
      have y1 := ((aN_go _).2.1 y).1
      have y2 := (aBy_go _).2 y1
      have y3 := ((aK_go np P (aK b L nh H s1)).2.1 y2.1).1
      obtain ⟨-, i, i1, i2⟩ := aK_2 y3
      obtain ⟨-, j, j1, j2⟩ := aK_2 y2.1
      have vv := v5 y
      rw [(aBy_go _).1] at vv
      have ix2 : nI 5 * nI i + nI j = nI (5 * i + j) := by rw [pk_mul, nI_add]
      have ix : (5 : Int32) * nI i + nI j = nI (5 * i + j) := ix2
      have c1 : (nI (5 * i + j)).toNatClampNeg = 5 * i + j := nI_clamp (by omega)
      have c2 := inL_nI (j := 5 * i + j) (n := 50) (by omega) (by decide)
      have mo := RS_sI (b := b) (L := L) (c := 377) (by decide) (aN b L (aBy b L (aK b L np P (aK b L nh H s1)))) Z (5 * i + j) v
      rw [i2, j2, ix2, c1]
      refine ⟨sI Z 377 (5 * i + j) v, ?_, ⟨h.1.sI _ _ _, fun c k c1 c2 => by rw [mI_sI, if_neg (fun q => c1 q.1)], fun c _ _ => by rw [mJ_sI]⟩, fun _ => ⟨by rw [mI_sI, if_neg (by omega)]; exact q1, by rw [mI_sI, if_neg (by omega)]; exact q2, by rw [mJ_sI]; exact q3, by rw [mJ_sI]; exact q4, fun k hk => ?_⟩⟩
      · have h := hsA (aBy b L (aK b L np P (aK b L nh H s1)))
        simp only [fX12_readsHas_L69, h.1, h.2.1, h.2.2, li_T, li_L, li_R, nm, bd, q_b, ne_eq, Nat.reduceEqDiff, reduceCtorEq, and_false, false_and, and_true, true_and, and_self, not_false_eq_true, not_true_eq_false, ↓reduceIte, e5, h5.1, h5.2.1, h5.2.2, fi5, b1, ix, c1, c2.1, c2.2, mo]
      · show mI (sI Z 377 (5 * i + j) v) 377 k = q_u1 sh (5 * i + j) _ k
        rw [mI_sI, q_u1_is]
        by_cases e : k = 5 * i + j
        · rw [if_pos ⟨rfl, e⟩, if_pos e]; exact vv
        · rw [if_neg (fun q => e q.2), if_neg e]; exact q5 k hk
    · rw [bo_f y] at fi5
      refine ⟨Z, ?_, ⟨h.1, fun _ _ _ _ => rfl, fun _ _ _ => rfl⟩, fun x => absurd x y⟩
      have h := hsA (aBy b L (aK b L np P (aK b L nh H s1)))
      simp only [fX12_readsHas_L69, h.1, h.2.1, h.2.2, li_T, li_L, li_R, nm, bd, q_b, ne_eq, Nat.reduceEqDiff, reduceCtorEq, and_false, false_and, and_true, true_and, and_self, not_false_eq_true, not_true_eq_false, ↓reduceIte, e5, h5.1, fi5]
  · rw [bo_f (fun q => a2 q.2)] at iw2
    have bad : (aF b L 1 s).2.1 ≠ 0 := aF_f (by decide) s
    have fa := m_faulty h s 1
    have ew : aW b L 2 s = aF b L 1 s := ((aP_W s).2 (fun q => a2 q.2)).2
    rw [ew, f_K bad, f_K bad, f_B bad, (f_N bad).1]
    refine ⟨Z, ?_, ⟨h.1, fun _ _ _ _ => rfl, fun _ _ _ => rfl⟩, fun x => absurd x bad⟩
    have h := hsA s
    simp only [fX12_readsLine, h.1, h.2.1, h.2.2, li_T, li_L, li_R, nm, bd, q_b, ne_eq, Nat.reduceEqDiff, reduceCtorEq, and_false, false_and, and_true, true_and, and_self, not_false_eq_true, not_true_eq_false, ↓reduceIte, iw0, iw1, iw2, fa]
theorem m_line (h : Ref bk dr b L Z) (hd : BRD D Z) (hH : D.2.1 ≤ 10) (hP : D.2.2.2.1 ≤ 5) (hn : 1000 ≤ n) (hf : s.2.1 = 0) : ∃ Z', fX12_readsLine n 366 (RS b L s Z) = some ((), RS b L (lnT b L D s) Z') ∧ fX12_asksEnd n 366 (RS b L (lnT b L D s) Z') = some ((), RS b L (lnS b L D s) Z') ∧ Ref bk dr b L Z' ∧ RFr bk dr Z Z' ∧ ((lnS b L D s).2.1 = 0 → BRD (lnD b L D s) Z') := by
  have g : ∃ Z', fX12_readsLine n 366 (RS b L s Z) = some ((), RS b L (lnT b L D s) Z') ∧ RFr bk dr Z Z' ∧ ((lnT b L D s).2.1 = 0 → BRD (lnD b L D s) Z') := by
    by_cases a0 : AW b L 0 s.1
    · exact r_addH h hd hH hP hn hf a0
    · by_cases a1 : AW b L 1 s.1
      · exact r_addP h hd hH hP hn hf a0 a1
      · exact r_has h hd hH hP hn hf a0 a1
  obtain ⟨Z', e, fr_, bd_⟩ := g
  have rZ : Ref bk dr b L Z' := h.cg fr_.1 (fun c k q => fr_.2.1 c k (by omega) (by omega))
  exact ⟨Z', e, m_end rZ hn _, rZ, fr_, fun z => bd_ ((aS_go _).2.1 z).1⟩
end
