/-! TEXTS: one deed, by both (printed by mk97q.py) -/
section
variable (b : Nat → Int32) (L : Nat) (nh np : Nat → List Nat) (H P : Nat)
noncomputable def dw (i : Nat) : Nat := by
  classical
  exact if AW b L 3 i then 3 else if AW b L 5 i then 5 else if AW b L 6 i then 6 else if AW b L 7 i then 7 else if AW b L 8 i then 8 else if AW b L 19 i then 19 else if AW b L 20 i then 20 else 0
/-- the state behind the deed that stands next -/
noncomputable def dst (s : St3) : St3 := if dw b L s.1 = 0 then aF b L 1 s else aS b L (sts b L nh np H P (opsL (dw b L s.1)) (s.1 + 1, s.2.1, s.2.2))
noncomputable def VV (s : St3) (j : Nat) : Int32 := vat b L nh np H P (opsL (dw b L s.1)) j (s.1 + 1, s.2.1, s.2.2)
end
section
variable {b : Nat → Int32} {L : Nat} {nh np : Nat → List Nat} {H P bk dr n m : Nat} {W Z : Mm} {s : St3}
theorem dw_c (i : Nat) : (dw b L i = 0 ∧ ∀ w, isW w → ¬ AW b L (nI w) i) ∨ (isW (dw b L i) ∧ AW b L (nI (dw b L i)) i) := by
  unfold dw
  by_cases z3 : AW b L 3 i
  · rw [if_pos z3]; exact Or.inr ⟨by unfold isW; omega, z3⟩
  · rw [if_neg z3]
    by_cases z5 : AW b L 5 i
    · rw [if_pos z5]; exact Or.inr ⟨by unfold isW; omega, z5⟩
    · rw [if_neg z5]
      by_cases z6 : AW b L 6 i
      · rw [if_pos z6]; exact Or.inr ⟨by unfold isW; omega, z6⟩
      · rw [if_neg z6]
        by_cases z7 : AW b L 7 i
        · rw [if_pos z7]; exact Or.inr ⟨by unfold isW; omega, z7⟩
        · rw [if_neg z7]
          by_cases z8 : AW b L 8 i
          · rw [if_pos z8]; exact Or.inr ⟨by unfold isW; omega, z8⟩
          · rw [if_neg z8]
            by_cases z19 : AW b L 19 i
            · rw [if_pos z19]; exact Or.inr ⟨by unfold isW; omega, z19⟩
            · rw [if_neg z19]
              by_cases z20 : AW b L 20 i
              · rw [if_pos z20]; exact Or.inr ⟨by unfold isW; omega, z20⟩
              · rw [if_neg z20]
                refine Or.inl ⟨rfl, fun w hw => ?_⟩
                rcases hw with rfl | rfl | rfl | rfl | rfl | rfl | rfl
                · exact z3
                · exact z5
                · exact z6
                · exact z7
                · exact z8
                · exact z19
                · exact z20
theorem isW_ne {w : Nat} (h : isW w) : w ≠ 0 := by unfold isW at h; omega
theorem c_deed (h : CB b L nh np H P bk dr W) (hv : VI b L s.1) (hn : 1000 ≤ n) (hf : s.2.1 = 0) (d : Nat → Int32) : ∃ d', fX2_readFrom n 15 2 bk (U2 s (wI W 15 d)) = some ((), U2 (dst b L nh np H P s) (wI W 15 d')) ∧ (dw b L s.1 ≠ 0 → CD (dw b L s.1) (VV b L nh np H P s) d') := by
  rcases dw_c (b := b) (L := L) s.1 with ⟨z, x⟩ | ⟨x, y⟩
  · obtain ⟨d', e⟩ := c_fromX (n := n) h hv hf x d
    refine ⟨d', ?_, fun q => absurd z q⟩
    unfold dst
    rw [if_pos z]
    exact e
  · have ne := isW_ne x
    have g : ∃ d', fX2_readFrom n 15 2 bk (U2 s (wI W 15 d)) = some ((), U2 (aS b L (sts b L nh np H P (opsL (dw b L s.1)) (s.1 + 1, s.2.1, s.2.2))) (wI W 15 d')) ∧ CD (dw b L s.1) (VV b L nh np H P s) d' := by
      unfold VV
      generalize dw b L s.1 = w at *
      rcases x with rfl | rfl | rfl | rfl | rfl | rfl | rfl
      · exact c_from3 h hv hn hf y d
      · exact c_from5 h hv hn hf y d
      · exact c_from6 h hv hn hf y d
      · exact c_from7 h hv hn hf y d
      · exact c_from8 h hv hn hf y d
      · exact c_from19 h hv hn hf y d
      · exact c_from20 h hv hn hf y d
    obtain ⟨d', e, c⟩ := g
    refine ⟨d', ?_, fun _ => c⟩
    unfold dst
    rw [if_neg ne]
    exact e
/-- what a deed's text leaves of the reference's memory -/
def DR (b : Nat → Int32) (L : Nat) (nh np : Nat → List Nat) (H P bk dr m : Nat) (s : St3) (Z Z' : Mm) : Prop := Shp bk dr Z' ∧ (∀ c k, c ≠ 378 → c ≠ 379 → ¬ (c = 366 ∧ k = 31) → mI Z' c k = mI Z c k) ∧ mJ Z' = mJ Z ∧ (∀ i, i < m → mI Z' 378 i = mI Z 378 i) ∧ (∀ j, j < 10 * m → mI Z' 379 j = mI Z 379 j) ∧ ((dst b L nh np H P s).2.1 = 0 → dw b L s.1 ≠ 0 ∧ mI Z' 366 31 = nI (m + 1) ∧ mI Z' 378 m = nI (dw b L s.1) ∧ RA (dw b L s.1) (VV b L nh np H P s) (fun k => mI Z' 379 (10 * m + k)))
theorem Zd_I (h : RB b L nh np H P bk dr m Z) (t : St3) (w : Int32) (e : Nat → Int32) (he : ∀ j, j < 10 * m → e j = mI Z 379 j) : Shp bk dr (Zd m w t e Z) ∧ (∀ c k, c ≠ 378 → c ≠ 379 → ¬ (c = 366 ∧ k = 31) → mI (Zd m w t e Z) c k = mI Z c k) ∧ mJ (Zd m w t e Z) = mJ Z ∧ (∀ i, i < m → mI (Zd m w t e Z) 378 i = mI Z 378 i) ∧ (∀ j, j < 10 * m → mI (Zd m w t e Z) 379 j = mI Z 379 j) ∧ mI (Zd m w t e Z) 378 m = w ∧ (∀ j, mI (Zd m w t e Z) 379 j = e j) ∧ (t.2.1 = 0 → mI (Zd m w t e Z) 366 31 = nI (m + 1)) := by
  have g := ((h.s78 m w).w79 e).1.1
  have i0 : ∀ c k, mI (wI (sI Z 378 m w) 379 e) c k = if c = 379 then e k else if c = 378 ∧ k = m then w else mI Z c k := fun c k => by rw [mI_wI, mI_sI]
  have j0 : mJ (wI (sI Z 378 m w) 379 e) = mJ Z := rfl
  unfold Zd
  by_cases z : t.2.1 = 0
  · rw [if_pos z]
    have i1 : ∀ c k, mI (sI (wI (sI Z 378 m w) 379 e) 366 31 (nI (m + 1))) c k = if c = 366 ∧ k = 31 then nI (m + 1) else if c = 379 then e k else if c = 378 ∧ k = m then w else mI Z c k := fun c k => by rw [mI_sI, i0]
    refine ⟨g.sI _ _ _, fun c k h1 h2 h3 => ?_, by rw [mJ_sI]; exact j0, fun i hi => ?_, fun j hj => ?_, ?_, fun j => ?_, fun _ => ?_⟩
    · rw [i1, if_neg h3, if_neg h2, if_neg (fun q => h1 q.1)]
    · rw [i1, if_neg (by omega), if_neg (by omega), if_neg (by omega)]
    · rw [i1, if_neg (by omega), if_pos rfl]; exact he j hj
    · rw [i1, if_neg (by omega), if_neg (by omega), if_pos ⟨rfl, rfl⟩]
    · rw [i1, if_neg (by omega), if_pos rfl]
    · rw [i1, if_pos ⟨rfl, rfl⟩]
  · rw [if_neg z]
    refine ⟨g, fun c k h1 h2 h3 => ?_, j0, fun i hi => ?_, fun j hj => ?_, ?_, fun j => ?_, fun q => absurd q z⟩
    · rw [i0, if_neg h2, if_neg (fun q => h1 q.1)]
    · rw [i0, if_neg (by omega), if_neg (by omega)]
    · rw [i0, if_pos rfl]; exact he j hj
    · rw [i0, if_neg (by omega), if_pos ⟨rfl, rfl⟩]
    · rw [i0, if_pos rfl]
theorem m_L51 (h : RB b L nh np H P bk dr m Z) (hn : 1000 ≤ n) (hf : s.2.1 = 0) {w : Nat} (x : isW w) : ∃ e, fX12_readsDeed_L51 n 366 (nI w) (RS b L s Z) = some ((), RS b L (sts b L nh np H P (opsL w) (s.1 + 1, s.2.1, s.2.2)) (Zd m (nI w) (sts b L nh np H P (opsL w) (s.1 + 1, s.2.1, s.2.2)) e Z)) ∧ ((sts b L nh np H P (opsL w) (s.1 + 1, s.2.1, s.2.2)).2.1 = 0 → RA w (fun j => vat b L nh np H P (opsL w) j (s.1 + 1, s.2.1, s.2.2)) (fun k => e (10 * m + k))) ∧ ∀ j, j < 10 * m → e j = mI Z 379 j := by
  rcases x with rfl | rfl | rfl | rfl | rfl | rfl | rfl
  · obtain ⟨e, e1, e2, e3⟩ := r_rdTrade h hn hf
    refine ⟨e, e1, fun z => ?_, e3⟩
    have q := e2 z
    exact ⟨fun _ => q, fun y => absurd y (by decide), fun y => absurd y (by decide), fun y => absurd y (by decide), fun y => absurd y (by decide), fun y => absurd y (by decide), fun y => absurd y (by decide)⟩
  · obtain ⟨e, e1, e2, e3⟩ := r_rdMoney h hn hf
    refine ⟨e, e1, fun z => ?_, e3⟩
    have q := e2 z
    exact ⟨fun y => absurd y (by decide), fun _ => q, fun y => absurd y (by decide), fun y => absurd y (by decide), fun y => absurd y (by decide), fun y => absurd y (by decide), fun y => absurd y (by decide)⟩
  · obtain ⟨e, e1, e2, e3⟩ := r_rdGift h hn hf
    refine ⟨e, e1, fun z => ?_, e3⟩
    have q := e2 z
    exact ⟨fun y => absurd y (by decide), fun y => absurd y (by decide), fun _ => q, fun y => absurd y (by decide), fun y => absurd y (by decide), fun y => absurd y (by decide), fun y => absurd y (by decide)⟩
  · obtain ⟨e, e1, e2, e3⟩ := r_rdRights h hn hf
    refine ⟨e, e1, fun z => ?_, e3⟩
    have q := e2 z
    exact ⟨fun y => absurd y (by decide), fun y => absurd y (by decide), fun y => absurd y (by decide), fun _ => q, fun y => absurd y (by decide), fun y => absurd y (by decide), fun y => absurd y (by decide)⟩
  · obtain ⟨e, e1, e2, e3⟩ := r_rdTurn h hn hf
    refine ⟨e, e1, fun z => ?_, e3⟩
    have q := e2 z
    exact ⟨fun y => absurd y (by decide), fun y => absurd y (by decide), fun y => absurd y (by decide), fun y => absurd y (by decide), fun _ => q, fun y => absurd y (by decide), fun y => absurd y (by decide)⟩
  · obtain ⟨e, e1, e2, e3⟩ := r_rdChoice h hn hf
    refine ⟨e, e1, fun z => ?_, e3⟩
    have q := e2 z
    exact ⟨fun y => absurd y (by decide), fun y => absurd y (by decide), fun y => absurd y (by decide), fun y => absurd y (by decide), fun y => absurd y (by decide), fun _ => q, fun y => absurd y (by decide)⟩
  · obtain ⟨e, e1, e2, e3⟩ := r_rdDays h hn hf
    refine ⟨e, e1, fun z => ?_, e3⟩
    have q := e2 z
    exact ⟨fun y => absurd y (by decide), fun y => absurd y (by decide), fun y => absurd y (by decide), fun y => absurd y (by decide), fun y => absurd y (by decide), fun y => absurd y (by decide), fun _ => q⟩
theorem m_L23 (h : Ref bk dr b L Z) {w : Nat} (x : isW w) : fX12_readsDeed_L23 n 366 (nI w) (RS b L s Z) = fX12_readsDeed_L51 n 366 (nI w) (RS b L s Z) := by
  rcases x with rfl | rfl | rfl | rfl | rfl | rfl | rfl
  · unfold fX12_readsDeed_L23
    rw [if_neg (by decide), if_neg (by decide)]
    rw [if_pos (by decide)]
  · unfold fX12_readsDeed_L23
    rw [if_neg (by decide), if_neg (by decide)]
    rw [if_pos (by decide)]
  · unfold fX12_readsDeed_L23
    rw [if_neg (by decide), if_neg (by decide)]
    rw [if_pos (by decide)]
  · unfold fX12_readsDeed_L23
    rw [if_neg (by decide), if_neg (by decide)]
    rw [if_pos (by decide)]
  · unfold fX12_readsDeed_L23
    rw [if_neg (by decide), if_neg (by decide)]
    rw [if_pos (by decide)]
  · unfold fX12_readsDeed_L23
    rw [if_neg (by decide), if_neg (by decide)]
    rw [if_neg (by decide), if_pos (by decide)]
  · unfold fX12_readsDeed_L23
    rw [if_neg (by decide), if_neg (by decide)]
    rw [if_neg (by decide), if_pos (by decide)]
theorem kw_20 (l : List Nat) : kw l = -1 ∨ ∃ w, w < 21 ∧ kw l = nI w := by
  have g : ∀ (r : List (List Nat)) (w : Nat), kwi l r w = -1 ∨ ∃ v, v < w + r.length ∧ kwi l r w = nI v := by
    intro r
    induction r with
    | nil => intro w; exact Or.inl rfl
    | cons k r ih =>
      intro w
      rw [kwi]
      by_cases e : k = l
      · rw [if_pos e]
        exact Or.inr ⟨w, by rw [List.length_cons]; omega, rfl⟩
      · rw [if_neg e]
        rcases ih (w + 1) with z | ⟨v, v1, v2⟩
        · exact Or.inl z
        · exact Or.inr ⟨v, by rw [List.length_cons]; omega, v2⟩
  have := g kws 0
  rwa [show 0 + kws.length = 21 from rfl] at this
theorem m_deed (h : RB b L nh np H P bk dr m Z) (hn : 1000 ≤ n) (hf : s.2.1 = 0) (hv : VI b L s.1) : ∃ t Z', fX12_readsDeed n 366 (RS b L s Z) = some ((), RS b L t Z') ∧ fX12_asksEnd n 366 (RS b L t Z') = some ((), RS b L (dst b L nh np H P s) Z') ∧ Shp bk dr (RS b L t Z') ∧ DR b L nh np H P bk dr m s Z Z' := by
  have hs := (h.1.rs s).1
  obtain ⟨f1, f2, f3, f4, f5, f6, f7⟩ := RS_f (b := b) (L := L) s Z
  have fi := m_fine h.1 s
  rw [bo_t hf] at fi
  have t1 := tk_is (b := b) (L := L) (q := fr b L s.1) (t := 1) (m := 1) rfl (by omega)
  rcases dw_c (b := b) (L := L) s.1 with ⟨z, x⟩ | ⟨x, y⟩
  · have bad : (aF b L 1 s).2.1 ≠ 0 := aF_f (by decide) s
    have fa := m_faulty h.1 s 1
    have fi2 := m_fine h.1 (aF b L 1 s)
    rw [bo_f bad] at fi2
    have hs2 := (h.1.rs (aF b L 1 s)).1
    have e46 : ∀ v, fX12_readsDeed_L46 n 366 v (RS b L s Z) = some ((), RS b L (aF b L 1 s) Z) := fun v => by
      have h := hs
      simp only [fX12_readsDeed_L46, fX12_readsDeed_L51, h.1, h.2.1, h.2.2, li_T, li_L, li_R, nm, bd, q_b, ne_eq, Nat.reduceEqDiff, reduceCtorEq, and_false, false_and, and_true, true_and, and_self, not_false_eq_true, not_true_eq_false, ↓reduceIte, fa, hs2.1, fi2]
    have en := m_end h.1 hn (aF b L 1 s)
    rw [(f_N bad).2] at en
    have e0 : dst b L nh np H P s = aF b L 1 s := by unfold dst; rw [if_pos z]
    refine ⟨aF b L 1 s, Z, ?_, by rw [e0]; exact en, hs2, h.1.1, fun c k _ _ _ => rfl, rfl, fun i _ => rfl, fun j _ => rfl, fun q => absurd (by rw [e0] at q; exact q) bad⟩
    have e23 : ∀ v : Int32, (∀ w, isW w → v ≠ nI w) → (v = -1 ∨ ∃ w, w < 21 ∧ v = nI w) → fX12_readsDeed_L23 n 366 v (RS b L s Z) = some ((), RS b L (aF b L 1 s) Z) := fun v hv hr => by
      unfold fX12_readsDeed_L23
      by_cases c3 : v < 3
      · rw [if_pos c3]; exact e46 v
      · rw [if_neg c3]
        by_cases c4 : v = 4
        · rw [if_pos c4]; exact e46 v
        · rw [if_neg c4]
          rcases hr with rfl | ⟨w, w1, rfl⟩
          · exact absurd (by decide) c3
          · have d3 : ¬ w < 3 := fun q => c3 (nI_lt (b := 3) q (by decide))
            have d4 : w ≠ 4 := fun q => c4 (by rw [q]; rfl)
            have dW : ¬ isW w := fun q => hv w q rfl
            unfold isW at dW
            have g8 : ¬ nI w ≤ (8 : Int32) := nI_ge (a := 8) (b := w) (by omega) (by omega)
            have g19 : ¬ (19 : Int32) ≤ nI w := nI_ge (a := w) (b := 19) (by omega) (by omega)
            rw [if_neg g8, if_neg g19]
            exact e46 _
    have hm : ∀ w, isW w → (-1 : Int32) ≠ nI w := fun w hw => (nI_nm1 (by unfold isW at hw; omega)).symm
    by_cases k1 : tkq b L (fr b L s.1) = 1
    · have k1' := t1.mpr k1
      rw [if_pos k1] at f7
      have r := e23 (kw (wlt b L s.1)) (fun w hw q => x w hw ((AW_ref (nI_nm1 (by unfold isW at hw; omega))).mp ⟨k1, q⟩)) (kw_20 _)
      have h := hs
      simp only [fX12_readsDeed, h.1, h.2.1, h.2.2, li_T, li_L, li_R, nm, bd, q_b, ne_eq, Nat.reduceEqDiff, reduceCtorEq, and_false, false_and, and_true, true_and, and_self, not_false_eq_true, not_true_eq_false, ↓reduceIte, fi, b1, f3, k1', f7, r]
    · have k1' : ¬ nI (tkq b L (fr b L s.1)) = 1 := fun q => k1 (t1.mp q)
      have r := e23 (-1) hm (Or.inl rfl)
      have h := hs
      simp only [fX12_readsDeed, fX12_readsDeed_L22, h.1, h.2.1, h.2.2, li_T, li_L, li_R, nm, bd, q_b, ne_eq, Nat.reduceEqDiff, reduceCtorEq, and_false, false_and, and_true, true_and, and_self, not_false_eq_true, not_true_eq_false, ↓reduceIte, fi, b1, f3, k1', r]
  · have ne := isW_ne x
    have ar := (AW_ref (b := b) (L := L) (i := s.1) (k := nI (dw b L s.1)) (nI_nm1 (by unfold isW at x; omega))).mpr y
    have k1' := t1.mpr ar.1
    rw [if_pos ar.1, ar.2] at f7
    have l23 := m_L23 (n := n) (s := s) h.1 x
    obtain ⟨e, e1, e2, e3⟩ := m_L51 (n := n) h hn hf x
    have zi := Zd_I h (sts b L nh np H P (opsL (dw b L s.1)) (s.1 + 1, s.2.1, s.2.2)) (nI (dw b L s.1)) e e3
    have e0 : dst b L nh np H P s = aS b L (sts b L nh np H P (opsL (dw b L s.1)) (s.1 + 1, s.2.1, s.2.2)) := by unfold dst; rw [if_neg ne]
    obtain ⟨z1, z2, z3, z4, z5, z6, z7, z8⟩ := zi
    have rZ : Ref bk dr b L (Zd m (nI (dw b L s.1)) (sts b L nh np H P (opsL (dw b L s.1)) (s.1 + 1, s.2.1, s.2.2)) e Z) := h.1.cg z1 (fun c k q => z2 c k (by omega) (by omega) (by omega))
    have en := m_end rZ hn (sts b L nh np H P (opsL (dw b L s.1)) (s.1 + 1, s.2.1, s.2.2))
    refine ⟨_, _, ?_, by rw [e0]; exact en, (rZ.rs _).1, z1, z2, z3, z4, z5, fun q => ?_⟩
    · rw [← l23] at e1
      have h := hs
      simp only [fX12_readsDeed, h.1, h.2.1, h.2.2, li_T, li_L, li_R, nm, bd, q_b, ne_eq, Nat.reduceEqDiff, reduceCtorEq, and_false, false_and, and_true, true_and, and_self, not_false_eq_true, not_true_eq_false, ↓reduceIte, fi, b1, f3, k1', f7, e1]
    · rw [e0] at q
      have q2 := ((aS_go _).2.1 q).1
      refine ⟨ne, z8 q2, z6, ?_⟩
      have := e2 q2
      have ee : (fun k => mI (Zd m (nI (dw b L s.1)) (sts b L nh np H P (opsL (dw b L s.1)) (s.1 + 1, s.2.1, s.2.2)) e Z) 379 (10 * m + k)) = fun k => e (10 * m + k) := funext fun k => z7 _
      rw [ee]
      exact this
end
