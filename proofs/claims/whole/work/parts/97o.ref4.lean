/-! TEXTS: the reference reads a deed: its ops -/
section
variable {b : Nat → Int32} {L : Nat} {nh np : Nat → List Nat} {H P bk dr n m : Nat} {W Z : Mm} {s : St3}
def RB (b : Nat → Int32) (L : Nat) (nh np : Nat → List Nat) (H P bk dr m : Nat) (Z : Mm) : Prop := Ref bk dr b L Z ∧ H ≤ 10 ∧ P ≤ 5 ∧ mI Z 366 6 = nI H ∧ mI Z 366 7 = nI P ∧ mI Z 366 31 = nI m ∧ m < 140 ∧ (∀ i, i < H → Nm (nh i) ∧ mJ Z 371 i = lN (c27 (nh i))) ∧ ∀ i, i < P → Nm (np i) ∧ mJ Z 372 i = lN (c27 (np i))
theorem Ref.cg (h : Ref bk dr b L Z) (hS : Shp bk dr W) (hI : ∀ c k, c = 373 ∨ c = 374 ∨ (c = 366 ∧ k = 13) → mI W c k = mI Z c k) : Ref bk dr b L W := by
  obtain ⟨-, h2, h3, h4, h5, h6⟩ := h
  exact ⟨hS, h2, (hI _ _ (by omega)).trans h3, fun i hi => (hI _ _ (by omega)).trans (h4 i hi), h5, fun i hi => (hI _ _ (by omega)).trans (h6 i hi)⟩
theorem RB.cg (h : RB b L nh np H P bk dr m Z) (hS : Shp bk dr W) (hI : ∀ c k, c = 373 ∨ c = 374 ∨ (c = 366 ∧ (k = 13 ∨ k = 6 ∨ k = 7 ∨ k = 31)) → mI W c k = mI Z c k) (hJ : mJ W = mJ Z) : RB b L nh np H P bk dr m W := by
  obtain ⟨h1, h2, h3, h4, h5, h6, h7, h8, h9⟩ := h
  exact ⟨h1.cg hS (fun c k z => hI c k (by omega)), h2, h3, (hI _ _ (by omega)).trans h4, (hI _ _ (by omega)).trans h5, (hI _ _ (by omega)).trans h6, h7, by rw [hJ]; exact h8, by rw [hJ]; exact h9⟩
theorem RB.w79 (h : RB b L nh np H P bk dr m Z) (e : Nat → Int32) : RB b L nh np H P bk dr m (wI Z 379 e) :=
  h.cg ⟨h.1.1.1, h.1.1.2.1, h.1.1.2.2⟩ (fun c k z => by rw [mI_wI, if_neg (by omega)]) rfl
theorem RB.s78 (h : RB b L nh np H P bk dr m Z) (k : Nat) (v : Int32) : RB b L nh np H P bk dr m (sI Z 378 k v) :=
  h.cg (h.1.1.sI _ _ _) (fun c k z => by rw [mI_sI, if_neg (by omega)]) (by rw [mJ_sI])
theorem RS_sI {c : Nat} (h : c ≠ 366) (s : St3) (Z : Mm) (k : Nat) (v : Int32) : sI (RS b L s Z) c k v = RS b L s (sI Z c k v) := by
  refine Mm_ext rfl rfl rfl (funext fun a => funext fun j => ?_) (funext fun a => funext fun j => ?_) rfl rfl
  · rw [mI_sI]
    by_cases e : a = 366
    · subst e
      have q : mI (sI Z c k v) 366 j = mI Z 366 j := by rw [mI_sI, if_neg (fun z => h z.1.symm)]
      rw [if_neg (fun z => h z.1.symm), RS_I, RS_I, q]
    · rw [RS_Io _ _ e, RS_Io _ _ e, mI_sI]
  · rw [mJ_sI]
    unfold RS
    by_cases e : a = 366
    · subst e
      rw [FM_Jk, FM_Jk, mJ_sI]
    · rw [FM_Jo _ _ _ e, FM_Jo _ _ _ e, mJ_sI]
theorem RS_s66 {k : Nat} (h : 23 < k) (s : St3) (Z : Mm) (v : Int32) : sI (RS b L s Z) 366 k v = RS b L s (sI Z 366 k v) := by
  unfold RS
  rw [sI_FM, sI_self Z, FM_FM]
  have e : (fun j => if j = 22 then s.2.1 else if j = 23 then s.2.2 else rrI b L (fr b L s.1) j (mI (FM (q_u1 (mI Z 366) k v) (mJ Z 366 21) Z) 366 j)) = q_u1 (fun j => if j = 22 then s.2.1 else if j = 23 then s.2.2 else rrI b L (fr b L s.1) j (mI Z 366 j)) k v := by
    funext j
    rw [FM_I, q_u1_is, q_u1_is]
    by_cases e : j = k
    · rw [if_pos e, if_pos e, if_neg (by omega), if_neg (by omega), rrI_out (by omega)]
    · rw [if_neg e, if_neg e]
  rw [e]
theorem wI_self (X : Mm) (c : Nat) : wI X c (mI X c) = X := by
  refine Mm_ext rfl rfl rfl (funext fun a => funext fun j => ?_) rfl rfl rfl
  rw [mI_wI]
  by_cases e : a = c
  · rw [if_pos e, e]
  · rw [if_neg e]
theorem RB.at (h : RB b L nh np H P bk dr m Z) (s : St3) (e : Nat → Int32) : Shp bk dr (RS b L s (wI Z 379 e)) ∧ mI (RS b L s (wI Z 379 e)) 366 6 = nI H ∧ mI (RS b L s (wI Z 379 e)) 366 7 = nI P ∧ mI (RS b L s (wI Z 379 e)) 366 31 = nI m := by
  have g := h.w79 e
  refine ⟨(g.1.rs s).1, ?_, ?_, ?_⟩
  · rw [RS_o _ _ (by omega)]; exact g.2.2.2.1
  · rw [RS_o _ _ (by omega)]; exact g.2.2.2.2.1
  · rw [RS_o _ _ (by omega)]; exact g.2.2.2.2.2.1
theorem r_kh (h : RB b L nh np H P bk dr m Z) (hn : 1000 ≤ n) (s : St3) (e : Nat → Int32) : fX12_known n 366 371 (nI H) (RS b L s (wI Z 379 e)) = some (vK b L nh H s, RS b L (aK b L nh H s) (wI Z 379 e)) :=
  m_known (q := 371) (N := H) (M := 10) (h.w79 e).1 hn s rfl rfl h.2.1 (by decide) (by decide) (h.w79 e).2.2.2.2.2.2.2.1
theorem r_kp (h : RB b L nh np H P bk dr m Z) (hn : 1000 ≤ n) (s : St3) (e : Nat → Int32) : fX12_known n 366 372 (nI P) (RS b L s (wI Z 379 e)) = some (vK b L np P s, RS b L (aK b L np P s) (wI Z 379 e)) :=
  m_known (q := 372) (N := P) (M := 5) (h.w79 e).1 hn s rfl rfl h.2.2.1 (by decide) (by decide) (h.w79 e).2.2.2.2.2.2.2.2
theorem r_nn (h : RB b L nh np H P bk dr m Z) (hn : 1000 ≤ n) (s : St3) (e : Nat → Int32) : ∃ v, fX12_n n 366 (RS b L s (wI Z 379 e)) = some (v, RS b L (aN b L s) (wI Z 379 e)) ∧ ((aN b L s).2.1 = 0 → v = vN b L s) := by
  obtain ⟨v, e1, e2⟩ := m_n (h.w79 e).1 hn s
  exact ⟨v, e1, fun z => by unfold vN; rw [if_pos z]; exact e2 z⟩
theorem r_ww (h : RB b L nh np H P bk dr m Z) (hn : 1000 ≤ n) (s : St3) {k : Int32} (hk : k ≠ -1) (e : Nat → Int32) : fX12_asksWord n 366 k (RS b L s (wI Z 379 e)) = some ((), RS b L (aW b L k s) (wI Z 379 e)) := m_asks (h.w79 e).1 hn s hk
theorem r_bb (h : RB b L nh np H P bk dr m Z) (hn : 1000 ≤ n) (s : St3) {k : Int32} (hk : k ≠ -1) (e : Nat → Int32) : ∃ v, fX12_after n 366 k (RS b L s (wI Z 379 e)) = some (v, RS b L (aN b L (aW b L k s)) (wI Z 379 e)) ∧ ((aN b L (aW b L k s)).2.1 = 0 → v = vN b L (aW b L k s)) := by
  obtain ⟨v, e1, e2⟩ := r_nn h hn (aW b L k s) e
  refine ⟨v, ?_, e2⟩
  have e0 := r_ww h hn s hk e
  have hs := (h.at s e).1
  have hs2 := (h.at (aW b L k s) e).1.1
  have h := hs
  simp only [fX12_after, h.1, h.2.1, h.2.2, li_T, li_L, li_R, nm, bd, q_b, ne_eq, Nat.reduceEqDiff, reduceCtorEq, and_false, false_and, and_true, true_and, and_self, not_false_eq_true, not_true_eq_false, ↓reduceIte, e0, hs2, e1]
theorem r_arg (h : RB b L nh np H P bk dr m Z) (s : St3) (e : Nat → Int32) {j : Nat} {jI : Int32} (hj : jI = nI j) (h10 : j < 10) (v : Int32) : fX12_arg 366 jI v (RS b L s (wI Z 379 e)) = some ((), RS b L s (wI Z 379 (q_u1 e (10 * m + j) v))) := by
  obtain ⟨hs, -, -, i31⟩ := h.at s e
  have m140 := h.2.2.2.2.2.2.1
  have ix : (10 : Int32) * mI (RS b L s (wI Z 379 e)) 366 31 + jI = nI (10 * m + j) := by
    rw [i31, hj, show (10 : Int32) = nI 10 from rfl, pk_mul, nI_add]
  have e1 : (nI (10 * m + j)).toNatClampNeg = 10 * m + j := nI_clamp (by omega)
  have e2 := inL_nI (j := 10 * m + j) (n := 1400) (by omega) (by decide)
  have e3 : sI (RS b L s (wI Z 379 e)) 379 (10 * m + j) v = RS b L s (wI Z 379 (q_u1 e (10 * m + j) v)) := by
    rw [RS_sI (by decide), sI_wI]
  have h := hs
  simp only [fX12_arg, h.1, h.2.1, h.2.2, li_T, li_L, li_R, nm, bd, q_b, ne_eq, Nat.reduceEqDiff, reduceCtorEq, and_false, false_and, and_true, true_and, and_self, not_false_eq_true, not_true_eq_false, ↓reduceIte, ix, e1, e2.1, e2.2, e3]
theorem r_pp (h : RB b L nh np H P bk dr m Z) (hn : 1000 ≤ n) (s : St3) {k : Int32} (hk : k ≠ -1) (e : Nat → Int32) : fX12_passesWord n 366 k (RS b L s (wI Z 379 e)) = some (bo (s.2.1 = 0 ∧ AW b L k s.1), RS b L (aP b L k s) (wI Z 379 e)) := m_passes (h.w79 e).1 hn s hk
/-- the memory behind a deed's text -/
def Zd (m : Nat) (w : Int32) (t : St3) (e : Nat → Int32) (Z : Mm) : Mm := if t.2.1 = 0 then sI (wI (sI Z 378 m w) 379 e) 366 31 (nI (m + 1)) else wI (sI Z 378 m w) 379 e
theorem r_307 (h : RB b L nh np H P bk dr m Z) (t : St3) (w : Int32) (e : Nat → Int32) : fX12_readsDeed_L307 n 366 (RS b L t (wI (sI Z 378 m w) 379 e)) = some ((), RS b L t (Zd m w t e Z)) := by
  have g := h.s78 m w
  have fi := m_fine (g.w79 e).1 t
  obtain ⟨hs, -, -, i31⟩ := g.at t e
  have s3 := RS_s66 (b := b) (L := L) (k := 31) (by decide) t (wI (sI Z 378 m w) 379 e)
  unfold Zd
  by_cases z : t.2.1 = 0
  · rw [if_pos z]
    rw [bo_t z] at fi
    have h := hs
    simp only [fX12_readsDeed_L307, h.1, h.2.1, h.2.2, li_T, li_L, li_R, nm, bd, q_b, ne_eq, Nat.reduceEqDiff, reduceCtorEq, and_false, false_and, and_true, true_and, and_self, not_false_eq_true, not_true_eq_false, ↓reduceIte, fi, b1, i31, nI_1, s3]
  · rw [if_neg z]
    rw [bo_f z] at fi
    have h := hs
    simp only [fX12_readsDeed_L307, h.1, h.2.1, h.2.2, li_T, li_L, li_R, nm, bd, q_b, ne_eq, Nat.reduceEqDiff, reduceCtorEq, and_false, false_and, and_true, true_and, and_self, not_false_eq_true, not_true_eq_false, ↓reduceIte, fi]
/-- the head of a deed: the word is passed, kept -/
theorem r_head (h : RB b L nh np H P bk dr m Z) (hn : 1000 ≤ n) (hf : s.2.1 = 0) (w : Int32) : fX12_fine 366 (RS b L s Z) = some (1, RS b L s Z) ∧ fX12_next n 366 (RS b L s Z) = some ((), RS b L (s.1 + 1, s.2.1, s.2.2) Z) ∧ mI (RS b L (s.1 + 1, s.2.1, s.2.2) Z) 366 31 = nI m ∧ sI (RS b L (s.1 + 1, s.2.1, s.2.2) Z) 378 m w = RS b L (s.1 + 1, s.2.1, s.2.2) (wI (sI Z 378 m w) 379 (mI Z 379)) := by
  have fi := m_fine h.1 s
  rw [bo_t hf] at fi
  refine ⟨fi, m_next h.1 hn s, by rw [RS_o _ _ (by omega)]; exact h.2.2.2.2.2.1, ?_⟩
  rw [RS_sI (by decide)]
  have e := wI_self (sI Z 378 m w) 379
  have e2 : mI (sI Z 378 m w) 379 = mI Z 379 := funext fun k => by rw [mI_sI, if_neg (by omega)]
  rw [e2] at e
  rw [e]
end
