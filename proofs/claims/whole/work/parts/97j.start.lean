/-! TEXTS: how reading starts; a NAME alone -/
section
variable {bk dr H P n : Nat} {X Z : Mm} {b : Nat → Int32} {L : Nat} {s : St3}
theorem Tp.read {L' : Nat} {Y : Mm} (h : Tp bk dr H P X) (hS : Shp bk dr Y) (hI : ∀ c k, rlI c k → ¬ (c = 2 ∧ (k = 1 ∨ k = 6 ∨ k = 7)) → ¬ (c = 366 ∧ (k = 12 ∨ k = 22 ∨ k = 23)) → mI Y c k = mI X c k) (hJ : ∀ c, rlJ c → ∀ k, mJ Y c k = mJ X c k) (hL : L' ≤ 700) (y1 : mI Y 2 1 = nI L') (y2 : mI Y 366 12 = nI L') (y3 : FaR Y) : Tp bk dr H P Y := by
  obtain ⟨h1, h2, h3, h4, h5, h6, h7, ⟨nx, c, g1, g2, g3, g4, g5, g6⟩, ⟨n1, n2, ⟨nh, n3⟩, ⟨np, n4⟩⟩, ⟨L, t1, t2, t3, t4⟩, ⟨f1, f2⟩, ⟨M, s1, s2, s3, s4⟩, l⟩ := h
  have hb : bk = 7 ∨ bk = 11 := by rcases h2 with z | z <;> omega
  have q : ∀ c k, rlI c k → (c = 2 → k ≠ 1 ∧ k ≠ 6 ∧ k ≠ 7) → (c = 366 → k ≠ 12 ∧ k ≠ 22 ∧ k ≠ 23) → mI Y c k = mI X c k := fun c k a b d => hI c k a (fun z => by have := b z.1; omega) (fun z => by have := d z.1; omega)
  refine ⟨hS, h2, h3, h4, by rw [q _ _ (by unfold rlI; omega) (by omega) (by omega)]; exact h5, by rw [q _ _ (by unfold rlI; omega) (by omega) (by omega)]; exact h6, ?_, ⟨nx, c, g1, g2, by rw [q _ _ (by unfold rlI; omega) (by omega) (by omega)]; exact g3, by rw [q _ _ (by unfold rlI; omega) (by omega) (by omega)]; exact g4, by rw [q _ _ (by unfold rlI; omega) (by omega) (by omega)]; exact g5, fun j hj => ?_⟩, ⟨by rw [q _ _ (by unfold rlI; omega) (by omega) (by omega)]; exact n1, by rw [q _ _ (by unfold rlI; omega) (by omega) (by omega)]; exact n2, ⟨nh, fun i hi => ?_⟩, ⟨np, fun i hi => ?_⟩⟩, ⟨L', hL, y1, y2, fun i hi => ?_⟩, y3, ⟨M, s1, by rw [q _ _ (by unfold rlI; omega) (by omega) (by omega)]; exact s2, by rw [q _ _ (by unfold rlI; omega) (by omega) (by omega)]; exact s3, fun i hi => ?_⟩, fun i hi => ?_⟩
  · exact h7.weq (Weq.of (fun a k ha => q _ _ (by unfold rlI; omega) (by omega) (by omega)) (fun a k ha => hJ _ (by unfold rlJ; omega) k)) (fun p _ => hJ _ (by unfold rlJ; omega) p)
  · exact (g6 j hj).weq (Weq.of (fun a k ha => q _ _ (by unfold rlI; omega) (by omega) (by omega)) (fun a k ha => hJ _ (by unfold rlJ; omega) k)) (fun p _ => hJ _ (by unfold rlJ; omega) _)
  · rw [q _ _ (by unfold rlI; omega) (by omega) (by omega), hJ _ (by unfold rlJ; omega)]; exact n3 i hi
  · rw [q _ _ (by unfold rlI; omega) (by omega) (by omega), hJ _ (by unfold rlJ; omega)]; exact n4 i hi
  · rw [q _ _ (by unfold rlI; omega) (by omega) (by omega), q _ _ (by unfold rlI; omega) (by omega) (by omega)]; exact t4 i hi
  · rw [q _ _ (by unfold rlI; omega) (by omega) (by omega), q _ _ (by unfold rlI; omega) (by omega) (by omega)]; exact s4 i hi
  · rw [q _ _ (by unfold rlI; omega) (by omega) (by omega)]; exact l i hi
theorem c_again (h : Shp bk dr X) : ∃ Y, fX9_startAgain 2 X = some ((), Y) ∧ Y = U2 (0, 0, -1) X := by
  refine ⟨sI (sI (sI X 2 6 0) 2 7 (-1)) 2 5 0, ?_, ?_⟩
  · simp only [fX9_startAgain, h.1, h.2.1, h.2.2, li_T, li_L, li_R, nm, bd, q_b, ne_eq, Nat.reduceEqDiff, reduceCtorEq, and_false, false_and, and_true, true_and, and_self, not_false_eq_true, not_true_eq_false, ↓reduceIte, mT_sI]
  · refine U2_ext (Y := X) _ X rfl rfl rfl (fun c k => ?_) rfl rfl rfl
    rw [mI_sI, mI_sI, mI_sI, U2_I]
    by_cases e7 : c = 2 ∧ k = 7
    · rw [if_neg (show ¬ (c = 2 ∧ k = 5) by omega), if_pos e7, if_pos e7]
    · by_cases e6 : c = 2 ∧ k = 6
      · rw [if_neg (show ¬ (c = 2 ∧ k = 5) by omega), if_neg e7, if_pos e6, if_neg e7, if_pos e6]
      · by_cases e5 : c = 2 ∧ k = 5
        · rw [if_pos e5, if_neg e7, if_neg e6, if_pos e5]
          rfl
        · rw [if_neg e5, if_neg e7, if_neg e6, if_neg e7, if_neg e6, if_neg e5]
theorem c_again2 (h : CTok b L bk dr X) (s : St3) : fX9_startAgain 2 (U2 s X) = some ((), U2 (0, 0, -1) X) := by
  obtain ⟨Y, e, r⟩ := c_again (h.u s)
  rw [e, r, U2_U2]
theorem c_start (h : Shp bk dr X) (hL : mI X 2 1 = nI L) (hL7 : L ≤ 700) (hn : 1000 ≤ n) (hb : mI X 3 = b) : ∃ Y, fX9_startReading n 2 X = some ((), U2 (0, 0, -1) Y) ∧ CTok b L bk dr Y ∧ (∀ c k, ¬ (c = 4 ∨ c = 5 ∨ c = 6) → mI Y c k = mI X c k) ∧ mJ Y = mJ X := by
  obtain ⟨Y, e, t, fI, fJ, hY⟩ := c_scan h hL hL7 hn hb
  obtain ⟨V, ea, rfl⟩ := c_again hY
  refine ⟨Y, ?_, ⟨hY, hL7, t⟩, fI, fJ⟩
  have hs := hY.1
  simp only [fX9_startReading, h.1, h.2.1, h.2.2, li_T, li_L, li_R, nm, bd, q_b, ne_eq, Nat.reduceEqDiff, reduceCtorEq, and_false, false_and, and_true, true_and, and_self, not_false_eq_true, not_true_eq_false, ↓reduceIte, e, hs, ea]
/-- what the reference needs before it starts -/
def Rb (bk dr : Nat) (b : Nat → Int32) (L : Nat) (X : Mm) : Prop := Shp bk dr X ∧ L ≤ 700 ∧ mI X 366 12 = nI L ∧ (∀ i, i < 700 → mI X 374 i = b i) ∧ (∀ i, i < 700 → -128 ≤ (b i).toInt ∧ (b i).toInt ≤ 127) ∧ LtR X
def Z0 (L : Nat) (X : Mm) : Mm := sI (sI X 366 13 (nI L)) 366 12 0
theorem Z0_I (X : Mm) (c k : Nat) : mI (Z0 L X) c k = if c = 366 ∧ k = 12 then 0 else if c = 366 ∧ k = 13 then nI L else mI X c k := by
  unfold Z0
  rw [mI_sI, mI_sI]
theorem Rb.ref (h : Rb bk dr b L X) : Ref bk dr b L (Z0 L X) := by
  obtain ⟨h1, h2, h3, h4, h5, h6⟩ := h
  refine ⟨⟨h1.1, h1.2.1, h1.2.2⟩, h2, by rw [Z0_I, if_neg (by omega), if_pos ⟨rfl, rfl⟩], fun i hi => ?_, h5, fun i hi => ?_⟩
  · rw [Z0_I, if_neg (by omega), if_neg (by omega)]; exact h4 i hi
  · rw [Z0_I, if_neg (by omega), if_neg (by omega)]; exact h6 i hi
theorem m_starts (h : Rb bk dr b L X) (hn : 1000 ≤ n) : fX12_starts n 366 X = some ((), RS b L (0, mI X 366 22, mI X 366 23) (Z0 L X)) := by
  have R := h.ref
  have hs := h.1
  have h12 := h.2.2.1
  have L7 := h.2.1
  have e : sI (Z0 L X) 366 14 0 = FM (q_u1 (mI (Z0 L X) 366) 14 0) (mJ (Z0 L X) 366 21) (Z0 L X) := by
    rw [← sI_FM, FM_self]
  have nx := m_nextL (n := n) (c := mJ (Z0 L X) 366 21) R hn 700 0 (q_u1 (mI (Z0 L X) 366) 14 0) n (by omega) (by omega) (by omega) (by rw [q_u1_n _ _ (by decide)]; exact R.2.2.1) (q_u1_s _ _ _)
  have e2 : fX12_next n 366 (sI (Z0 L X) 366 14 0) = some ((), RS b L (0, mI X 366 22, mI X 366 23) (Z0 L X)) := by
    rw [e]
    unfold fX12_next
    rw [nx]
    unfold RS
    congr 1
    congr 1
    congr 1
    funext k
    show rrI b L (fr b L 0) k (q_u1 (mI (Z0 L X) 366) 14 0 k) = if k = 22 then mI X 366 22 else if k = 23 then mI X 366 23 else rrI b L (fr b L 0) k (mI (Z0 L X) 366 k)
    by_cases e22 : k = 22
    · rw [if_pos e22, e22, rrI_out (by omega), q_u1_n _ _ (by decide), Z0_I, if_neg (by omega), if_neg (by omega)]
    · rw [if_neg e22]
      by_cases e23 : k = 23
      · rw [if_pos e23, e23, rrI_out (by omega), q_u1_n _ _ (by decide), Z0_I, if_neg (by omega), if_neg (by omega)]
      · rw [if_neg e23, q_u1_is]
        by_cases e14 : k = 14
        · rw [if_pos e14, e14]; exact rrI_in (by decide) (by decide) _ _
        · rw [if_neg e14]
  unfold Z0 at e2 ⊢
  have h := hs
  simp only [fX12_starts, h.1, h.2.1, h.2.2, li_T, li_L, li_R, nm, bd, q_b, ne_eq, Nat.reduceEqDiff, reduceCtorEq, and_false, false_and, and_true, true_and, and_self, not_false_eq_true, not_true_eq_false, ↓reduceIte, mT_sI, h12, e2]
theorem sI_self (Z : Mm) (k : Nat) (v : Int32) : sI Z 366 k v = FM (q_u1 (mI Z 366) k v) (mJ Z 366 21) Z := by
  rw [← sI_FM, FM_self]
theorem Z0_FM (X : Mm) : Z0 L X = FM (q_u1 (q_u1 (mI X 366) 13 (nI L)) 12 0) (mJ X 366 21) X := by
  unfold Z0
  rw [sI_self X, sI_FM]
theorem RS_cg {Y Z : Mm} {g g' : Nat → Int32} {c c' : Int64} (X : Mm) (e : Y = FM g c X) (e' : Z = FM g' c' X) (hh : ∀ k, k ≠ 22 → k ≠ 23 → g k = g' k) : RS b L s Y = RS b L s Z := by
  subst e e'
  unfold RS
  rw [FM_FM, FM_FM]
  congr 1
  funext k
  by_cases e22 : k = 22
  · rw [if_pos e22, if_pos e22]
  · rw [if_neg e22, if_neg e22]
    by_cases e23 : k = 23
    · rw [if_pos e23, if_pos e23]
    · rw [if_neg e23, if_neg e23, FM_I, FM_I, hh k e22 e23]
theorem m_begins (h : Rb bk dr b L X) (hn : 1000 ≤ n) : fX12_begins n 366 X = some ((), RS b L (0, 0, -1) (Z0 L X)) := by
  have h' : Rb bk dr b L (sI (sI X 366 22 0) 366 23 (-1)) := by
    obtain ⟨h1, h2, h3, h4, h5, h6⟩ := h
    refine ⟨⟨h1.1, h1.2.1, h1.2.2⟩, h2, by rw [mI_sI, if_neg (by omega), mI_sI, if_neg (by omega)]; exact h3, fun i hi => ?_, h5, fun i hi => ?_⟩
    · rw [mI_sI, if_neg (by omega), mI_sI, if_neg (by omega)]; exact h4 i hi
    · rw [mI_sI, if_neg (by omega), mI_sI, if_neg (by omega)]; exact h6 i hi
  have e := m_starts h' hn
  have e2 : RS b L (0, mI (sI (sI X 366 22 0) 366 23 (-1)) 366 22, mI (sI (sI X 366 22 0) 366 23 (-1)) 366 23) (Z0 L (sI (sI X 366 22 0) 366 23 (-1))) = RS b L (0, 0, -1) (Z0 L X) := by
    rw [mI_sI, if_neg (by omega), mI_sI, if_pos ⟨rfl, rfl⟩, mI_sI, if_pos ⟨rfl, rfl⟩]
    refine RS_cg X (g := q_u1 (q_u1 (q_u1 (q_u1 (mI X 366) 22 0) 23 (-1)) 13 (nI L)) 12 0) (c := mJ X 366 21) ?_ (Z0_FM X) (fun k k2 k3 => ?_)
    · unfold Z0
      rw [sI_self X, sI_FM, sI_FM, sI_FM]
    · rw [q_u1_is, q_u1_is, q_u1_is, q_u1_is, q_u1_is, q_u1_is, if_neg k3, if_neg k2]
  rw [e2] at e
  have hs := h.1
  have h := hs
  simp only [fX12_begins, h.1, h.2.1, h.2.2, li_T, li_L, li_R, nm, bd, q_b, ne_eq, Nat.reduceEqDiff, reduceCtorEq, and_false, false_and, and_true, true_and, and_self, not_false_eq_true, not_true_eq_false, ↓reduceIte, mT_sI, e]
theorem Tp.rb (h : Tp bk dr H P X) : ∃ L, L ≤ 700 ∧ mI X 2 1 = nI L ∧ Rb bk dr (mI X 3) L X := by
  obtain ⟨h1, -, -, -, -, -, -, -, -, ⟨L, t1, t2, t3, t4⟩, -, -, l⟩ := h
  exact ⟨L, t1, t2, h1, t1, t3, fun i hi => (t4 i hi).1, fun i hi => (t4 i hi).2, l⟩
end
