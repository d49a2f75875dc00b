/-! BOUNDS: each step of a DAY keeps what holds of a State -/
theorem Iw.fr {T G H P : Nat} {w u : Wt} (h : Iw T G H P w) (f : ∀ a k, (a = 0 ∨ a = 4 ∨ a = 5 ∨ a = 10 ∨ a = 14 ∨ a = 17 ∨ a = 18 ∨ a = 19 ∨ a = 20) → u.1 a k = w.1 a k) (h25 : ∀ e, e < G → inL (u.1 25 e) 4)
    (hc : ∀ e, e < G → ∀ i, i < Cn u e → inL (u.1 38 (60 * e + i)) H ∧ inL (u.1 39 (60 * e + i)) H ∧ u.1 38 (60 * e + i) ≠ u.1 39 (60 * e + i)) (hB : Bd T G u) : Iw T G H P u := by
  obtain ⟨i1, i2, ⟨d, d1, d2⟩, i4, i5, i6, i7⟩ := h
  refine ⟨by rw [f _ _ (by omega)]; exact i1, i2, ⟨d, d1, by rw [f _ _ (by omega)]; exact d2⟩, fun t ht => ?_, fun e he => ?_, hc, hB⟩
  · rw [f 4 _ (by omega), f 5 _ (by omega), f 10 _ (by omega)]; exact i4 t ht
  · obtain ⟨o1, o2, o3, o4, o5, o6, o7⟩ := i5 e he
    unfold Et
    rw [f 14 _ (by omega), f 17 _ (by omega), f 18 _ (by omega), f 19 _ (by omega), f 20 _ (by omega)]
    exact ⟨h25 e he, o2, o3, o4, o5, o6, o7⟩
theorem Bd.up {T G : Nat} {w u : Wt} (b : Bd T G w) (hd : dn w G ≤ dn u G) (h1 : Sh0 (mxS (dn u G)) (u.2 1)) (h7 : ∀ t, t < T → 0 ≤ (u.2 7 t).toInt ∧ (u.2 7 t).toInt ≤ mxT (dn u G)) (h40 : ∀ e, e < G → ∀ i, i < Cn u e → 0 ≤ (u.2 40 (60 * e + i)).toInt ∧ (u.2 40 (60 * e + i)).toInt ≤ mxT (dn u G))
    (h31 : ∀ e, e < G → ((∀ h, h < 10 → u.2 31 (10 * e + h) = w.2 31 (10 * e + h)) ∧ (u.1 25 e = 0 → w.1 25 e = 0)) ∨ ((∀ h, h < 10 → 0 ≤ (u.2 31 (10 * e + h)).toInt) ∧ sm (fun h => u.2 31 (10 * e + h)) 10 ≤ mxS (dn u G) ∧ u.1 25 e ≠ 0)) : Bd T G u := by
  obtain ⟨b1, b2, b3, b4, b5⟩ := b
  refine ⟨h1.1, h1.2, h7, h40, fun e he => ?_⟩
  rcases h31 e he with ⟨q1, q2⟩ | ⟨q1, q2, q3⟩
  · refine ⟨⟨fun h hh => by rw [q1 h hh]; exact (b5 e he).1.1 h hh, ?_⟩, fun z h hh => by rw [q1 h hh]; exact (b5 e he).2 (q2 z) h hh⟩
    have e1 : sm (fun h => u.2 31 (10 * e + h)) 10 = sm (fun h => w.2 31 (10 * e + h)) 10 := sm_congr 10 (fun h hh => q1 h hh)
    rw [e1]
    exact Int.le_trans (b5 e he).1.2 (mxS_le hd)
  · exact ⟨⟨q1, q2⟩, fun z => absurd z q3⟩
theorem Bd.S {T G : Nat} {w : Wt} (b : Bd T G w) : Sh0 (mxS (dn w G)) (w.2 1) := ⟨b.1, b.2.1⟩
theorem Iw.settle {T G H P t : Nat} {w : Wt} (iv : Iv T G H w) (h : Iw T G H P w) (ht : t < T) : Iw T G H P (N_settle t w) := by
  have hB := h.2.2.2.2.2.2
  have f := fun a k (h1 : a ≠ 11) (h2 : a ≠ 12) => N_settle_1 t w h1 h2 k
  have g := fun a k (h1 : a ≠ 1) (h2 : a ≠ 2) => N_settle_2 t w h1 h2 k
  have hG := iv.1.2.2.2.1
  have ed : dn (N_settle t w) G = dn w G := dn_congr G fun e _ => f 25 e (by decide) (by decide)
  have eC : ∀ e, Cn (N_settle t w) e = Cn w e := fun e => by unfold Cn; rw [f 26 e (by decide) (by decide)]
  have s8 := mxS_8 (dn w G) (by have := dn_le w G; omega)
  refine h.fr (fun a k z => f a k (by omega) (by omega)) (fun e he => by rw [f _ _ (by decide) (by decide)]; exact (h.2.2.2.2.1 e he).1) (fun e he i hi => ?_) (hB.up (by rw [ed]; exact Nat.le_refl _) ?_ (fun t ht => ?_) (fun e he i hi => ?_) (fun e he => Or.inl ⟨fun h _ => g _ _ (by decide) (by decide), fun z => by rw [f _ _ (by decide) (by decide)] at z; exact z⟩))
  · rw [eC] at hi
    rw [f _ _ (by decide) (by decide), f _ _ (by decide) (by decide)]
    exact h.2.2.2.2.2.1 e he i hi
  · rw [ed]
    exact hB.S.settle (by omega) (hB.2.2.1 t ht).1 (iv.1.2.2.2.2.2.2.1 t ht)
  · rw [ed, g _ _ (by decide) (by decide)]; exact hB.2.2.1 t ht
  · rw [eC] at hi
    rw [ed, g _ _ (by decide) (by decide)]; exact hB.2.2.2.1 e he i hi
theorem Iw.pwi {T G H P e i : Nat} {w : Wt} (iv : Iv T G H w) (h : Iw T G H P w) (he : e < G) (hi : i < Cn w e) : Iw T G H P (N_pwi e i w) := by
  have hB := h.2.2.2.2.2.2
  have f := fun a k (h1 : a ≠ 42) (h2 : a ≠ 27) => N_pwi_1 e i w h1 h2 k
  have hG := iv.1.2.2.2.1
  have hH := iv.1.2.2.2.2.2.1
  have s8 := mxS_8 (dn w G) (by have := dn_le w G; omega)
  have t8 := mxT_8 (dn w G) (by have := dn_le w G; omega)
  have o := h.2.2.2.2.1 e he
  have c := h.2.2.2.2.2.1 e he i hi
  have b40 := hB.2.2.2.1 e he i hi
  have w10 : ∀ v : Int32, inL v H → inL v 10 := fun v z => ⟨z.1, by have := z.2; omega⟩
  have g : (∀ a k, a ≠ 1 → a ≠ 2 → (N_pwi e i w).2 a k = w.2 a k) ∧ Sh0 (mxS (dn w G)) ((N_pwi e i w).2 1) := by
    unfold N_pwi
    split
    · exact ⟨fun _ _ _ _ => rfl, hB.S⟩
    · split
      · split
        · rename_i hb
          rw [uI_2]
          exact ⟨fun a k h1 h2 => N_pc_2 e i w h1 h2 k, pc_b (w10 _ c.1) (w10 _ c.2.1) (iv.1.2.2.2.2.2.2.2 e he).1 o.2.2.1 o.2.2.2.1 (iv.2 e he).1 hB.S (by omega) (by omega) hb⟩
        · exact ⟨fun _ _ _ _ => rfl, hB.S⟩
      · exact ⟨fun _ _ _ _ => rfl, hB.S⟩
  have ed : dn (N_pwi e i w) G = dn w G := dn_congr G fun e _ => f 25 e (by decide) (by decide)
  have eC : ∀ e', Cn (N_pwi e i w) e' = Cn w e' := fun e' => by unfold Cn; rw [f 26 e' (by decide) (by decide)]
  refine h.fr (fun a k z => f a k (by omega) (by omega)) (fun e he => by rw [f _ _ (by decide) (by decide)]; exact (h.2.2.2.2.1 e he).1) (fun e he i hi => ?_) (hB.up (by rw [ed]; exact Nat.le_refl _) (by rw [ed]; exact g.2) (fun t ht => ?_) (fun e he i hi => ?_) (fun e he => Or.inl ⟨fun h _ => g.1 _ _ (by decide) (by decide), fun z => by rw [f _ _ (by decide) (by decide)] at z; exact z⟩))
  · rw [eC] at hi
    rw [f _ _ (by decide) (by decide), f _ _ (by decide) (by decide)]
    exact h.2.2.2.2.2.1 e he i hi
  · rw [ed, g.1 _ _ (by decide) (by decide)]; exact hB.2.2.1 t ht
  · rw [eC] at hi
    rw [ed, g.1 _ _ (by decide) (by decide)]; exact hB.2.2.2.1 e he i hi
theorem Iw.pe {T G H P e : Nat} {w : Wt} (iv : Iv T G H w) (h : Iw T G H P w) (he : e < G) : Iw T G H P (N_pe H e w) := by
  have hB := h.2.2.2.2.2.2
  have hG := iv.1.2.2.2.1
  have hH := iv.1.2.2.2.2.2.1
  unfold N_pe
  by_cases st : w.1 25 e = 1
  · rw [if_pos st]
    by_cases dy : w.1 24 e = w.1 0 8
    · rw [if_pos dy]
      have dl := dn_le w G
      have s8 := mxS_8 (dn w G) (by omega)
      have t8 := mxT_8 (dn w G) (by omega)
      have t0 := mxT_pos (dn w G)
      have s0 := mxS_pos (dn w G)
      have o := h.2.2.2.2.1 e he
      have hc := iv.cnt he
      have ev := iv.2 e he
      obtain ⟨ev1, ev2, ev3, ev4, ev5, ev6, ev7⟩ := iv.2 e he
      have w10 : ∀ v : Int32, inL v H → inL v 10 := fun v z => ⟨z.1, by have := z.2; omega⟩
      have hp := (iv.1.2.2.2.2.2.2.2 e he).1
      have b5 := hB.2.2.2.2 e he
      have w53 : sm (fun j => w.2 31 (10 * e + j)) 10 ≤ 2 ^ 53 := Int.le_trans b5.1.2 (by omega)
      have z27 : w.1 27 e = nI 0 := ev4 st
      have cn0 : cn (fun i => w.1 42 (60 * e + i)) (Cn w e) = 0 := by
        rw [z27] at ev5
        have := cn_le (fun i => w.1 42 (60 * e + i)) (Cn w e)
        exact ((nI_eq (by omega) (by omega)).mp ev5).symm
      have hz : ∀ i, i < Cn w e → w.1 42 (60 * e + i) ≠ 2 := cn_zero _ cn0
      -- the paid State, of both kinds
      have key : ∀ v : Wt, (∀ a k, a ≠ 42 → a ≠ 27 → v.1 a k = w.1 a k) → (∀ a k, (a = 7 ∨ a = 31 ∨ a = 40) → v.2 a k = w.2 a k) → Sh0 (10 * mxS (dn w G) + 540 * mxT (dn w G)) (v.2 1) → Iw T G H P (uI v 25 e 2) := by
        intro v f g S
        have f' : ∀ a k, a ≠ 42 → a ≠ 27 → a ≠ 25 → (uI v 25 e 2).1 a k = w.1 a k := fun a k h1 h2 h3 => by rw [uI_1, if_neg (fun z => h3 z.1)]; exact f a k h1 h2
        have f25 : ∀ k, (uI v 25 e 2).1 25 k = if k = e then 2 else w.1 25 k := fun k => by
          rw [uI_1]
          by_cases z : k = e
          · rw [if_pos ⟨rfl, z⟩, if_pos z]
          · rw [if_neg (fun y => z y.2), if_neg z]; exact f 25 k (by decide) (by decide)
        have md := dn_mono (w := w) (u := uI v 25 e 2) G (fun k _ => by
          rw [f25]
          by_cases z : k = e
          · rw [if_pos z]; exact Or.inr (Or.inr (by decide))
          · rw [if_neg z]; exact Or.inl rfl)
        have m1 := md.2 e he (Or.inr st) (by rw [f25, if_pos rfl]; decide)
        have S2 : 10 * mxS (dn w G) + 540 * mxT (dn w G) ≤ mxS (dn (uI v 25 e 2) G) := Int.le_trans (Int.le_refl _ : _ ≤ mxS (dn w G + 1)) (mxS_le m1)
        have T2 := mxT_le md.1
        have eC : ∀ e', Cn (uI v 25 e 2) e' = Cn w e' := fun e' => by unfold Cn; rw [f' 26 e' (by decide) (by decide) (by decide)]
        refine h.fr (fun a k z => f' a k (by omega) (by omega) (by omega)) (fun k hk => ?_) (fun k hk i hi => ?_) (hB.up md.1 (S.le S2) (fun t ht => ?_) (fun k hk i hi => ?_) (fun k hk => Or.inl ⟨fun h _ => g _ _ (by omega), fun z => ?_⟩))
        · rw [f25]
          by_cases z : k = e
          · rw [if_pos z]; decide
          · rw [if_neg z]; exact (h.2.2.2.2.1 k hk).1
        · rw [eC] at hi
          rw [f' _ _ (by decide) (by decide) (by decide), f' _ _ (by decide) (by decide) (by decide)]
          exact h.2.2.2.2.2.1 k hk i hi
        · have q := hB.2.2.1 t ht
          rw [uI_2, g _ _ (by omega)]; omega
        · rw [eC] at hi
          have q := hB.2.2.2.1 k hk i hi
          rw [uI_2, g _ _ (by omega)]; omega
        · rw [f25] at z
          by_cases y : k = e
          · rw [if_pos y] at z; exact absurd z (by decide)
          · rw [if_neg y] at z; exact z
      have hft := h.2.2.2.2.2.1 e he
      have h40 := hB.2.2.2.1 e he
      by_cases rk : w.1 14 e = 2
      · rw [if_pos rk]
        have fr := N_pr_fr (H := H) (C := Cn w e) (e := e) (w := w) hH
        have S := pr_b (e := e) (C := Cn w e) (K := 9 * mxT (dn w G)) hH hp o.2.2.1 o.2.2.2.1 ev1 hB.S (by omega) b5.1.1 w53 (fun j hj => (ev6 j hj).1) (by omega) (by omega) hc.2 (fun i hi => (hft i hi).2.1) (fun i hi => by have := h40 i hi; omega)
        exact key _ (fun a k h1 _ => fr.1 a k h1) (fun a k z => N_pr_o (by omega) k) (S.le (by have := b5.1.2; omega))
      · rw [if_neg rk]
        have fr := N_po_fr (H := H) (C := Cn w e) (e := e) (w := w) hc.2 z27 hz
        have S := po_b (e := e) (C := Cn w e) hH hp o.2.2.1 o.2.2.2.1 ev1 hB.S (by omega) b5.1.1 w53 hc.2 (fun i hi => ⟨w10 _ (hft i hi).1, w10 _ (hft i hi).2.1⟩) (fun i hi => by have := h40 i hi; omega)
        exact key _ (fun a k h1 h2 => fr.1 a k h1 h2) (fun a k z => fr.2.2.2.1 a k (by omega) (by omega) (by omega) (by omega)) (S.le (by have := b5.1.2; omega))
    · rw [if_neg dy]; exact h
  · rw [if_neg st]; exact h
