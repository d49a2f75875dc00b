/-! WHAT HOLDS OF A STATE, kept by PAYING; the reference's DAY -/
theorem N_pc_2 (e i : Nat) (w : Wt) {a : Nat} (h1 : a ≠ 1) (h2 : a ≠ 2) (k : Nat) : (N_pc e i w).2 a k = w.2 a k := by
  rw [N_goes, N_pu_2 _ _ _ h2, N_pu_2 _ _ _ h2, N_add_2 _ _ _ h1, N_add_2 _ _ _ h1]
  rfl
theorem N_pc_42 (e i : Nat) (w : Wt) (k : Nat) : (N_pc e i w).1 42 k = if k = 60 * e + i then 1 else w.1 42 k := by
  rw [N_goes, N_pu_1, N_pu_1, N_add_1, N_add_1, uI_1]
  by_cases h : k = 60 * e + i
  · rw [if_pos ⟨rfl, h⟩, if_pos h]
  · rw [if_neg (fun z => h z.2), if_neg h]
theorem N_poc_2 (e i : Nat) (w : Wt) {a : Nat} (h1 : a ≠ 1) (h2 : a ≠ 2) (k : Nat) : (N_poc e i w).2 a k = w.2 a k := by
  unfold N_poc
  split
  · exact N_pc_2 e i w h1 h2 k
  · rfl
theorem N_poc_42 (e i : Nat) (w : Wt) : (∀ k, k ≠ 60 * e + i → (N_poc e i w).1 42 k = w.1 42 k) ∧ (∀ k, k ≠ e → (N_poc e i w).1 27 k = w.1 27 k) ∧ (((N_poc e i w).1 42 (60 * e + i) = 1 ∧ (N_poc e i w).1 27 e = w.1 27 e) ∨ ((N_poc e i w).1 42 (60 * e + i) = 2 ∧ (N_poc e i w).1 27 e = w.1 27 e + 1)) := by
  unfold N_poc
  split
  · refine ⟨fun k hk => by rw [N_pc_42, if_neg hk], fun k _ => N_pc_1 e i w (by decide) k, Or.inl ⟨by rw [N_pc_42, if_pos rfl], N_pc_1 e i w (by decide) e⟩⟩
  · refine ⟨fun k hk => by rw [uI_1, if_neg (by omega), uI_1, if_neg (fun z => hk z.2)], fun k hk => by rw [uI_1, if_neg (fun z => hk z.2), uI_1, if_neg (by omega)], Or.inr ⟨by rw [uI_1, if_neg (by omega), uI_1, if_pos ⟨rfl, rfl⟩], ?_⟩⟩
    rw [uI_1, if_pos ⟨rfl, rfl⟩, uI_1, if_neg (by omega)]
theorem N_poh_fr {e H : Nat} {w : Wt} : (nf (N_poh e) H 0 w).1 = w.1 ∧ ∀ a k, a ≠ 1 → a ≠ 2 → a ≠ 28 → a ≠ 29 → (nf (N_poh e) H 0 w).2 a k = w.2 a k :=
  nf_inv (f := N_poh e) (P := fun _ b => b.1 = w.1 ∧ ∀ a k, a ≠ 1 → a ≠ 2 → a ≠ 28 → a ≠ 29 → b.2 a k = w.2 a k) (L := H) (fun i b _ hb => ⟨hb.1, fun a k h1 h2 h3 h4 => by
    unfold N_poh N_give N_issue N_pu N_add
    rw [uJ_2, if_neg (by omega), uJ_2, if_neg (by omega), uJ_2, if_neg (by omega), uJ_2, if_neg (by omega)]
    exact hb.2 a k h1 h2 h3 h4⟩) H 0 w (by omega) ⟨rfl, fun _ _ _ _ _ _ => rfl⟩
theorem N_po_fr {H C e : Nat} {w : Wt} (hC6 : C ≤ 60) (h0 : w.1 27 e = nI 0) (hz : ∀ i, i < C → w.1 42 (60 * e + i) ≠ 2) : (∀ a k, a ≠ 42 → a ≠ 27 → (N_po H C e w).1 a k = w.1 a k) ∧ (∀ k, k ≠ e → (N_po H C e w).1 27 k = w.1 27 k) ∧ (∀ k, (k < 60 * e ∨ 60 * e + 60 ≤ k) → (N_po H C e w).1 42 k = w.1 42 k) ∧
    (∀ a k, a ≠ 1 → a ≠ 2 → a ≠ 28 → a ≠ 29 → (N_po H C e w).2 a k = w.2 a k) ∧ (N_po H C e w).1 27 e = nI (cn (fun i => (N_po H C e w).1 42 (60 * e + i)) C) := by
  have f1 := N_poh_fr (e := e) (H := H) (w := w)
  have s := nf_inv (f := N_poc e) (P := fun i b => (∀ a k, a ≠ 42 → a ≠ 27 → b.1 a k = w.1 a k) ∧ (∀ k, k ≠ e → b.1 27 k = w.1 27 k) ∧ (∀ k, (k < 60 * e ∨ 60 * e + 60 ≤ k) → b.1 42 k = w.1 42 k) ∧
    (∀ a k, a ≠ 1 → a ≠ 2 → a ≠ 28 → a ≠ 29 → b.2 a k = w.2 a k) ∧ b.1 27 e = nI (cn (fun i => b.1 42 (60 * e + i)) i) ∧ ∀ j, i ≤ j → j < C → b.1 42 (60 * e + j) ≠ 2) (L := C) (fun i b hi hb => by
      obtain ⟨b1, b2, b3, b4, b5, b6⟩ := hb
      obtain ⟨p1, p2, p3⟩ := N_poc_42 e i b
      refine ⟨fun a k h1 h2 => (N_poc_1 e i b h1 h2 k).trans (b1 a k h1 h2), fun k hk => (p2 k hk).trans (b2 k hk), fun k hk => (p1 k (by omega)).trans (b3 k hk), fun a k h1 h2 h3 h4 => (N_poc_2 e i b h1 h2 k).trans (b4 a k h1 h2 h3 h4), ?_, fun j h1 h2 => by rw [p1 _ (by omega)]; exact b6 j (by omega) h2⟩
      have cc : cn (fun j => (N_poc e i b).1 42 (60 * e + j)) i = cn (fun j => b.1 42 (60 * e + j)) i := cn_congr i fun j hj => p1 _ (by omega)
      rw [cn, cc]
      rcases p3 with ⟨y1, y2⟩ | ⟨y1, y2⟩
      · show _ = nI (_ + if (N_poc e i b).1 42 (60 * e + i) = 2 then 1 else 0)
        rw [y1, y2, b5, if_neg (by decide), Nat.add_zero]
      · show _ = nI (_ + if (N_poc e i b).1 42 (60 * e + i) = 2 then 1 else 0)
        rw [y1, y2, b5, if_pos rfl, nI_1]) C 0 (nf (N_poh e) H 0 w) (by omega) ⟨fun a k _ _ => by rw [f1.1], fun k _ => by rw [f1.1], fun k _ => by rw [f1.1], f1.2, by rw [f1.1]; exact h0, fun j _ hj => by rw [f1.1]; exact hz j hj⟩
  rw [Nat.zero_add] at s
  exact ⟨s.1, s.2.1, s.2.2.1, s.2.2.2.1, s.2.2.2.2.1⟩
theorem N_pr_fr {H C e : Nat} {w : Wt} (hH : H ≤ 10) : (∀ a k, a ≠ 42 → (N_pr H C e w).1 a k = w.1 a k) ∧ (∀ k, (k < 60 * e ∨ 60 * e + C ≤ k) → (N_pr H C e w).1 42 k = w.1 42 k) ∧ (∀ i, i < C → (N_pr H C e w).1 42 (60 * e + i) = 1) ∧
    (∀ a k, (a = 32 ∨ a = 33 ∨ ((a = 34 ∨ a = 35 ∨ a = 36) ∧ (k < 10 * e ∨ 10 * e + 10 ≤ k))) → (N_pr H C e w).2 a k = w.2 a k) := by
  have f1 := nf_inv (f := N_prh C e) (P := fun _ b => b.1 = w.1 ∧ ∀ a k, (a = 32 ∨ a = 33 ∨ ((a = 34 ∨ a = 35 ∨ a = 36) ∧ (k < 10 * e ∨ 10 * e + 10 ≤ k))) → b.2 a k = w.2 a k) (L := H) (fun i b hi hb => ⟨(N_prh_1 C e i b).trans hb.1, fun a k h => by rw [N_prh_2 _ _ _ _ (by omega)]; exact hb.2 a k h⟩) H 0 w (by omega) ⟨rfl, fun _ _ _ => rfl⟩
  have s := nf_inv (f := N_prc e) (P := fun i b => (∀ a k, a ≠ 42 → b.1 a k = w.1 a k) ∧ (∀ k, (k < 60 * e ∨ 60 * e + C ≤ k) → b.1 42 k = w.1 42 k) ∧ (∀ j, j < i → b.1 42 (60 * e + j) = 1) ∧ (∀ a k, (a = 32 ∨ a = 33 ∨ ((a = 34 ∨ a = 35 ∨ a = 36) ∧ (k < 10 * e ∨ 10 * e + 10 ≤ k))) → b.2 a k = w.2 a k)) (L := C) (fun i b hi hb => by
      obtain ⟨b1, b2, b3, b4⟩ := hb
      unfold N_prc
      refine ⟨fun a k h => by rw [uI_1, if_neg (by omega)]; exact b1 a k h, fun k h => by rw [uI_1, if_neg (by omega)]; exact b2 k h, fun j hj => ?_, b4⟩
      rw [uI_1]
      by_cases z : j = i
      · rw [if_pos ⟨rfl, by omega⟩]
      · rw [if_neg (by omega)]; exact b3 j (by omega)) C 0 (nf (N_prh C e) H 0 w) (by omega) ⟨fun a k _ => by rw [f1.1], fun k _ => by rw [f1.1], fun j hj => by omega, f1.2⟩
  rw [Nat.zero_add] at s
  exact s
theorem Iv.pe {T G H e : Nat} {w : Wt} (h : Iv T G H w) (ok' : Ok T G H (N_pe H e w).1) (he : e < G) : Iv T G H (N_pe H e w) := by
  refine ⟨ok', fun o ho => ?_⟩
  have vo := h.2 o ho
  have co := (h.cnt ho).2
  have ve := h.2 e he
  have ce := h.cnt he
  have hH10 := h.1.2.2.2.2.2.1
  unfold N_pe
  by_cases g1 : w.1 25 e = 1
  · by_cases g2 : w.1 24 e = w.1 0 8
    · rw [if_pos g1, if_pos g2]
      have z27 : w.1 27 e = 0 := ve.2.2.2.1 g1
      have c0 : cn (fun i => w.1 42 (60 * e + i)) (Cn w e) = 0 := by
        have := ve.2.2.2.2.1
        rw [z27] at this
        have l := cn_le (fun i => w.1 42 (60 * e + i)) (Cn w e)
        exact ((nI_eq (a := 0) (by omega) (by omega)).mp this).symm
      by_cases g3 : w.1 14 e = 2
      · rw [if_pos g3]
        obtain ⟨p1, p2, p3, p4⟩ := N_pr_fr (H := H) (C := Cn w e) (e := e) (w := w) hH10
        show Ev (uI (N_pr H (Cn w e) e w) 25 e 2) o
        by_cases hoe : o = e
        · subst hoe
          obtain ⟨v1, v2, v3, v4, v5, v6, v7⟩ := vo
          have r27 : (uI (N_pr H (Cn w o) o w) 25 o 2).1 27 o = 0 := by rw [uI_1, if_neg (by omega), p1 _ _ (by decide)]; exact z27
          have r25 : (uI (N_pr H (Cn w o) o w) 25 o 2).1 25 o = 2 := by rw [uI_1, if_pos ⟨rfl, rfl⟩]
          have cc : Cn (uI (N_pr H (Cn w o) o w) 25 o 2) o = Cn w o := by
            show (_ : Int32).toNatClampNeg = _
            rw [uI_1, if_neg (by omega), p1 _ _ (by decide)]
            rfl
          refine ⟨by rw [uI_1, if_neg (by omega), p1 _ _ (by decide)]; exact v1, fun z => absurd (r25.symm.trans z) (by decide), fun _ => r27, fun _ => r27, ?_, fun k hk => ?_, fun z k hk => ?_⟩
          · rw [r27, cc, cn_none _ (fun i hi => by
              show (uI (N_pr H (Cn w o) o w) 25 o 2).1 42 (60 * o + i) ≠ 2
              rw [uI_1, if_neg (by omega), p3 i hi]
              decide)]
            rfl
          · rw [uI_2, p4 _ _ (by omega), p4 _ _ (by omega)]
            exact v6 k hk
          · rw [r25] at z
            rcases z with z | z <;> exact absurd z (by decide)
        · refine vo.same co (fun a ha => ?_) (Or.inl ?_) (fun i hi => ?_) (fun a ha k _ => ?_)
          · rw [uI_1, if_neg (by omega), p1 _ _ (by omega)]
          · rw [uI_1, if_neg (fun z => hoe z.2), p1 _ _ (by decide)]
          · rw [uI_1, if_neg (by omega), p2 _ (by omega)]
          · rw [uI_2, p4 _ _ (by omega)]
      · rw [if_neg g3]
        obtain ⟨p1, p2, p3, p4, p5⟩ := N_po_fr (H := H) (C := Cn w e) (e := e) (w := w) ce.2 z27 (cn_zero _ c0)
        show Ev (uI (N_po H (Cn w e) e w) 25 e 2) o
        by_cases hoe : o = e
        · subst hoe
          obtain ⟨v1, v2, v3, v4, v5, v6, v7⟩ := vo
          have r25 : (uI (N_po H (Cn w o) o w) 25 o 2).1 25 o = 2 := by rw [uI_1, if_pos ⟨rfl, rfl⟩]
          have cc : Cn (uI (N_po H (Cn w o) o w) 25 o 2) o = Cn w o := by
            show (_ : Int32).toNatClampNeg = _
            rw [uI_1, if_neg (by omega), p1 _ _ (by decide) (by decide)]
            rfl
          refine ⟨by rw [uI_1, if_neg (by omega), p1 _ _ (by decide) (by decide)]; exact v1, fun z => absurd (r25.symm.trans z) (by decide), fun z => ?_, fun z => absurd (r25.symm.trans z) (by decide), ?_, fun k hk => ?_, fun z k hk => ?_⟩
          · rw [uI_1, if_neg (by omega), p1 _ _ (by decide) (by decide)] at z
            exact absurd z g3
          · rw [uI_1, if_neg (by omega), p5, cc]
            exact congrArg nI (cn_congr _ fun i _ => by
              show _ = (uI (N_po H (Cn w o) o w) 25 o 2).1 42 (60 * o + i)
              rw [uI_1, if_neg (by omega)])
          · rw [uI_2, p4 _ _ (by decide) (by decide) (by decide) (by decide), p4 _ _ (by decide) (by decide) (by decide) (by decide)]
            exact v6 k hk
          · rw [r25] at z
            rcases z with z | z <;> exact absurd z (by decide)
        · refine vo.same co (fun a ha => ?_) (Or.inl ?_) (fun i hi => ?_) (fun a ha k _ => ?_)
          · rw [uI_1, if_neg (by omega)]
            by_cases h27 : a = 27
            · subst h27
              exact p2 _ hoe
            · exact p1 _ _ (by omega) h27
          · rw [uI_1, if_neg (fun z => hoe z.2), p1 _ _ (by decide) (by decide)]
          · rw [uI_1, if_neg (by omega), p3 _ (by omega)]
          · rw [uI_2, p4 _ _ (by omega) (by omega) (by omega) (by omega)]
    · rw [if_pos g1, if_neg g2]
      exact vo
  · rw [if_neg g1]
    exact vo
theorem Iv.pwi {T G H e i : Nat} {w : Wt} (h : Iv T G H w) (he : e < G) (hi : i < Cn w e) : Iv T G H (N_pwi e i w) := by
  refine ⟨h.1.pwi, fun o ho => ?_⟩
  have vo := h.2 o ho
  have co := (h.cnt ho).2
  have ce := (h.cnt he).2
  unfold N_pwi
  by_cases g1 : w.1 27 e ≤ 0
  · rw [if_pos g1]; exact vo
  · by_cases g2 : w.1 42 (60 * e + i) = 2
    · by_cases g3 : N_pcB e i w
      · rw [if_neg g1, if_pos g2, if_pos g3]
        by_cases hoe : o = e
        · subst hoe
          obtain ⟨v1, v2, v3, v4, v5, v6, v7⟩ := vo
          have z0 : w.1 27 o ≠ 0 := fun z => g1 (by rw [z]; decide)
          have q : ∀ a k, a ≠ 42 → a ≠ 27 → (uI (N_pc o i w) 27 o ((N_pc o i w).1 27 o - 1)).1 a k = w.1 a k := fun a k h1 h2 => by rw [uI_1, if_neg (by omega), N_pc_1 o i w h1]
          have cc : Cn (uI (N_pc o i w) 27 o ((N_pc o i w).1 27 o - 1)) o = Cn w o := by
            show (_ : Int32).toNatClampNeg = _
            rw [q _ _ (by decide) (by decide)]
            rfl
          refine ⟨by rw [q _ _ (by decide) (by decide)]; exact v1, fun z => by rw [q _ _ (by decide) (by decide)] at z ⊢; exact v2 z, fun z => ?_, fun z => ?_, ?_, fun k hk => ?_, fun z k hk => ?_⟩
          · rw [q _ _ (by decide) (by decide)] at z
            exact absurd (v3 z) z0
          · rw [q _ _ (by decide) (by decide)] at z
            exact absurd (v4 z) z0
          · have less := cn_less (g := fun j => w.1 42 (60 * o + j)) (g' := fun j => (uI (N_pc o i w) 27 o ((N_pc o i w).1 27 o - 1)).1 42 (60 * o + j)) (j := i) g2 (by
              show (uI (N_pc o i w) 27 o ((N_pc o i w).1 27 o - 1)).1 42 (60 * o + i) ≠ 2
              rw [uI_1, if_neg (by omega), N_pc_42, if_pos rfl]
              decide) (fun j hj => by
              show (uI (N_pc o i w) 27 o ((N_pc o i w).1 27 o - 1)).1 42 (60 * o + j) = _
              rw [uI_1, if_neg (by omega), N_pc_42, if_neg (by omega)]) (Cn w o) hi
            have e27 : (uI (N_pc o i w) 27 o ((N_pc o i w).1 27 o - 1)).1 27 o = w.1 27 o - 1 := by rw [uI_1, if_pos ⟨rfl, rfl⟩, N_pc_1 o i w (by decide)]
            rw [cc, e27, v5, ← less, nI_pred]
          · rw [uI_2, N_pc_2 _ _ _ (by decide) (by decide), N_pc_2 _ _ _ (by decide) (by decide)]
            exact v6 k hk
          · rw [uI_2, N_pc_2 _ _ _ (by decide) (by decide), N_pc_2 _ _ _ (by decide) (by decide)]
            rw [q _ _ (by decide) (by decide)] at z
            exact v7 z k hk
        · refine vo.same co (fun a ha => ?_) (Or.inl ?_) (fun j hj => ?_) (fun a ha k _ => ?_)
          · rw [uI_1, if_neg (by omega), N_pc_1 _ _ _ (by omega)]
          · rw [uI_1, if_neg (by omega), N_pc_1 _ _ _ (by decide)]
          · rw [uI_1, if_neg (by omega), N_pc_42, if_neg (by omega)]
          · rw [uI_2, N_pc_2 _ _ _ (by omega) (by omega)]
      · rw [if_neg g1, if_pos g2, if_neg g3]; exact vo
    · rw [if_neg g1, if_neg g2]; exact vo
