/-! BOUNDS: EVENTS are written -/
theorem col_b {g : Nat → Int64} {r : Nat → Int64} {p : Nat} (hp : p < 5) (hg : ∀ i, i < 50 → 0 ≤ (g i).toInt) (hr : ∀ h, h < 10 → (r h).toInt ≤ (g (5 * h + p)).toInt) : ∀ m, m ≤ 10 → sm r m ≤ sm g (5 * m) := by
  intro m
  induction m with
  | zero => intro _; exact Int.le_refl _
  | succ m ih =>
    intro hm
    have i1 := ih (by omega)
    have b := sm_blk hg (h := m) (p := p) (by omega) hp
    have := hr m (by omega)
    rw [sm]
    omega
theorem ws_row {e H : Nat} {w : Wt} (hH : H ≤ 10) : (∀ h, h < 10 → (nf (N_ws e) H 0 w).2 31 (10 * e + h) = if h < H then w.2 1 (ix (nI h) (w.1 15 e)) else w.2 31 (10 * e + h)) ∧ ∀ k, (k < 10 * e ∨ 10 * e + 10 ≤ k) → (nf (N_ws e) H 0 w).2 31 k = w.2 31 k := by
  have s := nf_inv (f := N_ws e) (P := fun i b => b.1 = w.1 ∧ (∀ k, b.2 1 k = w.2 1 k) ∧ (∀ h, h < 10 → b.2 31 (10 * e + h) = if h < i then w.2 1 (ix (nI h) (w.1 15 e)) else w.2 31 (10 * e + h)) ∧ ∀ k, (k < 10 * e ∨ 10 * e + 10 ≤ k) → b.2 31 k = w.2 31 k) (L := H) (fun i b hi hb => by
    obtain ⟨c1, c2, c3, c4⟩ := hb
    refine ⟨c1, fun k => ?_, fun h hh => ?_, fun k hk => ?_⟩
    · unfold N_ws
      rw [uJ_2, if_neg (by omega)]; exact c2 k
    · unfold N_ws
      rw [uJ_2]
      by_cases z : h = i
      · subst z
        rw [if_pos ⟨rfl, rfl⟩, if_pos (by omega), c2, c1]
      · rw [if_neg (by omega), c3 h hh]
        by_cases y : h < i
        · rw [if_pos y, if_pos (by omega)]
        · rw [if_neg y, if_neg (by omega)]
    · unfold N_ws
      rw [uJ_2, if_neg (by omega)]; exact c4 k hk) H 0 w (by omega) ⟨rfl, fun _ => rfl, fun h _ => by rw [if_neg (Nat.not_lt_zero h)], fun _ _ => rfl⟩
  obtain ⟨-, -, s3, s4⟩ := s
  rw [Nat.zero_add] at s3
  exact ⟨s3, s4⟩
theorem ac_row {e c t : Nat} {x y : Int32} {b : Wt} (hC : b.1 26 e = nI c) (hc : c < 60) : (∀ k, (N_ac e x y t b).1 38 k = if k = 60 * e + c then x else b.1 38 k) ∧ (∀ k, (N_ac e x y t b).1 39 k = if k = 60 * e + c then y else b.1 39 k) ∧ (∀ k, (N_ac e x y t b).2 40 k = if k = 60 * e + c then b.2 7 t else b.2 40 k) ∧ (N_ac e x y t b).1 26 e = nI (c + 1) ∧ ∀ k, (N_ac e x y t b).2 7 k = b.2 7 k := by
  have q : cq e b = 60 * e + c := by unfold cq; rw [hC, nI_clamp (by omega)]
  have l : ¬ (60 : Int32) ≤ b.1 26 e := by rw [hC]; exact nI_ge (a := c) (b := 60) hc (by omega)
  unfold N_ac
  rw [if_neg l, q]
  refine ⟨fun k => ?_, fun k => ?_, fun k => ?_, ?_, fun k => ?_⟩
  · rw [uI_1, if_neg (by omega), uI_1, if_neg (by omega), uI_1, if_neg (by omega), uJ_1, uI_1, if_neg (by omega), uI_1]
    by_cases z : k = 60 * e + c
    · rw [if_pos ⟨rfl, z⟩, if_pos z]
    · rw [if_neg (fun y => z y.2), if_neg z]
  · rw [uI_1, if_neg (by omega), uI_1, if_neg (by omega), uI_1, if_neg (by omega), uJ_1, uI_1]
    by_cases z : k = 60 * e + c
    · rw [if_pos ⟨rfl, z⟩, if_pos z]
    · rw [if_neg (fun y => z y.2), if_neg z, uI_1, if_neg (by omega)]
  · rw [uI_2, uI_2, uI_2, uJ_2]
    by_cases z : k = 60 * e + c
    · rw [if_pos ⟨rfl, z⟩, if_pos z]
    · rw [if_neg (fun y => z y.2), if_neg z, uI_2, uI_2]
  · rw [uI_1, if_pos ⟨rfl, rfl⟩, hC, nI_1]
  · rw [uI_2, uI_2, uI_2, uJ_2, if_neg (by omega), uI_2, uI_2]
theorem mc_b {T H e : Nat} {K : Int} {w : Wt} (hT : T ≤ 60) (hC : w.1 26 e = 0) (hst : ∀ t, t < T → inL (w.1 4 t) H ∧ inL (w.1 5 t) H ∧ w.1 4 t ≠ w.1 5 t) (h7 : ∀ t, t < T → 0 ≤ (w.2 7 t).toInt ∧ (w.2 7 t).toInt ≤ K) :
    (∀ k, (k < 60 * e ∨ 60 * e + 60 ≤ k) → (nf (N_mc e) T 0 w).1 38 k = w.1 38 k ∧ (nf (N_mc e) T 0 w).1 39 k = w.1 39 k ∧ (nf (N_mc e) T 0 w).2 40 k = w.2 40 k) ∧
    ∃ c, c ≤ 60 ∧ (nf (N_mc e) T 0 w).1 26 e = nI c ∧ ∀ i, i < c → (inL ((nf (N_mc e) T 0 w).1 38 (60 * e + i)) H ∧ inL ((nf (N_mc e) T 0 w).1 39 (60 * e + i)) H ∧ (nf (N_mc e) T 0 w).1 38 (60 * e + i) ≠ (nf (N_mc e) T 0 w).1 39 (60 * e + i)) ∧ 0 ≤ ((nf (N_mc e) T 0 w).2 40 (60 * e + i)).toInt ∧ ((nf (N_mc e) T 0 w).2 40 (60 * e + i)).toInt ≤ K := by
  have s := nf_inv (f := N_mc e) (P := fun j b => (∀ a k, a ≠ 38 → a ≠ 39 → a ≠ 41 → a ≠ 42 → a ≠ 26 → b.1 a k = w.1 a k) ∧ (∀ k, b.2 7 k = w.2 7 k) ∧ (∀ k, (k < 60 * e ∨ 60 * e + 60 ≤ k) → b.1 38 k = w.1 38 k ∧ b.1 39 k = w.1 39 k ∧ b.2 40 k = w.2 40 k) ∧
    ∃ c, c ≤ j ∧ b.1 26 e = nI c ∧ ∀ i, i < c → (inL (b.1 38 (60 * e + i)) H ∧ inL (b.1 39 (60 * e + i)) H ∧ b.1 38 (60 * e + i) ≠ b.1 39 (60 * e + i)) ∧ 0 ≤ (b.2 40 (60 * e + i)).toInt ∧ (b.2 40 (60 * e + i)).toInt ≤ K) (L := T) (fun j b hj hb => by
    obtain ⟨c1, c2, c3, c, c4, c5, c6⟩ := hb
    have hs := hst j hj
    have h4 : b.1 4 j = w.1 4 j := c1 _ _ (by decide) (by decide) (by decide) (by decide) (by decide)
    have h5 : b.1 5 j = w.1 5 j := c1 _ _ (by decide) (by decide) (by decide) (by decide) (by decide)
    have key : ∀ x y : Int32, inL x H → inL y H → x ≠ y → (∀ a k, a ≠ 38 → a ≠ 39 → a ≠ 41 → a ≠ 42 → a ≠ 26 → (N_ac e x y j b).1 a k = w.1 a k) ∧ (∀ k, (N_ac e x y j b).2 7 k = w.2 7 k) ∧ (∀ k, (k < 60 * e ∨ 60 * e + 60 ≤ k) → (N_ac e x y j b).1 38 k = w.1 38 k ∧ (N_ac e x y j b).1 39 k = w.1 39 k ∧ (N_ac e x y j b).2 40 k = w.2 40 k) ∧
        ∃ c, c ≤ j + 1 ∧ (N_ac e x y j b).1 26 e = nI c ∧ ∀ i, i < c → (inL ((N_ac e x y j b).1 38 (60 * e + i)) H ∧ inL ((N_ac e x y j b).1 39 (60 * e + i)) H ∧ (N_ac e x y j b).1 38 (60 * e + i) ≠ (N_ac e x y j b).1 39 (60 * e + i)) ∧ 0 ≤ ((N_ac e x y j b).2 40 (60 * e + i)).toInt ∧ ((N_ac e x y j b).2 40 (60 * e + i)).toInt ≤ K := by
      intro x y hx hy hxy
      obtain ⟨r1, r2, r3, r4, r5⟩ := ac_row (x := x) (y := y) (t := j) c5 (by omega)
      refine ⟨fun a k z1 z2 z3 z4 z5 => by rw [N_ac_1 e x y j b a k ⟨z1, z2, z3, z4, z5⟩]; exact c1 a k z1 z2 z3 z4 z5, fun k => (r5 k).trans (c2 k), fun k hk => ?_, c + 1, by omega, r4, fun i hi => ?_⟩
      · rw [r1, r2, r3, if_neg (by omega), if_neg (by omega), if_neg (by omega)]
        exact c3 k hk
      · rw [r1, r2, r3]
        by_cases z : i = c
        · subst z
          rw [if_pos rfl, if_pos rfl, if_pos rfl, c2]
          exact ⟨⟨hx, hy, hxy⟩, h7 j hj⟩
        · rw [if_neg (by omega), if_neg (by omega), if_neg (by omega)]
          exact c6 i (by omega)
    have stay : (∀ a k, a ≠ 38 → a ≠ 39 → a ≠ 41 → a ≠ 42 → a ≠ 26 → b.1 a k = w.1 a k) ∧ (∀ k, b.2 7 k = w.2 7 k) ∧ (∀ k, (k < 60 * e ∨ 60 * e + 60 ≤ k) → b.1 38 k = w.1 38 k ∧ b.1 39 k = w.1 39 k ∧ b.2 40 k = w.2 40 k) ∧
        ∃ c, c ≤ j + 1 ∧ b.1 26 e = nI c ∧ ∀ i, i < c → (inL (b.1 38 (60 * e + i)) H ∧ inL (b.1 39 (60 * e + i)) H ∧ b.1 38 (60 * e + i) ≠ b.1 39 (60 * e + i)) ∧ 0 ≤ (b.2 40 (60 * e + i)).toInt ∧ (b.2 40 (60 * e + i)).toInt ≤ K := ⟨c1, c2, c3, c, by omega, c5, c6⟩
    have k1 := key (b.1 5 j) (b.1 4 j) (by rw [h5]; exact hs.2.1) (by rw [h4]; exact hs.1) (by rw [h4, h5]; exact fun z => hs.2.2 z.symm)
    have k2 := key (b.1 4 j) (b.1 5 j) (by rw [h4]; exact hs.1) (by rw [h5]; exact hs.2.1) (by rw [h4, h5]; exact hs.2.2)
    unfold N_mc
    by_cases z1 : b.1 6 j = b.1 15 e
    · rw [if_pos z1]
      by_cases z2 : b.1 11 j = 0
      · rw [if_pos z2]
        by_cases z3 : b.1 22 e ≤ b.1 9 j
        · rw [if_pos z3]; exact stay
        · rw [if_neg z3]; exact k1
      · rw [if_neg z2]
        by_cases z3 : b.1 11 j = 1
        · rw [if_pos z3]
          by_cases z4 : b.1 22 e ≤ b.1 9 j
          · rw [if_pos z4]; exact k2
          · rw [if_neg z4]; exact stay
        · rw [if_neg z3]; exact stay
    · rw [if_neg z1]; exact stay) T 0 w (by omega) ⟨fun _ _ _ _ _ _ _ => rfl, fun _ => rfl, fun _ _ => ⟨rfl, rfl, rfl⟩, 0, by omega, hC, fun i hi => absurd hi (Nat.not_lt_zero i)⟩
  obtain ⟨-, -, s3, c, s4, s5, s6⟩ := s
  exact ⟨s3, c, by omega, s5, s6⟩
theorem tp_25 {T G H e : Nat} {w : Wt} (h : ∀ k, k < G → inL (w.1 25 k) 4) : ∀ k, k < G → inL ((N_tp T G H e w).1 25 k) 4 := by
  have f1 := nf_inv (f := N_tph e) (P := fun _ b => b.1 = w.1) (L := H) (fun i b _ hb => by unfold N_tph; rw [N_give_1, N_add_1]; exact hb) H 0 w (by omega) rfl
  have f2 := nf_inv (f := N_tpt e) (P := fun _ b => ∀ k, b.1 25 k = w.1 25 k) (L := T) (fun i b _ hb k => by rw [N_tpt_1 _ _ _ (by decide) (by decide) (by decide)]; exact hb k) T 0 (nf (N_tph e) H 0 w) (by omega) (fun k => by rw [f1])
  have f3 := nf_inv (f := N_drop e) (P := fun _ b => ∀ k, k < G → inL (b.1 25 k) 4) (L := G) (fun i b _ hb k hk => by
    unfold N_drop
    split
    · rw [uI_1]
      split
      · decide
      · exact hb k hk
    · exact hb k hk) G 0 (nf (N_tpt e) T 0 (nf (N_tph e) H 0 w)) (by omega) (fun k hk => by rw [f2]; exact h k hk)
  intro k hk
  unfold N_tp
  rw [uI_1]
  split
  · decide
  · exact f3 k hk
theorem Iw.we {T G H P e : Nat} {w : Wt} (iv : Iv T G H w) (h : Iw T G H P w) (he : e < G) : Iw T G H P (N_we T G H e w) := by
  have hB := h.2.2.2.2.2.2
  have hG := iv.1.2.2.2.1
  have hT := iv.1.2.1
  have hH := iv.1.2.2.2.2.2.1
  have dl := dn_le w G
  have s8 := mxS_8 (dn w G) (by omega)
  have t8 := mxT_8 (dn w G) (by omega)
  have t0 := mxT_pos (dn w G)
  have s0 := mxS_pos (dn w G)
  have o := h.2.2.2.2.1 e he
  have ok := iv.1.2.2.2.2.2.2.2 e he
  obtain ⟨ev1, ev2, ev3, ev4, ev5, ev6, ev7⟩ := iv.2 e he
  unfold N_we
  by_cases st : w.1 25 e = 0
  · rw [if_pos st]
    by_cases dy : w.1 23 e = w.1 0 8
    · rw [if_pos dy]
      obtain ⟨f1, f2⟩ := N_ws_fr (e := e) (H := H) (w := w)
      obtain ⟨r1, r2⟩ := ws_row (e := e) (H := H) (w := w) hH
      have z31 := (hB.2.2.2.2 e he).2 st
      obtain ⟨p, p5, ep⟩ := inL_of ok.1 (by decide)
      have row : ∀ j, j < 10 → 0 ≤ ((nf (N_ws e) H 0 w).2 31 (10 * e + j)).toInt ∧ ((nf (N_ws e) H 0 w).2 31 (10 * e + j)).toInt ≤ (w.2 1 (5 * j + p)).toInt := fun j hj => by
        have b := hB.1 (5 * j + p) (by omega)
        rw [r1 j hj]
        by_cases z : j < H
        · rw [if_pos z, ep, ix_nI hj p5]; omega
        · rw [if_neg z, z31 j hj, i64_z]; omega
      have tot : sm (fun j => (nf (N_ws e) H 0 w).2 31 (10 * e + j)) 10 ≤ mxS (dn w G) := Int.le_trans (col_b (g := w.2 1) (r := fun j => (nf (N_ws e) H 0 w).2 31 (10 * e + j)) p5 hB.1 (fun j hj => (row j hj).2) 10 (Nat.le_refl _)) hB.2.1
      have o31 : ∀ k, k ≠ e → ∀ j, j < 10 → (nf (N_ws e) H 0 w).2 31 (10 * k + j) = w.2 31 (10 * k + j) := fun k hk j hj => r2 _ (by omega)
      generalize nf (N_ws e) H 0 w = v at *
      have f1' : ∀ a k, v.1 a k = w.1 a k := fun a k => by rw [f1]
      have hS : Sh0 (mxS (dn w G)) (v.2 1) := by
        rw [show v.2 1 = w.2 1 from funext fun k => f2 1 k (by decide)]
        exact hB.S
      by_cases tn : w.1 14 e = 3
      · rw [if_pos tn]
        obtain ⟨g1, g2, g3, g4⟩ := N_tp_fr (T := T) (G := G) (H := H) (e := e) (w := v)
        have g5 := tp_25 (T := T) (G := G) (H := H) (e := e) (w := v) (fun k hk => by rw [f1']; exact (h.2.2.2.2.1 k hk).1)
        obtain ⟨q1, q2⟩ := tp_b (T := T) (G := G) (H := H) (e := e) (w := v) (K := mxT (dn w G)) hH (by rw [f1']; exact ok.1) (by rw [f1']; exact ok.2.1 tn) (by rw [f1']; exact o.2.2.1) (by rw [f1']; exact o.2.2.2.1) (by rw [f1']; exact ev1) hS (by omega) (by omega) (fun t ht => by rw [f2 _ _ (by decide)]; exact hB.2.2.1 t ht)
        generalize N_tp T G H e v = u at *
        have md := dn_mono (w := w) (u := u) G (fun k _ => by
          rcases g2 k with z | z
          · exact Or.inl (by rw [z, f1'])
          · exact Or.inr (Or.inr z))
        have m1 := md.2 e he (Or.inl st) (by rw [g3]; decide)
        have S2 : 9 * mxS (dn w G) ≤ mxS (dn u G) := Int.le_trans (show 9 * mxS (dn w G) ≤ mxS (dn w G + 1) by rw [mxS]; omega) (mxS_le m1)
        have S3 := mxS_le md.1
        have T2 : 9 * mxT (dn w G) ≤ mxT (dn u G) := Int.le_trans (show 9 * mxT (dn w G) ≤ mxT (dn w G + 1) by rw [mxT]; omega) (mxT_le m1)
        have eC : ∀ k, Cn u k = Cn w k := fun k => by unfold Cn; rw [g1 26 k (by decide) (by decide) (by decide) (by decide), f1']
        refine h.fr (fun a k z => by rw [g1 a k (by omega) (by omega) (by omega) (by omega), f1']) g5 (fun k hk i hi => ?_) (hB.up md.1 (q1.le S2) (fun t ht => ?_) (fun k hk i hi => ?_) (fun k hk => ?_))
        · rw [eC] at hi
          rw [g1 _ _ (by decide) (by decide) (by decide) (by decide), g1 _ _ (by decide) (by decide) (by decide) (by decide), f1', f1']
          exact h.2.2.2.2.2.1 k hk i hi
        · have := q2 t ht; omega
        · rw [eC] at hi
          have q := hB.2.2.2.1 k hk i hi
          rw [g4 _ _ (by decide) (by decide) (by decide) (by decide) (by decide) (by decide), f2 _ _ (by decide)]
          omega
        · by_cases z : k = e
          · subst z
            refine Or.inr ⟨fun j hj => by rw [g4 _ _ (by decide) (by decide) (by decide) (by decide) (by decide) (by decide)]; exact (row j hj).1, ?_, by rw [g3]; decide⟩
            rw [sm_congr 10 (fun j hj => g4 31 _ (by decide) (by decide) (by decide) (by decide) (by decide) (by decide))]
            omega
          · refine Or.inl ⟨fun j hj => by rw [g4 _ _ (by decide) (by decide) (by decide) (by decide) (by decide) (by decide)]; exact o31 k z j hj, fun y => ?_⟩
            rcases g2 k with x | x
            · rw [← f1' 25 k, ← x]; exact y
            · exact absurd y x.1
      · rw [if_neg tn]
        have hC : v.1 26 e = 0 := by rw [f1']; exact ev2 st
        obtain ⟨g1, g2, g3, -, -⟩ := N_mc_fr (e := e) (T := T) (w := v) hC hT
        obtain ⟨m1, c, m2, m3, m4⟩ := mc_b (T := T) (H := H) (e := e) (K := mxT (dn w G)) (w := v) hT hC (fun t ht => by rw [f1', f1']; have i4 := h.2.2.2.1 t ht; exact ⟨i4.1, i4.2.1, i4.2.2.1⟩) (fun t ht => by rw [f2 _ _ (by decide)]; exact hB.2.2.1 t ht)
        generalize nf (N_mc e) T 0 v = u at *
        have f' : ∀ a k, a ≠ 38 → a ≠ 39 → a ≠ 41 → a ≠ 42 → a ≠ 26 → a ≠ 25 → (uI u 25 e 1).1 a k = w.1 a k := fun a k h1 h2 h3 h4 h5 h6 => by rw [uI_1, if_neg (fun z => h6 z.1), g1 a k h1 h2 h3 h4 h5, f1']
        have f25 : ∀ k, (uI u 25 e 1).1 25 k = if k = e then 1 else w.1 25 k := fun k => by
          rw [uI_1]
          by_cases z : k = e
          · rw [if_pos ⟨rfl, z⟩, if_pos z]
          · rw [if_neg (fun y => z y.2), if_neg z, g1 25 k (by decide) (by decide) (by decide) (by decide) (by decide), f1']
        have ed : dn (uI u 25 e 1) G = dn w G := by
          have : ∀ m, dn (uI u 25 e 1) m = dn w m := by
            intro m
            induction m with
            | zero => rfl
            | succ m ih =>
              rw [dn, dn, ih, f25]
              by_cases z : m = e
              · subst z; rw [if_pos rfl, if_pos (Or.inr rfl), if_pos (Or.inl st)]
              · rw [if_neg z]
          exact this G
        have eC : ∀ k, k ≠ e → Cn (uI u 25 e 1) k = Cn w k := fun k hk => by unfold Cn; rw [uI_1, if_neg (by omega), g3 k hk, f1']
        have eCe : Cn (uI u 25 e 1) e = c := by unfold Cn; rw [uI_1, if_neg (by omega), m3, nI_clamp (by omega)]
        refine h.fr (fun a k z => f' a k (by omega) (by omega) (by omega) (by omega) (by omega) (by omega)) (fun k hk => ?_) (fun k hk i hi => ?_) (hB.up (by rw [ed]; exact Nat.le_refl _) ?_ (fun t ht => ?_) (fun k hk i hi => ?_) (fun k hk => ?_))
        · rw [f25]
          by_cases z : k = e
          · rw [if_pos z]; decide
          · rw [if_neg z]; exact (h.2.2.2.2.1 k hk).1
        · rw [uI_1, if_neg (by omega), uI_1, if_neg (by omega)]
          by_cases z : k = e
          · subst z
            rw [eCe] at hi
            exact (m4 i hi).1
          · rw [eC k z] at hi
            have c6 := (iv.cnt hk).2
            have mm := m1 (60 * k + i) (by omega)
            rw [mm.1, mm.2.1, f1', f1']
            exact h.2.2.2.2.2.1 k hk i hi
        · rw [ed, uI_2, show u.2 1 = v.2 1 from funext fun k => g2 1 k (by decide)]
          exact hS
        · rw [ed, uI_2, g2 _ _ (by decide), f2 _ _ (by decide)]; exact hB.2.2.1 t ht
        · rw [ed, uI_2]
          by_cases z : k = e
          · subst z
            rw [eCe] at hi
            exact (m4 i hi).2
          · rw [eC k z] at hi
            have c6 := (iv.cnt hk).2
            have mm := m1 (60 * k + i) (by omega)
            rw [mm.2.2, f2 _ _ (by decide)]
            exact hB.2.2.2.1 k hk i hi
        · rw [f25]
          by_cases z : k = e
          · subst z
            refine Or.inr ⟨fun j hj => by rw [uI_2, g2 _ _ (by decide)]; exact (row j hj).1, ?_, by rw [if_pos rfl]; decide⟩
            rw [ed, uI_2, sm_congr 10 (fun j hj => g2 31 _ (by decide))]
            exact tot
          · refine Or.inl ⟨fun j hj => by rw [uI_2, g2 _ _ (by decide)]; exact o31 k z j hj, fun y => ?_⟩
            rw [if_neg z] at y
            exact y
    · rw [if_neg dy]; exact h
  · rw [if_neg st]; exact h
