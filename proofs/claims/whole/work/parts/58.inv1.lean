/-! WHAT HOLDS OF A STATE, kept by a DAY -/
theorem cn_congr {g g' : Nat → Int32} : ∀ m, (∀ i, i < m → g i = g' i) → cn g m = cn g' m := by
  intro m
  induction m with
  | zero => intro _; rfl
  | succ m ih =>
    intro h
    rw [cn, cn, ih (fun i hi => h i (by omega)), h m (by omega)]
theorem cn_le (g : Nat → Int32) : ∀ m, cn g m ≤ m := by
  intro m
  induction m with
  | zero => exact Nat.le_refl _
  | succ m ih => rw [cn]; split <;> omega
theorem cn_none {g : Nat → Int32} : ∀ m, (∀ i, i < m → g i ≠ 2) → cn g m = 0 := by
  intro m
  induction m with
  | zero => intro _; rfl
  | succ m ih =>
    intro h
    rw [cn, ih (fun i hi => h i (by omega)), if_neg (h m (by omega))]
theorem cn_zero {g : Nat → Int32} : ∀ m, cn g m = 0 → ∀ i, i < m → g i ≠ 2 := by
  intro m
  induction m with
  | zero => intro _ i hi; omega
  | succ m ih =>
    intro h i hi
    rw [cn] at h
    by_cases e : g m = 2
    · rw [if_pos e] at h; omega
    · rw [if_neg e] at h
      by_cases k : i = m
      · rw [k]; exact e
      · exact ih h i (by omega)
/-- one of them is one no more -/
theorem cn_less {g g' : Nat → Int32} {j : Nat} (h1 : g j = 2) (h2 : g' j ≠ 2) (h : ∀ i, i ≠ j → g' i = g i) : ∀ m, j < m → cn g' m + 1 = cn g m := by
  intro m
  induction m with
  | zero => intro hj; omega
  | succ m ih =>
    intro hj
    rw [cn, cn]
    by_cases e : j = m
    · subst e
      rw [if_pos h1, if_neg h2, cn_congr j (fun i hi => h i (by omega))]
    · rw [h m (fun z => e z.symm)]
      have := ih (by omega)
      omega
def Iv (T G H : Nat) (w : Wt) : Prop := Ok T G H w.1 ∧ ∀ e, e < G → Ev w e
theorem Ev.same {w u : Wt} {e : Nat} (v : Ev w e) (hC : Cn w e ≤ 60) (h1 : ∀ a, a = 14 ∨ a = 18 ∨ a = 26 ∨ a = 27 → u.1 a e = w.1 a e) (h25 : u.1 25 e = w.1 25 e ∨ (u.1 25 e ≠ 0 ∧ u.1 25 e ≠ 1)) (h2 : ∀ i, i < 60 → u.1 42 (60 * e + i) = w.1 42 (60 * e + i))
    (h3 : ∀ a, a = 32 ∨ a = 33 ∨ a = 34 ∨ a = 35 → ∀ h, h < 10 → u.2 a (10 * e + h) = w.2 a (10 * e + h)) : Ev u e := by
  obtain ⟨v1, v2, v3, v4, v5, v6, v7⟩ := v
  have c : Cn u e = Cn w e := by unfold Cn; rw [h1 26 (by simp)]
  refine ⟨by rw [h1 18 (by simp)]; exact v1, fun z => ?_, fun z => ?_, fun z => ?_, ?_, fun h hh => ?_, fun z h hh => ?_⟩
  · rw [h1 26 (by simp)]
    rcases h25 with y | y
    · exact v2 (y ▸ z)
    · exact absurd z y.1
  · rw [h1 27 (by simp)]
    rw [h1 14 (by simp)] at z
    exact v3 z
  · rw [h1 27 (by simp)]
    rcases h25 with y | y
    · exact v4 (y ▸ z)
    · exact absurd z y.2
  · rw [h1 27 (by simp), v5, c]
    exact congrArg nI (cn_congr _ fun i hi => (h2 i (by omega)).symm)
  · rw [h3 32 (by simp) h hh, h3 33 (by simp) h hh]
    exact v6 h hh
  · rw [h3 34 (by simp) h hh, h3 35 (by simp) h hh]
    rcases h25 with y | y
    · exact v7 (by rw [y] at z; exact z) h hh
    · rcases z with z | z
      · exact absurd z y.1
      · exact absurd z y.2
theorem Iv.cnt {T G H : Nat} {w : Wt} (h : Iv T G H w) {e : Nat} (he : e < G) : w.1 26 e = nI (Cn w e) ∧ Cn w e ≤ 60 := h.1.cnt he
theorem nf_inv {A : Type} {f : Nat → A → A} {P : Nat → A → Prop} {L : Nat} (h : ∀ i a, i < L → P i a → P (i + 1) (f i a)) : ∀ m i a, i + m ≤ L → P i a → P (i + m) (nf f m i a) := by
  intro m
  induction m with
  | zero => intro i a _ ha; exact ha
  | succ m ih =>
    intro i a h1 ha
    have := ih (i + 1) (f i a) (by omega) (h i a (by omega) ha)
    rw [nf, show i + (m + 1) = i + 1 + m by omega]
    exact this
theorem N_settle_2 (t : Nat) (w : Wt) {a : Nat} (h1 : a ≠ 1) (h2 : a ≠ 2) (k : Nat) : (N_settle t w).2 a k = w.2 a k := by
  unfold N_settle
  split
  · split
    · rfl
    · split
      · rfl
      · show (N_mv _ _ _ _).2 a k = _
        rw [N_mv_2 _ _ _ _ h2, N_add_2 _ _ _ h1, N_add_2 _ _ _ h1]
  · rfl
theorem Iv.settle {T G H t : Nat} {w : Wt} (h : Iv T G H w) : Iv T G H (N_settle t w) :=
  ⟨h.1.settle, fun e he => (h.2 e he).same (h.cnt he).2 (fun a ha => N_settle_1 t w (by omega) (by omega) e) (Or.inl (N_settle_1 t w (by decide) (by decide) e)) (fun i _ => N_settle_1 t w (by decide) (by decide) _) (fun a ha h _ => N_settle_2 t w (by omega) (by omega) _)⟩
theorem Iv.day {T G H : Nat} {w : Wt} (h : Iv T G H w) (v : Int32) : Iv T G H (uI w 0 8 v) :=
  ⟨h.1.uI (by omega) (fun _ => by omega), fun e he => (h.2 e he).same (h.cnt he).2 (fun a ha => by rw [uI_1, if_neg (by omega)]) (Or.inl (by rw [uI_1, if_neg (by omega)])) (fun i _ => by rw [uI_1, if_neg (by omega)]) (fun a ha h _ => rfl)⟩
theorem N_tt_2 (e t : Nat) (w : Wt) {a : Nat} (h1 : a ≠ 2) (h2 : a ≠ 7) (h3 : a ≠ 8) (k : Nat) : (N_tt e t w).2 a k = w.2 a k := by
  have q : (N_tt2 e t w).2 a k = w.2 a k := by
    unfold N_tt2 N_tt1
    rw [uJ_2, if_neg (by omega), uJ_2, if_neg (by omega)]
    rfl
  unfold N_tt
  split
  · show (N_mv _ _ _ _).2 a k = _
    rw [N_mv_2 _ _ _ _ h1, q]
  · exact q
/-- what a TURN leaves as it was -/
theorem N_tp_fr {T G H e : Nat} {w : Wt} : (∀ a k, a ≠ 6 → a ≠ 11 → a ≠ 12 → a ≠ 25 → (N_tp T G H e w).1 a k = w.1 a k) ∧ (∀ k, (N_tp T G H e w).1 25 k = w.1 25 k ∨ ((N_tp T G H e w).1 25 k ≠ 0 ∧ (N_tp T G H e w).1 25 k ≠ 1)) ∧ (N_tp T G H e w).1 25 e = 2 ∧
    (∀ a k, a ≠ 1 → a ≠ 2 → a ≠ 7 → a ≠ 8 → a ≠ 28 → a ≠ 29 → (N_tp T G H e w).2 a k = w.2 a k) := by
  have s1 := nf_inv (f := N_tph e) (P := fun _ b => b.1 = w.1 ∧ ∀ a k, a ≠ 1 → a ≠ 2 → a ≠ 28 → a ≠ 29 → b.2 a k = w.2 a k) (L := H) (fun i b _ hb => ⟨hb.1, fun a k h1 h2 h3 h4 => by
    unfold N_tph N_give N_issue N_pu N_add
    rw [uJ_2, if_neg (by omega), uJ_2, if_neg (by omega), uJ_2, if_neg (by omega), uJ_2, if_neg (by omega), uJ_2, if_neg (by omega)]
    exact hb.2 a k h1 h2 h3 h4⟩) H 0 w (by omega) ⟨rfl, fun _ _ _ _ _ _ => rfl⟩
  have s2 := nf_inv (f := N_tpt e) (P := fun _ b => (∀ a k, a ≠ 6 → a ≠ 11 → a ≠ 12 → b.1 a k = w.1 a k) ∧ ∀ a k, a ≠ 1 → a ≠ 2 → a ≠ 7 → a ≠ 8 → a ≠ 28 → a ≠ 29 → b.2 a k = w.2 a k) (L := T) (fun i b _ hb => ⟨fun a k h1 h2 h3 => by rw [N_tpt_1 _ _ _ h2 h3 h1]; exact hb.1 a k h1 h2 h3, fun a k h1 h2 h3 h4 h5 h6 => by
    unfold N_tpt
    split
    · split
      · rw [N_tt_2 _ _ _ h2 h3 h4]; exact hb.2 a k h1 h2 h3 h4 h5 h6
      · exact hb.2 a k h1 h2 h3 h4 h5 h6
    · exact hb.2 a k h1 h2 h3 h4 h5 h6⟩) T 0 (nf (N_tph e) H 0 w) (by omega) ⟨fun a k _ _ _ => by rw [s1.1], fun a k h1 h2 _ _ h5 h6 => s1.2 a k h1 h2 h5 h6⟩
  have s3 := nf_inv (f := N_drop e) (P := fun _ b => (∀ a k, a ≠ 6 → a ≠ 11 → a ≠ 12 → a ≠ 25 → b.1 a k = w.1 a k) ∧ (∀ k, b.1 25 k = w.1 25 k ∨ (b.1 25 k ≠ 0 ∧ b.1 25 k ≠ 1)) ∧ ∀ a k, a ≠ 1 → a ≠ 2 → a ≠ 7 → a ≠ 8 → a ≠ 28 → a ≠ 29 → b.2 a k = w.2 a k) (L := G) (fun i b _ hb => ⟨fun a k h1 h2 h3 h4 => by rw [N_drop_1 _ _ _ h4]; exact hb.1 a k h1 h2 h3 h4, fun k => by
    unfold N_drop
    split
    · rw [uI_1]
      by_cases hk : k = i
      · rw [if_pos ⟨rfl, hk⟩]; exact Or.inr (by decide)
      · rw [if_neg (fun z => hk z.2)]; exact hb.2.1 k
    · exact hb.2.1 k, fun a k h1 h2 h3 h4 h5 h6 => by
    unfold N_drop
    split
    · exact hb.2.2 a k h1 h2 h3 h4 h5 h6
    · exact hb.2.2 a k h1 h2 h3 h4 h5 h6⟩) G 0 (nf (N_tpt e) T 0 (nf (N_tph e) H 0 w)) (by omega) ⟨fun a k h1 h2 h3 _ => s2.1 a k h1 h2 h3, fun k => Or.inl (s2.1 25 k (by decide) (by decide) (by decide)), s2.2⟩
  unfold N_tp
  refine ⟨fun a k h1 h2 h3 h4 => by rw [uI_1, if_neg (by omega)]; exact s3.1 a k h1 h2 h3 h4, fun k => ?_, by rw [uI_1, if_pos ⟨rfl, rfl⟩], s3.2.2⟩
  rw [uI_1]
  by_cases hk : k = e
  · rw [if_pos ⟨rfl, hk⟩]; exact Or.inr (by decide)
  · rw [if_neg (fun z => hk z.2)]; exact s3.2.1 k
theorem N_ws_fr {e H : Nat} {w : Wt} : (nf (N_ws e) H 0 w).1 = w.1 ∧ ∀ a k, a ≠ 31 → (nf (N_ws e) H 0 w).2 a k = w.2 a k :=
  nf_inv (f := N_ws e) (P := fun _ b => b.1 = w.1 ∧ ∀ a k, a ≠ 31 → b.2 a k = w.2 a k) (L := H) (fun i b _ hb => ⟨hb.1, fun a k h => by
    unfold N_ws
    rw [uJ_2, if_neg (by omega)]
    exact hb.2 a k h⟩) H 0 w (by omega) ⟨rfl, fun _ _ _ => rfl⟩
theorem N_mc_cases (e t : Nat) (w : Wt) : N_mc e t w = w ∨ ∃ x y, N_mc e t w = N_ac e x y t w := by
  unfold N_mc
  split
  · split
    · split
      · exact Or.inl rfl
      · exact Or.inr ⟨_, _, rfl⟩
    · split
      · split
        · exact Or.inr ⟨_, _, rfl⟩
        · exact Or.inl rfl
      · exact Or.inl rfl
  · exact Or.inl rfl
/-- CLAIMS come behind one another, none of them WAITS -/
theorem N_mc_fr {e T : Nat} {w : Wt} (hC : w.1 26 e = 0) (hT : T ≤ 60) : (∀ a k, a ≠ 38 → a ≠ 39 → a ≠ 41 → a ≠ 42 → a ≠ 26 → (nf (N_mc e) T 0 w).1 a k = w.1 a k) ∧ (∀ a k, a ≠ 40 → (nf (N_mc e) T 0 w).2 a k = w.2 a k) ∧ (∀ k, k ≠ e → (nf (N_mc e) T 0 w).1 26 k = w.1 26 k) ∧
    (∀ k, (k < 60 * e ∨ 60 * e + 60 ≤ k) → (nf (N_mc e) T 0 w).1 42 k = w.1 42 k) ∧ ∃ c, c ≤ T ∧ (nf (N_mc e) T 0 w).1 26 e = nI c ∧ ∀ i, i < c → (nf (N_mc e) T 0 w).1 42 (60 * e + i) = 0 := by
  have s := nf_inv (f := N_mc e) (P := fun i b => (∀ a k, a ≠ 38 → a ≠ 39 → a ≠ 41 → a ≠ 42 → a ≠ 26 → b.1 a k = w.1 a k) ∧ (∀ a k, a ≠ 40 → b.2 a k = w.2 a k) ∧ (∀ k, k ≠ e → b.1 26 k = w.1 26 k) ∧
    (∀ k, (k < 60 * e ∨ 60 * e + 60 ≤ k) → b.1 42 k = w.1 42 k) ∧ ∃ c, c ≤ i ∧ b.1 26 e = nI c ∧ ∀ i, i < c → b.1 42 (60 * e + i) = 0) (L := T) (fun i b hi hb => by
      obtain ⟨b1, b2, b3, b4, c, hc, hc2, hc3⟩ := hb
      rcases N_mc_cases e i b with hs | ⟨x, y, hs⟩
      · rw [hs]
        exact ⟨b1, b2, b3, b4, c, by omega, hc2, hc3⟩
      · have c6 : c < 60 := by omega
        have en : N_ac e x y i b = uI (uI (uI (uJ (uI (uI b 38 (60 * e + c) x) 39 (60 * e + c) y) 40 (60 * e + c) (b.2 7 i)) 41 (60 * e + c) (nI i)) 42 (60 * e + c) 0) 26 e (nI (c + 1)) := by
          unfold N_ac cq
          rw [hc2, if_neg (by rw [show (60 : Int32) = nI 60 from rfl]; exact nI_ge c6 (by decide)), nI_clamp (by omega), nI_1]
        rw [hs, en]
        refine ⟨fun a k h1 h2 h3 h4 h5 => ?_, fun a k h => ?_, fun k h => ?_, fun k h => ?_, c + 1, by omega, ?_, fun j hj => ?_⟩
        · rw [uI_1, if_neg (by omega), uI_1, if_neg (by omega), uI_1, if_neg (by omega), uJ_1, uI_1, if_neg (by omega), uI_1, if_neg (by omega)]
          exact b1 a k h1 h2 h3 h4 h5
        · rw [uI_2, uI_2, uI_2, uJ_2, if_neg (by omega)]
          exact b2 a k h
        · rw [uI_1, if_neg (by omega), uI_1, if_neg (by omega), uI_1, if_neg (by omega), uJ_1, uI_1, if_neg (by omega), uI_1, if_neg (by omega)]
          exact b3 k h
        · rw [uI_1, if_neg (by omega), uI_1, if_neg (by omega), uI_1, if_neg (by omega), uJ_1, uI_1, if_neg (by omega), uI_1, if_neg (by omega)]
          exact b4 k h
        · rw [uI_1, if_pos ⟨rfl, rfl⟩]
        · rw [uI_1, if_neg (by omega), uI_1]
          by_cases hj2 : j = c
          · rw [if_pos ⟨rfl, by omega⟩]
          · rw [if_neg (by omega), uI_1, if_neg (by omega), uJ_1, uI_1, if_neg (by omega), uI_1, if_neg (by omega)]
            exact hc3 j (by omega)) T 0 w (by omega) ⟨fun _ _ _ _ _ _ _ => rfl, fun _ _ _ => rfl, fun _ _ => rfl, fun _ _ => rfl, 0, Nat.le_refl _, hC, fun i hi => by omega⟩
  rw [Nat.zero_add] at s
  exact s
theorem Iv.we {T G H e : Nat} {w : Wt} (h : Iv T G H w) (ok' : Ok T G H (N_we T G H e w).1) (he : e < G) : Iv T G H (N_we T G H e w) := by
  refine ⟨ok', fun o ho => ?_⟩
  have vo := h.2 o ho
  have co := (h.cnt ho).2
  have ve := h.2 e he
  have f1 := N_ws_fr (e := e) (H := H) (w := w)
  unfold N_we
  by_cases g1 : w.1 25 e = 0
  · by_cases g2 : w.1 23 e = w.1 0 8
    · by_cases g3 : w.1 14 e = 3
      · rw [if_pos g1, if_pos g2, if_pos g3]
        obtain ⟨t1, t2, t3, t4⟩ := N_tp_fr (T := T) (G := G) (H := H) (e := e) (w := nf (N_ws e) H 0 w)
        refine vo.same co (fun a ha => ?_) ?_ (fun i _ => ?_) (fun a ha k _ => ?_)
        · rw [t1 a _ (by omega) (by omega) (by omega) (by omega), f1.1]
        · have := t2 o
          rw [f1.1] at this
          exact this
        · rw [t1 _ _ (by decide) (by decide) (by decide) (by decide), f1.1]
        · rw [t4 a _ (by omega) (by omega) (by omega) (by omega) (by omega) (by omega), f1.2 a _ (by omega)]
      · rw [if_pos g1, if_pos g2, if_neg g3]
        have hC : (nf (N_ws e) H 0 w).1 26 e = 0 := by rw [f1.1]; exact ve.2.1 g1
        obtain ⟨m1, m2, m3, m4, c, hc, hc2, hc3⟩ := N_mc_fr (T := T) hC h.1.2.1
        have hT6 := h.1.2.1
        by_cases hoe : o = e
        · subst hoe
          obtain ⟨v1, v2, v3, v4, v5, v6, v7⟩ := vo
          have z27 : w.1 27 o = 0 := by
            rw [v5]
            unfold Cn
            rw [v2 g1]
            rfl
          have r27 : (uI (nf (N_mc o) T 0 (nf (N_ws o) H 0 w)) 25 o 1).1 27 o = 0 := by rw [uI_1, if_neg (by omega), m1 _ _ (by decide) (by decide) (by decide) (by decide) (by decide), f1.1]; exact z27
          refine ⟨by rw [uI_1, if_neg (by omega), m1 _ _ (by decide) (by decide) (by decide) (by decide) (by decide), f1.1]; exact v1, fun z => ?_, fun _ => r27, fun _ => r27, ?_, fun k hk => ?_, fun _ k hk => ?_⟩
          · rw [uI_1, if_pos ⟨rfl, rfl⟩] at z
            exact absurd z (by decide)
          · have cc : Cn (uI (nf (N_mc o) T 0 (nf (N_ws o) H 0 w)) 25 o 1) o = c := by
              unfold Cn
              rw [uI_1, if_neg (by omega), hc2, nI_clamp (by omega)]
            rw [r27, cc, cn_none c (fun i hi => by
              show (uI (nf (N_mc o) T 0 (nf (N_ws o) H 0 w)) 25 o 1).1 42 (60 * o + i) ≠ 2
              rw [uI_1, if_neg (by omega), hc3 i hi]
              decide)]
            rfl
          · rw [uI_2, m2 _ _ (by decide), m2 _ _ (by decide), f1.2 _ _ (by decide), f1.2 _ _ (by decide)]
            exact v6 k hk
          · rw [uI_2, m2 _ _ (by decide), m2 _ _ (by decide), f1.2 _ _ (by decide), f1.2 _ _ (by decide)]
            exact v7 (Or.inl g1) k hk
        · refine vo.same co (fun a ha => ?_) (Or.inl ?_) (fun i hi => ?_) (fun a ha k _ => ?_)
          · rw [uI_1, if_neg (by omega)]
            by_cases h26 : a = 26
            · subst h26
              rw [m3 _ hoe, f1.1]
            · rw [m1 _ _ (by omega) (by omega) (by omega) (by omega) h26, f1.1]
          · rw [uI_1, if_neg (fun z => hoe z.2), m1 _ _ (by decide) (by decide) (by decide) (by decide) (by decide), f1.1]
          · rw [uI_1, if_neg (by omega), m4 _ (by omega), f1.1]
          · rw [uI_2, m2 _ _ (by omega), f1.2 _ _ (by omega)]
    · rw [if_pos g1, if_neg g2]
      exact vo
  · rw [if_neg g1]
    exact vo
