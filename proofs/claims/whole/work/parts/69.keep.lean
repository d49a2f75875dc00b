/-! WHAT HOLDS OF A STATE, kept by deeds -/
theorem inL_le {v : Int32} {n m : Nat} (h : 0 ≤ v ∧ v < nI n) (hn : n < 1000) (hm : n ≤ m) : inL v m := by
  obtain ⟨h1, h2⟩ := h
  rw [Int32.le_iff_toInt_le] at h1
  rw [Int32.lt_iff_toInt_lt, nI_toInt (by omega)] at h2
  have : (0 : Int32).toInt = 0 := by decide
  exact ⟨by omega, by omega⟩
theorem inL_cc {v : Int32} {l n m : Nat} (h : nI l ≤ v ∧ v ≤ nI n) (hl : l < 1000) (hn : n < 100000000) (hm : n < m) : inL v m := by
  obtain ⟨h1, h2⟩ := h
  rw [Int32.le_iff_toInt_le, nI_toInt (by omega)] at h1 h2
  exact ⟨by omega, by omega⟩
theorem Iv.tr {T G H P : Nat} {w : Wt} {d : Nat → Int32} (h : Iv T G H w) (k : kT H P T d) (hP : P ≤ 5) : Iv (T + 1) G H (N_tr d T w) := by
  obtain ⟨⟨h1, h2, h3, h4, h5, h6, h7, h8⟩, hE⟩ := h
  obtain ⟨k1, k2, k3, k4, k5, k6, k7, k8⟩ := k
  have q : ∀ a k, a ≠ 3 → (4 ≤ a → a ≤ 12 → k ≠ T) → (N_tr d T w).1 a k = w.1 a k := fun a k z1 z2 => N_tr_1 d T w (by omega)
  refine ⟨⟨N_tr_v3 d T w, by omega, by rw [q _ _ (by decide) (by omega)]; exact h3, h4, by rw [q _ _ (by decide) (by omega)]; exact h5, h6, fun t ht => ?_, fun e he => ?_⟩, fun e he => ?_⟩
  · by_cases z : t = T
    · subst z
      unfold okF
      rw [N_tr_v4, N_tr_v5, N_tr_v6]
      exact ⟨inL_le k1 (by omega) h6, inL_le k2 (by omega) h6, inL_le k4 (by omega) hP⟩
    · have o := h7 t (by omega)
      unfold okF at o ⊢
      rw [q _ _ (by decide) (by omega), q _ _ (by decide) (by omega), q _ _ (by decide) (by omega)]
      exact o
  · obtain ⟨o1, o2, c, o3, o4, o5⟩ := h8 e he
    refine ⟨by rw [q _ _ (by decide) (by omega)]; exact o1, fun z => by rw [q _ _ (by decide) (by omega)] at z ⊢; exact o2 z, c, o3, by rw [q _ _ (by decide) (by omega)]; exact o4, fun i hi => ?_⟩
    rw [q _ _ (by decide) (by omega), q _ _ (by decide) (by omega)]
    exact o5 i hi
  · have hc : Cn w e ≤ 60 := by
      obtain ⟨-, -, c, o3, o4, -⟩ := h8 e he
      unfold Cn
      rw [o4, nI_clamp (by omega)]
      exact o3
    exact (hE e he).same hc (fun a ha => q _ _ (by omega) (by omega)) (Or.inl (q _ _ (by decide) (by omega))) (fun i _ => q _ _ (by decide) (by omega)) (fun a ha j _ => N_tr_2 d T w (by omega))
theorem Iv.ev {T G H P : Nat} {w : Wt} {y : Int32} {d : Nat → Int32} (h : Iv T G H w) (k : kE P G y d) (hP : P ≤ 5) (hz : d 0 = 0 → d 8 = 0 ∧ d 9 = 1) : Iv T (G + 1) H (N_ev d G w) := by
  obtain ⟨⟨h1, h2, h3, h4, h5, h6, h7, h8⟩, hE⟩ := h
  obtain ⟨k1, k2, k3, k4, k5⟩ := k
  obtain ⟨n1, n2, n3⟩ := N_ev_fr d G w
  have q : ∀ a k, a ≠ 13 → (14 ≤ a → a ≤ 27 → k ≠ G) → (N_ev d G w).1 a k = w.1 a k := fun a k z1 z2 => by rw [n1]; exact N_ev0_1 d G w ⟨z1, z2⟩
  have v : ∀ a, (N_ev d G w).1 a G = (N_ev0 d G w).1 a G := fun a => by rw [n1]
  refine ⟨⟨by rw [q _ _ (by decide) (by omega)]; exact h1, h2, by rw [n1]; exact N_ev0_v13 d G w, by omega, by rw [q _ _ (by decide) (by omega)]; exact h5, h6, fun t ht => ?_, fun e he => ?_⟩, fun e he => ?_⟩
  · have o := h7 t ht
    unfold okF at o ⊢
    rw [q _ _ (by decide) (by omega), q _ _ (by decide) (by omega), q _ _ (by decide) (by omega)]
    exact o
  · by_cases z : e = G
    · subst z
      refine ⟨by rw [v, N_ev0_v15]; exact inL_le k1 (by omega) hP, fun y => ?_, 0, by omega, by rw [v, N_ev0_v26]; rfl, fun i hi => by omega⟩
      rw [v, N_ev0_v14] at y
      rw [v, N_ev0_v16]
      exact inL_le (k2.2.1 y).1 (by omega) hP
    · obtain ⟨o1, o2, c, o3, o4, o5⟩ := h8 e (by omega)
      refine ⟨by rw [q _ _ (by decide) (by omega)]; exact o1, fun z => by rw [q _ _ (by decide) (by omega)] at z ⊢; exact o2 z, c, o3, by rw [q _ _ (by decide) (by omega)]; exact o4, fun i hi => ?_⟩
      rw [q _ _ (by decide) (by omega), q _ _ (by decide) (by omega)]
      exact o5 i hi
  · by_cases z : e = G
    · subst z
      have c0 : Cn (N_ev d e w) e = 0 := by unfold Cn; rw [v, N_ev0_v26]; rfl
      refine ⟨?_, fun _ => by rw [v, N_ev0_v26], fun _ => by rw [v, N_ev0_v27], fun _ => by rw [v, N_ev0_v27], by rw [v, N_ev0_v27, c0]; rfl, fun j hj => ?_, fun _ j hj => ⟨n3 34 j (by decide) (by decide) hj, n3 35 j (by decide) (by decide) hj⟩⟩
      · rw [v, N_ev0_v18]
        by_cases y : d 0 = 0
        · rw [(hz y).2]; decide
        · exact (k2.2.2 y).2.1.1
      · rw [n3 32 j (by decide) (by decide) hj, n3 33 j (by decide) (by decide) hj]
        decide
    · have hc : Cn w e ≤ 60 := by
        obtain ⟨-, -, c, o3, o4, -⟩ := h8 e (by omega)
        unfold Cn
        rw [o4, nI_clamp (by omega)]
        exact o3
      exact (hE e (by omega)).same hc (fun a ha => q _ _ (by omega) (by omega)) (Or.inl (q _ _ (by decide) (by omega))) (fun i _ => q _ _ (by decide) (by omega)) (fun a ha j _ => by rw [n2 _ _ (by omega)]; exact N_ev0_2 d G w (by omega))
theorem i64_0le {v : Int32} (h : 0 ≤ v) : 0 ≤ v.toInt64 := wd_le (x := 0) |>.mpr h
theorem Iv.ch {T G H : Nat} {w : Wt} {d : Nat → Int32} (h : Iv T G H w) (h17 : 0 ≤ d 17) (h18 : 0 ≤ d 18) : Iv T G H (N_ch d w) := by
  refine ⟨h.1, fun e he => ?_⟩
  obtain ⟨v1, v2, v3, v4, v5, v6, v7⟩ := h.2 e he
  refine ⟨v1, v2, v3, v4, v5, fun j hj => ?_, fun z j hj => ?_⟩
  · unfold N_ch
    rw [uJ_2, if_neg (by omega), uJ_2, uJ_2]
    refine ⟨?_, ?_⟩
    · split
      · exact i64_0le h17
      · exact (v6 j hj).1
    · split
      · exact i64_0le h18
      · rw [uJ_2, if_neg (by omega)]
        exact (v6 j hj).2
  · unfold N_ch
    rw [uJ_2, if_neg (by omega), uJ_2, if_neg (by omega), uJ_2, if_neg (by omega), uJ_2, if_neg (by omega)]
    exact v7 z j hj
theorem Iw.tr {T G H P : Nat} {w : Wt} {d : Nat → Int32} (iv : Iv T G H w) (h : Iw T G H P w) (k : kT H P T d) : Iw (T + 1) G H P (N_tr d T w) := by
  obtain ⟨i1, i2, ⟨y, y1, y2⟩, i4, i5, i6, b1, b2, b3, b4, b5⟩ := h
  obtain ⟨k1, k2, k3, k4, k5, k6, k7, k8⟩ := k
  have hH := iv.1.2.2.2.2.2.1
  have q : ∀ a k, a ≠ 3 → (4 ≤ a → a ≤ 12 → k ≠ T) → (N_tr d T w).1 a k = w.1 a k := fun a k z1 z2 => N_tr_1 d T w (by omega)
  have qC : ∀ e, Cn (N_tr d T w) e = Cn w e := fun e => by unfold Cn; rw [q _ _ (by decide) (by omega)]
  have qd : dn (N_tr d T w) G = dn w G := dn_congr G fun e _ => q _ _ (by decide) (by omega)
  have qJ : ∀ a k, (a = 1 ∨ a = 31 ∨ a = 40) → (N_tr d T w).2 a k = w.2 a k := fun a k h => N_tr_2 d T w (by omega)
  refine ⟨by rw [q _ _ (by decide) (by omega)]; exact i1, i2, ⟨y, y1, by rw [q _ _ (by decide) (by omega)]; exact y2⟩, fun t ht => ?_, fun e he => ?_, fun e he i hi => ?_, fun i hi => ?_, ?_, fun t ht => ?_, fun e he i hi => ?_, fun e he => ⟨⟨fun j hj => ?_, ?_⟩, fun z j hj => ?_⟩⟩
  · by_cases z : t = T
    · subst z
      rw [N_tr_v4, N_tr_v5, N_tr_v10]
      refine ⟨inL_le k1 (by omega) (Nat.le_refl _), inL_le k2 (by omega) (Nat.le_refl _), k3, ?_⟩
      obtain ⟨z, hz, ez⟩ := inL_of (inL_cc (v := d 6) (l := 1) (n := 9) (m := 10) k7 (by decide) (by decide) (by decide)) (by decide)
      rw [y2, ez, nI_add]
      exact inL_nI (by omega) (by decide)
    · rw [q _ _ (by decide) (by omega), q _ _ (by decide) (by omega), q _ _ (by decide) (by omega)]
      exact i4 t (by omega)
  · have o := i5 e he
    unfold Et at o ⊢
    rw [q _ _ (by decide) (by omega), q _ _ (by decide) (by omega), q _ _ (by decide) (by omega), q _ _ (by decide) (by omega), q _ _ (by decide) (by omega), q _ _ (by decide) (by omega)]
    exact o
  · rw [qC] at hi
    rw [q _ _ (by decide) (by omega), q _ _ (by decide) (by omega)]
    exact i6 e he i hi
  · rw [qJ _ _ (by omega)]; exact b1 i hi
  · rw [qd, sm_congr 50 (fun i hi => qJ _ _ (by omega))]; exact b2
  · rw [qd]
    by_cases z : t = T
    · subst z
      rw [N_tr_v7, Int32.toInt_toInt64]
      have := mxT_pos (dn w G)
      have a1 := Int32.le_iff_toInt_le.mp k5.1
      have a2 := Int32.le_iff_toInt_le.mp k5.2
      have e1 : (1 : Int32).toInt = 1 := by decide
      have e2 : (100000 : Int32).toInt = 100000 := by decide
      omega
    · rw [N_tr_2 d T w (by omega)]
      exact b3 t (by omega)
  · rw [qC] at hi
    rw [qd, qJ _ _ (by omega)]
    exact b4 e he i hi
  · rw [qJ _ _ (by omega)]; exact (b5 e he).1.1 j hj
  · rw [qd, sm_congr 10 (fun i hi => qJ _ _ (by omega))]; exact (b5 e he).1.2
  · rw [qJ _ _ (by omega)]; exact (b5 e he).2 (by rw [q _ _ (by decide) (by omega)] at z; exact z) j hj
theorem Iw.ch {T G H P : Nat} {w : Wt} {d : Nat → Int32} (h : Iw T G H P w) : Iw T G H P (N_ch d w) := by
  obtain ⟨i1, i2, i3, i4, i5, i6, b1, b2, b3, b4, b5⟩ := h
  have qJ : ∀ a k, (a = 1 ∨ a = 7 ∨ a = 31 ∨ a = 40) → (N_ch d w).2 a k = w.2 a k := fun a k h => by
    unfold N_ch
    rw [uJ_2, if_neg (by omega), uJ_2, if_neg (by omega)]
  have qd : dn (N_ch d w) G = dn w G := dn_congr G fun e _ => rfl
  refine ⟨i1, i2, i3, i4, i5, i6, fun i hi => ?_, ?_, fun t ht => ?_, fun e he i hi => ?_, fun e he => ⟨⟨fun j hj => ?_, ?_⟩, fun z j hj => ?_⟩⟩
  · rw [qJ _ _ (by omega)]; exact b1 i hi
  · rw [qd, sm_congr 50 (fun i hi => qJ _ _ (by omega))]; exact b2
  · rw [qd, qJ _ _ (by omega)]; exact b3 t ht
  · rw [qd, qJ _ _ (by omega)]; exact b4 e he i hi
  · rw [qJ _ _ (by omega)]; exact (b5 e he).1.1 j hj
  · rw [qd, sm_congr 10 (fun i hi => qJ _ _ (by omega))]; exact (b5 e he).1.2
  · rw [qJ _ _ (by omega)]; exact (b5 e he).2 z j hj
theorem Iw.ev {T G H P : Nat} {w : Wt} {y : Int32} {d : Nat → Int32} (h : Iw T G H P w) (k : kE P G y d) (hk : d 0 = 0 ∨ d 0 = 1 ∨ d 0 = 2 ∨ d 0 = 3) (hz : d 0 = 0 → d 8 = 0 ∧ d 9 = 1 ∧ d 11 = 0) : Iw T (G + 1) H P (N_ev d G w) := by
  obtain ⟨i1, i2, ⟨x, x1, x2⟩, i4, i5, i6, b1, b2, b3, b4, b5⟩ := h
  obtain ⟨k1, k2, k3, k4, k5⟩ := k
  obtain ⟨n1, n2, n3⟩ := N_ev_fr d G w
  have q : ∀ a k, a ≠ 13 → (14 ≤ a → a ≤ 27 → k ≠ G) → (N_ev d G w).1 a k = w.1 a k := fun a k z1 z2 => by rw [n1]; exact N_ev0_1 d G w ⟨z1, z2⟩
  have v : ∀ a, (N_ev d G w).1 a G = (N_ev0 d G w).1 a G := fun a => by rw [n1]
  have qC : ∀ e, e ≠ G → Cn (N_ev d G w) e = Cn w e := fun e he => by unfold Cn; rw [q _ _ (by decide) (by omega)]
  have c0 : Cn (N_ev d G w) G = 0 := by unfold Cn; rw [v, N_ev0_v26]; rfl
  have qd : dn (N_ev d G w) (G + 1) = dn w G := by
    rw [dn, if_pos (Or.inl (by rw [v, N_ev0_v25])), Nat.add_zero]
    exact dn_congr G fun e he => q _ _ (by decide) (by omega)
  have qJ : ∀ a k, (a = 1 ∨ a = 7 ∨ a = 40 ∨ (a = 31 ∧ (k < 10 * G ∨ 10 * G + 10 ≤ k))) → (N_ev d G w).2 a k = w.2 a k := fun a k h => by
    rw [n2 _ _ (by omega)]
    exact N_ev0_2 d G w (by omega)
  refine ⟨by rw [q _ _ (by decide) (by omega)]; exact i1, i2, ⟨x, x1, by rw [q _ _ (by decide) (by omega)]; exact x2⟩, fun t ht => ?_, fun e he => ?_, fun e he i hi => ?_, fun i hi => ?_, ?_, fun t ht => ?_, fun e he i hi => ?_, fun e he => ?_⟩
  · rw [q _ _ (by decide) (by omega), q _ _ (by decide) (by omega), q _ _ (by decide) (by omega)]
    exact i4 t ht
  · by_cases z : e = G
    · subst z
      unfold Et
      rw [v, v, v, v, v, v, N_ev0_v25, N_ev0_v14, N_ev0_v17, N_ev0_v18, N_ev0_v19, N_ev0_v20]
      refine ⟨by decide, ?_, ?_, ?_, ?_, ?_, fun y => ⟨(hz y).1, (hz y).2.1⟩⟩
      · rcases hk with y | y | y | y <;> (rw [y]; decide)
      · by_cases y : d 0 = 0
        · rw [(hz y).1]; decide
        · exact inL_cc (l := 1) (n := 9) (k2.2.2 y).1 (by decide) (by decide) (by decide)
      · by_cases y : d 0 = 0
        · rw [(hz y).2.1]; decide
        · exact inL_cc (l := 1) (n := 9) (k2.2.2 y).2.1 (by decide) (by decide) (by decide)
      · by_cases y : d 0 = 0
        · exact inL_cc (l := 1) (n := 999) (k2.1 y) (by decide) (by decide) (by decide)
        · exact inL_cc (l := 0) (n := 999) (k2.2.2 y).2.2.1 (by decide) (by decide) (by decide)
      · by_cases y : d 0 = 0
        · rw [(hz y).2.2]; decide
        · exact inL_cc (l := 0) (n := 999) (k2.2.2 y).2.2.2 (by decide) (by decide) (by decide)
    · have o := i5 e (by omega)
      unfold Et at o ⊢
      rw [q _ _ (by decide) (by omega), q _ _ (by decide) (by omega), q _ _ (by decide) (by omega), q _ _ (by decide) (by omega), q _ _ (by decide) (by omega), q _ _ (by decide) (by omega)]
      exact o
  · by_cases z : e = G
    · subst z
      rw [c0] at hi
      omega
    · rw [qC e z] at hi
      rw [q _ _ (by decide) (by omega), q _ _ (by decide) (by omega)]
      exact i6 e (by omega) i hi
  · rw [qJ _ _ (by omega)]; exact b1 i hi
  · rw [qd, sm_congr 50 (fun i hi => qJ _ _ (by omega))]; exact b2
  · rw [qd, qJ _ _ (by omega)]; exact b3 t ht
  · by_cases z : e = G
    · subst z
      rw [c0] at hi
      omega
    · rw [qC e z] at hi
      rw [qd, qJ _ _ (by omega)]
      exact b4 e (by omega) i hi
  · by_cases z : e = G
    · subst z
      refine ⟨⟨fun j hj => by rw [n3 31 j (by decide) (by decide) hj]; decide, ?_⟩, fun _ j hj => n3 31 j (by decide) (by decide) hj⟩
      rw [qd, sm_congr (g := fun _ => 0) 10 (fun i hi => n3 31 i (by decide) (by decide) hi)]
      have := mxS_pos (dn w e)
      have e0 : sm (fun _ => 0) 10 = 0 := by decide
      omega
    · refine ⟨⟨fun j hj => by rw [qJ _ _ (by omega)]; exact (b5 e (by omega)).1.1 j hj, ?_⟩, fun y j hj => by rw [qJ _ _ (by omega)]; exact (b5 e (by omega)).2 (by rw [q _ _ (by decide) (by omega)] at y; exact y) j hj⟩
      rw [qd, sm_congr 10 (fun i hi => qJ _ _ (by omega))]
      exact (b5 e (by omega)).1.2
