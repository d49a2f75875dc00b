/-! WHAT ELSE HOLDS OF A STATE, kept by a DAY -/
theorem Iw.setDay {T G H P : Nat} {w : Wt} (iv : Iv T G H w) (h : Iw T G H P w) (hd : w.1 0 8 + 1 ≤ 999) : Iw T G H P (uI w 0 8 (w.1 0 8 + 1)) := by
  obtain ⟨i1, i2, ⟨d, d1, d2⟩, i4, i5, i6, i7⟩ := h
  have f : ∀ a k, (a = 0 → k ≠ 8) → (uI w 0 8 (w.1 0 8 + 1)).1 a k = w.1 a k := fun a k z => by rw [uI_1, if_neg (fun y => z y.1 y.2)]
  have eC : ∀ e, Cn (uI w 0 8 (w.1 0 8 + 1)) e = Cn w e := fun e => by unfold Cn; rw [f 26 e (by omega)]
  have d9 : d + 1 ≤ 999 := by
    rw [d2, nI_1, show (999 : Int32) = nI 999 from rfl, nI_leI (by omega) (by omega)] at hd
    exact hd
  refine ⟨by rw [f _ _ (by omega)]; exact i1, i2, ⟨d + 1, d9, by rw [uI_1, if_pos ⟨rfl, rfl⟩, d2, nI_1]⟩, fun t ht => ?_, fun e he => ?_, fun e he i hi => ?_, i7.same iv.1.2.1 iv.1.2.2.2.1 (fun e he => (iv.cnt he).2) (fun e _ => f _ _ (by omega)) (fun e _ => f _ _ (by omega)) (fun a k _ _ => rfl)⟩
  · rw [f 4 _ (by omega), f 5 _ (by omega), f 10 _ (by omega)]; exact i4 t ht
  · unfold Et
    rw [f 25 _ (by omega), f 14 _ (by omega), f 17 _ (by omega), f 18 _ (by omega), f 19 _ (by omega), f 20 _ (by omega)]
    exact i5 e he
  · rw [eC] at hi
    rw [f 38 _ (by omega), f 39 _ (by omega)]
    exact i6 e he i hi
theorem Iw.day {bk dr T G H P : Nat} {X : Mm} {w : Wt} (h : Shp bk dr X) (iv : Iv T G H w) (iw : Iw T G H P w) (hd : w.1 0 8 + 1 ≤ 999) : Iw T G H P (N_day T G H w) := by
  have i0 := iv.day (w.1 0 8 + 1)
  have j0 := iw.setDay iv hd
  have i1 := nf_inv (f := N_settle) (P := fun _ b => Iv T G H b ∧ Iw T G H P b) (L := T) (fun i b hi hb => ⟨hb.1.settle, hb.2.settle hb.1 hi⟩) T 0 _ (by omega) ⟨i0, j0⟩
  have i2 := nf_inv (f := N_we T G H) (P := fun _ b => Iv T G H b ∧ Iw T G H P b) (L := G) (fun i b hi hb => ⟨hb.1.we (c_we (X := X) (n := 64) h St.now hb.1.1 hi (by omega) 0).2 hi, hb.2.we hb.1 hi⟩) G 0 _ (by omega) i1
  have i3 := nf_inv (f := N_pe H) (P := fun _ b => Iv T G H b ∧ Iw T G H P b) (L := G) (fun i b hi hb => ⟨hb.1.pe (c_pe (X := X) (n := 64) h St.now hb.1.1 hi (by omega) 0).2 hi, hb.2.pe hb.1 hi⟩) G 0 _ (by omega) i2
  exact (nf_inv (f := N_pw) (P := fun _ b => Iv T G H b ∧ Iw T G H P b) (L := G) (fun i b hi hb => by
    have hc := hb.1.cnt hi
    have q := (nf_inv (f := N_pwi i) (P := fun _ c => (Iv T G H c ∧ Iw T G H P c) ∧ Cn c i = Cn b i) (L := (b.1 26 i).toNatClampNeg) (fun j c hj hcc => ⟨⟨hcc.1.1.pwi hi (by rw [hcc.2]; exact hj), hcc.1.2.pwi hcc.1.1 hi (by rw [hcc.2]; exact hj)⟩, by
      unfold Cn
      rw [N_pwi_1 i j c (by decide) (by decide)]
      exact hcc.2⟩) (b.1 26 i).toNatClampNeg 0 b (by omega) ⟨hb, rfl⟩).1
    exact q) G 0 _ (by omega) i3).2
theorem Iv.nday {bk dr T G H : Nat} {X : Mm} {w : Wt} (h : Shp bk dr X) (iv : Iv T G H w) : Iv T G H (N_day T G H w) := by
  have i0 := iv.day (w.1 0 8 + 1)
  have i1 := nf_inv (f := N_settle) (P := fun _ b => Iv T G H b) (L := T) (fun i b _ hb => hb.settle) T 0 _ (by omega) i0
  have i2 := nf_inv (f := N_we T G H) (P := fun _ b => Iv T G H b) (L := G) (fun i b hi hb => hb.we (c_we (X := X) (n := 64) h St.now hb.1 hi (by omega) 0).2 hi) G 0 _ (by omega) i1
  have i3 := nf_inv (f := N_pe H) (P := fun _ b => Iv T G H b) (L := G) (fun i b hi hb => hb.pe (c_pe (X := X) (n := 64) h St.now hb.1 hi (by omega) 0).2 hi) G 0 _ (by omega) i2
  exact nf_inv (f := N_pw) (P := fun _ b => Iv T G H b) (L := G) (fun i b hi hb => by
    have hc := hb.cnt hi
    exact (nf_inv (f := N_pwi i) (P := fun _ c => Iv T G H c ∧ Cn c i = Cn b i) (L := (b.1 26 i).toNatClampNeg) (fun j c hj hcc => ⟨hcc.1.pwi hi (by rw [hcc.2]; exact hj), by
      unfold Cn
      rw [N_pwi_1 i j c (by decide) (by decide)]
      exact hcc.2⟩) (b.1 26 i).toNatClampNeg 0 b (by omega) ⟨hb, rfl⟩).1) G 0 _ (by omega) i3
theorem Iw.days {bk dr T G H P : Nat} {X : Mm} {w : Wt} (hs : Shp bk dr X) {d m : Nat} (iv : Iv T G H w) (h : Iw T G H P w) (hd : w.1 0 8 = nI d) (hm : d + m ≤ 999) : Iw T G H P (nf (fun _ => N_day T G H) m 0 w) :=
  (nf_inv (f := fun _ => N_day T G H) (P := fun i b => Iv T G H b ∧ Iw T G H P b ∧ b.1 0 8 = nI (d + i)) (L := m) (fun i b hi hb => by
    obtain ⟨b1, b2, b3⟩ := hb
    refine ⟨b1.nday hs, Iw.day hs b1 b2 (by rw [b3, nI_1, show (999 : Int32) = nI 999 from rfl, nI_leI (by omega) (by omega)]; omega), ?_⟩
    rw [N_day_fr.2, b3, nI_1]
    rfl) m 0 w (by omega) ⟨iv, h, hd⟩).2.1
