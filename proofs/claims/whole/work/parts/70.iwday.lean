/-! WHAT ELSE HOLDS OF A STATE, kept by a DAY -/
theorem Iw.day {T G H P : Nat} {w : Wt} (iv : Iv T G H w) (h : Iw T G H P w) (hd : w.1 0 8 + 1 ≤ 999) : Iw T G H P (N_day T G H w) := by
  sorry
theorem Iv.nday {bk dr T G H : Nat} {X : Mm} {w : Wt} (h : Shp bk dr X) (iv : Iv T G H w) : Iv T G H (N_day T G H w) := by
  have i0 := iv.day (w.1 0 8 + 1)
  have i1 := nf_inv (f := N_settle) (P := fun _ b => Iv T G H b) (L := T) (fun i b _ hb => hb.settle) T 0 _ (by omega) i0
  have i2 := nf_inv (f := N_we T G H) (P := fun _ b => Iv T G H b) (L := G) (fun i b hi hb => hb.we (c_we (X := X) (n := 64) h St.now hb.1 hi (by omega) 0).2 hi) G 0 _ (by omega) i1
  have i3 := nf_inv (f := N_pe H) (P := fun _ b => Iv T G H b) (L := G) (fun i b hi hb => hb.pe (c_pe (X := X) (n := 64) h St.now hb.1 hi (by omega) 0).2 hi) G 0 _ (by omega) i2
  exact nf_inv (f := N_pw) (P := fun _ b => Iv T G H b) (L := G) (fun i b hi hb => by
    have hc := hb.cnt hi
    exact (nf_inv (f := N_pwi i) (P := fun _ c => Iv T G H c ∧ Cn c i = Cn b i) (L := (b.1 26 i).toNatClampNeg) (fun j c hj hcc => ⟨hcc.1.pwi hi (by rw [hcc.2]; exact hj), by
      unfold Cn
      rw [N_pwi_1 i j c (by decide) (by decide)]
      exact hcc.2⟩) (b.1 26 i).toNatClampNeg 0 b (by omega) ⟨hb, rfl⟩).1) G 0 _ (by omega) i3
theorem Iw.days {bk dr T G H P : Nat} {X : Mm} {w : Wt} (hs : Shp bk dr X) {d m : Nat} (iv : Iv T G H w) (h : Iw T G H P w) (hd : w.1 0 8 = nI d) (hm : d + m ≤ 999) : Iw T G H P (nf (fun _ => N_day T G H) m 0 w) :=
  (nf_inv (f := fun _ => N_day T G H) (P := fun i b => Iv T G H b ∧ Iw T G H P b ∧ b.1 0 8 = nI (d + i)) (L := m) (fun i b hi hb => by
    obtain ⟨b1, b2, b3⟩ := hb
    refine ⟨b1.nday hs, b2.day b1 (by rw [b3, nI_1, show (999 : Int32) = nI 999 from rfl, nI_leI (by omega) (by omega)]; omega), ?_⟩
    rw [N_day_fr.2, b3, nI_1]
    rfl) m 0 w (by omega) ⟨iv, h, hd⟩).2.1
