/-! THE START: behind both constructors class and reference are at the same point -/
theorem gd_0 : Gd 0 [] (fun _ _ => 0) q_X0 := by
  refine ⟨rfl, fun c => ?_, fun c => ?_, fun c k => ?_, fun _ _ => rfl, rfl, fun _ _ _ => rfl, fun x hx => absurd hx (by simp)⟩
  · show 99 = _
    by_cases e : c ≤ 0
    · obtain rfl : c = 0 := by omega
      rfl
    · rw [if_neg e]
  · show 0 = _
    by_cases e : c ≤ 0
    · obtain rfl : c = 0 := by omega
      rfl
    · rw [if_neg e]
  · show 0 = _
    by_cases z : z_r c k = 0
    · rw [z]; split <;> rfl
    · have := (z_fact c k z).2.1
      rw [if_neg (by omega)]
theorem fin_shp {F : Nat → Nat → Int32} {X : Mm} (h : Gd 381 [366, 1] F X) : Shp 7 11 X := by
  refine ⟨funext fun c => ?_, funext fun c => ?_, funext fun c => funext fun k => ?_⟩
  · rw [h.2.1]
    by_cases e : c ≤ 381
    · rw [if_pos e]
    · rw [if_neg e]
      have q : z_T.length = 382 := by decide +kernel
      unfold sh_T
      rw [List.getD_eq_getElem?_getD, List.getElem?_eq_none (by omega)]
      rfl
  · rw [h.2.2.1]
    by_cases e : c ≤ 381
    · rw [if_pos e]
    · rw [if_neg e]
      have q : z_L.length = 382 := by decide +kernel
      unfold sh_L
      rw [List.getD_eq_getElem?_getD, List.getElem?_eq_none (by omega)]
      rfl
  · rw [h.2.2.2.1]
    have a : (if z_r c k ≤ 381 ∧ z_r c k ∉ [366, 1] then z_r c k else 0) = z_r c k := by
      by_cases z : z_r c k = 0
      · rw [z]; split <;> rfl
      · have f := z_fact c k z
        rw [if_pos ⟨f.2.2.1, fun q => by
          rcases List.mem_cons.mp q with q | q
          · exact f.2.2.2.2 q
          · rcases List.mem_cons.mp q with q | q
            · exact f.2.2.2.1 q
            · exact absurd q (by simp)⟩]
    rw [a]
    unfold sh_R
    by_cases e1 : c = 1 ∧ k = 1
    · obtain ⟨rfl, rfl⟩ := e1
      rfl
    · rw [if_neg e1]
      by_cases e2 : c = 1 ∧ k = 2
      · obtain ⟨rfl, rfl⟩ := e2
        rfl
      · rw [if_neg e2]
theorem tp_start {X : Mm} (h : Fin12 X) : Tp 7 11 0 0 X := by
  obtain ⟨F, g, f1, f2, f3⟩ := h
  have hJ := g.2.2.2.2.1
  have hI : ∀ c k, mI X c k = F c k := fun c k => by rw [g.2.2.2.2.2.1]
  have z : ∀ c k, c ≠ 2 → c ≠ 373 → c ≠ 366 → mI X c k = 0 := fun c k a b d => by
    rw [hI, f2 c k b d]
    unfold F1
    rw [q_u2_at, if_neg (fun y => a y.1)]
  have z2 : ∀ k, mI X 2 k = if k = 7 then -1 else 0 := fun k => by
    rw [hI, f2 2 k (by decide) (by decide)]
    unfold F1
    rw [q_u2_at]
    by_cases e : k = 7
    · rw [if_pos ⟨rfl, e⟩, if_pos e]
    · rw [if_neg (fun y => e y.2), if_neg e]
  have z6 : ∀ k, mI X 366 k = if k = 23 then -1 else 0 := fun k => by rw [hI, f3]
  have wz : ∀ a k, a ≤ 42 → (gW 16 X).1 a k = 0 := fun a k ha => z (16 + a) k (by omega) (by omega) (by omega)
  have wj : ∀ a k, (gW 16 X).2 a k = 0 := fun a k => hJ _ _
  refine ⟨fin_shp g, Or.inl ⟨rfl, rfl⟩, by omega, by omega, by rw [z6]; rfl, by rw [z6]; rfl, ⟨0, 0, ⟨by omega, by omega, fun p a k hp => ?_⟩, ⟨⟨?_, by omega, ?_, by omega, ?_, by omega, fun t ht => absurd ht (Nat.not_lt_zero t), fun e he => absurd he (Nat.not_lt_zero e)⟩, fun e he => absurd he (Nat.not_lt_zero e)⟩, ⟨?_, by omega, ⟨0, by omega, ?_⟩, fun t ht => absurd ht (Nat.not_lt_zero t), fun e he => absurd he (Nat.not_lt_zero e), fun e he => absurd he (Nat.not_lt_zero e), fun i _ => ?_, ?_, fun t ht => absurd ht (Nat.not_lt_zero t), fun e he => absurd he (Nat.not_lt_zero e), fun e he => absurd he (Nat.not_lt_zero e)⟩⟩,
    ⟨0, 0, by omega, by omega, z _ _ (by decide) (by decide) (by decide), z _ _ (by decide) (by decide) (by decide), by rw [z6]; rfl, fun j hj => absurd hj (Nat.not_lt_zero j)⟩, ⟨z _ _ (by decide) (by decide) (by decide), z _ _ (by decide) (by decide) (by decide), ⟨fun _ => [], fun i hi => absurd hi (Nat.not_lt_zero i)⟩, ⟨fun _ => [], fun i hi => absurd hi (Nat.not_lt_zero i)⟩⟩,
    ⟨0, by omega, by rw [z2]; rfl, by rw [z6]; rfl, fun i _ => ?_⟩, ⟨by rw [z2, z6]; rfl, by rw [z2, z6]; rfl⟩, ⟨0, by omega, z _ _ (by decide) (by decide) (by decide), by rw [z6]; rfl, fun i hi => absurd hi (Nat.not_lt_zero i)⟩, fun i hi => by rw [hI]; exact f1 i hi⟩
  · have c0 : ∀ a k, a ≤ 42 → cw (gW 16 X) a k = 0 := fun a k ha => by
      unfold cw
      rw [wj, wz a k ha]
      split <;> rfl
    rw [hJ]
    unfold Pl at hp
    rcases hp with ⟨h1, h2, h3⟩ | ⟨h1, h2, h3⟩ | ⟨h1, h2, h3⟩ | ⟨h1, h2, h3⟩ | ⟨h1, h2, h3⟩ | ⟨j, h1, h2, h3, h4⟩ | ⟨j, h1, h2, h3, h4, -⟩ | ⟨e, i, j, h1, h2, h3, h4, h5, h6⟩ | ⟨e, i, j, h1, h2, h3, h4, h5, h6, -⟩
    · exact (c0 a k (by omega)).symm
    · exact (c0 a k (by omega)).symm
    · exact (c0 a k (by omega)).symm
    · exact (c0 a k (by omega)).symm
    · exact (c0 a k (by omega)).symm
    · omega
    · omega
    · omega
    · omega
  · exact wz 3 9 (by omega)
  · exact wz 13 16 (by omega)
  · exact wz 0 6 (by omega)
  · exact wz 0 7 (by omega)
  · exact wz 0 8 (by omega)
  · rw [wj, i64_z]; exact Int.le_refl _
  · rw [sm_congr (g := fun _ => 0) 50 (fun i _ => wj 1 i)]
    have e0 : sm (fun _ => 0) 50 = 0 := by decide
    have := mxS_pos (dn (gW 16 X) 0)
    omega
  · rw [z 374 i (by decide) (by decide) (by decide), z 3 i (by decide) (by decide) (by decide)]
    decide
theorem s_start (n L : Nat) (xs : Nat → Int32) : ∃ X, fL_law n xs L q_X0 = fL_law_L18 n xs L n 1 366 (nI 0) X ∧ ∃ bk dr H P, Tp bk dr H P X := by
  have h1 := gd_0.new (t := 11) (n := 8) rfl rfl
  obtain ⟨Y, y1, y2⟩ := i_fX11_init h1
  have h2 := y2.new (t := 12) (n := 35) rfl rfl
  obtain ⟨Z, w1, w2⟩ := i_fX12_init h2
  refine ⟨Z, ?_, 7, 11, 0, 0, tp_start w2⟩
  have e0 : mN q_X0 = 0 := rfl
  have e1 := y2.1
  unfold fL_law
  simp only [nm, e0, Nat.zero_add, y1, bd, e1]
  rw [w1]
  rfl
