/-! TEXTS: deeds, both -/
section
variable {b : Nat → Int32} {L : Nat} {nh np : Nat → List Nat} {H P bk dr n m K : Nat} {X W Z : Mm} {s t : St3}
theorem Rb.cg (h : Rb bk dr b L X) (hS : Shp bk dr W) (hI : ∀ c k, c = 373 ∨ c = 374 ∨ (c = 366 ∧ k = 12) → mI W c k = mI X c k) : Rb bk dr b L W := by
  obtain ⟨-, h2, h3, h4, h5, h6⟩ := h
  exact ⟨hS, h2, (hI _ _ (by omega)).trans h3, fun i hi => (hI _ _ (by omega)).trans (h4 i hi), h5, fun i hi => (hI _ _ (by omega)).trans (h6 i hi)⟩
theorem sI_same {c k : Nat} {v : Int32} (h : mI X c k = v) : sI X c k v = X := by
  refine Mm_ext rfl rfl rfl (funext fun a => funext fun j => ?_) rfl rfl rfl
  rw [mI_sI]
  by_cases e : a = c ∧ j = k
  · rw [if_pos e, e.1, e.2, h]
  · rw [if_neg e]
theorem s_deeds (h : Tp bk dr H P X) (hn : 24000 ≤ n) : ∃ r X1 X2, fX11_deeds n 1 X = some (r, X1) ∧ fX12_deeds n 366 X1 = some (r, X2) ∧ Tp bk dr H P X2 := by
  have hT := h
  obtain ⟨L, L7, hL, rb⟩ := h.rb
  obtain ⟨h1, hb, hH, hP, h6, h7, sr, ⟨nx, c, g1, g2, g3, g4, g5, g6⟩, ⟨n1, n2, ⟨nh, n3⟩, ⟨np, n4⟩⟩, -, -, -, -⟩ := h
  obtain ⟨b, eb⟩ : ∃ b, b = mI X 3 := ⟨_, rfl⟩
  rw [← eb] at rb
  obtain ⟨Y, st, ct, fI, fJ⟩ := c_start (n := n) h1 hL L7 (by omega) eb.symm
  have b7 : bk = 7 ∨ bk = 11 := by rcases hb with z | z <;> omega
  have cb : CB b L nh np H P bk dr Y := ⟨ct, hb, hH, hP, (fI _ _ (by omega)).trans n1, (fI _ _ (by omega)).trans n2, fun i hi => ⟨(n3 i hi).1, (fI _ _ (by omega)).trans (n3 i hi).2.1⟩, fun i hi => ⟨(n4 i hi).1, (fI _ _ (by omega)).trans (n4 i hi).2.1⟩⟩
  obtain ⟨K, hK, k1, k2, k3⟩ := K_deeds (b := b) (nh := nh) (np := np) (H := H) (P := P) L7
  by_cases hf : (ds b L nh np H P K).2.1 = 0
  · have ff : ∀ i, i ≤ K → (ds b L nh np H P i).2.1 = 0 := fun i hi => by
      by_cases q : i = K
      · rw [q]; exact hf
      · exact (k1 i (by omega)).1.1
    have fp : (ds b L nh np H P K).2 = (0, -1) := ds_p K (fun j hj => ff j (by omega)) hf
    obtain ⟨Zc, -, rc1, rc2, -, -, -, rc6⟩ := m_pass1 (n := n) (V := X) rb (by omega) hH hP h6 h7 (fun i hi => ⟨(n3 i hi).1, (n3 i hi).2.2⟩) (fun i hi => ⟨(n4 i hi).1, (n4 i hi).2.2⟩) hK k1 k2 k3
    have kw : ∀ i, i < K → dw b L (ds b L nh np H P i).1 ≠ 0 := fun i hi => ((rc6 hf).2 i hi).1
    have rfc : RF b L nh np H P bk dr K Zc := ⟨rc1.1, (rc2 _ _ (by omega) (by omega) (by omega)).trans h6, (rc2 _ _ (by omega) (by omega) (by omega)).trans h7, (rc6 hf).1, fun j hj => ((rc6 hf).2 j hj).2⟩
    obtain ⟨e1, f1, X1, -, ec1, cl1, -⟩ := c_deedsB (n := n) h1 cb fI fJ st (by omega) sr g1 g2 g3 g4 hK k1 k2 k3 hf kw rfc
    have x1I := cl1.2.1
    have x1J := cl1.2.2.1
    have m6 : mI X1 366 6 = nI H := (x1I _ _ (by omega) (by omega) (by omega) (by omega) (by omega) (by omega)).trans h6
    have m7 : mI X1 366 7 = nI P := (x1I _ _ (by omega) (by omega) (by omega) (by omega) (by omega) (by omega)).trans h7
    obtain ⟨Z, ez, r1, r2, r3, r4, r5, r6⟩ := m_pass1 (n := n) (V := X1) (nh := nh) (np := np) (rb.cg cl1.1 (fun a k ha => x1I a k (by omega) (by omega) (by omega) (by omega) (by omega) (by omega))) (by omega) hH hP m6 m7 (fun i hi => ⟨(n3 i hi).1, by rw [x1J _ _ (by omega)]; exact (n3 i hi).2.2⟩) (fun i hi => ⟨(n4 i hi).1, by rw [x1J _ _ (by omega)]; exact (n4 i hi).2.2⟩) hK k1 k2 k3
    have zI : ∀ a k, a ≠ 366 → a ≠ 378 → a ≠ 379 → mI (RS b L (ds b L nh np H P K) Z) a k = mI X1 a k := fun a k q1 q2 q3 => by rw [RS_Io _ _ q1, r2 _ _ q2 q3 (by omega)]
    have zJ : ∀ a k, a ≠ 366 → mJ (RS b L (ds b L nh np H P K) Z) a k = mJ X1 a k := fun a k q => by
      show mJ (FM _ _ _) a k = _
      rw [FM_Jo _ _ _ q, r5]
    have zS := (r1.rs (ds b L nh np H P K)).1
    have z0 : mI (RS b L (ds b L nh np H P K) Z) 366 0 = 0 := by rw [RS_o _ _ (by omega)]; exact r3
    have z12 : mI (RS b L (ds b L nh np H P K) Z) 366 12 = 0 := by rw [RS_o _ _ (by omega)]; exact r4
    have z6 : ∀ k, k = 5 ∨ k = 6 ∨ k = 7 ∨ k = 34 → mI (RS b L (ds b L nh np H P K) Z) 366 k = mI X 366 k := fun k hk => by
      rw [RS_o _ _ (by omega), r2 _ _ (by omega) (by omega) (by omega), x1I _ _ (by omega) (by omega) (by omega) (by omega) (by omega) (by omega)]
    have z31 : mI (RS b L (ds b L nh np H P K) Z) 366 31 = nI K := by rw [RS_o _ _ (by omega)]; exact (r6 hf).1
    have z22 : mI (RS b L (ds b L nh np H P K) Z) 366 22 = 0 := by rw [RS_I, if_pos rfl]; exact hf
    have z23 : mI (RS b L (ds b L nh np H P K) Z) 366 23 = -1 := by rw [RS_I, if_neg (by omega), if_pos rfl, fp]
    have z78 : ∀ j, mI (RS b L (ds b L nh np H P K) Z) 378 j = mI Z 378 j := fun j => RS_Io _ _ (by decide) j
    have z79 : ∀ j, mI (RS b L (ds b L nh np H P K) Z) 379 j = mI Z 379 j := fun j => RS_Io _ _ (by decide) j
    have fi := m_fine r1 (ds b L nh np H P K)
    rw [bo_t hf] at fi
    generalize RS b L (ds b L nh np H P K) Z = Z1 at *
    obtain ⟨g, eg, hg⟩ := r_before zS hn
    rw [sI_same z0] at eg
    have rf2 : RF b L nh np H P bk dr K (wJ Z1 368 g) := by
      refine ⟨zS.wJ _ _, ?_, ?_, ?_, fun j hj => ?_⟩
      · rw [mI_wJ, z6 _ (by omega)]; exact h6
      · rw [mI_wJ, z6 _ (by omega)]; exact h7
      · rw [mI_wJ]; exact z31
      · rw [mI_wJ, z78]
        refine ⟨((r6 hf).2 j hj).2.1, ?_⟩
        have q := ((r6 hf).2 j hj).2.2
        have qe : (fun k => mI Z1 379 (10 * j + k)) = fun k => mI Z 379 (10 * j + k) := funext fun k => z79 _
        rw [qe]
        exact q
    obtain ⟨e, f, X1b, eK, ec2, cl, ref⟩ := c_deedsB (n := n) h1 cb fI fJ st (by omega) sr g1 g2 g3 g4 hK k1 k2 k3 hf kw rf2
    have det := Option.some.inj (ec1.symm.trans ec2)
    have dX : X1 = X1b := (Prod.mk.inj det).2
    subst dX
    have j67 : mJ (wJ Z1 368 g) 367 = mJ X 367 := by
      rw [mJ_wJo (by decide)]
      exact funext fun k => (zJ 367 k (by omega)).trans (x1J 367 k (by omega))
    have ref2 := ref n (by omega)
    rw [← j67, wJ_self] at ref2
    obtain ⟨c1, -, -, c4, c5_, c6_, c7, c8, c9, c10⟩ := cl
    have zc5 : mI Z1 366 5 = nI c := (z6 5 (by omega)).trans g5
    have main : fX12_deeds n 366 X1 = fX12_deeds_L87 n 366 (nI e) (wJ (wJ Z1 368 g) 367 f) := by
      rw [ez, ← ref2]
      have h := zS
      simp only [fX12_deeds_L39, h.1, h.2.1, h.2.2, li_T, li_L, li_R, nm, bd, q_b, ne_eq, Nat.reduceEqDiff, reduceCtorEq, and_false, false_and, and_true, true_and, and_self, not_false_eq_true, not_true_eq_false, ↓reduceIte, fi, b1, eg]
    have hFa : ∀ Y' : Mm, mI Y' 2 6 = mI Z1 2 6 → mI Y' 2 7 = mI Z1 2 7 → mI Y' 366 22 = mI Z1 366 22 → mI Y' 366 23 = mI Z1 366 23 → FaR Y' := fun Y' a1 a2 a3 a4 => ⟨by rw [a1, a3, z22, zI _ _ (by omega) (by omega) (by omega)]; exact c5_, by rw [a2, a4, z23, zI _ _ (by omega) (by omega) (by omega)]; exact c6_⟩
    by_cases q : e = 0
    · subst q
      obtain ⟨d1, d2, d3⟩ := c9 rfl
      refine ⟨nI 0, X1, wJ (wJ Z1 368 g) 367 f, ec2, ?_, ?_⟩
      · rw [main]
        simp only [fX12_deeds_L87, fX12_deeds_L95]
        rw [if_pos (by decide)]
      · refine hT.rd2 ((zS.wJ _ _).wJ _ _) (fun a k a1 a2 a3 a4 a5 a6 a7 a8 a9 => ?_) (fun a ha k => ?_) ?_ ?_ (hFa _ rfl rfl rfl rfl) ?_ ?_
        · rw [mI_wJ, mI_wJ]
          by_cases e6 : a = 366
          · rw [e6]; exact z6 k (by have := a9 e6; omega)
          · rw [zI _ _ e6 a7 a8, x1I _ _ a1 a2 a3 a4 a5 a6]
        · rw [mJ_wJo (by omega), mJ_wJo (by omega), zJ _ _ (by omega), x1J _ _ (by omega)]
        · rw [mI_wJ, mI_wJ, zI _ _ (by omega) (by omega) (by omega)]; exact c4
        · rw [mI_wJ, mI_wJ]; exact z12
        · rw [mJ_wJ]
          refine c7.weq (Weq.of (fun a k ha => ?_) (fun a k ha => ?_)) (fun _ _ => rfl)
          · rw [mI_wJ, mI_wJ, zI _ _ (by omega) (by omega) (by omega)]
          · rw [mJ_wJo (by omega), mJ_wJo (by omega), zJ _ _ (by omega)]
        · refine ⟨nx, c, g1, g2, ?_, ?_, ?_, fun j hj => ?_⟩
          · rw [mI_wJ, mI_wJ, zI _ _ (by omega) (by omega) (by omega)]; exact d2
          · rw [mI_wJ, mI_wJ, zI _ _ (by omega) (by omega) (by omega)]; exact d3
          · rw [mI_wJ, mI_wJ]; exact zc5
          · have w := c8 ((nx + 7 - c + j) % 7) (by omega) (by omega)
            have ls : sl ((nx + 7 - c + j) % 7) = 61 + 43 * ((nx + 7 - c + j) % 7) := rfl
            refine (g6 j hj).weq (w.trans (Weq.of (fun a k ha => ?_) (fun a k ha => ?_))) (fun p _ => ?_)
            · rw [mI_wJ, mI_wJ, zI _ _ (by omega) (by omega) (by omega)]
              rfl
            · rw [mJ_wJo (by omega), mJ_wJo (by omega), zJ _ _ (by omega)]
              rfl
            · rw [mJ_wJo (by omega), mJ_wJo (by omega), zJ _ _ (by omega), x1J _ _ (by omega)]
    · obtain ⟨d1, d2, d3⟩ := c10 q
      obtain ⟨X2, ek, hS2, p1, p2, p3, p4, p5, p6⟩ := r_after (g := g) (f' := f) zS zc5 g2 hn
      rw [sI_same z0] at ek
      have q1 : ¬ nI e ≤ 0 := nI_ge (a := 0) (b := e) (by omega) (by omega)
      refine ⟨nI e, X1, X2, ec2, ?_, ?_⟩
      · rw [main]
        have h := zS
        simp only [fX12_deeds_L87, fX12_deeds_L95, h.1, h.2.1, h.2.2, li_T, li_L, li_R, nm, bd, q_b, ne_eq, Nat.reduceEqDiff, reduceCtorEq, and_false, false_and, and_true, true_and, and_self, not_false_eq_true, not_true_eq_false, ↓reduceIte, q1, mT_wJ, ek]
      · refine hT.rd2 hS2 (fun a k a1 a2 a3 a4 a5 a6 a7 a8 a9 => ?_) (fun a ha k => ?_) ?_ ?_ (hFa _ (p1 _ _ (by omega)) (p1 _ _ (by omega)) (p1 _ _ (by omega)) (p1 _ _ (by omega))) ?_ ?_
        · by_cases e6 : a = 366
          · have := a9 e6
            rw [p1 _ _ (by omega), e6]; exact z6 k (by omega)
          · rw [p1 _ _ (by omega), zI _ _ e6 a7 a8, x1I _ _ a1 a2 a3 a4 a5 a6]
        · rw [p3 _ (by omega) (by omega) (by omega), zJ _ _ (by omega), x1J _ _ (by omega)]
        · rw [p1 _ _ (by omega), zI _ _ (by omega) (by omega) (by omega)]; exact c4
        · rw [p1 _ _ (by omega)]; exact z12
        · rw [p4]
          refine c7.weq (Weq.of (fun a k ha => ?_) (fun a k ha => ?_)) (fun _ _ => rfl)
          · rw [p1 _ _ (by omega), zI _ _ (by omega) (by omega) (by omega)]
          · rw [p3 _ (by omega) (by omega) (by omega), zJ _ _ (by omega)]
        · refine HiR.keep g1 g2 g6 (by rw [p1 _ _ (by omega), zI _ _ (by omega) (by omega) (by omega)]; exact d2) (by rw [p1 _ _ (by omega), zI _ _ (by omega) (by omega) (by omega)]; exact d3) p2 (fun i hi hne => (c8 i hi hne).trans ?_) (d1.trans ?_) (fun j k a1 a2 a3 => ?_) (fun k hk => ?_) sr
          · have ls : sl i = 61 + 43 * i := rfl
            refine Weq.of (fun a k ha => ?_) (fun a k ha => ?_)
            · rw [p1 _ _ (by omega), zI _ _ (by omega) (by omega) (by omega)]
            · rw [p3 _ (by omega) (by omega) (by omega), zJ _ _ (by omega)]
          · have ls : sl nx = 61 + 43 * nx := rfl
            refine Weq.of (fun a k ha => ?_) (fun a k ha => ?_)
            · rw [p1 _ _ (by omega), zI _ _ (by omega) (by omega) (by omega)]
            · rw [p3 _ (by omega) (by omega) (by omega), zJ _ _ (by omega)]
          · rw [p5 j k a1 a2 a3, zJ _ _ (by omega), x1J _ _ (by omega)]
          · rw [p6 k hk, hg k hk, zJ _ _ (by omega), x1J _ _ (by omega)]
  · obtain ⟨d1, e1⟩ := c_L9 (n := n) cb (by omega) hK k1 k2 k3 K 0 (mI Y 15) n (by omega) (by omega)
    have e0 : ds b L nh np H P 0 = (0, 0, -1) := rfl
    rw [wI_self, e0] at e1
    have hM := (cb.at (ds b L nh np H P K) d1).1
    have m6 : ¬ mI (U2 (ds b L nh np H P K) (wI Y 15 d1)) 2 6 = 0 := by rw [U2_I, if_neg (by omega), if_pos ⟨rfl, rfl⟩]; exact hf
    have z0 : fX11_readAhead_L9 n n 1 0 (U2 (0, 0, -1) Y) = fX11_readAhead_L47 n 1 (nI K) (U2 (ds b L nh np H P K) (wI Y 15 d1)) := e1
    have l47 : fX11_readAhead_L47 n 1 (nI K) (U2 (ds b L nh np H P K) (wI Y 15 d1)) = some (-1, U2 (ds b L nh np H P K) (wI Y 15 d1)) := by
      have h := hM
      simp only [fX11_readAhead_L47, h.1, h.2.1, h.2.2, li_T, li_L, li_R, nm, bd, q_b, ne_eq, Nat.reduceEqDiff, reduceCtorEq, and_false, false_and, and_true, true_and, and_self, not_false_eq_true, not_true_eq_false, ↓reduceIte, m6]
    have M26 : mI (U2 (ds b L nh np H P K) (wI Y 15 d1)) 2 6 = (ds b L nh np H P K).2.1 := by rw [U2_I, if_neg (by omega), if_pos ⟨rfl, rfl⟩]
    have M27 : mI (U2 (ds b L nh np H P K) (wI Y 15 d1)) 2 7 = (ds b L nh np H P K).2.2 := by rw [U2_I, if_pos ⟨rfl, rfl⟩]
    have MI : ∀ a k, a ≠ 2 → a ≠ 4 → a ≠ 5 → a ≠ 6 → a ≠ 15 → mI (U2 (ds b L nh np H P K) (wI Y 15 d1)) a k = mI X a k := fun a k a2 a4 a5 a6 a15 => by rw [U2_Io _ _ a2, mI_wI, if_neg a15, fI _ _ (by omega)]
    have MJ : mJ (U2 (ds b L nh np H P K) (wI Y 15 d1)) = mJ X := by rw [U2_jj, wI_J, fJ]
    have eA : fX11_readAhead n 1 X = some (-1, U2 (ds b L nh np H P K) (wI Y 15 d1)) := by
      have h := h1
      simp only [fX11_readAhead, h.1, h.2.1, h.2.2, li_T, li_L, li_R, nm, bd, q_b, ne_eq, Nat.reduceEqDiff, reduceCtorEq, and_false, false_and, and_true, true_and, and_self, not_false_eq_true, not_true_eq_false, ↓reduceIte, st, z0, l47]
    generalize U2 (ds b L nh np H P K) (wI Y 15 d1) = M at *
    have eC : fX11_deeds n 1 X = some (-1, sI M 2 1 0) := by
      have h0 := h1
      have h := h1
      simp only [fX11_deeds, fX11_deeds_L19, h.1, h.2.1, h.2.2, li_T, li_L, li_R, nm, bd, q_b, ne_eq, Nat.reduceEqDiff, reduceCtorEq, and_false, false_and, and_true, true_and, and_self, not_false_eq_true, not_true_eq_false, ↓reduceIte, eA, hM.1, hM.2.2]
    have xS : Shp bk dr (sI M 2 1 0) := hM.sI _ _ _
    have xI : ∀ a k, a ≠ 2 → a ≠ 4 → a ≠ 5 → a ≠ 6 → a ≠ 15 → mI (sI M 2 1 0) a k = mI X a k := fun a k a2 a4 a5 a6 a15 => by rw [mI_sI, if_neg (by omega), MI _ _ a2 a4 a5 a6 a15]
    have xJ : mJ (sI M 2 1 0) = mJ X := by rw [mJ_sI, MJ]
    have x21 : mI (sI M 2 1 0) 2 1 = 0 := by rw [mI_sI, if_pos ⟨rfl, rfl⟩]
    have x26 : mI (sI M 2 1 0) 2 6 = (ds b L nh np H P K).2.1 := by rw [mI_sI, if_neg (by omega), M26]
    have x27 : mI (sI M 2 1 0) 2 7 = (ds b L nh np H P K).2.2 := by rw [mI_sI, if_neg (by omega), M27]
    generalize sI M 2 1 0 = X1 at *
    obtain ⟨Z, ez, r1, r2, r3, r4, r5, -⟩ := m_pass1 (n := n) (V := X1) (nh := nh) (np := np) (rb.cg xS (fun a k ha => xI a k (by omega) (by omega) (by omega) (by omega) (by omega))) (by omega) hH hP ((xI _ _ (by omega) (by omega) (by omega) (by omega) (by omega)).trans h6) ((xI _ _ (by omega) (by omega) (by omega) (by omega) (by omega)).trans h7) (fun i hi => ⟨(n3 i hi).1, by rw [xJ]; exact (n3 i hi).2.2⟩) (fun i hi => ⟨(n4 i hi).1, by rw [xJ]; exact (n4 i hi).2.2⟩) hK k1 k2 k3
    have fi := m_fine r1 (ds b L nh np H P K)
    rw [bo_f hf] at fi
    have zS := (r1.rs (ds b L nh np H P K)).1
    refine ⟨-1, X1, RS b L (ds b L nh np H P K) Z, eC, ?_, ?_⟩
    · rw [ez]
      have h := zS
      simp only [fX12_deeds_L39, h.1, h.2.1, h.2.2, li_T, li_L, li_R, nm, bd, q_b, ne_eq, Nat.reduceEqDiff, reduceCtorEq, and_false, false_and, and_true, true_and, and_self, not_false_eq_true, not_true_eq_false, ↓reduceIte, fi]
    · refine hT.read (L' := 0) zS (fun a k hr q1 q2 => ?_) (fun a hr k => ?_) (by omega) ?_ ?_ ⟨?_, ?_⟩
      · by_cases e6 : a = 366
        · subst e6
          unfold rlI at hr
          rw [RS_o _ _ (by omega), r2 _ _ (by omega) (by omega) (by omega), xI _ _ (by omega) (by omega) (by omega) (by omega) (by omega)]
        · unfold rlI at hr
          rw [RS_Io _ _ e6, r2 _ _ (by omega) (by omega) (by omega), xI _ _ (by omega) (by omega) (by omega) (by omega) (by omega)]
      · unfold rlJ at hr
        show mJ (FM _ _ _) a k = _
        rw [FM_Jo _ _ _ (by omega), r5, xJ]
      · rw [RS_Io _ _ (by decide), r2 _ _ (by omega) (by omega) (by omega)]; exact x21
      · rw [RS_o _ _ (by omega)]; exact r4
      · rw [RS_Io _ _ (by decide), r2 _ _ (by omega) (by omega) (by omega), x26, RS_I, if_pos rfl]
      · rw [RS_Io _ _ (by decide), r2 _ _ (by omega) (by omega) (by omega), x27, RS_I, if_neg (by omega), if_pos rfl]
end
