/-! TEXTS: deeds -/
section
variable {b : Nat → Int32} {L : Nat} {nh np : Nat → List Nat} {H P bk dr n m K : Nat} {X W Z : Mm} {s t : St3}
theorem Tp.rd2 {Y : Mm} (h : Tp bk dr H P X) (hS : Shp bk dr Y) (hI : ∀ c k, (c < 16 ∨ 361 < c) → c ≠ 2 → c ≠ 4 → c ≠ 5 → c ≠ 6 → c ≠ 15 → c ≠ 378 → c ≠ 379 → (c = 366 → k = 6 ∨ k = 7 ∨ k = 34) → mI Y c k = mI X c k) (hJ : ∀ c, c = 371 ∨ c = 372 → ∀ k, mJ Y c k = mJ X c k) (y1 : mI Y 2 1 = 0) (y2 : mI Y 366 12 = 0) (y3 : FaR Y) (hN : SR H P (mJ Y 367) (gW 16 Y)) (hH : HiR H P Y) : Tp bk dr H P Y := by
  obtain ⟨h1, h2, h3, h4, h5, h6, -, -, ⟨n1, n2, ⟨nh, n3⟩, ⟨np, n4⟩⟩, ⟨L, t1, t2, t3, t4⟩, ⟨f1, f2⟩, ⟨M, s1, s2, s3, s4⟩, l⟩ := h
  have hb : bk = 7 ∨ bk = 11 := by rcases h2 with z | z <;> omega
  refine ⟨hS, h2, h3, h4, by rw [hI _ _ (by omega) (by omega) (by omega) (by omega) (by omega) (by omega) (by omega) (by omega) (by omega)]; exact h5, by rw [hI _ _ (by omega) (by omega) (by omega) (by omega) (by omega) (by omega) (by omega) (by omega) (by omega)]; exact h6, hN, hH, ⟨by rw [hI _ _ (by omega) (by omega) (by omega) (by omega) (by omega) (by omega) (by omega) (by omega) (by omega)]; exact n1, by rw [hI _ _ (by omega) (by omega) (by omega) (by omega) (by omega) (by omega) (by omega) (by omega) (by omega)]; exact n2, ⟨nh, fun i hi => ?_⟩, ⟨np, fun i hi => ?_⟩⟩, ⟨0, by omega, y1, y2, fun i hi => ?_⟩, y3, ⟨M, s1, by rw [hI _ _ (by omega) (by omega) (by omega) (by omega) (by omega) (by omega) (by omega) (by omega) (by omega)]; exact s2, by rw [hI _ _ (by omega) (by omega) (by omega) (by omega) (by omega) (by omega) (by omega) (by omega) (by omega)]; exact s3, fun i hi => ?_⟩, fun i hi => ?_⟩
  · rw [hI _ _ (by omega) (by omega) (by omega) (by omega) (by omega) (by omega) (by omega) (by omega) (by omega), hJ _ (by omega)]; exact n3 i hi
  · rw [hI _ _ (by omega) (by omega) (by omega) (by omega) (by omega) (by omega) (by omega) (by omega) (by omega), hJ _ (by omega)]; exact n4 i hi
  · rw [hI _ _ (by omega) (by omega) (by omega) (by omega) (by omega) (by omega) (by omega) (by omega) (by omega), hI _ _ (by omega) (by omega) (by omega) (by omega) (by omega) (by omega) (by omega) (by omega) (by omega)]; exact t4 i hi
  · rw [hI _ _ (by omega) (by omega) (by omega) (by omega) (by omega) (by omega) (by omega) (by omega) (by omega), hI _ _ (by omega) (by omega) (by omega) (by omega) (by omega) (by omega) (by omega) (by omega) (by omega)]; exact s4 i hi
  · rw [hI _ _ (by omega) (by omega) (by omega) (by omega) (by omega) (by omega) (by omega) (by omega) (by omega)]; exact l i hi
/-- the reference reads all deeds -/
theorem m_pass1 {V : Mm} (h : Rb bk dr b L V) (hn : 1000 ≤ n) (hH : H ≤ 10) (hP : P ≤ 5) (h6 : mI V 366 6 = nI H) (h7 : mI V 366 7 = nI P) (rh : ∀ i, i < H → Nm (nh i) ∧ mJ V 371 i = lN (c27 (nh i))) (rp : ∀ i, i < P → Nm (np i) ∧ mJ V 372 i = lN (c27 (np i))) (hK : K ≤ 140) (k1 : ∀ i, i < K → Go b L nh np H P i ∧ i < 140) (k2 : ¬ Go b L nh np H P K) (k3 : ∀ i, i ≤ K → VI b L (ds b L nh np H P i).1) :
    ∃ Z, fX12_deeds n 366 V = fX12_deeds_L39 n 366 (RS b L (ds b L nh np H P K) Z) ∧ Ref bk dr b L Z ∧ (∀ c k, c ≠ 378 → c ≠ 379 → ¬ (c = 366 ∧ (k = 31 ∨ k = 0 ∨ k = 12 ∨ k = 13)) → mI Z c k = mI V c k) ∧ mI Z 366 0 = 0 ∧ mI Z 366 12 = 0 ∧ mJ Z = mJ V ∧ ((ds b L nh np H P K).2.1 = 0 → mI Z 366 31 = nI K ∧ ∀ j, j < K → dw b L (ds b L nh np H P j).1 ≠ 0 ∧ mI Z 378 j = nI (dw b L (ds b L nh np H P j).1) ∧ RA (dw b L (ds b L nh np H P j).1) (VV b L nh np H P (ds b L nh np H P j)) (fun k => mI Z 379 (10 * j + k))) := by
  have r0 := (h.at (k := 0) (by decide) 0).at (k := 31) (by decide) 0
  have bg := m_begins (n := n) r0 hn
  have R := r0.ref
  have zI : ∀ c k, mI (Z0 L (sI (sI V 366 0 0) 366 31 0)) c k = if c = 366 ∧ k = 12 then 0 else if c = 366 ∧ k = 13 then nI L else if c = 366 ∧ k = 31 then 0 else if c = 366 ∧ k = 0 then 0 else mI V c k := fun c k => by rw [Z0_I, mI_sI, mI_sI]
  have zJ : mJ (Z0 L (sI (sI V 366 0 0) 366 31 0)) = mJ V := by unfold Z0; rw [mJ_sI, mJ_sI, mJ_sI, mJ_sI]
  have hs := h.1
  have sa : mT (sI V 366 0 0) = mT V := rfl
  have sb : mT (sI (sI V 366 0 0) 366 31 0) = mT V := rfl
  generalize Z0 L (sI (sI V 366 0 0) 366 31 0) = Z1 at *
  have rg : RG b L nh np H P bk dr Z1 := by
    refine ⟨R, hH, hP, ?_, ?_, ?_, ?_⟩
    · rw [zI, if_neg (by omega), if_neg (by omega), if_neg (by omega), if_neg (by omega)]; exact h6
    · rw [zI, if_neg (by omega), if_neg (by omega), if_neg (by omega), if_neg (by omega)]; exact h7
    · rw [zJ]; exact rh
    · rw [zJ]; exact rp
  have ir : IR b L nh np H P bk dr Z1 0 Z1 := ⟨R.1, fun _ _ _ _ _ => rfl, rfl, fun _ => ⟨by rw [zI, if_neg (by omega), if_neg (by omega), if_pos ⟨rfl, rfl⟩]; rfl, fun j hj => absurd hj (by omega)⟩⟩
  obtain ⟨Z, e, g⟩ := m_L14 (n := n) rg hn k1 k2 k3 K 0 Z1 n (by omega) (by omega) ir
  refine ⟨Z, ?_, IR.ref rg g, fun c k a1 a2 a3 => ?_, ?_, ?_, g.2.2.1.trans zJ, g.2.2.2⟩
  · rw [← e]
    have h := hs
    have e0 : ds b L nh np H P 0 = (0, 0, -1) := rfl
    rw [e0]
    simp only [fX12_deeds, h.1, h.2.1, h.2.2, li_T, li_L, li_R, nm, bd, q_b, ne_eq, Nat.reduceEqDiff, reduceCtorEq, and_false, false_and, and_true, true_and, and_self, not_false_eq_true, not_true_eq_false, ↓reduceIte, sa, sb, bg]
  · rw [g.2.1 c k a1 a2 (by omega), zI, if_neg (by omega), if_neg (by omega), if_neg (by omega), if_neg (by omega)]
  · rw [g.2.1 _ _ (by omega) (by omega) (by omega), zI, if_neg (by omega), if_neg (by omega), if_neg (by omega), if_pos ⟨rfl, rfl⟩]
  · rw [g.2.1 _ _ (by omega) (by omega) (by omega), zI, if_pos ⟨rfl, rfl⟩]
/-- what the class leaves behind when all was read -/
def CL (H P bk dr nx c n e : Nat) (f : Nat → Int64) (X X1 : Mm) : Prop := Shp bk dr X1 ∧ (∀ a k, (a < 16 ∨ 361 < a) → a ≠ 2 → a ≠ 4 → a ≠ 5 → a ≠ 6 → a ≠ 15 → mI X1 a k = mI X a k) ∧ (∀ a k, (a < 16 ∨ 361 < a) → mJ X1 a k = mJ X a k) ∧ mI X1 2 1 = 0 ∧ mI X1 2 6 = 0 ∧ mI X1 2 7 = -1 ∧ SR H P f (gW 16 X1) ∧ (∀ i, i < 7 → i ≠ nx → Weq (gW (sl i) X) (gW (sl i) X1)) ∧ (e = 0 → f = mJ X 367 ∧ mI X1 59 1 = nI nx ∧ mI X1 59 2 = nI c) ∧ (e ≠ 0 → Weq (gW 16 X) (gW (sl nx) X1) ∧ mI X1 59 1 = nI ((nx + 1) % 7) ∧ mI X1 59 2 = nI (if c = 6 then 6 else c + 1))
theorem c_deedsB {Y : Mm} {nx c : Nat} (hX : Shp bk dr X) (h : CB b L nh np H P bk dr Y) (fI : ∀ c k, ¬ (c = 4 ∨ c = 5 ∨ c = 6) → mI Y c k = mI X c k) (fJ : mJ Y = mJ X) (st : fX9_startReading n 2 X = some ((), U2 (0, 0, -1) Y)) (hn : 1200 ≤ n) (sr : SR H P (mJ X 367) (gW 16 X)) (g1 : nx < 7) (g2 : c ≤ 6) (g3 : mI X 59 1 = nI nx) (g4 : mI X 59 2 = nI c)
    (hK : K ≤ 140) (k1 : ∀ i, i < K → Go b L nh np H P i ∧ i < 140) (k2 : ¬ Go b L nh np H P K) (k3 : ∀ i, i ≤ K → VI b L (ds b L nh np H P i).1) (hf : (ds b L nh np H P K).2.1 = 0) (kw : ∀ i, i < K → dw b L (ds b L nh np H P i).1 ≠ 0) (hZ : RF b L nh np H P bk dr K Z) :
    ∃ e f X1, e ≤ K ∧ fX11_deeds n 1 X = some (nI e, X1) ∧ CL H P bk dr nx c n e f X X1 ∧ ∀ j, K < j → fX12_deeds_L64 n j 366 0 (wJ Z 367 (mJ X 367)) = fX12_deeds_L87 n 366 (nI e) (wJ Z 367 f) := by
  have e0 : ds b L nh np H P 0 = (0, 0, -1) := rfl
  have ff : ∀ i, i ≤ K → (ds b L nh np H P i).2.1 = 0 := fun i hi => by
    by_cases q : i = K
    · rw [q]; exact hf
    · exact (k1 i (by omega)).1.1
  have fp : ∀ i, i ≤ K → (ds b L nh np H P i).2 = (0, -1) := fun i hi => ds_p i (fun j hj => ff j (by omega)) (ff i hi)
  obtain ⟨d1, e1⟩ := c_L9 (n := n) h (by omega) hK k1 k2 k3 K 0 (mI Y 15) n (by omega) (by omega)
  rw [wI_self, e0] at e1
  have b0 : bk ≠ 0 := by rcases h.2.1 with z | z <;> omega
  have hM := (h.at (ds b L nh np H P K) d1).1
  have m6 : mI (U2 (ds b L nh np H P K) (wI Y 15 d1)) 2 6 = 0 := by rw [U2_I, if_neg (by omega), if_pos ⟨rfl, rfl⟩]; exact hf
  have hU : Shp bk dr (U2 (0, 0, -1) Y) := h.1.u _
  have eA : fX11_readAhead n 1 X = some (nI K, U2 (ds b L nh np H P K) (wI Y 15 d1)) := by
    have z0 : fX11_readAhead_L9 n n 1 0 (U2 (0, 0, -1) Y) = fX11_readAhead_L47 n 1 (nI K) (U2 (ds b L nh np H P K) (wI Y 15 d1)) := e1
    have l47 : fX11_readAhead_L47 n 1 (nI K) (U2 (ds b L nh np H P K) (wI Y 15 d1)) = some (nI K, U2 (ds b L nh np H P K) (wI Y 15 d1)) := by
      have h := hM
      simp only [fX11_readAhead_L47, h.1, h.2.1, h.2.2, li_T, li_L, li_R, nm, bd, q_b, ne_eq, Nat.reduceEqDiff, reduceCtorEq, and_false, false_and, and_true, true_and, and_self, not_false_eq_true, not_true_eq_false, ↓reduceIte, m6]
    have h := hX
    simp only [fX11_readAhead, h.1, h.2.1, h.2.2, li_T, li_L, li_R, nm, bd, q_b, ne_eq, Nat.reduceEqDiff, reduceCtorEq, and_false, false_and, and_true, true_and, and_self, not_false_eq_true, not_true_eq_false, ↓reduceIte, st, z0, l47]
  have hs := sl_St g1
  have lo : sl nx = 61 + 43 * nx := rfl
  have M59 : ∀ k, mI (U2 (ds b L nh np H P K) (wI Y 15 d1)) 59 k = mI X 59 k := fun k => by rw [U2_Io _ _ (by decide), mI_wI, if_neg (by decide), fI _ _ (by omega)]
  have sp1 := c_spare hM g1 (by rw [M59]; exact g3)
  have cp := c_copy (u := gW (sl nx) (U2 (ds b L nh np H P K) (wI Y 15 d1))) hM St.now hs (by omega)
  rw [pW_gW, pW_c (by omega), gW_c (by decide), gW_c (by omega)] at cp
  have W1h := h.pw (q := sl nx) (by omega) (N_cp (gW 16 Y) (gW (sl nx) Y))
  have wI1 : ∀ a k, (a < sl nx ∨ sl nx + 42 < a) → mI (pW (sl nx) (N_cp (gW 16 Y) (gW (sl nx) Y)) Y) a k = mI Y a k := fun a k ha => mI_pWo a k ha
  have wJ1 : ∀ a k, (a < sl nx ∨ sl nx + 42 < a) → mJ (pW (sl nx) (N_cp (gW 16 Y) (gW (sl nx) Y)) Y) a k = mJ Y a k := fun a k ha => mJ_pWo a k ha
  have wW : Weq (gW 16 Y) (gW (sl nx) (pW (sl nx) (N_cp (gW 16 Y) (gW (sl nx) Y)) Y)) := (N_cp_eq (gW 16 Y) (gW (sl nx) Y)).symm.trans Weq.pW
  generalize pW (sl nx) (N_cp (gW 16 Y) (gW (sl nx) Y)) Y = W1 at *
  have hM2 := (W1h.at (ds b L nh np H P K) d1).1
  have ag := c_again2 (W1h.1.w15 d1) (ds b L nh np H P K)
  have yX : ∀ q, 15 < q → Weq (gW q X) (gW q Y) := fun q hq => Weq.of (fun a k _ => fI _ _ (by omega)) (fun a k _ => by rw [fJ])
  have w16 : Weq (gW 16 X) (gW 16 W1) := Weq.of (fun a k ha => (wI1 _ k (by omega)).trans (fI _ _ (by omega))) (fun a k ha => by rw [wJ1 _ k (by omega), fJ])
  obtain ⟨s', W', d', e, f', -, y2, y3, y4, y5, y6, y7, y8, y9⟩ := both2 (n := n) (H := H) (P := P) (bk := bk) (dr := dr) hn hK k1 k3 kw hZ K 0 W1 d1 (mJ X 367) (by omega) W1h (sr.weq w16 (fun _ _ => rfl))
  have sp2 : s'.2 = (0, -1) := by
    rcases y3 with rfl | ⟨q, rfl⟩
    · exact fp e y2
    · exact fp (e + 1) (by omega)
  have z8 := y8 n (by omega)
  rw [e0] at z8
  have hM3 := (y4.at s' d').1
  have M3 : ∀ a k, 16 ≤ a → mI (U2 s' (wI W' 15 d')) a k = mI W' a k := fun a k ha => by rw [U2_Io _ _ (by omega), mI_wI, if_neg (by omega)]
  have M3o : ∀ a k, a ≠ 2 → a ≠ 15 → mI (U2 s' (wI W' 15 d')) a k = mI W' a k := fun a k ha hb => by rw [U2_Io _ _ ha, mI_wI, if_neg hb]
  have M3J : ∀ a k, mJ (U2 s' (wI W' 15 d')) a k = mJ W' a k := fun a k => by rw [U2_jj, wI_J]
  have t16 : sh_T (sl nx) = 8 := (st_T (sl nx) hs).1
  have o59 : ∀ k, mI (U2 s' (wI W' 15 d')) 59 k = mI X 59 k := fun k => by rw [M3 _ _ (by decide), (y6 59 (by omega)).1, wI1 _ _ (by omega), fI _ _ (by omega)]
  have fin : ∃ X0, fX11_doWhatWasRead_L67 n 1 (nI e) (U2 s' (wI W' 15 d')) = some (nI e, X0) ∧ X0 = (if e = 0 then U2 s' (wI W' 15 d') else sI (sI (U2 s' (wI W' 15 d')) 59 1 (nI ((nx + 1) % 7))) 59 2 (nI (if c = 6 then 6 else c + 1))) := by
    by_cases q : e = 0
    · subst q
      refine ⟨_, ?_, rfl⟩
      rw [if_pos rfl]
      simp only [fX11_doWhatWasRead_L67, fX11_doWhatWasRead_L78]
      rw [if_pos (by decide)]
    · refine ⟨_, ?_, rfl⟩
      rw [if_neg q]
      have q1 : ¬ nI e ≤ 0 := nI_ge (a := 0) (b := e) (by omega) (by omega)
      have ks := c_keepSpare hM3 g1 g2 ((o59 1).trans g3) ((o59 2).trans g4)
      have h := hM3
      simp only [fX11_doWhatWasRead_L67, fX11_doWhatWasRead_L78, h.1, h.2.1, h.2.2, li_T, li_L, li_R, nm, bd, q_b, ne_eq, Nat.reduceEqDiff, reduceCtorEq, and_false, false_and, and_true, true_and, and_self, not_false_eq_true, not_true_eq_false, ↓reduceIte, q1, ks]
  obtain ⟨X0, x1, x2⟩ := fin
  have eB : fX11_doWhatWasRead n 1 (nI K) (U2 (ds b L nh np H P K) (wI Y 15 d1)) = some (nI e, X0) := by
    rw [← x1, ← z8]
    have h := hM
    simp only [fX11_doWhatWasRead, h.1, h.2.1, h.2.2, li_T, li_L, li_R, nm, bd, q_b, ne_eq, Nat.reduceEqDiff, reduceCtorEq, and_false, false_and, and_true, true_and, and_self, not_false_eq_true, not_true_eq_false, ↓reduceIte, sp1, t16, cp, hM2.1, hM2.2.2, ag]
    rfl
  have X0S : Shp bk dr X0 := by
    rw [x2]
    split
    · exact hM3
    · exact (hM3.sI _ _ _).sI _ _ _
  have X0I : ∀ a k, a ≠ 59 → mI X0 a k = mI (U2 s' (wI W' 15 d')) a k := fun a k ha => by
    rw [x2]
    split
    · rfl
    · rw [mI_sI, if_neg (fun z => ha z.1), mI_sI, if_neg (fun z => ha z.1)]
  have X0J : ∀ a k, mJ X0 a k = mJ W' a k := fun a k => by
    rw [x2]
    split
    · exact M3J a k
    · rw [mJ_sI, mJ_sI]; exact M3J a k
  have nKm : nI K ≠ -1 := nI_nm1 (by omega)
  refine ⟨e, f', sI X0 2 1 0, y2, ?_, ⟨X0S.sI _ _ _, fun a k ha a2 a4 a5 a6 a15 => ?_, fun a k ha => ?_, ?_, ?_, ?_, ?_, fun i hi hne => ?_, fun q => ⟨?_, ?_, ?_⟩, fun q => ⟨?_, ?_, ?_⟩⟩, fun j hj => y9 j hj⟩
  · have h0 := hX
    have h := hX
    simp only [fX11_deeds, fX11_deeds_L19, h.1, h.2.1, h.2.2, li_T, li_L, li_R, nm, bd, q_b, ne_eq, Nat.reduceEqDiff, reduceCtorEq, and_false, false_and, and_true, true_and, and_self, not_false_eq_true, not_true_eq_false, ↓reduceIte, eA, nKm, hM.1, eB, X0S.1, X0S.2.2]
  · rw [mI_sI, if_neg (fun z => a2 z.1), X0I _ _ (by omega), M3o _ _ a2 a15, (y6 a (by omega)).1, wI1 _ _ (by omega), fI _ _ (by omega)]
  · rw [mJ_sI, X0J, (y6 a (by omega)).2, wJ1 _ _ (by omega), fJ]
  · rw [mI_sI, if_pos ⟨rfl, rfl⟩]
  · rw [mI_sI, if_neg (by omega), X0I _ _ (by omega), U2_I, if_neg (by omega), if_pos ⟨rfl, rfl⟩, sp2]
  · rw [mI_sI, if_neg (by omega), X0I _ _ (by omega), U2_I, if_pos ⟨rfl, rfl⟩, sp2]
  · refine y5.weq (Weq.of (fun a k ha => ?_) (fun a k ha => ?_)) (fun _ _ => rfl)
    · rw [mI_sI, if_neg (by omega), X0I _ _ (by omega), M3 _ _ (by omega)]
    · rw [mJ_sI, X0J]
  · have li : sl i = 61 + 43 * i := rfl
    refine Weq.of (fun a k ha => ?_) (fun a k ha => ?_)
    · rw [mI_sI, if_neg (by omega), X0I _ _ (by omega), M3 _ _ (by omega), (y6 _ (by omega)).1, wI1 _ _ (by omega), fI _ _ (by omega)]
    · rw [mJ_sI, X0J, (y6 _ (by omega)).2, wJ1 _ _ (by omega), fJ]
  · exact (y7 q).1
  · rw [mI_sI, if_neg (by omega), x2, if_pos q, o59]; exact g3
  · rw [mI_sI, if_neg (by omega), x2, if_pos q, o59]; exact g4
  · refine (yX 16 (by decide)).trans (wW.trans (Weq.of (fun a k ha => ?_) (fun a k ha => ?_)))
    · rw [mI_sI, if_neg (by omega), X0I _ _ (by omega), M3 _ _ (by omega), (y6 _ (by omega)).1]
    · rw [mJ_sI, X0J, (y6 _ (by omega)).2]
  · rw [mI_sI, if_neg (by omega), x2, if_neg q, mI_sI, if_neg (by omega), mI_sI, if_pos ⟨rfl, rfl⟩]
  · rw [mI_sI, if_neg (by omega), x2, if_neg q, mI_sI, if_pos ⟨rfl, rfl⟩]
end
