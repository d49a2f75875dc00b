/-! DEEDS BY CALL: both -/
theorem Shp.sI {bk dr : Nat} {X : Mm} (h : Shp bk dr X) (c k : Nat) (v : Int32) : Shp bk dr (sI X c k v) := ⟨h.1, h.2.1, h.2.2⟩
theorem Shp.sJ {bk dr : Nat} {X : Mm} (h : Shp bk dr X) (c k : Nat) (v : Int64) : Shp bk dr (sJ X c k v) := ⟨h.1, h.2.1, h.2.2⟩
theorem Shp.wJ {bk dr : Nat} {X : Mm} (h : Shp bk dr X) (c : Nat) (f : Nat → Int64) : Shp bk dr (wJ X c f) := ⟨h.1, h.2.1, h.2.2⟩
section
variable {bk dr H P n : Nat} {X : Mm}
/-- what was ahead, in the reference -/
theorem r_before (h : Shp bk dr X) (hn : 24000 ≤ n) : ∃ g, fX12_copies n 366 367 0 368 0 (sI X 366 0 0) = some ((), wJ (sI X 366 0 0) 368 g) ∧ ∀ k, k < 4604 → g k = mJ X 367 k := by
  have h' : Shp bk dr (sI X 366 0 0) := h.sI _ _ _
  obtain ⟨g, e, g1, -⟩ := r_copies h' (a := 367) (b := 368) (by omega) (by omega) (by decide) (p := 0) (q := 0) (n := n) (by decide) (by decide) (by omega)
  refine ⟨g, e, fun k hk => ?_⟩
  have z := g1 k hk
  rw [Nat.zero_add, mJ_sI] at z
  exact z
/-- a deed was done: it is kept -/
theorem r_after (h : Shp bk dr X) {g f' : Nat → Int64} {c : Nat} (hc : mI X 366 5 = nI c) (hc6 : c ≤ 6) (hn : 24000 ≤ n) : ∃ X2, fX12_keepsBefore n 366 (wJ (wJ (sI X 366 0 0) 368 g) 367 f') = some ((), X2) ∧ Shp bk dr X2 ∧ (∀ a k, ¬ (a = 366 ∧ (k = 0 ∨ k = 5)) → mI X2 a k = mI X a k) ∧ mI X2 366 5 = nI (if c = 6 then 6 else c + 1) ∧ (∀ a, a ≠ 367 → a ≠ 368 → a ≠ 370 → mJ X2 a = mJ X a) ∧ mJ X2 367 = f' ∧
    (∀ j k, j < c → j < 5 ∨ c < 6 → k < 4604 → mJ X2 370 (4604 * j + k) = mJ X 370 (4604 * (if c = 6 then j + 1 else j) + k)) ∧ ∀ k, k < 4604 → mJ X2 370 (4604 * (if c = 6 then 5 else c) + k) = g k := by
  have h' : Shp bk dr (wJ (wJ (sI X 366 0 0) 368 g) 367 f') := ((h.sI _ _ _).wJ _ _).wJ _ _
  have hc' : mI (wJ (wJ (sI X 366 0 0) 368 g) 367 f') 366 5 = nI c := by
    rw [mI_wJ, mI_wJ, mI_sI, if_neg (by omega)]
    exact hc
  obtain ⟨gk, e, k1, k2⟩ := r_keeps h' hc' hc6 hn
  refine ⟨_, e, (h'.wJ _ _).sI _ _ _, fun a k ha => ?_, ?_, fun a h1 h2 h3 => ?_, ?_, fun j k h1 h2 h3 => ?_, fun k hk => ?_⟩
  · rw [mI_sI, if_neg (by omega), mI_wJ, mI_wJ, mI_wJ, mI_sI, if_neg (by omega)]
  · rw [mI_sI, if_pos ⟨rfl, rfl⟩]
  · rw [mJ_sI, mJ_wJo h3, mJ_wJo h1, mJ_wJo h2, mJ_sI]
  · rw [mJ_sI, mJ_wJo (by decide), mJ_wJ]
  · rw [mJ_sI, mJ_wJ, k1 j k h1 h2 h3, mJ_wJo (by decide), mJ_wJo (by decide), mJ_sI]
  · rw [mJ_sI, mJ_wJ, k2 k hk, mJ_wJo (by decide), mJ_wJ]
/-- both: the class's deed is done (r), the reference's op behind told and copies; how it goes on -/
theorem s_deed (h : Tp bk dr H P X) {d : Nat → Int32} (hd : mI X 15 = d) (hn : 24000 ≤ n) {op : Mm → Option (Int32 × Mm)} {good : Int32 → Int32 → Wt → Prop} {bad : Int32} (D : DS H P n d op good bad) :
    ∃ r X1 g r' Z, fX11_doDeed n 1 X = some (r, X1) ∧ Shp bk dr X1 ∧ fX12_copies n 366 367 0 368 0 (sI X1 366 0 0) = some ((), wJ (sI X1 366 0 0) 368 g) ∧ op (wJ (sI X1 366 0 0) 368 g) = some (r', Z) ∧ Shp bk dr Z ∧
      ((r = -1 ∧ r' = bad ∧ Tp bk dr H P Z) ∨ (r ≠ -1 ∧ ∃ w' f', good r r' w' ∧ Z = wJ (wJ (sI X1 366 0 0) 368 g) 367 f' ∧ SR H P f' w' ∧ ∃ X2, fX12_keepsBefore n 366 Z = some ((), X2) ∧ Shp bk dr X2 ∧ mJ X2 367 = f' ∧ Tp bk dr H P X2)) := by
  have hT := h
  have kd := k_deed h hd D
  obtain ⟨h1, h2, h3, h4, h5, h6, h7, -, -, -, -, -, -⟩ := h
  rcases kd with ⟨r, w', X1, hr, e1, hS, fI, fJ, hw, ⟨nx, c, g1, g2, g3, g4, g5, g6, q1, q2, q3, q4⟩, op1⟩ | ⟨X1, e1, hT1, ej, op1⟩
  · obtain ⟨g, e2, hg⟩ := r_before hS hn
    have hM : Shp bk dr (wJ (sI X1 366 0 0) 368 g) := (hS.sI _ _ _).wJ _ _
    have m6 : mI (wJ (sI X1 366 0 0) 368 g) 366 6 = nI H := by
      rw [mI_wJ, mI_sI, if_neg (by omega), fI _ _ (by omega)]
      exact h5
    have m7 : mI (wJ (sI X1 366 0 0) 368 g) 366 7 = nI P := by
      rw [mI_wJ, mI_sI, if_neg (by omega), fI _ _ (by omega)]
      exact h6
    have j67 : mJ (wJ (sI X1 366 0 0) 368 g) 367 = mJ X 367 := by
      rw [mJ_wJo (by decide), mJ_sI]
      exact funext fun k => fJ 367 k (by omega)
    obtain ⟨r', f', e3, gd, sr⟩ := op1 _ hM m6 m7
    rw [← j67, wJ_self] at e3
    have c1 : mI X1 366 5 = nI c := by rw [fI _ _ (by omega)]; exact g5
    obtain ⟨X2, e4, hS2, p1, p2, p3, p4, p5, p6⟩ := r_after (g := g) (f' := f') hS c1 g2 hn
    refine ⟨r, X1, g, r', _, e1, hS, e2, e3, hM.wJ _ _, Or.inr ⟨hr, w', f', gd, rfl, sr, X2, e4, hS2, p4, ?_⟩⟩
    refine hT.upd hS2 (fun a k hrl ha hb => ?_) (fun a ha k => ?_) ?_ ?_
    · rw [p1 _ _ (by unfold rlI at hrl; omega), fI _ _ (by omega)]
    · rw [p3 _ (by omega) (by omega) (by omega), fJ _ _ (by omega)]
    · rw [p4]
      exact sr.weq (hw.trans (Weq.of (fun a k ha => p1 _ _ (by omega)) (fun a k ha => by rw [p3 _ (by omega) (by omega) (by omega)]))) (fun _ _ => rfl)
    · refine HiR.keep g1 g2 g6 (by rw [p1 _ _ (by omega)]; exact q1) (by rw [p1 _ _ (by omega)]; exact q2) p2 (fun i hi hne => (q3 i hi hne).trans ?_) (q4.trans ?_) (fun j k a1 a2 a3 => ?_) (fun k hk => ?_) h7
      · have : sl i = 61 + 43 * i := rfl
        exact Weq.of (fun a k ha => p1 _ _ (by omega)) (fun a k ha => by rw [p3 _ (by omega) (by omega) (by omega)])
      · have : sl nx = 61 + 43 * nx := rfl
        exact Weq.of (fun a k ha => p1 _ _ (by omega)) (fun a k ha => by rw [p3 _ (by omega) (by omega) (by omega)])
      · rw [p5 j k a1 a2 a3, fJ _ _ (by omega)]
      · rw [p6 k hk, hg k hk, fJ _ _ (by omega)]
  · obtain ⟨hS, -⟩ := id hT1
    obtain ⟨g, e2, hg⟩ := r_before hS hn
    have hM : Shp bk dr (wJ (sI X1 366 0 0) 368 g) := (hS.sI _ _ _).wJ _ _
    have tM : Tp bk dr H P (wJ (sI X1 366 0 0) 368 g) := (hT1.told 0).same hM (fun _ _ _ => rfl) (fun a ha k => by rw [mJ_wJo (by unfold rlJ at ha; omega)])
    have j67 : mJ (wJ (sI X1 366 0 0) 368 g) 367 = mJ X 367 := by
      rw [mJ_wJo (by decide), mJ_sI]
      exact ej
    have e3 := op1 _ hM tM.2.2.2.2.1 tM.2.2.2.2.2.1
    rw [← j67, wJ_self] at e3
    exact ⟨-1, X1, g, bad, _, e1, hS, e2, e3, hM, Or.inl ⟨rfl, rfl, tM⟩⟩
/-- cell 15 is written: the relation stands -/
theorem Tp.at15 {Y : Mm} (h : Tp bk dr H P X) (hS : Shp bk dr Y) (hI : ∀ c k, c ≠ 15 → mI Y c k = mI X c k) (hJ : mJ Y = mJ X) : Tp bk dr H P Y :=
  h.same hS (fun c k hr => hI c k (by unfold rlI at hr; omega)) (fun c _ k => by rw [hJ])

end
