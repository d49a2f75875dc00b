/-! TEXTS: what the reference does at a token -/
theorem kwi_len (l : List Nat) : ∀ (r : List (List Nat)) (w : Nat), (∀ k, k ∈ r → k.length ≤ 6) → kwi l r w ≠ -1 → l.length ≤ 6 := by
  intro r
  induction r with
  | nil => intro w _ h; exact absurd rfl h
  | cons k r ih =>
    intro w h hz
    rw [kwi] at hz
    by_cases e : k = l
    · rw [← e]; exact h k List.mem_cons_self
    · rw [if_neg e] at hz
      exact ih (w + 1) (fun z hz => h z (List.mem_cons_of_mem _ hz)) hz
section
variable {bk dr H P n : Nat} {W Z : Mm} {b : Nat → Int32} {L : Nat} {s : St3} {i : Nat}
theorem tk_c : tkq b L (fr b L i) = if L ≤ fr b L i then 0 else if isL (b (fr b L i)) then 1 else if isD (b (fr b L i)) then 2 else 3 := rfl
theorem AW_ref {k : Int32} (hk : k ≠ -1) : (tkq b L (fr b L i) = 1 ∧ kw (wlt b L i) = k) ↔ AW b L k i := by
  have hl : kw (wlt b L i) ≠ -1 → wd b L i ≤ 6 := fun z => by
    have := kwi_len (wlt b L i) kws 0 (fun k hk => (kws_nm k hk).2.1) z
    unfold wlt at this
    rw [lts_len] at this
    exact this
  unfold AW kd vl
  rw [tk_c]
  by_cases z : L ≤ fr b L i
  · rw [if_pos z, if_pos z]
    exact ⟨fun y => absurd y.1 (by decide), fun y => absurd y.1 (by decide)⟩
  · rw [if_neg z, if_neg z]
    by_cases l : isL (b (fr b L i)) = true
    · rw [if_pos l, if_pos l, if_pos l]
      by_cases y : kw (wlt b L i) = -1
      · rw [if_pos y]
        refine ⟨fun x => absurd (x.2.symm.trans y) hk, fun x => ?_⟩
        have x1 := x.1
        split at x1
        · exact absurd x1 (by decide)
        · exact absurd x1 (by decide)
      · rw [if_neg y, if_neg (by have := hl y; omega), if_neg y]
        exact ⟨fun x => ⟨rfl, x.2⟩, fun x => ⟨rfl, x.2⟩⟩
    · rw [if_neg l, if_neg l]
      refine ⟨fun x => ?_, fun x => ?_⟩
      · have x1 := x.1
        split at x1 <;> exact absurd x1 (by decide)
      · have x1 := x.1
        split at x1
        · split at x1 <;> exact absurd x1 (by decide)
        · split at x1 <;> exact absurd x1 (by decide)
theorem kd_k2 : (tkq b L (fr b L i) = 1 ∧ kw (wlt b L i) = -1 ∧ ¬ 6 < wd b L i) ↔ kd b L i = 2 := by
  unfold kd
  rw [tk_c]
  by_cases z : L ≤ fr b L i
  · rw [if_pos z, if_pos z]
    exact ⟨fun y => absurd y.1 (by decide), fun y => absurd y (by decide)⟩
  · rw [if_neg z, if_neg z]
    by_cases l : isL (b (fr b L i)) = true
    · rw [if_pos l, if_pos l]
      by_cases w : 6 < wd b L i
      · rw [if_pos w]; exact ⟨fun y => absurd w y.2.2, fun y => absurd y (by decide)⟩
      · rw [if_neg w]
        by_cases k : kw (wlt b L i) = -1
        · rw [if_pos k]; exact ⟨fun _ => rfl, fun _ => ⟨rfl, k, w⟩⟩
        · rw [if_neg k]; exact ⟨fun y => absurd y.2.1 k, fun y => absurd y (by decide)⟩
    · rw [if_neg l, if_neg l]
      refine ⟨fun x => ?_, fun x => ?_⟩
      · have x1 := x.1
        split at x1 <;> exact absurd x1 (by decide)
      · split at x
        · split at x <;> exact absurd x (by decide)
        · split at x <;> exact absurd x (by decide)
theorem kd_k3 : (tkq b L (fr b L i) = 2 ∧ wd b L i ≤ 9) ↔ kd b L i = 3 := by
  unfold kd
  rw [tk_c]
  by_cases z : L ≤ fr b L i
  · rw [if_pos z, if_pos z]
    exact ⟨fun y => absurd y.1 (by decide), fun y => absurd y (by decide)⟩
  · rw [if_neg z, if_neg z]
    by_cases l : isL (b (fr b L i)) = true
    · rw [if_pos l, if_pos l]
      refine ⟨fun y => absurd y.1 (by decide), fun x => ?_⟩
      split at x
      · exact absurd x (by decide)
      · split at x <;> exact absurd x (by decide)
    · rw [if_neg l, if_neg l]
      by_cases d : isD (b (fr b L i)) = true
      · rw [if_pos d, if_pos d]
        by_cases w : 9 < wd b L i
        · rw [if_pos w]; exact ⟨fun y => by omega, fun y => absurd y (by decide)⟩
        · rw [if_neg w]; exact ⟨fun _ => rfl, fun _ => ⟨rfl, by omega⟩⟩
      · rw [if_neg d, if_neg d]
        refine ⟨fun y => absurd y.1 (by decide), fun x => ?_⟩
        split at x <;> exact absurd x (by decide)
theorem kd_k4 (hr : ∀ i, i < 700 → -128 ≤ (b i).toInt ∧ (b i).toInt ≤ 127) (L7 : L ≤ 700) : (tkq b L (fr b L i) = 3 ∧ sv (b (fr b L i)) = 59) ↔ kd b L i = 4 := by
  unfold kd
  rw [tk_c]
  by_cases z : L ≤ fr b L i
  · rw [if_pos z, if_pos z]
    exact ⟨fun y => absurd y.1 (by decide), fun y => absurd y (by decide)⟩
  · have bb := hr (fr b L i) (by omega)
    have s59 := (sv_L bb.1 bb.2).2.2.2.2.1
    rw [if_neg z, if_neg z]
    by_cases l : isL (b (fr b L i)) = true
    · rw [if_pos l, if_pos l]
      refine ⟨fun y => absurd y.1 (by decide), fun x => ?_⟩
      split at x
      · exact absurd x (by decide)
      · split at x <;> exact absurd x (by decide)
    · rw [if_neg l, if_neg l]
      by_cases d : isD (b (fr b L i)) = true
      · rw [if_pos d, if_pos d]
        refine ⟨fun y => absurd y.1 (by decide), fun x => ?_⟩
        split at x <;> exact absurd x (by decide)
      · rw [if_neg d, if_neg d]
        by_cases e : b (fr b L i) = 59
        · rw [if_pos e]; exact ⟨fun _ => rfl, fun _ => ⟨rfl, s59.mpr e⟩⟩
        · rw [if_neg e]; exact ⟨fun y => absurd (s59.mp y.2) e, fun y => absurd y (by decide)⟩
theorem kd_k0 : tkq b L (fr b L i) = 0 ↔ kd b L i = 0 := by
  unfold kd
  rw [tk_c]
  by_cases z : L ≤ fr b L i
  · rw [if_pos z, if_pos z]
    exact ⟨fun _ => rfl, fun _ => rfl⟩
  · rw [if_neg z, if_neg z]
    by_cases l : isL (b (fr b L i)) = true
    · rw [if_pos l, if_pos l]
      refine ⟨fun y => absurd y (by decide), fun x => ?_⟩
      split at x
      · exact absurd x (by decide)
      · split at x <;> exact absurd x (by decide)
    · rw [if_neg l, if_neg l]
      by_cases d : isD (b (fr b L i)) = true
      · rw [if_pos d, if_pos d]
        refine ⟨fun y => absurd y (by decide), fun x => ?_⟩
        split at x <;> exact absurd x (by decide)
      · rw [if_neg d, if_neg d]
        refine ⟨fun y => absurd y (by decide), fun x => ?_⟩
        split at x <;> exact absurd x (by decide)
theorem RS_f (s : St3) (Z : Mm) : mI (RS b L s Z) 366 22 = s.2.1 ∧ mI (RS b L s Z) 366 15 = nI (fr b L s.1) ∧ mI (RS b L s Z) 366 16 = nI (tkq b L (fr b L s.1)) ∧ mI (RS b L s Z) 366 17 = (if tkq b L (fr b L s.1) = 3 then sv (b (fr b L s.1)) else 0) ∧ mI (RS b L s Z) 366 18 = nI (wd b L s.1) ∧ mI (RS b L s Z) 366 19 = (if tkq b L (fr b L s.1) = 2 then nI (dgs b (min (wd b L s.1) 9) (fr b L s.1) 0) else 0) ∧ mI (RS b L s Z) 366 20 = (if tkq b L (fr b L s.1) = 1 then kw (wlt b L s.1) else -1) := by
  refine ⟨?_, ?_, ?_, ?_, ?_, ?_, ?_⟩ <;> rw [RS_I] <;> rfl
theorem tk_4 (q : Nat) : tkq b L q < 4 := by
  unfold tkq
  split
  · omega
  · split
    · omega
    · split <;> omega
theorem tk_is {q t : Nat} {m : Int32} (hm : m = nI t) (ht : t < 4) : nI (tkq b L q) = m ↔ tkq b L q = t := by
  have := tk_4 (b := b) (L := L) q
  rw [hm]
  exact nI_eq (by omega) (by omega)
theorem m_fine (h : Ref bk dr b L Z) (s : St3) : fX12_fine 366 (RS b L s Z) = some (bo (s.2.1 = 0), RS b L s Z) := by
  have hs := (h.rs s).1
  have f := (RS_f (b := b) (L := L) s Z).1
  have h := hs
  by_cases z : s.2.1 = 0
  · rw [bo_t z]
    simp only [fX12_fine, h.1, h.2.1, h.2.2, li_T, li_L, li_R, nm, bd, q_b, ne_eq, Nat.reduceEqDiff, reduceCtorEq, and_false, false_and, and_true, true_and, and_self, not_false_eq_true, not_true_eq_false, ↓reduceIte, f, z]
  · rw [bo_f z]
    simp only [fX12_fine, h.1, h.2.1, h.2.2, li_T, li_L, li_R, nm, bd, q_b, ne_eq, Nat.reduceEqDiff, reduceCtorEq, and_false, false_and, and_true, true_and, and_self, not_false_eq_true, not_true_eq_false, ↓reduceIte, f, z]
theorem m_faulty (h : Ref bk dr b L Z) (s : St3) (w : Int32) : fX12_faulty 366 w (RS b L s Z) = some ((), RS b L (aF b L w s) Z) := by
  have hs := (h.rs s).1
  have f := (RS_f (b := b) (L := L) s Z).1
  have hs2 := (h.rs (s.1, w, s.2.2)).1
  have f2 := (RS_f (b := b) (L := L) (s.1, w, s.2.2) Z).2.1
  unfold aF
  have h := hs
  by_cases z : s.2.1 = 0
  · rw [if_pos z]
    simp only [fX12_faulty, h.1, h.2.1, h.2.2, li_T, li_L, li_R, nm, bd, q_b, ne_eq, Nat.reduceEqDiff, reduceCtorEq, and_false, false_and, and_true, true_and, and_self, not_false_eq_true, not_true_eq_false, ↓reduceIte, f, z, RS_22, hs2.1, f2, RS_23]
  · rw [if_neg z]
    simp only [fX12_faulty, h.1, h.2.1, h.2.2, li_T, li_L, li_R, nm, bd, q_b, ne_eq, Nat.reduceEqDiff, reduceCtorEq, and_false, false_and, and_true, true_and, and_self, not_false_eq_true, not_true_eq_false, ↓reduceIte, f, z]
theorem m_isWord (h : Ref bk dr b L Z) (s : St3) {k : Int32} (hk : k ≠ -1) : fX12_isWord 366 k (RS b L s Z) = some (bo (s.2.1 = 0 ∧ AW b L k s.1), RS b L s Z) := by
  have hs := (h.rs s).1
  obtain ⟨f1, f2, f3, f4, f5, f6, f7⟩ := RS_f (b := b) (L := L) s Z
  have fi := m_fine h s
  have aw := AW_ref (b := b) (L := L) (i := s.1) hk
  have t1 := tk_is (b := b) (L := L) (q := fr b L s.1) (t := 1) (m := 1) rfl (by omega)
  by_cases z : s.2.1 = 0
  · rw [bo_t z] at fi
    by_cases y : tkq b L (fr b L s.1) = 1
    · have y' := t1.mpr y
      rw [if_pos y] at f7
      by_cases x : kw (wlt b L s.1) = k
      · rw [bo_t ⟨z, aw.mp ⟨y, x⟩⟩]
        have h := hs
        simp only [fX12_isWord, fX12_isWord_L27, h.1, h.2.1, h.2.2, li_T, li_L, li_R, nm, bd, q_b, ne_eq, Nat.reduceEqDiff, reduceCtorEq, and_false, false_and, and_true, true_and, and_self, not_false_eq_true, not_true_eq_false, ↓reduceIte, fi, b1, f3, y', f7, x]
      · rw [bo_f (fun q => x (aw.mpr q.2).2)]
        have h := hs
        simp only [fX12_isWord, fX12_isWord_L27, h.1, h.2.1, h.2.2, li_T, li_L, li_R, nm, bd, q_b, ne_eq, Nat.reduceEqDiff, reduceCtorEq, and_false, false_and, and_true, true_and, and_self, not_false_eq_true, not_true_eq_false, ↓reduceIte, fi, b1, f3, y', f7, x]
    · have y' : ¬ nI (tkq b L (fr b L s.1)) = 1 := fun q => y (t1.mp q)
      rw [bo_f (fun q => y (aw.mpr q.2).1)]
      have h := hs
      simp only [fX12_isWord, fX12_isWord_L27, h.1, h.2.1, h.2.2, li_T, li_L, li_R, nm, bd, q_b, ne_eq, Nat.reduceEqDiff, reduceCtorEq, and_false, false_and, and_true, true_and, and_self, not_false_eq_true, not_true_eq_false, ↓reduceIte, fi, b1, f3, y']
  · rw [bo_f z] at fi
    rw [bo_f (fun q => z q.1)]
    have h := hs
    simp only [fX12_isWord, fX12_isWord_L27, h.1, h.2.1, h.2.2, li_T, li_L, li_R, nm, bd, q_b, ne_eq, Nat.reduceEqDiff, reduceCtorEq, and_false, false_and, and_true, true_and, and_self, not_false_eq_true, not_true_eq_false, ↓reduceIte, fi]
theorem m_passes (h : Ref bk dr b L Z) (hn : 1000 ≤ n) (s : St3) {k : Int32} (hk : k ≠ -1) : fX12_passesWord n 366 k (RS b L s Z) = some (bo (s.2.1 = 0 ∧ AW b L k s.1), RS b L (aP b L k s) Z) := by
  have hs := (h.rs s).1
  have iw := m_isWord h s hk
  have nx := m_next h hn s
  unfold aP
  by_cases z : s.2.1 = 0 ∧ AW b L k s.1
  · rw [if_pos z]
    rw [bo_t z] at iw ⊢
    have h := hs
    simp only [fX12_passesWord, h.1, h.2.1, h.2.2, li_T, li_L, li_R, nm, bd, q_b, ne_eq, Nat.reduceEqDiff, reduceCtorEq, and_false, false_and, and_true, true_and, and_self, not_false_eq_true, not_true_eq_false, ↓reduceIte, iw, b1, nx]
  · rw [if_neg z]
    rw [bo_f z] at iw ⊢
    have h := hs
    simp only [fX12_passesWord, h.1, h.2.1, h.2.2, li_T, li_L, li_R, nm, bd, q_b, ne_eq, Nat.reduceEqDiff, reduceCtorEq, and_false, false_and, and_true, true_and, and_self, not_false_eq_true, not_true_eq_false, ↓reduceIte, iw]
theorem aP_W {k : Int32} (s : St3) : (s.2.1 = 0 ∧ AW b L k s.1 → aP b L k s = aW b L k s) ∧ (¬ (s.2.1 = 0 ∧ AW b L k s.1) → aP b L k s = s ∧ aW b L k s = aF b L 1 s) := by
  constructor
  · intro z
    unfold aP aW aA
    rw [if_pos z, if_pos z.2, if_pos z.1]
  · intro z
    unfold aP aW
    refine ⟨if_neg z, ?_⟩
    by_cases y : AW b L k s.1
    · rw [if_pos y]
      have z0 : ¬ s.2.1 = 0 := fun x => z ⟨x, y⟩
      unfold aA aF
      rw [if_neg z0, if_neg z0]
    · rw [if_neg y]
      unfold aA
      rw [if_neg (aF_f (by decide) s)]
theorem m_asks (h : Ref bk dr b L Z) (hn : 1000 ≤ n) (s : St3) {k : Int32} (hk : k ≠ -1) : fX12_asksWord n 366 k (RS b L s Z) = some ((), RS b L (aW b L k s) Z) := by
  have hs := (h.rs s).1
  have pw := m_passes h hn s hk
  have hf := m_faulty h s 1
  have a := aP_W (b := b) (L := L) (k := k) s
  by_cases z : s.2.1 = 0 ∧ AW b L k s.1
  · rw [bo_t z, a.1 z] at pw
    have h := hs
    simp only [fX12_asksWord, h.1, h.2.1, h.2.2, li_T, li_L, li_R, nm, bd, q_b, ne_eq, Nat.reduceEqDiff, reduceCtorEq, and_false, false_and, and_true, true_and, and_self, not_false_eq_true, not_true_eq_false, ↓reduceIte, pw, b1]
  · rw [bo_f z, (a.2 z).1] at pw
    rw [(a.2 z).2]
    have h := hs
    simp only [fX12_asksWord, h.1, h.2.1, h.2.2, li_T, li_L, li_R, nm, bd, q_b, ne_eq, Nat.reduceEqDiff, reduceCtorEq, and_false, false_and, and_true, true_and, and_self, not_false_eq_true, not_true_eq_false, ↓reduceIte, pw, hf]
theorem m_e29 (h : Ref bk dr b L Z) (hn : 1000 ≤ n) (s : St3) : fX12_asksEnd_L29 n 366 (RS b L s Z) = some ((), RS b L (aA s) Z) := by
  have hs := (h.rs s).1
  have fi := m_fine h s
  have nx := m_next h hn s
  unfold aA
  have h := hs
  by_cases z : s.2.1 = 0
  · rw [if_pos z]
    rw [bo_t z] at fi
    simp only [fX12_asksEnd_L29, h.1, h.2.1, h.2.2, li_T, li_L, li_R, nm, bd, q_b, ne_eq, Nat.reduceEqDiff, reduceCtorEq, and_false, false_and, and_true, true_and, and_self, not_false_eq_true, not_true_eq_false, ↓reduceIte, fi, b1, nx]
  · rw [if_neg z]
    rw [bo_f z] at fi
    simp only [fX12_asksEnd_L29, h.1, h.2.1, h.2.2, li_T, li_L, li_R, nm, bd, q_b, ne_eq, Nat.reduceEqDiff, reduceCtorEq, and_false, false_and, and_true, true_and, and_self, not_false_eq_true, not_true_eq_false, ↓reduceIte, fi]
theorem m_end (h : Ref bk dr b L Z) (hn : 1000 ≤ n) (s : St3) : fX12_asksEnd n 366 (RS b L s Z) = some ((), RS b L (aS b L s) Z) := by
  have hs := (h.rs s).1
  obtain ⟨f1, f2, f3, f4, f5, f6, f7⟩ := RS_f (b := b) (L := L) s Z
  have fi := m_fine h s
  have e1 := m_e29 h hn s
  have e2 := m_e29 h hn (aF b L 1 s)
  have hf := m_faulty h s 1
  have k4 := kd_k4 (b := b) (L := L) (i := s.1) h.2.2.2.2.1 h.2.1
  have t3 := tk_is (b := b) (L := L) (q := fr b L s.1) (t := 3) (m := 3) rfl (by omega)
  unfold aS
  by_cases z : s.2.1 = 0
  · rw [bo_t z] at fi
    by_cases y : tkq b L (fr b L s.1) = 3
    · have y' := t3.mpr y
      rw [if_pos y] at f4
      by_cases x : sv (b (fr b L s.1)) = 59
      · rw [if_pos (k4.mp ⟨y, x⟩)]
        have h := hs
        simp only [fX12_asksEnd, h.1, h.2.1, h.2.2, li_T, li_L, li_R, nm, bd, q_b, ne_eq, Nat.reduceEqDiff, reduceCtorEq, and_false, false_and, and_true, true_and, and_self, not_false_eq_true, not_true_eq_false, ↓reduceIte, fi, b1, f3, y', f4, x, e1]
      · rw [if_neg (fun q => x (k4.mpr q).2)]
        have h := hs
        simp only [fX12_asksEnd, fX12_asksEnd_L24, h.1, h.2.1, h.2.2, li_T, li_L, li_R, nm, bd, q_b, ne_eq, Nat.reduceEqDiff, reduceCtorEq, and_false, false_and, and_true, true_and, and_self, not_false_eq_true, not_true_eq_false, ↓reduceIte, fi, b1, f3, y', f4, x, hf, e2]
    · have y' : ¬ nI (tkq b L (fr b L s.1)) = 3 := fun q => y (t3.mp q)
      rw [if_neg (fun q => y (k4.mpr q).1)]
      have h := hs
      simp only [fX12_asksEnd, fX12_asksEnd_L24, h.1, h.2.1, h.2.2, li_T, li_L, li_R, nm, bd, q_b, ne_eq, Nat.reduceEqDiff, reduceCtorEq, and_false, false_and, and_true, true_and, and_self, not_false_eq_true, not_true_eq_false, ↓reduceIte, fi, b1, f3, y', hf, e2]
  · rw [bo_f z] at fi
    have q : (if kd b L s.1 = 4 then s else aF b L 1 s) = s := by
      by_cases x : kd b L s.1 = 4
      · rw [if_pos x]
      · rw [if_neg x]
        unfold aF
        rw [if_neg z]
    rw [q]
    have h := hs
    simp only [fX12_asksEnd, h.1, h.2.1, h.2.2, li_T, li_L, li_R, nm, bd, q_b, ne_eq, Nat.reduceEqDiff, reduceCtorEq, and_false, false_and, and_true, true_and, and_self, not_false_eq_true, not_true_eq_false, ↓reduceIte, fi, e1]
theorem m_isName (h : Ref bk dr b L Z) (s : St3) : fX12_isName 366 (RS b L s Z) = some (bo (s.2.1 = 0 ∧ kd b L s.1 = 2), RS b L s Z) := by
  have hs := (h.rs s).1
  obtain ⟨f1, f2, f3, f4, f5, f6, f7⟩ := RS_f (b := b) (L := L) s Z
  have fi := m_fine h s
  have k2 := kd_k2 (b := b) (L := L) (i := s.1)
  have t1 := tk_is (b := b) (L := L) (q := fr b L s.1) (t := 1) (m := 1) rfl (by omega)
  have L7 := h.2.1
  have wl : wd b L s.1 ≤ 700 := by
    have := (te_b (b := b) (L := L) (fr b L s.1) (sp_le s.1).2.1).1
    unfold wd
    omega
  by_cases z : s.2.1 = 0
  · rw [bo_t z] at fi
    by_cases y : tkq b L (fr b L s.1) = 1
    · have y' := t1.mpr y
      rw [if_pos y] at f7
      by_cases x : kw (wlt b L s.1) = -1
      · by_cases w : 6 < wd b L s.1
        · have w' : (6 : Int32) < nI (wd b L s.1) := nI_lt (a := 6) w (by omega)
          rw [bo_f (fun q => (k2.mpr q.2).2.2 w)]
          have h := hs
          simp only [fX12_isName, fX12_isName_L36, h.1, h.2.1, h.2.2, li_T, li_L, li_R, nm, bd, q_b, ne_eq, Nat.reduceEqDiff, reduceCtorEq, and_false, false_and, and_true, true_and, and_self, not_false_eq_true, not_true_eq_false, ↓reduceIte, fi, b1, f3, y', f7, x, f5, w']
        · have w' : ¬ (6 : Int32) < nI (wd b L s.1) := nI_nlt (b := wd b L s.1) (a := 6) (by omega) (by omega)
          rw [bo_t ⟨z, k2.mp ⟨y, x, w⟩⟩]
          have h := hs
          simp only [fX12_isName, fX12_isName_L36, h.1, h.2.1, h.2.2, li_T, li_L, li_R, nm, bd, q_b, ne_eq, Nat.reduceEqDiff, reduceCtorEq, and_false, false_and, and_true, true_and, and_self, not_false_eq_true, not_true_eq_false, ↓reduceIte, fi, b1, f3, y', f7, x, f5, w']
      · rw [bo_f (fun q => x (k2.mpr q.2).2.1)]
        have h := hs
        simp only [fX12_isName, fX12_isName_L36, h.1, h.2.1, h.2.2, li_T, li_L, li_R, nm, bd, q_b, ne_eq, Nat.reduceEqDiff, reduceCtorEq, and_false, false_and, and_true, true_and, and_self, not_false_eq_true, not_true_eq_false, ↓reduceIte, fi, b1, f3, y', f7, x]
    · have y' : ¬ nI (tkq b L (fr b L s.1)) = 1 := fun q => y (t1.mp q)
      rw [bo_f (fun q => y (k2.mpr q.2).1)]
      have h := hs
      simp only [fX12_isName, fX12_isName_L36, h.1, h.2.1, h.2.2, li_T, li_L, li_R, nm, bd, q_b, ne_eq, Nat.reduceEqDiff, reduceCtorEq, and_false, false_and, and_true, true_and, and_self, not_false_eq_true, not_true_eq_false, ↓reduceIte, fi, b1, f3, y']
  · rw [bo_f z] at fi
    rw [bo_f (fun q => z q.1)]
    have h := hs
    simp only [fX12_isName, fX12_isName_L36, h.1, h.2.1, h.2.2, li_T, li_L, li_R, nm, bd, q_b, ne_eq, Nat.reduceEqDiff, reduceCtorEq, and_false, false_and, and_true, true_and, and_self, not_false_eq_true, not_true_eq_false, ↓reduceIte, fi]
theorem m_find (X : Mm) {q N M : Nat} (hq : mT X q = 15) (hM : mL X q = M) (hN : N ≤ M) (hM5 : M < 1000) (hn : 1000 ≤ n) (v : Int64) : fX12_find n 366 q (nI N) v X = some (fnj (mJ X q) v N 0, X) := by
  have g : ∀ m i j, i + m = N → m < j → fX12_find_L3 n j q (nI N) v (nI i) X = some (fnj (mJ X q) v m i, X) := by
    intro m
    induction m with
    | zero =>
      intro i j hi hj
      obtain ⟨j, rfl⟩ : ∃ k, j = k + 1 := ⟨j - 1, by omega⟩
      have e3 : nI N ≤ nI i := nI_le (by omega) (by omega)
      rw [fX12_find_L3, if_pos e3, fnj]
    | succ m ih =>
      intro i j hi hj
      obtain ⟨j, rfl⟩ : ∃ k, j = k + 1 := ⟨j - 1, by omega⟩
      have e3 : ¬ nI N ≤ nI i := nI_ge (by omega) (by omega)
      have e1 : (nI i).toNatClampNeg = i := nI_clamp (by omega)
      have e2 : q_b X q (nI i) := by
        have := inL_nI (j := i) (n := M) (by omega) (by omega)
        exact ⟨this.1, by rw [hM]; exact this.2⟩
      rw [fX12_find_L3, if_neg e3, if_pos hq, if_pos e2, e1, fnj]
      by_cases z : mJ X q i = v
      · rw [if_pos (cv_eq.mpr z), if_pos z]
      · rw [if_neg (fun y => z (cv_eq.mp y)), if_neg z]
        simp only [nm, nI_1]
        exact ih (i + 1) j (by omega) (by omega)
  exact g N 0 n (by omega) (by omega)
theorem m_n (h : Ref bk dr b L Z) (hn : 1000 ≤ n) (s : St3) : ∃ v, fX12_n n 366 (RS b L s Z) = some (v, RS b L (aN b L s) Z) ∧ ((aN b L s).2.1 = 0 → v = vl b L s.1) := by
  have hs := (h.rs s).1
  obtain ⟨f1, f2, f3, f4, f5, f6, f7⟩ := RS_f (b := b) (L := L) s Z
  have fi := m_fine h s
  have hf := m_faulty h s 1
  have k3 := kd_k3 (b := b) (L := L) (i := s.1)
  have t2 := tk_is (b := b) (L := L) (q := fr b L s.1) (t := 2) (m := 2) rfl (by omega)
  have L7 := h.2.1
  have wl : wd b L s.1 ≤ 700 := by
    have := (te_b (b := b) (L := L) (fr b L s.1) (sp_le s.1).2.1).1
    unfold wd
    omega
  have n29 : ∀ s : St3, fX12_n_L29 n 366 (RS b L s Z) = some (mI (RS b L s Z) 366 19, RS b L (aA s) Z) := fun s => by
    have hs := (h.rs s).1
    have fi := m_fine h s
    have nx := m_next h hn s
    unfold aA
    have h := hs
    by_cases z : s.2.1 = 0
    · rw [if_pos z]
      rw [bo_t z] at fi
      simp only [fX12_n_L29, fX12_n_L45, h.1, h.2.1, h.2.2, li_T, li_L, li_R, nm, bd, q_b, ne_eq, Nat.reduceEqDiff, reduceCtorEq, and_false, false_and, and_true, true_and, and_self, not_false_eq_true, not_true_eq_false, ↓reduceIte, fi, b1, nx]
    · rw [if_neg z]
      rw [bo_f z] at fi
      simp only [fX12_n_L29, fX12_n_L45, h.1, h.2.1, h.2.2, li_T, li_L, li_R, nm, bd, q_b, ne_eq, Nat.reduceEqDiff, reduceCtorEq, and_false, false_and, and_true, true_and, and_self, not_false_eq_true, not_true_eq_false, ↓reduceIte, fi]
  have e1 := n29 s
  have e2 := n29 (aF b L 1 s)
  unfold aN
  rw [aA_f]
  by_cases z : s.2.1 = 0
  · rw [bo_t z] at fi
    by_cases y : tkq b L (fr b L s.1) = 2
    · have y' := t2.mpr y
      by_cases w : wd b L s.1 ≤ 9
      · have w' : nI (wd b L s.1) ≤ (9 : Int32) := nI_le (b := 9) w (by decide)
        rw [if_pos (k3.mp ⟨y, w⟩)]
        refine ⟨mI (RS b L s Z) 366 19, ?_, fun _ => ?_⟩
        · have h := hs
          simp only [fX12_n, h.1, h.2.1, h.2.2, li_T, li_L, li_R, nm, bd, q_b, ne_eq, Nat.reduceEqDiff, reduceCtorEq, and_false, false_and, and_true, true_and, and_self, not_false_eq_true, not_true_eq_false, ↓reduceIte, fi, b1, f3, y', f5, w', e1]
        · rw [f6, if_pos y, Nat.min_eq_left w]
          have nl : ¬ isL (b (fr b L s.1)) = true := fun l => by
            rw [tk_c] at y
            split at y
            · omega
            · omega
          unfold vl
          rw [if_neg nl]
      · have w' : ¬ nI (wd b L s.1) ≤ (9 : Int32) := nI_ge (a := 9) (by omega) (by omega)
        rw [if_neg (fun q => w (k3.mpr q).2)]
        refine ⟨mI (RS b L (aF b L 1 s) Z) 366 19, ?_, fun q => absurd q (aF_f (by decide) s)⟩
        have h := hs
        simp only [fX12_n, fX12_n_L24, h.1, h.2.1, h.2.2, li_T, li_L, li_R, nm, bd, q_b, ne_eq, Nat.reduceEqDiff, reduceCtorEq, and_false, false_and, and_true, true_and, and_self, not_false_eq_true, not_true_eq_false, ↓reduceIte, fi, b1, f3, y', f5, w', hf, e2]
    · have y' : ¬ nI (tkq b L (fr b L s.1)) = 2 := fun q => y (t2.mp q)
      rw [if_neg (fun q => y (k3.mpr q).1)]
      refine ⟨mI (RS b L (aF b L 1 s) Z) 366 19, ?_, fun q => absurd q (aF_f (by decide) s)⟩
      have h := hs
      simp only [fX12_n, fX12_n_L24, h.1, h.2.1, h.2.2, li_T, li_L, li_R, nm, bd, q_b, ne_eq, Nat.reduceEqDiff, reduceCtorEq, and_false, false_and, and_true, true_and, and_self, not_false_eq_true, not_true_eq_false, ↓reduceIte, fi, b1, f3, y', hf, e2]
  · rw [bo_f z] at fi
    have q : (if kd b L s.1 = 3 then s else aF b L 1 s) = s := by
      by_cases x : kd b L s.1 = 3
      · rw [if_pos x]
      · rw [if_neg x]
        unfold aF
        rw [if_neg z]
    rw [q]
    refine ⟨mI (RS b L s Z) 366 19, ?_, fun y => absurd y z⟩
    have h := hs
    simp only [fX12_n, h.1, h.2.1, h.2.2, li_T, li_L, li_R, nm, bd, q_b, ne_eq, Nat.reduceEqDiff, reduceCtorEq, and_false, false_and, and_true, true_and, and_self, not_false_eq_true, not_true_eq_false, ↓reduceIte, fi, e1]
theorem m_known (h : Ref bk dr b L Z) (hn : 1000 ≤ n) (s : St3) {q N M : Nat} (hq : sh_T q = 15) (hM : sh_L q = M) (hN : N ≤ M) (hM5 : M < 1000) (q3 : q ≠ 366) {nh : Nat → List Nat} (hnr : ∀ i, i < N → Nm (nh i) ∧ mJ Z q i = lN (c27 (nh i))) :
    fX12_known n 366 q (nI N) (RS b L s Z) = some (vK b L nh N s, RS b L (aK b L nh N s) Z) := by
  have hsA : ∀ s : St3, Shp bk dr (RS b L s Z) := fun s => (h.rs s).1
  have fiA := m_fine h
  have nxA := m_next h hn
  have in_ := m_isName h s
  have hf1 := m_faulty h s 1
  have l51 : ∀ (s : St3) (v : Int32), fX12_known_L51 n 366 v (RS b L s Z) = some (v, RS b L (aA s) Z) := fun s v => by
    have h := hsA s
    have fi := fiA s
    have nx := nxA s
    unfold aA
    by_cases z : s.2.1 = 0
    · rw [if_pos z]
      rw [bo_t z] at fi
      simp only [fX12_known_L51, fX12_known_L62, h.1, h.2.1, h.2.2, li_T, li_L, li_R, nm, bd, q_b, ne_eq, Nat.reduceEqDiff, reduceCtorEq, and_false, false_and, and_true, true_and, and_self, not_false_eq_true, not_true_eq_false, ↓reduceIte, fi, b1, nx]
    · rw [if_neg z]
      rw [bo_f z] at fi
      simp only [fX12_known_L51, fX12_known_L62, h.1, h.2.1, h.2.2, li_T, li_L, li_R, nm, bd, q_b, ne_eq, Nat.reduceEqDiff, reduceCtorEq, and_false, false_and, and_true, true_and, and_self, not_false_eq_true, not_true_eq_false, ↓reduceIte, fi]
  unfold vK
  by_cases z : s.2.1 = 0 ∧ kd b L s.1 = 2
  · rw [bo_t z] at in_
    obtain ⟨z0, z2⟩ := z
    obtain ⟨k1, k2, k3, k4, k5⟩ := kd_2 z2
    have fi := fiA s
    rw [bo_t z0] at fi
    have rj : mJ (RS b L s Z) 366 21 = lN (c27 (wlt b L s.1)) := by
      rw [RS_J]
      have t := (kd_k2 (b := b) (L := L) (i := s.1)).mpr z2
      unfold rrJ
      rw [if_pos t.1]
      show lN (c27 (lts b (min (wd b L s.1) 6) (fr b L s.1))) = _
      rw [Nat.min_eq_left (by omega)]
      rfl
    have fd := m_find (n := n) (RS b L s Z) (q := q) (N := N) (by rw [(hsA s).1]; exact hq) (M := M) (by rw [(hsA s).2.1]; exact hM) hN hM5 hn (lN (c27 (wlt b L s.1)))
    have row : mJ (RS b L s Z) q = mJ Z q := funext fun k => FM_Jo _ _ _ q3 k
    rw [row, fnj_fnm k1 N 0 (fun k hk => hnr k (by omega))] at fd
    unfold aK
    rw [if_pos z2]
    by_cases y : fnm nh (wlt b L s.1) N 0 = -1
    · rw [if_pos y, aA_f, if_neg (aF_f (by decide) s)]
      rw [y] at fd
      have hf2 := m_faulty h s 2
      have e := l51 (aF b L 2 s) (-1)
      have h := hsA s
      simp only [fX12_known, fX12_known_L12, fX12_known_L33, h.1, h.2.1, h.2.2, li_T, li_L, li_R, nm, bd, q_b, ne_eq, Nat.reduceEqDiff, reduceCtorEq, and_false, false_and, and_true, true_and, and_self, not_false_eq_true, not_true_eq_false, ↓reduceIte, in_, b1, fi, rj, fd, hf2, e]
    · rw [if_neg y, aA_f, if_pos z0]
      have e := l51 s (fnm nh (wlt b L s.1) N 0)
      have h := hsA s
      simp only [fX12_known, fX12_known_L12, fX12_known_L33, h.1, h.2.1, h.2.2, li_T, li_L, li_R, nm, bd, q_b, ne_eq, Nat.reduceEqDiff, reduceCtorEq, and_false, false_and, and_true, true_and, and_self, not_false_eq_true, not_true_eq_false, ↓reduceIte, in_, b1, fi, rj, fd, y, e]
  · rw [bo_f z] at in_
    have bad : (aF b L 1 s).2.1 ≠ 0 := aF_f (by decide) s
    have fi := fiA (aF b L 1 s)
    rw [bo_f bad] at fi
    have e := l51 (aF b L 1 s) (-1)
    have e' : aA (aF b L 1 s) = aF b L 1 s := by unfold aA; rw [if_neg bad]
    have st : aK b L nh N s = aF b L 1 s := by
      unfold aK
      by_cases y : kd b L s.1 = 2
      · have z0 : ¬ s.2.1 = 0 := fun x => z ⟨x, y⟩
        have e1 : ∀ w, aF b L w s = s := fun w => by unfold aF; rw [if_neg z0]
        rw [if_pos y, e1, e1]
        have e3 : (if fnm nh (wlt b L s.1) N 0 = -1 then s else s) = s := by split <;> rfl
        rw [e3]
        unfold aA
        rw [if_neg z0]
      · rw [if_neg y, e']
    rw [e'] at e
    rw [st, if_neg bad]
    have h1 := (hsA (aF b L 1 s)).1
    have h := hsA s
    simp only [fX12_known, fX12_known_L12, fX12_known_L33, h.1, h.2.1, h.2.2, li_T, li_L, li_R, nm, bd, q_b, ne_eq, Nat.reduceEqDiff, reduceCtorEq, and_false, false_and, and_true, true_and, and_self, not_false_eq_true, not_true_eq_false, ↓reduceIte, in_, hf1, h1, fi, e]
end
