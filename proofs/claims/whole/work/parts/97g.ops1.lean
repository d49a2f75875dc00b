/-! TEXTS: what the class does at a token -/
abbrev St3 : Type := Nat × Int32 × Int32
def U2 (s : St3) (W : Mm) : Mm := sI (sI (sI W 2 5 (nI s.1)) 2 6 s.2.1) 2 7 s.2.2
theorem U2_I (s : St3) (W : Mm) (c k : Nat) : mI (U2 s W) c k = if c = 2 ∧ k = 7 then s.2.2 else if c = 2 ∧ k = 6 then s.2.1 else if c = 2 ∧ k = 5 then nI s.1 else mI W c k := by
  unfold U2
  rw [mI_sI, mI_sI, mI_sI]
theorem U2_Io (s : St3) (W : Mm) {c : Nat} (h : c ≠ 2) (k : Nat) : mI (U2 s W) c k = mI W c k := by
  rw [U2_I, if_neg (fun z => h z.1), if_neg (fun z => h z.1), if_neg (fun z => h z.1)]
theorem mN_sI (X : Mm) (c k : Nat) (v : Int32) : mN (sI X c k v) = mN X := rfl
theorem mS_sI (X : Mm) (c k : Nat) (v : Int32) : mS (sI X c k v) = mS X := rfl
theorem mN_sJ (X : Mm) (c k : Nat) (v : Int64) : mN (sJ X c k v) = mN X := rfl
theorem mS_sJ (X : Mm) (c k : Nat) (v : Int64) : mS (sJ X c k v) = mS X := rfl
theorem U2_N (s : St3) (W : Mm) : mN (U2 s W) = mN W := by unfold U2; rw [mN_sI, mN_sI, mN_sI]
theorem U2_S (s : St3) (W : Mm) : mS (U2 s W) = mS W := by unfold U2; rw [mS_sI, mS_sI, mS_sI]
theorem U2_T (s : St3) (W : Mm) : mT (U2 s W) = mT W := by unfold U2; rw [mT_sI, mT_sI, mT_sI]
theorem U2_L (s : St3) (W : Mm) : mL (U2 s W) = mL W := by unfold U2; rw [mL_sI, mL_sI, mL_sI]
theorem U2_R (s : St3) (W : Mm) : mR (U2 s W) = mR W := by unfold U2; rw [mR_sI, mR_sI, mR_sI]
theorem U2_jj (s : St3) (W : Mm) : mJ (U2 s W) = mJ W := by unfold U2; rw [mJ_sI, mJ_sI, mJ_sI]
theorem U2_ext {X Y : Mm} (s : St3) (W : Mm) (h1 : mN X = mN W) (h2 : mT X = mT W) (h3 : mL X = mL W) (h4 : ∀ c k, mI X c k = mI (U2 s W) c k) (h5 : mJ X = mJ W) (h6 : mR X = mR W) (h7 : mS X = mS W) : X = U2 s W :=
  Mm_ext (h1.trans (U2_N s W).symm) (h2.trans (U2_T s W).symm) (h3.trans (U2_L s W).symm) (funext fun c => funext fun k => h4 c k) (h5.trans (U2_jj s W).symm) (h6.trans (U2_R s W).symm) (h7.trans (U2_S s W).symm)
theorem sI_ext {X Y : Mm} (h1 : mN X = mN Y) (h2 : mT X = mT Y) (h3 : mL X = mL Y) (h4 : ∀ c k, mI X c k = mI Y c k) (h5 : mJ X = mJ Y) (h6 : mR X = mR Y) (h7 : mS X = mS Y) : X = Y := Mm_ext h1 h2 h3 (funext fun c => funext fun k => h4 c k) h5 h6 h7
theorem U2_5 (s : St3) (W : Mm) (i : Nat) : sI (U2 s W) 2 5 (nI i) = U2 (i, s.2.1, s.2.2) W := by
  refine U2_ext (Y := W) _ W (by rw [mN_sI, U2_N]) (by rw [mT_sI, U2_T]) (by rw [mL_sI, U2_L]) (fun c k => ?_) (by rw [mJ_sI, U2_jj]) (by rw [mR_sI, U2_R]) (by rw [mS_sI, U2_S])
  rw [mI_sI, U2_I, U2_I]
  by_cases e : c = 2 ∧ k = 5
  · obtain ⟨rfl, rfl⟩ := e
    rw [if_pos ⟨rfl, rfl⟩, if_neg (by omega), if_neg (by omega), if_pos ⟨rfl, rfl⟩]
  · rw [if_neg e, if_neg e, if_neg e]
theorem U2_6 (s : St3) (W : Mm) (v : Int32) : sI (U2 s W) 2 6 v = U2 (s.1, v, s.2.2) W := by
  refine U2_ext (Y := W) _ W (by rw [mN_sI, U2_N]) (by rw [mT_sI, U2_T]) (by rw [mL_sI, U2_L]) (fun c k => ?_) (by rw [mJ_sI, U2_jj]) (by rw [mR_sI, U2_R]) (by rw [mS_sI, U2_S])
  rw [mI_sI, U2_I, U2_I]
  by_cases e : c = 2 ∧ k = 6
  · obtain ⟨rfl, rfl⟩ := e
    rw [if_pos ⟨rfl, rfl⟩, if_neg (by omega), if_pos ⟨rfl, rfl⟩]
  · rw [if_neg e, if_neg e, if_neg e]
theorem U2_7 (s : St3) (W : Mm) (v : Int32) : sI (U2 s W) 2 7 v = U2 (s.1, s.2.1, v) W := by
  refine U2_ext (Y := W) _ W (by rw [mN_sI, U2_N]) (by rw [mT_sI, U2_T]) (by rw [mL_sI, U2_L]) (fun c k => ?_) (by rw [mJ_sI, U2_jj]) (by rw [mR_sI, U2_R]) (by rw [mS_sI, U2_S])
  rw [mI_sI, U2_I, U2_I]
  by_cases e : c = 2 ∧ k = 7
  · obtain ⟨rfl, rfl⟩ := e
    rw [if_pos ⟨rfl, rfl⟩, if_pos ⟨rfl, rfl⟩]
  · rw [if_neg e, if_neg e, if_neg e]
theorem U2_o (s : St3) (W : Mm) {c : Nat} (h : c ≠ 2) (k : Nat) (v : Int32) : sI (U2 s W) c k v = U2 s (sI W c k v) := by
  refine U2_ext (Y := W) _ _ (by rw [mN_sI, U2_N, mN_sI]) (by rw [mT_sI, U2_T, mT_sI]) (by rw [mL_sI, U2_L, mL_sI]) (fun d j => ?_) (by rw [mJ_sI, U2_jj, mJ_sI]) (by rw [mR_sI, U2_R, mR_sI]) (by rw [mS_sI, U2_S, mS_sI])
  rw [mI_sI, U2_I, U2_I, mI_sI]
  by_cases e : d = c ∧ j = k
  · rw [if_pos e, if_neg (by omega), if_neg (by omega), if_neg (by omega), if_pos e]
  · rw [if_neg e, if_neg e]
theorem U2_J (s : St3) (W : Mm) (c k : Nat) (v : Int64) : sJ (U2 s W) c k v = U2 s (sJ W c k v) := by
  refine U2_ext (Y := W) _ _ (by rw [mN_sJ, U2_N, mN_sJ]) (by rw [mT_sJ, U2_T, mT_sJ]) (by rw [mL_sJ, U2_L, mL_sJ]) (fun d j => ?_) (funext fun a => funext fun j => by rw [mJ_sJ, U2_jj, mJ_sJ]) (by rw [mR_sJ, U2_R, mR_sJ]) (by rw [mS_sJ, U2_S, mS_sJ])
  rw [mI_sJ, U2_I, U2_I, mI_sJ]
theorem U2_U2 (s t : St3) (W : Mm) : U2 s (U2 t W) = U2 s W := by
  refine U2_ext (Y := W) _ _ (by rw [U2_N, U2_N]) (by rw [U2_T, U2_T]) (by rw [U2_L, U2_L]) (fun c k => ?_) (by rw [U2_jj, U2_jj]) (by rw [U2_R, U2_R]) (by rw [U2_S, U2_S])
  rw [U2_I, U2_I, U2_I]
  split
  · rfl
  · split
    · rfl
    · split <;> rfl
section
variable (b : Nat → Int32) (L : Nat)
def VI (i : Nat) : Prop := ∀ m, m < i → fr b L m < L
def aF (w : Int32) (s : St3) : St3 := if s.2.1 = 0 then (s.1, w, nI (fr b L s.1)) else s
def aA (s : St3) : St3 := if s.2.1 = 0 then (s.1 + 1, s.2.1, s.2.2) else s
def AW (k : Int32) (i : Nat) : Prop := kd b L i = 1 ∧ vl b L i = k
/-- a word, the stop, a number are asked for -/
noncomputable def aW (k : Int32) (s : St3) : St3 := by
  classical
  exact aA (if AW b L k s.1 then s else aF b L 1 s)
def aS (s : St3) : St3 := aA (if kd b L s.1 = 4 then s else aF b L 1 s)
def aN (s : St3) : St3 := aA (if kd b L s.1 = 3 then s else aF b L 1 s)
noncomputable def aP (k : Int32) (s : St3) : St3 := by
  classical
  exact if s.2.1 = 0 ∧ AW b L k s.1 then (s.1 + 1, s.2.1, s.2.2) else s
def CTok (bk dr : Nat) (W : Mm) : Prop := Shp bk dr W ∧ L ≤ 700 ∧ ∀ k, VI b L k → TokF b L k W
end
section
variable {bk dr H P n : Nat} {W : Mm} {b : Nat → Int32} {L : Nat} {s : St3}
theorem VI.le {i : Nat} (h : VI b L i) : i ≤ L := by
  have a := sp_ge (b := b) (L := L) i h
  have := (sp_le (b := b) (L := L) i).1
  omega
theorem VI.kd0 {i : Nat} (h : VI b L i) (hk : kd b L i ≠ 0) : VI b L (i + 1) := by
  intro m hm
  by_cases e : m = i
  · subst e
    by_cases z : L ≤ fr b L m
    · exact absurd (by unfold kd; rw [if_pos z]) hk
    · omega
  · exact h m (by omega)
theorem aF_1 (w : Int32) (s : St3) : (aF b L w s).1 = s.1 := by
  unfold aF
  split <;> rfl
theorem aF_f {w : Int32} (hw : w ≠ 0) (s : St3) : (aF b L w s).2.1 ≠ 0 := by
  unfold aF
  split
  · exact hw
  · assumption
theorem CTok.u (h : CTok b L bk dr W) (s : St3) : Shp bk dr (U2 s W) := ⟨(U2_T s W).trans h.1.1, (U2_L s W).trans h.1.2.1, (U2_R s W).trans h.1.2.2⟩
theorem CTok.at (h : CTok b L bk dr W) (hv : VI b L s.1) : mI (U2 s W) 4 s.1 = kd b L s.1 ∧ ((kd b L s.1 = 1 ∨ kd b L s.1 = 2 ∨ kd b L s.1 = 3) → mI (U2 s W) 6 s.1 = vl b L s.1) ∧ mI (U2 s W) 5 s.1 = nI (fr b L s.1) ∧ mI (U2 s W) 2 5 = nI s.1 ∧ mI (U2 s W) 2 6 = s.2.1 ∧ (nI s.1).toNatClampNeg = s.1 ∧ inL (nI s.1) 701 := by
  obtain ⟨t1, t2, t3⟩ := h.2.2 s.1 hv
  have l := hv.le
  have L7 := h.2.1
  refine ⟨by rw [U2_Io _ _ (by decide)]; exact t1, fun z => by rw [U2_Io _ _ (by decide)]; exact t2 z, by rw [U2_Io _ _ (by decide)]; exact t3, ?_, ?_, nI_clamp (by omega), inL_nI (by omega) (by decide)⟩
  · rw [U2_I, if_neg (by omega), if_neg (by omega), if_pos ⟨rfl, rfl⟩]
  · rw [U2_I, if_neg (by omega), if_pos ⟨rfl, rfl⟩]
theorem c_fail (h : CTok b L bk dr W) (hv : VI b L s.1) (w : Int32) : fX9_fail 2 w (U2 s W) = some ((), U2 (aF b L w s) W) := by
  obtain ⟨t1, t2, t3, t4, t5, t6, t7⟩ := h.at hv
  have hs := h.u s
  unfold aF
  by_cases z : s.2.1 = 0
  · rw [if_pos z]
    have h6 := h.u (s.1, w, s.2.2)
    have q1 : mI (U2 (s.1, w, s.2.2) W) 2 5 = nI s.1 := by rw [U2_I, if_neg (by omega), if_neg (by omega), if_pos ⟨rfl, rfl⟩]
    have q2 : mI (U2 (s.1, w, s.2.2) W) 5 s.1 = nI (fr b L s.1) := by rw [U2_Io _ _ (by decide)]; rw [U2_Io _ _ (by decide)] at t3; exact t3
    have h := hs
    simp only [fX9_fail, h.1, h.2.1, h.2.2, li_T, li_L, li_R, nm, bd, q_b, ne_eq, Nat.reduceEqDiff, reduceCtorEq, and_false, false_and, and_true, true_and, and_self, not_false_eq_true, not_true_eq_false, ↓reduceIte, t5, z, U2_6, h6.1, h6.2.1, h6.2.2, q1, t6, t7.1, t7.2, q2, U2_7]
  · rw [if_neg z]
    have h := hs
    simp only [fX9_fail, h.1, h.2.1, h.2.2, li_T, li_L, li_R, nm, bd, q_b, ne_eq, Nat.reduceEqDiff, reduceCtorEq, and_false, false_and, and_true, true_and, and_self, not_false_eq_true, not_true_eq_false, ↓reduceIte, t5, z]
theorem c_val (h : CTok b L bk dr W) (hv : VI b L s.1) : fX9_takeValue 2 (U2 s W) = some (if s.2.1 = 0 then mI W 6 s.1 else -1, U2 (aA s) W) := by
  obtain ⟨t1, t2, t3, t4, t5, t6, t7⟩ := h.at hv
  have hs := h.u s
  unfold aA
  by_cases z : s.2.1 = 0
  · rw [if_pos z, if_pos z]
    have q : mI (U2 s W) 6 s.1 = mI W 6 s.1 := U2_Io _ _ (by decide) _
    have h := hs
    simp only [fX9_takeValue, h.1, h.2.1, h.2.2, li_T, li_L, li_R, nm, bd, q_b, ne_eq, Nat.reduceEqDiff, reduceCtorEq, and_false, false_and, and_true, true_and, and_self, not_false_eq_true, not_true_eq_false, ↓reduceIte, t4, t5, z, t6, t7.1, t7.2, q, nI_1, U2_5]
  · rw [if_neg z, if_neg z]
    have h := hs
    simp only [fX9_takeValue, h.1, h.2.1, h.2.2, li_T, li_L, li_R, nm, bd, q_b, ne_eq, Nat.reduceEqDiff, reduceCtorEq, and_false, false_and, and_true, true_and, and_self, not_false_eq_true, not_true_eq_false, ↓reduceIte, t5, z]
theorem c_atW (h : CTok b L bk dr W) (hv : VI b L s.1) (k : Int32) : fX9_isAtWord 2 k (U2 s W) = some (bo (AW b L k s.1), U2 s W) := by
  obtain ⟨t1, t2, t3, t4, t5, t6, t7⟩ := h.at hv
  have hs := h.u s
  by_cases z : kd b L s.1 = 1
  · have tv := t2 (Or.inl z)
    by_cases y : vl b L s.1 = k
    · rw [bo_t (show AW b L k s.1 from ⟨z, y⟩)]
      have h := hs
      simp only [fX9_isAtWord, fX9_isAtWord_L30, h.1, h.2.1, h.2.2, li_T, li_L, li_R, nm, bd, q_b, ne_eq, Nat.reduceEqDiff, reduceCtorEq, and_false, false_and, and_true, true_and, and_self, not_false_eq_true, not_true_eq_false, ↓reduceIte, t4, t6, t7.1, t7.2, t1, z, tv, y]
    · rw [bo_f (fun x : AW b L k s.1 => y x.2)]
      have h := hs
      simp only [fX9_isAtWord, fX9_isAtWord_L30, h.1, h.2.1, h.2.2, li_T, li_L, li_R, nm, bd, q_b, ne_eq, Nat.reduceEqDiff, reduceCtorEq, and_false, false_and, and_true, true_and, and_self, not_false_eq_true, not_true_eq_false, ↓reduceIte, t4, t6, t7.1, t7.2, t1, z, tv, y]
  · rw [bo_f (fun x : AW b L k s.1 => z x.1)]
    have h := hs
    simp only [fX9_isAtWord, fX9_isAtWord_L30, h.1, h.2.1, h.2.2, li_T, li_L, li_R, nm, bd, q_b, ne_eq, Nat.reduceEqDiff, reduceCtorEq, and_false, false_and, and_true, true_and, and_self, not_false_eq_true, not_true_eq_false, ↓reduceIte, t4, t6, t7.1, t7.2, t1, z]
theorem c_adv (h : CTok b L bk dr W) (hv : VI b L s.1) : fX9_takeWord_L13 2 (U2 s W) = some ((), U2 (aA s) W) ∧ fX9_takeStop_L18 2 (U2 s W) = some ((), U2 (aA s) W) := by
  obtain ⟨t1, t2, t3, t4, t5, t6, t7⟩ := h.at hv
  have hs := h.u s
  unfold aA
  have h := hs
  by_cases z : s.2.1 = 0
  · rw [if_pos z]
    constructor
    · simp only [fX9_takeWord_L13, h.1, h.2.1, h.2.2, li_T, li_L, li_R, nm, bd, q_b, ne_eq, Nat.reduceEqDiff, reduceCtorEq, and_false, false_and, and_true, true_and, and_self, not_false_eq_true, not_true_eq_false, ↓reduceIte, t4, t5, z, nI_1, U2_5]
    · simp only [fX9_takeStop_L18, h.1, h.2.1, h.2.2, li_T, li_L, li_R, nm, bd, q_b, ne_eq, Nat.reduceEqDiff, reduceCtorEq, and_false, false_and, and_true, true_and, and_self, not_false_eq_true, not_true_eq_false, ↓reduceIte, t4, t5, z, nI_1, U2_5]
  · rw [if_neg z]
    constructor
    · simp only [fX9_takeWord_L13, h.1, h.2.1, h.2.2, li_T, li_L, li_R, nm, bd, q_b, ne_eq, Nat.reduceEqDiff, reduceCtorEq, and_false, false_and, and_true, true_and, and_self, not_false_eq_true, not_true_eq_false, ↓reduceIte, t5, z]
    · simp only [fX9_takeStop_L18, h.1, h.2.1, h.2.2, li_T, li_L, li_R, nm, bd, q_b, ne_eq, Nat.reduceEqDiff, reduceCtorEq, and_false, false_and, and_true, true_and, and_self, not_false_eq_true, not_true_eq_false, ↓reduceIte, t5, z]
theorem c_word (h : CTok b L bk dr W) (hv : VI b L s.1) (k : Int32) : fX9_takeWord 2 k (U2 s W) = some ((), U2 (aW b L k s) W) := by
  have hs := h.u s
  have t9 : mT (U2 s W) 2 = 9 := by rw [hs.1]; exact rfl
  unfold fX9_takeWord aW
  rw [if_pos t9, c_atW h hv]
  by_cases z : AW b L k s.1
  · rw [if_pos z, bo_t z]
    unfold bd
    simp only []
    rw [if_neg b1]
    exact (c_adv h hv).1
  · rw [if_neg z, bo_f z]
    unfold bd
    simp only []
    rw [if_pos trivial, if_pos t9, c_fail h hv]
    exact (c_adv h (by rw [aF_1]; exact hv)).1
theorem c_stop (h : CTok b L bk dr W) (hv : VI b L s.1) : fX9_takeStop 2 (U2 s W) = some ((), U2 (aS b L s) W) := by
  obtain ⟨t1, t2, t3, t4, t5, t6, t7⟩ := h.at hv
  have hs := h.u s
  have a1 := (c_adv h hv).2
  have a2 := (c_adv (s := aF b L 1 s) h (by rw [aF_1]; exact hv)).2
  have cf := c_fail h hv 1
  unfold aS
  by_cases z : kd b L s.1 = 4
  · rw [if_pos z]
    have h := hs
    simp only [fX9_takeStop, h.1, h.2.1, h.2.2, li_T, li_L, li_R, nm, bd, q_b, ne_eq, Nat.reduceEqDiff, reduceCtorEq, and_false, false_and, and_true, true_and, and_self, not_false_eq_true, not_true_eq_false, ↓reduceIte, t4, t6, t7.1, t7.2, t1, z, a1]
  · rw [if_neg z]
    have h := hs
    simp only [fX9_takeStop, h.1, h.2.1, h.2.2, li_T, li_L, li_R, nm, bd, q_b, ne_eq, Nat.reduceEqDiff, reduceCtorEq, and_false, false_and, and_true, true_and, and_self, not_false_eq_true, not_true_eq_false, ↓reduceIte, t4, t6, t7.1, t7.2, t1, z, cf, a2]
theorem c_num (h : CTok b L bk dr W) (hv : VI b L s.1) : fX9_takeNumber 2 (U2 s W) = some (if (aN b L s).2.1 = 0 then vl b L s.1 else -1, U2 (aN b L s) W) := by
  obtain ⟨t1, t2, t3, t4, t5, t6, t7⟩ := h.at hv
  have hs := h.u s
  have a1 := c_val h hv
  have a2 := c_val (s := aF b L 1 s) h (by rw [aF_1]; exact hv)
  have cf := c_fail h hv 1
  have s1 := (h.u (aF b L 1 s)).1
  have aa : ∀ s : St3, (aA s).2.1 = s.2.1 := fun s => by unfold aA; split <;> rfl
  unfold aN
  rw [aa]
  by_cases z : kd b L s.1 = 3
  · rw [if_pos z]
    have tv := t2 (Or.inr (Or.inr z))
    rw [U2_Io _ _ (by decide)] at tv
    rw [tv] at a1
    have h := hs
    simp only [fX9_takeNumber, fX9_takeNumber_L18, h.1, h.2.1, h.2.2, li_T, li_L, li_R, nm, bd, q_b, ne_eq, Nat.reduceEqDiff, reduceCtorEq, and_false, false_and, and_true, true_and, and_self, not_false_eq_true, not_true_eq_false, ↓reduceIte, t4, t6, t7.1, t7.2, t1, z, a1]
  · rw [if_neg z]
    rw [if_neg (aF_f (by decide) s)] at a2 ⊢
    have h := hs
    simp only [fX9_takeNumber, fX9_takeNumber_L18, h.1, h.2.1, h.2.2, li_T, li_L, li_R, nm, bd, q_b, ne_eq, Nat.reduceEqDiff, reduceCtorEq, and_false, false_and, and_true, true_and, and_self, not_false_eq_true, not_true_eq_false, ↓reduceIte, t4, t6, t7.1, t7.2, t1, z, cf, s1, a2]
theorem c_pass (h : CTok b L bk dr W) (hv : VI b L s.1) (k : Int32) : fX9_passesWord 2 k (U2 s W) = some (bo (s.2.1 = 0 ∧ AW b L k s.1), U2 (aP b L k s) W) := by
  obtain ⟨t1, t2, t3, t4, t5, t6, t7⟩ := h.at hv
  have hs := h.u s
  have cw := c_atW h hv k
  unfold aP
  by_cases z : s.2.1 = 0
  · by_cases y : AW b L k s.1
    · rw [if_pos ⟨z, y⟩, bo_t ⟨z, y⟩]
      rw [bo_t y] at cw
      have h := hs
      simp only [fX9_passesWord, fX9_passesWord_L15, h.1, h.2.1, h.2.2, li_T, li_L, li_R, nm, bd, q_b, ne_eq, Nat.reduceEqDiff, reduceCtorEq, and_false, false_and, and_true, true_and, and_self, not_false_eq_true, not_true_eq_false, ↓reduceIte, t4, t5, z, cw, b1, nI_1, U2_5]
    · rw [if_neg (fun x => y x.2), bo_f (fun x => y x.2)]
      rw [bo_f y] at cw
      have h := hs
      simp only [fX9_passesWord, fX9_passesWord_L15, h.1, h.2.1, h.2.2, li_T, li_L, li_R, nm, bd, q_b, ne_eq, Nat.reduceEqDiff, reduceCtorEq, and_false, false_and, and_true, true_and, and_self, not_false_eq_true, not_true_eq_false, ↓reduceIte, t5, z, cw]
  · rw [if_neg (fun x => z x.1), bo_f (fun x => z x.1)]
    have h := hs
    simp only [fX9_passesWord, fX9_passesWord_L15, h.1, h.2.1, h.2.2, li_T, li_L, li_R, nm, bd, q_b, ne_eq, Nat.reduceEqDiff, reduceCtorEq, and_false, false_and, and_true, true_and, and_self, not_false_eq_true, not_true_eq_false, ↓reduceIte, t5, z]
theorem c_goes (h : CTok b L bk dr W) (hv : VI b L s.1) : fX9_goesOn 2 (U2 s W) = some (bo (s.2.1 = 0 ∧ ¬ kd b L s.1 = 0), U2 s W) := by
  obtain ⟨t1, t2, t3, t4, t5, t6, t7⟩ := h.at hv
  have hs := h.u s
  by_cases z : s.2.1 = 0
  · by_cases y : kd b L s.1 = 0
    · rw [bo_f (fun x => x.2 y)]
      have h := hs
      simp only [fX9_goesOn, fX9_goesOn_L23, h.1, h.2.1, h.2.2, li_T, li_L, li_R, nm, bd, q_b, ne_eq, Nat.reduceEqDiff, reduceCtorEq, and_false, false_and, and_true, true_and, and_self, not_false_eq_true, not_true_eq_false, ↓reduceIte, t4, t5, t6, t7.1, t7.2, t1, z, y]
    · rw [bo_t ⟨z, y⟩]
      have h := hs
      simp only [fX9_goesOn, fX9_goesOn_L23, h.1, h.2.1, h.2.2, li_T, li_L, li_R, nm, bd, q_b, ne_eq, Nat.reduceEqDiff, reduceCtorEq, and_false, false_and, and_true, true_and, and_self, not_false_eq_true, not_true_eq_false, ↓reduceIte, t4, t5, t6, t7.1, t7.2, t1, z, y]
  · rw [bo_f (fun x => z x.1)]
    have h := hs
    simp only [fX9_goesOn, fX9_goesOn_L23, h.1, h.2.1, h.2.2, li_T, li_L, li_R, nm, bd, q_b, ne_eq, Nat.reduceEqDiff, reduceCtorEq, and_false, false_and, and_true, true_and, and_self, not_false_eq_true, not_true_eq_false, ↓reduceIte, t5, z]
/-- names by place -/
def fnv (f : Nat → Int32) (v : Int32) : Nat → Nat → Int32
| 0, _ => -1
| m + 1, i => if f i = v then nI i else fnv f v m (i + 1)
theorem c_ix (X : Mm) {q N : Nat} (hq : mT X q = 14) {M : Nat} (hM : mL X q = M) (hN : N ≤ M) (hM5 : M < 1000) (hn : 1000 ≤ n) (v : Int32) : fX9_indexOf n q (nI N) v X = some (fnv (mI X q) v N 0, X) := by
  have g : ∀ m i j, i + m = N → m < j → fX9_indexOf_L2 n j q (nI N) v (nI i) X = some (fnv (mI X q) v m i, X) := by
    intro m
    induction m with
    | zero =>
      intro i j hi hj
      obtain ⟨j, rfl⟩ : ∃ k, j = k + 1 := ⟨j - 1, by omega⟩
      have e3 : nI N ≤ nI i := nI_le (by omega) (by omega)
      rw [fX9_indexOf_L2, if_pos e3, fnv]
      rfl
    | succ m ih =>
      intro i j hi hj
      obtain ⟨j, rfl⟩ : ∃ k, j = k + 1 := ⟨j - 1, by omega⟩
      have e3 : ¬ nI N ≤ nI i := nI_ge (by omega) (by omega)
      have e4 : ¬ Int32.ofNat (mL X q) ≤ nI i := by rw [hM]; exact nI_ge (b := M) (by omega) (by omega)
      have e1 : (nI i).toNatClampNeg = i := nI_clamp (by omega)
      have e2 : q_b X q (nI i) := by
        have := inL_nI (j := i) (n := M) (by omega) (by omega)
        exact ⟨this.1, by rw [hM]; exact this.2⟩
      rw [fX9_indexOf_L2, if_neg e3, if_pos hq, if_neg e4, if_pos e2, e1, fnv]
      by_cases z : mI X q i = v
      · rw [if_pos z, if_pos z]
      · rw [if_neg z, if_neg z]
        simp only [nm, nI_1]
        exact ih (i + 1) j (by omega) (by omega)
  exact g N 0 n (by omega) (by omega)
end
