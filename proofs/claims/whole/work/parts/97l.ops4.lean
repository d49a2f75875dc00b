/-! TEXTS: the ops of a deed -/
section
variable (b : Nat → Int32) (L : Nat) (nh np : Nat → List Nat) (H P : Nat)
/-- an op of a deed's text: 0 a HOLDER, 1 a PAPER, 2 a number, 3 WITHIN or not, 4 + k the word k -/
noncomputable def stp (o : Nat) (s : St3) : St3 := by
  classical
  exact if o = 0 then aK b L nh H s else if o = 1 then aK b L np P s else if o = 2 then aN b L s else if o = 3 then (if s.2.1 = 0 ∧ AW b L 4 s.1 then aN b L (aP b L 4 s) else s) else aW b L (nI (o - 4)) s
def vN (s : St3) : Int32 := if (aN b L s).2.1 = 0 then vl b L s.1 else -1
noncomputable def val (o : Nat) (s : St3) : Int32 := by
  classical
  exact if o = 0 then vK b L nh H s else if o = 1 then vK b L np P s else if o = 2 then vN b L s else if o = 3 then (if s.2.1 = 0 ∧ AW b L 4 s.1 then vN b L (aP b L 4 s) else 2) else 0
noncomputable def sts : List Nat → St3 → St3
| [], s => s
| o :: r, s => sts r (stp b L nh np H P o s)
noncomputable def vat : List Nat → Nat → St3 → Int32
| [], _, _ => 0
| o :: _, 0, s => val b L nh np H P o s
| o :: r, j + 1, s => vat r j (stp b L nh np H P o s)
/-- an op keeps to the text -/
def GO (op : St3 → St3) : Prop := ∀ s, (VI b L s.1 → VI b L (op s).1) ∧ ((op s).2.1 = 0 → s.2.1 = 0) ∧ s.1 ≤ (op s).1
end
section
variable {b : Nat → Int32} {L : Nat} {nh np : Nat → List Nat} {H P bk dr n : Nat} {W Z : Mm} {s t : St3}
theorem aA_go (h1 : t.1 = s.1) (h2 : t.2.1 = 0 → s.2.1 = 0 ∧ kd b L s.1 ≠ 0) : (VI b L s.1 → VI b L (aA t).1) ∧ ((aA t).2.1 = 0 → s.2.1 = 0 ∧ (aA t).1 = s.1 + 1) ∧ s.1 ≤ (aA t).1 := by
  unfold aA
  by_cases z : t.2.1 = 0
  · rw [if_pos z]
    obtain ⟨z1, z2⟩ := h2 z
    refine ⟨fun v => ?_, fun _ => ⟨z1, ?_⟩, ?_⟩
    · show VI b L (t.1 + 1)
      rw [h1]
      exact v.kd0 z2
    · show t.1 + 1 = _
      rw [h1]
    · show _ ≤ t.1 + 1
      omega
  · rw [if_neg z]
    exact ⟨fun v => by rw [h1]; exact v, fun y => absurd y z, by omega⟩
theorem sel_1 {c : Prop} [Decidable c] (w : Int32) (s : St3) : (if c then s else aF b L w s).1 = s.1 := by
  split
  · rfl
  · exact aF_1 w s
theorem sel_f {c : Prop} [Decidable c] {w : Int32} (hw : w ≠ 0) (hc : c → kd b L s.1 ≠ 0) : (if c then s else aF b L w s).2.1 = 0 → s.2.1 = 0 ∧ kd b L s.1 ≠ 0 := by
  intro z
  by_cases y : c
  · rw [if_pos y] at z
    exact ⟨z, hc y⟩
  · rw [if_neg y] at z
    exact absurd z (aF_f hw s)
theorem aN_go (s : St3) : (VI b L s.1 → VI b L (aN b L s).1) ∧ ((aN b L s).2.1 = 0 → s.2.1 = 0 ∧ (aN b L s).1 = s.1 + 1) ∧ s.1 ≤ (aN b L s).1 :=
  aA_go (sel_1 1 s) (sel_f (by decide) (fun z => by rw [z]; decide))
theorem aS_go (s : St3) : (VI b L s.1 → VI b L (aS b L s).1) ∧ ((aS b L s).2.1 = 0 → s.2.1 = 0 ∧ (aS b L s).1 = s.1 + 1) ∧ s.1 ≤ (aS b L s).1 :=
  aA_go (sel_1 1 s) (sel_f (by decide) (fun z => by rw [z]; decide))
theorem aW_go (k : Int32) (s : St3) : (VI b L s.1 → VI b L (aW b L k s).1) ∧ ((aW b L k s).2.1 = 0 → s.2.1 = 0 ∧ (aW b L k s).1 = s.1 + 1) ∧ s.1 ≤ (aW b L k s).1 := by
  unfold aW
  classical
  exact aA_go (sel_1 1 s) (sel_f (by decide) (fun z => by rw [z.1]; decide))
theorem aK_go (mh : Nat → List Nat) (N : Nat) (s : St3) : (VI b L s.1 → VI b L (aK b L mh N s).1) ∧ ((aK b L mh N s).2.1 = 0 → s.2.1 = 0 ∧ (aK b L mh N s).1 = s.1 + 1) ∧ s.1 ≤ (aK b L mh N s).1 := by
  unfold aK
  refine aA_go ?_ (fun z => ?_)
  · split
    · split
      · exact aF_1 _ _
      · rfl
    · exact aF_1 _ _
  · by_cases y : kd b L s.1 = 2
    · rw [if_pos y] at z
      by_cases x : fnm mh (wlt b L s.1) N 0 = -1
      · rw [if_pos x] at z
        exact absurd z (aF_f (by decide) s)
      · rw [if_neg x] at z
        exact ⟨z, by rw [y]; decide⟩
    · rw [if_neg y] at z
      exact absurd z (aF_f (by decide) s)
theorem stp_go (o : Nat) : GO b L (stp b L nh np H P o) := by
  intro s
  unfold stp
  by_cases o0 : o = 0
  · rw [if_pos o0]
    have g := aK_go (b := b) (L := L) nh H s
    exact ⟨g.1, fun z => (g.2.1 z).1, g.2.2⟩
  · rw [if_neg o0]
    by_cases o1 : o = 1
    · rw [if_pos o1]
      have g := aK_go (b := b) (L := L) np P s
      exact ⟨g.1, fun z => (g.2.1 z).1, g.2.2⟩
    · rw [if_neg o1]
      by_cases o2 : o = 2
      · rw [if_pos o2]
        have g := aN_go (b := b) (L := L) s
        exact ⟨g.1, fun z => (g.2.1 z).1, g.2.2⟩
      · rw [if_neg o2]
        by_cases o3 : o = 3
        · rw [if_pos o3]
          by_cases y : s.2.1 = 0 ∧ AW b L 4 s.1
          · rw [if_pos y]
            have e : aP b L 4 s = (s.1 + 1, s.2.1, s.2.2) := by unfold aP; rw [if_pos y]
            have g := aN_go (b := b) (L := L) (aP b L 4 s)
            rw [e] at g ⊢
            refine ⟨fun v => g.1 (v.kd0 (by rw [y.2.1]; decide)), fun _ => y.1, ?_⟩
            have := g.2.2
            have e2 : (s.1 + 1, s.2.1, s.2.2).1 = s.1 + 1 := rfl
            omega
          · rw [if_neg y]
            exact ⟨fun v => v, fun z => z, Nat.le_refl _⟩
        · rw [if_neg o3]
          have g := aW_go (b := b) (L := L) (nI (o - 4)) s
          exact ⟨g.1, fun z => (g.2.1 z).1, g.2.2⟩
theorem sts_go : ∀ ops : List Nat, GO b L (sts b L nh np H P ops) := by
  intro ops
  induction ops with
  | nil => intro s; exact ⟨fun v => v, fun z => z, Nat.le_refl _⟩
  | cons o r ih =>
    intro s
    have g := stp_go (b := b) (L := L) (nh := nh) (np := np) (H := H) (P := P) o s
    have k := ih (stp b L nh np H P o s)
    rw [sts]
    exact ⟨fun v => k.1 (g.1 v), fun z => g.2.1 (k.2.1 z), Nat.le_trans g.2.2 k.2.2⟩
/-- the class's memory while a deed is read -/
theorem CTok.w15 (h : CTok b L bk dr W) (d : Nat → Int32) : CTok b L bk dr (wI W 15 d) := by
  refine ⟨⟨h.1.1, h.1.2.1, h.1.2.2⟩, h.2.1, fun k hk => ?_⟩
  obtain ⟨t1, t2, t3⟩ := h.2.2 k hk
  refine ⟨?_, fun z => ?_, ?_⟩
  · rw [mI_wI, if_neg (by decide)]; exact t1
  · rw [mI_wI, if_neg (by decide)]; exact t2 z
  · rw [mI_wI, if_neg (by decide)]; exact t3
def CB (b : Nat → Int32) (L : Nat) (nh np : Nat → List Nat) (H P bk dr : Nat) (W : Mm) : Prop := CTok b L bk dr W ∧ Bks bk dr ∧ H ≤ 10 ∧ P ≤ 5 ∧ mI W bk 3 = nI H ∧ mI W bk 4 = nI P ∧ (∀ i, i < H → Nm (nh i) ∧ mI W (bk + 1) i = nI (c5 (nh i))) ∧ ∀ i, i < P → Nm (np i) ∧ mI W (bk + 2) i = nI (c5 (np i))
theorem sI_wI (X : Mm) (c k : Nat) (d : Nat → Int32) (v : Int32) : sI (wI X c d) c k v = wI X c (q_u1 d k v) := by
  refine Mm_ext rfl rfl rfl (funext fun a => funext fun j => ?_) rfl rfl rfl
  rw [mI_sI, mI_wI, mI_wI]
  by_cases e : a = c
  · rw [if_pos e, if_pos e, q_u1_is]
    by_cases e2 : j = k
    · rw [if_pos ⟨e, e2⟩, if_pos e2]
    · rw [if_neg (fun z => e2 z.2), if_neg e2]
  · rw [if_neg (fun z => e z.1), if_neg e, if_neg e]
theorem U2_15 (s : St3) (W : Mm) (d : Nat → Int32) (k : Nat) (v : Int32) : sI (U2 s (wI W 15 d)) 15 k v = U2 s (wI W 15 (q_u1 d k v)) := by
  rw [U2_o _ _ (by decide), sI_wI]
theorem U2_m15 (s : St3) (W : Mm) (d : Nat → Int32) (k : Nat) : mI (U2 s (wI W 15 d)) 15 k = d k := by
  rw [U2_Io _ _ (by decide), mI_wI, if_pos rfl]
theorem CB.at (h : CB b L nh np H P bk dr W) (s : St3) (d : Nat → Int32) : Shp bk dr (U2 s (wI W 15 d)) ∧ mI (U2 s (wI W 15 d)) bk 3 = nI H ∧ mI (U2 s (wI W 15 d)) bk 4 = nI P ∧ (∀ i, mI (wI W 15 d) (bk + 1) i = mI W (bk + 1) i) ∧ ∀ i, mI (wI W 15 d) (bk + 2) i = mI W (bk + 2) i := by
  have b7 : bk = 7 ∨ bk = 11 := by rcases h.2.1 with z | z <;> omega
  refine ⟨(h.1.w15 d).u s, ?_, ?_, fun i => ?_, fun i => ?_⟩
  · rw [U2_Io _ _ (by omega), mI_wI, if_neg (by omega)]; exact h.2.2.2.2.1
  · rw [U2_Io _ _ (by omega), mI_wI, if_neg (by omega)]; exact h.2.2.2.2.2.1
  · rw [mI_wI, if_neg (by omega)]
  · rw [mI_wI, if_neg (by omega)]
theorem c_kh (h : CB b L nh np H P bk dr W) (hv : VI b L s.1) (hn : 1000 ≤ n) (d : Nat → Int32) : fX0_takeHolder n bk 2 (U2 s (wI W 15 d)) = some (vK b L nh H s, U2 (aK b L nh H s) (wI W 15 d)) := by
  obtain ⟨hs, a3, a4, r1, r2⟩ := h.at s d
  have tb := bk_T h.2.1
  have rb := bk_R h.2.1
  have b7 : bk = 7 ∨ bk = 11 := by rcases h.2.1 with z | z <;> omega
  have e := c_known (n := n) (q := bk + 1) (N := H) (M := 10) (nh := nh) (h.1.w15 d) hv hn tb.2.1 tb.2.2.2.2.2.2.2.2.1 h.2.2.1 (by decide) (by omega) (fun i hi => by rw [r1]; exact h.2.2.2.2.2.2.1 i hi)
  have h := hs
  simp only [fX0_takeHolder, h.1, h.2.1, h.2.2, li_T, li_L, li_R, nm, bd, q_b, ne_eq, Nat.reduceEqDiff, reduceCtorEq, and_false, false_and, and_true, true_and, and_self, not_false_eq_true, not_true_eq_false, ↓reduceIte, tb.1, rb.1, a3, e, Nat.add_eq_zero_iff]
theorem c_kp (h : CB b L nh np H P bk dr W) (hv : VI b L s.1) (hn : 1000 ≤ n) (d : Nat → Int32) : fX0_takePaper n bk 2 (U2 s (wI W 15 d)) = some (vK b L np P s, U2 (aK b L np P s) (wI W 15 d)) := by
  obtain ⟨hs, a3, a4, r1, r2⟩ := h.at s d
  have tb := bk_T h.2.1
  have rb := bk_R h.2.1
  have b7 : bk = 7 ∨ bk = 11 := by rcases h.2.1 with z | z <;> omega
  have e := c_known (n := n) (q := bk + 2) (N := P) (M := 5) (nh := np) (h.1.w15 d) hv hn tb.2.2.1 tb.2.2.2.2.2.2.2.2.2.1 h.2.2.2.1 (by decide) (by omega) (fun i hi => by rw [r2]; exact h.2.2.2.2.2.2.2 i hi)
  have h := hs
  simp only [fX0_takePaper, h.1, h.2.1, h.2.2, li_T, li_L, li_R, nm, bd, q_b, ne_eq, Nat.reduceEqDiff, reduceCtorEq, and_false, false_and, and_true, true_and, and_self, not_false_eq_true, not_true_eq_false, ↓reduceIte, tb.1, rb.2.1, a4, e, Nat.add_eq_zero_iff]
theorem c_nn (h : CB b L nh np H P bk dr W) (hv : VI b L s.1) (d : Nat → Int32) : fX9_takeNumber 2 (U2 s (wI W 15 d)) = some (vN b L s, U2 (aN b L s) (wI W 15 d)) := c_num (h.1.w15 d) hv
theorem c_ww (h : CB b L nh np H P bk dr W) (hv : VI b L s.1) (k : Int32) (d : Nat → Int32) : fX9_takeWord 2 k (U2 s (wI W 15 d)) = some ((), U2 (aW b L k s) (wI W 15 d)) := c_word (h.1.w15 d) hv k
theorem c_bb (h : CB b L nh np H P bk dr W) (hv : VI b L s.1) (k : Int32) (d : Nat → Int32) : fX2_takeBehind 2 k (U2 s (wI W 15 d)) = some (vN b L (aW b L k s), U2 (aN b L (aW b L k s)) (wI W 15 d)) := by
  have e1 := c_ww h hv k d
  have e2 := c_nn h ((aW_go k s).1 hv) d
  have hs := (h.at s d).1
  have hs2 := (h.at (aW b L k s) d).1
  have h := hs
  simp only [fX2_takeBehind, h.1, h.2.1, h.2.2, li_T, li_L, li_R, nm, bd, q_b, ne_eq, Nat.reduceEqDiff, reduceCtorEq, and_false, false_and, and_true, true_and, and_self, not_false_eq_true, not_true_eq_false, ↓reduceIte, e1, hs2.1, e2]
theorem c_pp (h : CB b L nh np H P bk dr W) (hv : VI b L s.1) (k : Int32) (d : Nat → Int32) : fX9_passesWord 2 k (U2 s (wI W 15 d)) = some (bo (s.2.1 = 0 ∧ AW b L k s.1), U2 (aP b L k s) (wI W 15 d)) := c_pass (h.1.w15 d) hv k
end
