/-! WHAT ELSE HOLDS OF A STATE: ranges, and bounds by which no sum runs over -/
def mxT : Nat → Int
| 0 => 100000
| k + 1 => 9 * mxT k
def mxS : Nat → Int
| 0 => 5000000
| k + 1 => 10 * mxS k + 540 * mxT k
/-- how many EVENTS are done with -/
def dn (w : Wt) : Nat → Nat
| 0 => 0
| m + 1 => dn w m + if w.1 25 m = 0 ∨ w.1 25 m = 1 then 0 else 1
def sm (f : Nat → Int64) : Nat → Int
| 0 => 0
| m + 1 => sm f m + (f m).toInt
def Bd (T G : Nat) (w : Wt) : Prop := (∀ i, i < 50 → 0 ≤ (w.2 1 i).toInt) ∧ sm (w.2 1) 50 ≤ mxS (dn w G) ∧ (∀ t, t < T → 0 ≤ (w.2 7 t).toInt ∧ (w.2 7 t).toInt ≤ mxT (dn w G)) ∧
  (∀ e, e < G → ∀ i, i < Cn w e → 0 ≤ (w.2 40 (60 * e + i)).toInt ∧ (w.2 40 (60 * e + i)).toInt ≤ mxT (dn w G)) ∧ ∀ e, e < G → ((∀ h, h < 10 → 0 ≤ (w.2 31 (10 * e + h)).toInt) ∧ sm (fun h => w.2 31 (10 * e + h)) 10 ≤ mxS (dn w G)) ∧ (w.1 25 e = 0 → ∀ h, h < 10 → w.2 31 (10 * e + h) = 0)
/-- an EVENT's terms -/
def Et (w : Wt) (e : Nat) : Prop := inL (w.1 25 e) 4 ∧ inL (w.1 14 e) 4 ∧ inL (w.1 17 e) 10 ∧ inL (w.1 18 e) 10 ∧ inL (w.1 19 e) 1000 ∧ inL (w.1 20 e) 1000 ∧ (w.1 14 e = 0 → w.1 17 e = 0 ∧ w.1 18 e = 1)
def Iw (T G H P : Nat) (w : Wt) : Prop := w.1 0 7 = nI P ∧ P ≤ 5 ∧ (∃ d, d ≤ 999 ∧ w.1 0 8 = nI d) ∧ (∀ t, t < T → inL (w.1 4 t) H ∧ inL (w.1 5 t) H ∧ w.1 4 t ≠ w.1 5 t ∧ inL (w.1 10 t) 1009) ∧ (∀ e, e < G → Et w e) ∧
  (∀ e, e < G → ∀ i, i < Cn w e → inL (w.1 38 (60 * e + i)) H ∧ inL (w.1 39 (60 * e + i)) H ∧ w.1 38 (60 * e + i) ≠ w.1 39 (60 * e + i)) ∧ Bd T G w
theorem dn_congr {w u : Wt} : ∀ m, (∀ e, e < m → u.1 25 e = w.1 25 e) → dn u m = dn w m := by
  intro m
  induction m with
  | zero => intro _; rfl
  | succ m ih =>
    intro h
    rw [dn, dn, ih (fun e he => h e (by omega)), h m (by omega)]
theorem sm_congr {f g : Nat → Int64} : ∀ m, (∀ i, i < m → f i = g i) → sm f m = sm g m := by
  intro m
  induction m with
  | zero => intro _; rfl
  | succ m ih =>
    intro h
    rw [sm, sm, ih (fun i hi => h i (by omega)), h m (by omega)]
theorem mxT_pos : ∀ k, 100000 ≤ mxT k := by
  intro k
  induction k with
  | zero => exact Int.le_refl _
  | succ k ih => rw [mxT]; omega
theorem mxS_pos : ∀ k, 5000000 ≤ mxS k := by
  intro k
  induction k with
  | zero => exact Int.le_refl _
  | succ k ih => rw [mxS]; have := mxT_pos k; omega
theorem Bd.same {T G : Nat} {w u : Wt} (h : Bd T G w) (hT : T ≤ 60) (hG : G ≤ 8) (hC : ∀ e, e < G → Cn w e ≤ 60) (h25 : ∀ e, e < G → u.1 25 e = w.1 25 e) (h26 : ∀ e, e < G → u.1 26 e = w.1 26 e) (hJ : ∀ a k, jR a k → (a = 1 ∨ a = 7 ∨ a = 31 ∨ a = 40) → u.2 a k = w.2 a k) : Bd T G u := by
  obtain ⟨b1, b2, b3, b4, b5⟩ := h
  have ed := dn_congr G h25
  have ec : ∀ e, e < G → Cn u e = Cn w e := fun e he => by unfold Cn; rw [h26 e he]
  refine ⟨fun i hi => ?_, ?_, fun t ht => ?_, fun e he i hi => ?_, fun e he => ⟨⟨fun k hk => ?_, ?_⟩, fun z k hk => ?_⟩⟩
  · rw [hJ 1 i (by unfold jR; omega) (by omega)]; exact b1 i hi
  · rw [ed, sm_congr 50 (fun i hi => hJ 1 i (by unfold jR; omega) (by omega))]; exact b2
  · rw [ed, hJ 7 t (by unfold jR; omega) (by omega)]; exact b3 t ht
  · rw [ec e he] at hi
    have := hC e he
    rw [ed, hJ 40 _ (by unfold jR; omega) (by omega)]; exact b4 e he i hi
  · rw [hJ 31 _ (by unfold jR; omega) (by omega)]; exact (b5 e he).1.1 k hk
  · rw [ed, sm_congr 10 (fun i hi => hJ 31 _ (by unfold jR; omega) (by omega))]; exact (b5 e he).1.2
  · rw [hJ 31 _ (by unfold jR; omega) (by omega)]; exact (b5 e he).2 (by rw [← h25 e he]; exact z) k hk
theorem Iw.weq {T G H P : Nat} {w u : Wt} (h : Iw T G H P w) (hw : Weq w u) (hT : T ≤ 60) (hG : G ≤ 8) (hC : ∀ e, e < G → Cn w e ≤ 60) : Iw T G H P u := by
  obtain ⟨i1, i2, ⟨d, d1, d2⟩, i4, i5, i6, i7⟩ := h
  have ec : ∀ e, e < G → Cn u e = Cn w e := fun e he => by unfold Cn; rw [hw.1 26 e (by unfold iR; omega)]
  refine ⟨by rw [← hw.1 0 7 (by unfold iR; omega)]; exact i1, i2, ⟨d, d1, by rw [← hw.1 0 8 (by unfold iR; omega)]; exact d2⟩, fun t ht => ?_, fun e he => ?_, fun e he i hi => ?_, ?_⟩
  · rw [← hw.1 4 t (by unfold iR; omega), ← hw.1 5 t (by unfold iR; omega), ← hw.1 10 t (by unfold iR; omega)]
    exact i4 t ht
  · have o := i5 e he
    unfold Et at o ⊢
    rw [← hw.1 25 e (by unfold iR; omega), ← hw.1 14 e (by unfold iR; omega), ← hw.1 17 e (by unfold iR; omega), ← hw.1 18 e (by unfold iR; omega), ← hw.1 19 e (by unfold iR; omega), ← hw.1 20 e (by unfold iR; omega)]
    exact o
  · rw [ec e he] at hi
    have := hC e he
    rw [← hw.1 38 _ (by unfold iR; omega), ← hw.1 39 _ (by unfold iR; omega)]
    exact i6 e he i hi
  · exact i7.same hT hG hC (fun e he => (hw.1 25 e (by unfold iR; omega)).symm) (fun e he => (hw.1 26 e (by unfold iR; omega)).symm) (fun a k hj _ => (hw.2 a k hj).symm)
