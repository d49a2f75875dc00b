/-! STATE: what an EVENT gives; what stays of a State's rows through a step -/
/-- a loop over 0 .. T - 1, a step a number -/
theorem loop_go {R : Type} {F : Nat → Int32 → Wt → Option R} {N : Nat → Wt → Wt} {I : Nat → Wt → Prop} {out : Wt → Option R} (T : Nat)
    (step : ∀ (j i : Nat) (w : Wt), i < T → I i w → F (j + 1) (nI i) w = F j (nI (i + 1)) (N i w)) (keep : ∀ (i : Nat) (w : Wt), i < T → I i w → I (i + 1) (N i w)) (done : ∀ (j : Nat) (w : Wt), I T w → F (j + 1) (nI T) w = out w) :
    ∀ (m i : Nat) (w : Wt) (j : Nat), i + m = T → m < j → I i w → F j (nI i) w = out (nf N m i w) ∧ I T (nf N m i w) := by
  intro m
  induction m with
  | zero =>
    intro i w j h1 h2 hI
    obtain ⟨j, rfl⟩ : ∃ k, j = k + 1 := ⟨j - 1, by omega⟩
    have h3 : i = T := by omega
    subst h3
    exact ⟨done j w hI, hI⟩
  | succ m ih =>
    intro i w j h1 h2 hI
    obtain ⟨j, rfl⟩ : ∃ k, j = k + 1 := ⟨j - 1, by omega⟩
    rw [step j i w (by omega) hI]
    exact ih (i + 1) (N i w) j (by omega) (by omega) (keep i w (by omega) hI)
/-- an EVENT's row is one: its PAPER, the other PAPER of a TURN, its CLAIMS -/
def okE (f : Nat → Nat → Int32) (e : Nat) : Prop := inL (f 15 e) 5 ∧ (f 14 e = 3 → inL (f 16 e) 5) ∧ ∃ c : Nat, c ≤ 60 ∧ f 26 e = nI c ∧ ∀ i, i < c → inL (f 38 (60 * e + i)) 10 ∧ inL (f 39 (60 * e + i)) 10
def okF (f : Nat → Nat → Int32) (t : Nat) : Prop := inL (f 4 t) 10 ∧ inL (f 5 t) 10 ∧ inL (f 6 t) 5
/-- T TRADES, G EVENTS, H HOLDERS, all rows as they should be -/
def Ok (T G H : Nat) (f : Nat → Nat → Int32) : Prop := f 3 9 = nI T ∧ T ≤ 60 ∧ f 13 16 = nI G ∧ G ≤ 8 ∧ f 0 6 = nI H ∧ H ≤ 10 ∧ (∀ t, t < T → okF f t) ∧ ∀ e, e < G → okE f e
theorem Ok.same {T G H : Nat} {f g : Nat → Nat → Int32} (h : Ok T G H f) (hs : ∀ a, (a = 0 ∨ a = 3 ∨ a = 4 ∨ a = 5 ∨ a = 6 ∨ a = 13 ∨ a = 14 ∨ a = 15 ∨ a = 16 ∨ a = 26 ∨ a = 38 ∨ a = 39) → ∀ k, (a = 0 → k = 6) → g a k = f a k) : Ok T G H g := by
  obtain ⟨h1, h2, h3, h4, h5, h6, h7, h8⟩ := h
  have e : ∀ a, (a = 3 ∨ a = 4 ∨ a = 5 ∨ a = 6 ∨ a = 13 ∨ a = 14 ∨ a = 15 ∨ a = 16 ∨ a = 26 ∨ a = 38 ∨ a = 39) → ∀ k, g a k = f a k := fun a ha k => hs a (Or.inr ha) k (fun h => by omega)
  refine ⟨by rw [e 3 (by simp)]; exact h1, h2, by rw [e 13 (by simp)]; exact h3, h4, by rw [hs 0 (by simp) 6 (fun _ => rfl)]; exact h5, h6, fun t ht => ?_, fun q hq => ?_⟩
  · have o := h7 t ht
    unfold okF at o ⊢
    rw [e 4 (by simp), e 5 (by simp), e 6 (by simp)]
    exact o
  · obtain ⟨o1, o2, c, o3, o4, o5⟩ := h8 q hq
    refine ⟨by rw [e 15 (by simp)]; exact o1, fun hk => by rw [e 14 (by simp)] at hk; rw [e 16 (by simp)]; exact o2 hk, c, o3, by rw [e 26 (by simp)]; exact o4, fun i hi => ?_⟩
    rw [e 38 (by simp), e 39 (by simp)]
    exact o5 i hi
/-- a written place that none of these is -/
theorem Ok.uI {T G H : Nat} {w : Wt} (h : Ok T G H w.1) {a k : Nat} {v : Int32} (ha : a ≠ 3 ∧ a ≠ 4 ∧ a ≠ 5 ∧ a ≠ 6 ∧ a ≠ 13 ∧ a ≠ 14 ∧ a ≠ 15 ∧ a ≠ 16 ∧ a ≠ 26 ∧ a ≠ 38 ∧ a ≠ 39) (h0 : a = 0 → k ≠ 6) : Ok T G H (uI w a k v).1 :=
  h.same fun b hb j hj => by
    rw [uI_1, if_neg]
    rintro ⟨rfl, rfl⟩
    rcases hb with hb | hb
    · exact h0 hb (hj hb)
    · omega
theorem q_b1 {b : Int32} (h : (1 : Int32) ≤ b) : ¬ b.toInt64 = 0 := by
  rw [wd_0]
  intro e
  rw [e] at h
  exact absurd h (by decide)
def N_sf (e : Nat) (v : Int64) (w : Wt) : Int64 := if 1 ≤ w.1 18 e then v * (w.1 17 e).toInt64 / (w.1 18 e).toInt64 else 0
def N_mf (e : Nat) (v : Int64) (w : Wt) : Int64 := if w.1 14 e = 2 then 0 else if 1 ≤ w.1 18 e then v * (w.1 19 e).toInt64 + (v * (w.1 17 e).toInt64 - v * (w.1 17 e).toInt64 / (w.1 18 e).toInt64 * (w.1 18 e).toInt64) * (w.1 20 e).toInt64 / (w.1 18 e).toInt64 else 0
def N_issue (e : Nat) (a b : Int64) (w : Wt) : Wt := uJ (uJ w 28 e (w.2 28 e + a)) 29 e (w.2 29 e + b)
def N_give (h e : Nat) (i : Nat) (v : Int64) (w : Wt) : Wt := N_issue e (N_sf e v w) (N_mf e v w) (N_pu h (N_mf e v w) (N_add i (N_sf e v w) w))
section
variable {bk dr s : Nat} {w : Wt} {X : Mm}
theorem c_sharesFor (h : Shp bk dr X) (hs : St s) {e : Nat} (he : e < 8) {v : Int64} : fX3_sharesFor (s + 13) (nI e) v (pW s w X) = some (N_sf e v w, pW s w X) := by
  have e1 : (nI e).toNatClampNeg = e := nI_clamp (by omega)
  have e2 := inL_nI (j := e) (n := 8) he (by decide)
  simp only [fX3_sharesFor, h.1, h.2.1, h.2.2, st_T s hs, st_L s hs, st_R hs, mT_pW, mL_pW, mR_pW, mI_pW, mJ_pW, mI_pW0, mJ_pW0, sI_pW, sJ_pW, sI_pW0, nm, bd, q_b, ne_eq, Nat.add_eq_zero_iff, Nat.reduceEqDiff, Nat.reduceLeDiff, Nat.reduceAdd, and_false, false_and, and_true, true_and, and_self, not_false_eq_true, not_true_eq_false, reduceCtorEq, ↓reduceIte, e1, e2.1, e2.2]
  by_cases h1 : 1 ≤ w.1 18 e
  · simp only [h1, ↓reduceIte, q_b1 h1, N_sf]
  · simp only [h1, ↓reduceIte, N_sf]
theorem c_moneyFor (h : Shp bk dr X) (hs : St s) {e : Nat} (he : e < 8) {v : Int64} : fX3_moneyFor (s + 13) (nI e) v (pW s w X) = some (N_mf e v w, pW s w X) := by
  have e1 : (nI e).toNatClampNeg = e := nI_clamp (by omega)
  have e2 := inL_nI (j := e) (n := 8) he (by decide)
  simp only [fX3_moneyFor, fX3_moneyFor_L24, h.1, h.2.1, h.2.2, st_T s hs, st_L s hs, st_R hs, mT_pW, mL_pW, mR_pW, mI_pW, mJ_pW, mI_pW0, mJ_pW0, sI_pW, sJ_pW, sI_pW0, nm, bd, q_b, ne_eq, Nat.add_eq_zero_iff, Nat.reduceEqDiff, Nat.reduceLeDiff, Nat.reduceAdd, and_false, false_and, and_true, true_and, and_self, not_false_eq_true, not_true_eq_false, reduceCtorEq, ↓reduceIte, e1, e2.1, e2.2]
  by_cases h0 : w.1 14 e = 2
  · simp only [h0, ↓reduceIte, N_mf]
  · by_cases h1 : 1 ≤ w.1 18 e
    · simp only [h0, h1, ↓reduceIte, q_b1 h1, N_mf]
    · simp only [h0, h1, ↓reduceIte, N_mf]
theorem c_issue (h : Shp bk dr X) (hs : St s) {e : Nat} (he : e < 8) {a b : Int64} : fX3_issue (s + 13) (nI e) a b (pW s w X) = some ((), pW s (N_issue e a b w) X) := by
  have e1 : (nI e).toNatClampNeg = e := nI_clamp (by omega)
  have e2 := inL_nI (j := e) (n := 8) he (by decide)
  simp only [fX3_issue, h.1, h.2.1, h.2.2, st_T s hs, st_L s hs, st_R hs, mT_pW, mL_pW, mR_pW, mI_pW, mJ_pW, mI_pW0, mJ_pW0, sI_pW, sJ_pW, sI_pW0, nm, bd, q_b, ne_eq, Nat.add_eq_zero_iff, Nat.reduceEqDiff, Nat.reduceLeDiff, Nat.reduceAdd, and_false, false_and, and_true, true_and, and_self, not_false_eq_true, not_true_eq_false, reduceCtorEq, ↓reduceIte, e1, e2.1, e2.2, N_issue, uJ_2]
theorem c_giveTo (h : Shp bk dr X) (hs : St s) {e : Nat} (he : e < 8) {a p : Int32} (ha : inL a 10) (hp : inL p 5) {v : Int64} : fX8_giveTo s a (nI e) p v (pW s w X) = some ((), pW s (N_give a.toNatClampNeg e (ix a p) v w) X) := by
  simp only [fX8_giveTo, h.1, h.2.1, h.2.2, st_T s hs, st_L s hs, st_R hs, mT_pW, mL_pW, mR_pW, mI_pW, mJ_pW, mI_pW0, mJ_pW0, sI_pW, sJ_pW, sI_pW0, nm, bd, q_b, ne_eq, Nat.add_eq_zero_iff, Nat.reduceEqDiff, Nat.reduceLeDiff, Nat.reduceAdd, and_false, false_and, and_true, true_and, and_self, not_false_eq_true, not_true_eq_false, reduceCtorEq, ↓reduceIte, c_sharesFor h hs he, c_moneyFor h hs he, c_addShares h hs (inL_ix ha hp), c_issue h hs he, ha.1, ha.2, N_give, N_pu]
end
