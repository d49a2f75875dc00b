/-! THE MEMORY: cells 1, 2, .. of the law's own making, by their order; what each holds by places -/
abbrev Mm : Type := Nat × (Nat → Nat) × (Nat → Nat) × (Nat → Nat → Int32) × (Nat → Nat → Int64) × (Nat → Nat → Nat) × Nat
def mN (X : Mm) : Nat := X.1
def mT (X : Mm) : Nat → Nat := X.2.1
def mL (X : Mm) : Nat → Nat := X.2.2.1
def mI (X : Mm) : Nat → Nat → Int32 := X.2.2.2.1
def mJ (X : Mm) : Nat → Nat → Int64 := X.2.2.2.2.1
def mR (X : Mm) : Nat → Nat → Nat := X.2.2.2.2.2.1
def mS (X : Mm) : Nat := X.2.2.2.2.2.2
def q_u1 {α : Type} (f : Nat → α) (k : Nat) (v : α) : Nat → α := fun j => if j = k then v else f j
def q_u2 {α : Type} (f : Nat → Nat → α) (c k : Nat) (v : α) : Nat → Nat → α := q_u1 f c (q_u1 (f c) k v)
def sI (X : Mm) (c k : Nat) (v : Int32) : Mm := (mN X, mT X, mL X, q_u2 (mI X) c k v, mJ X, mR X, mS X)
def sJ (X : Mm) (c k : Nat) (v : Int64) : Mm := (mN X, mT X, mL X, mI X, q_u2 (mJ X) c k v, mR X, mS X)
def sR (X : Mm) (c k : Nat) (v : Nat) : Mm := (mN X, mT X, mL X, mI X, mJ X, q_u2 (mR X) c k v, mS X)
/-- a whole row of ints, of longs -/
def wI (X : Mm) (c : Nat) (f : Nat → Int32) : Mm := (mN X, mT X, mL X, q_u1 (mI X) c f, mJ X, mR X, mS X)
def wJ (X : Mm) (c : Nat) (f : Nat → Int64) : Mm := (mN X, mT X, mL X, mI X, q_u1 (mJ X) c f, mR X, mS X)
/-- one more cell, of kind t, with n places, all 0 -/
def q_nw (X : Mm) (t n : Nat) : Mm := (mN X + 1, q_u1 (mT X) (mN X + 1) t, q_u1 (mL X) (mN X + 1) n, q_u1 (mI X) (mN X + 1) (fun _ => 0), q_u1 (mJ X) (mN X + 1) (fun _ => 0), q_u1 (mR X) (mN X + 1) (fun _ => 0), mS X + n)
theorem q_u1_s {α : Type} (f : Nat → α) (k : Nat) (v : α) : q_u1 f k v k = v := by simp [q_u1]
theorem q_u1_n {α : Type} (f : Nat → α) {k j : Nat} (v : α) (h : j ≠ k) : q_u1 f k v j = f j := by simp [q_u1, h]
/-- what a cell holds -/
abbrev q_Cs : Type := ClassId × ClassId × ClassId × ClassId
def q_rf (P r : Nat) : Option Nat := if r = 0 then none else some (P + r)
def q_fc (t k : Nat) : Nat := (q_ft.getD t []).getD k 0
def q_nf (t : Nat) : Nat := (q_ft.getD t []).length
def q_fv (P : Nat) (fI : Nat → Int32) (fJ : Nat → Int64) (fR : Nat → Nat) (t k : Nat) : Value := if q_fc t k = 0 then .int (fI k) else if q_fc t k = 1 then .long (fJ k) else va_rf (q_rf P (fR k))
def q_ce (P : Nat) (cs : q_Cs) (t n : Nat) (fI : Nat → Int32) (fJ : Nat → Int64) (fR : Nat → Nat) : va_E :=
  if t = 14 then .inl (cs.1, n, .inl fI) else if t = 15 then .inl (cs.2.1, n, .inr (.inl fJ)) else if t = 16 then .inl (cs.2.2.1, n, .inl fI)
  else if t = 17 then .inl (cs.2.2.2, n, .inr (.inr (.inr (.inr (fun k => q_rf P (fR k)))))) else .inr (t, (List.range (q_nf t)).map (q_fv P fI fJ fR t))
def q_cell (P : Nat) (cs : q_Cs) (X : Mm) (c : Nat) : va_E := q_ce P cs (mT X c) (mL X c) (mI X c) (mJ X c) (mR X c)
def q_ws (P : Nat) (cs : q_Cs) (X : Mm) : va_W := (List.range (mN X)).map fun i => (P + (i + 1), q_cell P cs X (i + 1))
def q_tys (cs : q_Cs) : List (ClassId × FieldType) := [(cs.1, .int), (cs.2.1, .long), (cs.2.2.1, .byte), (cs.2.2.2, .object "RecordClaims$State")]
def Wd (P : Nat) (D : va_G) (cs : q_Cs) (X : Mm) (H : Heap) : Prop := va_P D q_cl (q_ws P cs X) H ∧ ∀ c, mT X c ≠ 99 → 1 ≤ c ∧ c ≤ mN X
theorem q_ws_at {P : Nat} {cs : q_Cs} {X : Mm} {c : Nat} (h1 : 1 ≤ c) (h2 : c ≤ mN X) : (q_ws P cs X)[c - 1]? = some (P + c, q_cell P cs X c) := by
  have h3 : c - 1 < mN X := by omega
  have h4 : c - 1 + 1 = c := by omega
  simp [q_ws, h3, h4]
theorem q_ws_ok {P : Nat} {D : va_G} {cs : q_Cs} {X : Mm} {H : Heap} (hW : Wd P D cs X H) {c t : Nat} (h : mT X c = t) (ht : t < 99) : (q_ws P cs X)[c - 1]? = some (P + c, q_cell P cs X c) := by
  obtain ⟨a, b⟩ := hW.2 c (by omega)
  exact q_ws_at a b
theorem q_ws_D (P : Nat) (cs : q_Cs) (X : Mm) : va_D (fun q => P < q) (q_ws P cs X) := by
  refine ⟨fun i j p q hi hj hpq => ?_, fun k q hk => ?_⟩
  · simp only [q_ws, List.getElem?_map, Option.map_eq_some_iff] at hi hj
    obtain ⟨a, ha, rfl⟩ := hi
    obtain ⟨b, hb, rfl⟩ := hj
    have ea := (List.getElem?_eq_some_iff.mp ha).2
    have eb := (List.getElem?_eq_some_iff.mp hb).2
    simp at ea eb hpq
    omega
  · simp only [q_ws, List.getElem?_map, Option.map_eq_some_iff] at hk
    obtain ⟨a, ha, rfl⟩ := hk
    show P < P + (a + 1)
    omega
/-- a cell is written, the others stay -/
theorem q_ws_set {P : Nat} {cs : q_Cs} {X X' : Mm} {c : Nat} {e : va_E} (h1 : 1 ≤ c) (hn : mN X' = mN X) (hc : q_cell P cs X' c = e) (ho : ∀ d, d ≠ c → q_cell P cs X' d = q_cell P cs X d) : (q_ws P cs X).set (c - 1) (P + c, e) = q_ws P cs X' := by
  apply List.ext_getElem?
  intro j
  rw [List.getElem?_set]
  by_cases hj : c - 1 = j
  · subst hj
    rw [if_pos rfl]
    have h4 : c - 1 + 1 = c := by omega
    by_cases hl : c - 1 < mN X
    · simp [q_ws, hl, hn, h4, hc]
    · simp [q_ws, hl, hn]
  · rw [if_neg hj]
    by_cases hl : j < mN X
    · have : j + 1 ≠ c := by omega
      simp [q_ws, hl, hn, ho _ this]
    · simp [q_ws, hl, hn]
theorem Wd.put {P : Nat} {D : va_G} {cs : q_Cs} {X X' : Mm} {H H1 : Heap} {c t : Nat} {e : va_E} (hW : Wd P D cs X H) (hT : mT X c = t) (ht : t < 99) (hn : mN X' = mN X) (hT' : mT X' = mT X) (hc : q_cell P cs X' c = e) (ho : ∀ d, d ≠ c → q_cell P cs X' d = q_cell P cs X d)
    (hP : va_P D q_cl ((q_ws P cs X).set (c - 1) (P + c, e)) H1) : Wd P D cs X' H1 := by
  obtain ⟨a, b⟩ := hW.2 c (by omega)
  refine ⟨by rw [← q_ws_set a hn hc ho]; exact hP, fun d hd => ?_⟩
  rw [hn]
  rw [hT'] at hd
  exact hW.2 d hd
/-- the keywords' String, and what else is given of the start -/
def q_kw : String := "holder paper has trade within money gift rights turn into for at worth until plus cash ex record pay choose days "
def q_kb : List Int32 := [104, 111, 108, 100, 101, 114, 32, 112, 97, 112, 101, 114, 32, 104, 97, 115, 32, 116, 114, 97, 100, 101, 32, 119, 105, 116, 104, 105, 110, 32, 109, 111, 110, 101, 121, 32, 103, 105, 102, 116, 32, 114, 105, 103, 104, 116, 115, 32, 116, 117, 114, 110, 32, 105, 110, 116, 111, 32, 102, 111, 114, 32, 97, 116, 32, 119, 111, 114, 116, 104, 32, 117, 110, 116, 105, 108, 32, 112, 108, 117, 115, 32, 99, 97, 115, 104, 32, 101, 120, 32, 114, 101, 99, 111, 114, 100, 32, 112, 97, 121, 32, 99, 104, 111, 111, 115, 101, 32, 100, 97, 121, 115, 32]
def q_Xs (P : Nat) (U : State) : Prop := (∃ aK aV : Nat → Nat, vk_S 1 [q_kb.length] [q_kb] aK aV (fun q => P < q) U U.heap ∧ vk_R "RecordClaims$Tape" 68 q_kw (aK 0) U) ∧ va_Z "java/lang/String" "COMPACT_STRINGS" "Z" (.int 1) (fun q => P < q) U U.heap ∧ va_AO "RecordClaims$State" U ∧
  (∀ (a : String) (i : Nat) (y : MethodName) (h : String), Cond.methodLinkNest a i y h ∈ lw_tbl → va_Nw (.methodLinkNest a i y h) U) ∧ va_Zq "jdk/internal/util/Preconditions" "SIOOBE_FORMATTER" "Ljava/util/function/BiFunction;" (fun q => P < q) U U.heap
theorem q_Xs.warm {P : Nat} {s U : State} (hW : s.WarmedH U.vm) (hk : ∀ a : Nat, a < s.heap.size → ¬ P < a → U.heap[a]? = s.heap[a]?) (h : q_Xs P s) : q_Xs P U := by
  obtain ⟨⟨aK, aV, h1, h2⟩, h3, h4, h5, h6⟩ := h
  exact ⟨⟨aK, aV, (h1.kept hk).moved hW.alike, h2.warm hW⟩, (h3.kept hk).moved hW.alike, h4.moved hW.alike, fun a i y h hm => (h5 a i y h hm).warmM hW, (h6.kept hk).moved hW.alike⟩
theorem q_Xs.same {P : Nat} {s U : State} (hv : U.vm = s.vm) (hh : U.heap = s.heap) (h : q_Xs P s) : q_Xs P U := by
  obtain ⟨⟨aK, aV, h1, h2⟩, h3, h4, h5, h6⟩ := h
  have ha : s.vm.Alike U.vm := by rw [hv]; exact Vm.Alike.refl _
  rw [q_Xs, hh]
  exact ⟨⟨aK, aV, h1.moved ha, h2.same hv⟩, h3.moved ha, h4.moved ha, fun a i y h hm => (h5 a i y h hm).same rfl hv.symm, h6.moved ha⟩
