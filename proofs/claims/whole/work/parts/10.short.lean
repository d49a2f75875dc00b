/-! the rows in the forms that my program writes -/
section
variable {E : q_E} {cc : ByteArray} {own : String} {mL' : Nat} {ret : Option FieldType} {R0 : Room} {X0 : Mm} {α : Type} {Qf : α → Mm → State → Prop} {k n pc : Nat} {lv : List (Nat × Value)} {X : Mm} {t : Option (α × Mm)}
theorem q_iincN (C : Cx E cc own mL' ret R0 X0) {st : List Value} {i : Nat} {z : Int} {x : Int32} (w : Int32) {f : Int32 → Option (α × Mm)} (j : Nat) (lv' : Int32 → List (Nat × Value)) (hd : decode cc pc = .ok (.iinc i z, 3)) (hw : Int32.ofInt z = w) (hj : lv[j]? = some (i, .int x)) (hn : i < mL') (hl : ∀ v : Int32, (i, Value.int v) :: lv.filter (fun q => !(q.1 == i) && !(q.1 + 1 == i && q.2.category == 2)) = lv' v) (g : ∀ v : Int32, Sm E Qf k n (pc + 3) (lv' v) st X (f v)) : Sm E Qf k n pc lv st X (nm (x + w) f) := by
  subst hw
  exact q_iinc C j (lv' (x + Int32.ofInt z)) hd hj rfl hn (hl _) (g _)
variable {y : MethodName} {cy : ByteArray} {mLy : Nat} {rety : Option FieldType} {fr lo nA tg idx r : Nat} {As : Nat → List Value} {stk : List Value}
theorem q_cVI (C : Cx E cc own mL' ret R0 X0) (st : List Value) {f : Mm → Option (Int32 × Mm)} {kf : Int32 → Mm → Option (α × Mm)} (M : q_Ct y cy mLy rety fr lo 0 0 q_eI (fun P => .ref (P + r) :: As P) f) (L : q_LV own idx y cy mLy rety nA tg) (hst : stk = (As (q_P E)).reverse ++ .ref (q_P E + r) :: st) (hA : ∀ P, (As P).length = nA)
    (hR : fr + 1 ≤ R0.frames ∧ 8 + (mLy + 11) + lo ≤ R0.locals) (hR2 : k + 0 ≤ R0.cells ∧ n + 0 ≤ R0.slots) (hcat : (st.map fun v => v.category).sum ≤ 8) (hd : decode cc pc = .ok (.invokevirtual idx, 3)) (h1 : mT X r = tg) (g : ∀ (v : Int32) (X' : Mm), Sm E Qf k n (pc + 3) lv (.int v :: st) X' (kf v X')) : Sm E Qf k n pc lv stk X (bd (f X) kf) := by
  have h : Sm E Qf k n pc lv stk X (if mT X r = tg then bd (f X) kf else none) := q_callV C M L hst hA hR hR2 hcat hd g
  rwa [if_pos h1] at h
theorem q_cVL (C : Cx E cc own mL' ret R0 X0) (st : List Value) {f : Mm → Option (Int64 × Mm)} {kf : Int64 → Mm → Option (α × Mm)} (M : q_Ct y cy mLy rety fr lo 0 0 q_eL (fun P => .ref (P + r) :: As P) f) (L : q_LV own idx y cy mLy rety nA tg) (hst : stk = (As (q_P E)).reverse ++ .ref (q_P E + r) :: st) (hA : ∀ P, (As P).length = nA)
    (hR : fr + 1 ≤ R0.frames ∧ 8 + (mLy + 11) + lo ≤ R0.locals) (hR2 : k + 0 ≤ R0.cells ∧ n + 0 ≤ R0.slots) (hcat : (st.map fun v => v.category).sum ≤ 8) (hd : decode cc pc = .ok (.invokevirtual idx, 3)) (h1 : mT X r = tg) (g : ∀ (v : Int64) (X' : Mm), Sm E Qf k n (pc + 3) lv (.long v :: st) X' (kf v X')) : Sm E Qf k n pc lv stk X (bd (f X) kf) := by
  have h : Sm E Qf k n pc lv stk X (if mT X r = tg then bd (f X) kf else none) := q_callV C M L hst hA hR hR2 hcat hd g
  rwa [if_pos h1] at h
theorem q_cVR (C : Cx E cc own mL' ret R0 X0) (st : List Value) {f : Mm → Option (Nat × Mm)} {kf : Nat → Mm → Option (α × Mm)} (M : q_Ct y cy mLy rety fr lo 0 0 q_eR (fun P => .ref (P + r) :: As P) f) (L : q_LV own idx y cy mLy rety nA tg) (hst : stk = (As (q_P E)).reverse ++ .ref (q_P E + r) :: st) (hA : ∀ P, (As P).length = nA)
    (hR : fr + 1 ≤ R0.frames ∧ 8 + (mLy + 11) + lo ≤ R0.locals) (hR2 : k + 0 ≤ R0.cells ∧ n + 0 ≤ R0.slots) (hcat : (st.map fun v => v.category).sum ≤ 8) (hd : decode cc pc = .ok (.invokevirtual idx, 3)) (h1 : mT X r = tg) (g : ∀ (v : Nat) (X' : Mm), Sm E Qf k n (pc + 3) lv (.ref (q_P E + v) :: st) X' (kf v X')) : Sm E Qf k n pc lv stk X (bd (f X) kf) := by
  have h : Sm E Qf k n pc lv stk X (if mT X r = tg then bd (f X) kf else none) := q_callV C M L hst hA hR hR2 hcat hd g
  rwa [if_pos h1] at h
theorem q_cVV (C : Cx E cc own mL' ret R0 X0) (st : List Value) {f : Mm → Option (Unit × Mm)} {kf : Unit → Mm → Option (α × Mm)} (M : q_Ct y cy mLy rety fr lo 0 0 q_eV (fun P => .ref (P + r) :: As P) f) (L : q_LV own idx y cy mLy rety nA tg) (hst : stk = (As (q_P E)).reverse ++ .ref (q_P E + r) :: st) (hA : ∀ P, (As P).length = nA)
    (hR : fr + 1 ≤ R0.frames ∧ 8 + (mLy + 11) + lo ≤ R0.locals) (hR2 : k + 0 ≤ R0.cells ∧ n + 0 ≤ R0.slots) (hcat : (st.map fun v => v.category).sum ≤ 8) (hd : decode cc pc = .ok (.invokevirtual idx, 3)) (h1 : mT X r = tg) (g : ∀ (v : Unit) (X' : Mm), Sm E Qf k n (pc + 3) lv st X' (kf v X')) : Sm E Qf k n pc lv stk X (bd (f X) kf) := by
  have h : Sm E Qf k n pc lv stk X (if mT X r = tg then bd (f X) kf else none) := q_callV C M L hst hA hR hR2 hcat hd g
  rwa [if_pos h1] at h
theorem q_cSI (C : Cx E cc own mL' ret R0 X0) (st : List Value) {f : Mm → Option (Int32 × Mm)} {kf : Int32 → Mm → Option (α × Mm)} (M : q_Ct y cy mLy rety fr lo 0 0 q_eI As f) (L : q_LS own idx y cy mLy rety nA) (hst : stk = (As (q_P E)).reverse ++ st) (hA : ∀ P, (As P).length = nA)
    (hR : fr + 1 ≤ R0.frames ∧ 8 + (mLy + 11) + lo ≤ R0.locals) (hR2 : k + 0 ≤ R0.cells ∧ n + 0 ≤ R0.slots) (hcat : (st.map fun v => v.category).sum ≤ 8) (hd : decode cc pc = .ok (.invokestatic idx, 3)) (g : ∀ (v : Int32) (X' : Mm), Sm E Qf k n (pc + 3) lv (.int v :: st) X' (kf v X')) : Sm E Qf k n pc lv stk X (bd (f X) kf) := q_callS C M L hst hA hR hR2 hcat hd g
theorem q_cSL (C : Cx E cc own mL' ret R0 X0) (st : List Value) {f : Mm → Option (Int64 × Mm)} {kf : Int64 → Mm → Option (α × Mm)} (M : q_Ct y cy mLy rety fr lo 0 0 q_eL As f) (L : q_LS own idx y cy mLy rety nA) (hst : stk = (As (q_P E)).reverse ++ st) (hA : ∀ P, (As P).length = nA)
    (hR : fr + 1 ≤ R0.frames ∧ 8 + (mLy + 11) + lo ≤ R0.locals) (hR2 : k + 0 ≤ R0.cells ∧ n + 0 ≤ R0.slots) (hcat : (st.map fun v => v.category).sum ≤ 8) (hd : decode cc pc = .ok (.invokestatic idx, 3)) (g : ∀ (v : Int64) (X' : Mm), Sm E Qf k n (pc + 3) lv (.long v :: st) X' (kf v X')) : Sm E Qf k n pc lv stk X (bd (f X) kf) := q_callS C M L hst hA hR hR2 hcat hd g
theorem q_cNI (C : Cx E cc own mL' ret R0 X0) (st : List Value) {host : String} {f : Mm → Option (Int32 × Mm)} {kf : Int32 → Mm → Option (α × Mm)} (M : q_Ct y cy mLy rety fr lo 0 0 q_eI As f) (L : q_LSN own idx y host cy mLy rety nA) (hst : stk = (As (q_P E)).reverse ++ st) (hA : ∀ P, (As P).length = nA)
    (hR : fr + 1 ≤ R0.frames ∧ 8 + (mLy + 11) + lo ≤ R0.locals) (hR2 : k + 0 ≤ R0.cells ∧ n + 0 ≤ R0.slots) (hcat : (st.map fun v => v.category).sum ≤ 8) (hd : decode cc pc = .ok (.invokestatic idx, 3)) (g : ∀ (v : Int32) (X' : Mm), Sm E Qf k n (pc + 3) lv (.int v :: st) X' (kf v X')) : Sm E Qf k n pc lv stk X (bd (f X) kf) := q_callSN C M L hst hA hR hR2 hcat hd g
end
/-! the same rows, their checks given -/
abbrev q_b (X : Mm) (r : Nat) (i : Int32) : Prop := 0 ≤ i.toInt ∧ i.toInt < (mL X r : Int)
section
variable {E : q_E} {cc : ByteArray} {own : String} {mL' : Nat} {ret : Option FieldType} {R0 : Room} {X0 : Mm} {α : Type} {Qf : α → Mm → State → Prop} {k n pc : Nat} {lv : List (Nat × Value)} {st : List Value} {X : Mm} {t : Option (α × Mm)}
theorem p_getI (C : Cx E cc own mL' ret R0 X0) {i r tg kf : Nat} (F : q_Fg own i tg kf) (hf : q_fc tg kf = 0) (hd : decode cc pc = .ok (.getfield i, 3)) (h1 : mT X r = tg) (g : Sm E Qf k n (pc + 3) lv (.int (mI X r kf) :: st) X t) : Sm E Qf k n pc lv (.ref (q_P E + r) :: st) X t := by
  have h := q_getI C F hf hd g
  rwa [if_pos h1] at h
theorem p_getJ (C : Cx E cc own mL' ret R0 X0) {i r tg kf : Nat} (F : q_Fg own i tg kf) (hf : q_fc tg kf = 1) (hd : decode cc pc = .ok (.getfield i, 3)) (h1 : mT X r = tg) (g : Sm E Qf k n (pc + 3) lv (.long (mJ X r kf) :: st) X t) : Sm E Qf k n pc lv (.ref (q_P E + r) :: st) X t := by
  have h := q_getJ C F hf hd g
  rwa [if_pos h1] at h
theorem p_getR (C : Cx E cc own mL' ret R0 X0) {i r tg kf : Nat} (F : q_Fg own i tg kf) (hf : q_fc tg kf = 2) (hd : decode cc pc = .ok (.getfield i, 3)) (h1 : mT X r = tg) (h2 : mR X r kf ≠ 0) (g : Sm E Qf k n (pc + 3) lv (.ref (q_P E + mR X r kf) :: st) X t) : Sm E Qf k n pc lv (.ref (q_P E + r) :: st) X t := by
  have h := q_getR C F hf hd g
  rwa [if_pos ⟨h1, h2⟩] at h
theorem p_putI (C : Cx E cc own mL' ret R0 X0) {i r tg kf : Nat} {v : Int32} (F : q_Fp own i tg kf .int false) (hf : q_fc tg kf = 0) (hd : decode cc pc = .ok (.putfield i, 3)) (h1 : mT X r = tg) (g : Sm E Qf k n (pc + 3) lv st (sI X r kf v) t) : Sm E Qf k n pc lv (.int v :: .ref (q_P E + r) :: st) X t := by
  have h := q_putI C F hf hd g
  rwa [if_pos h1] at h
theorem p_putJ (C : Cx E cc own mL' ret R0 X0) {i r tg kf : Nat} {v : Int64} (F : q_Fp own i tg kf .long false) (hf : q_fc tg kf = 1) (hd : decode cc pc = .ok (.putfield i, 3)) (h1 : mT X r = tg) (g : Sm E Qf k n (pc + 3) lv st (sJ X r kf v) t) : Sm E Qf k n pc lv (.long v :: .ref (q_P E + r) :: st) X t := by
  have h := q_putJ C F hf hd g
  rwa [if_pos h1] at h
theorem p_putR (C : Cx E cc own mL' ret R0 X0) {i r v tg kf : Nat} {ty : FieldType} (F : q_Fp own i tg kf ty false) (hnar : ∀ a, narrow ty (.ref a) = .ref a) (hfit : ∀ a, fits ty (.ref a) = true) (hf : q_fc tg kf = 2) (hd : decode cc pc = .ok (.putfield i, 3)) (h1 : mT X r = tg) (h2 : v ≠ 0) (g : Sm E Qf k n (pc + 3) lv st (sR X r kf v) t) : Sm E Qf k n pc lv (.ref (q_P E + v) :: .ref (q_P E + r) :: st) X t := by
  have h := q_putR C F hnar hfit hf hd g
  rwa [if_pos ⟨h1, h2⟩] at h
theorem p_putF (C : Cx E cc own mL' ret R0 X0) {i r v tg kf : Nat} {ty : FieldType} (F : q_Fp own i tg kf ty true) (hin2 : q_mn E = "<init>") (hnar : ∀ a, narrow ty (.ref a) = .ref a) (hfit : ∀ a, fits ty (.ref a) = true) (hf : q_fc tg kf = 2) (hd : decode cc pc = .ok (.putfield i, 3)) (h1 : mT X r = tg) (h2 : v ≠ 0) (g : Sm E Qf k n (pc + 3) lv st (sR X r kf v) t) : Sm E Qf k n pc lv (.ref (q_P E + v) :: .ref (q_P E + r) :: st) X t := by
  have h := q_putF C F hin2 hnar hfit hf hd g
  rwa [if_pos ⟨h1, h2⟩] at h
theorem p_iald (C : Cx E cc own mL' ret R0 X0) {r : Nat} {i : Int32} (hd : decode cc pc = .ok (.iaload, 1)) (h1 : mT X r = 14) (h2 : q_b X r i) (g : Sm E Qf k n (pc + 1) lv (.int (mI X r i.toNatClampNeg) :: st) X t) : Sm E Qf k n pc lv (.int i :: .ref (q_P E + r) :: st) X t := by
  have h := q_iald C hd g
  rwa [if_pos ⟨h1, h2⟩] at h
theorem p_lald (C : Cx E cc own mL' ret R0 X0) {r : Nat} {i : Int32} (hd : decode cc pc = .ok (.laload, 1)) (h1 : mT X r = 15) (h2 : q_b X r i) (g : Sm E Qf k n (pc + 1) lv (.long (mJ X r i.toNatClampNeg) :: st) X t) : Sm E Qf k n pc lv (.int i :: .ref (q_P E + r) :: st) X t := by
  have h := q_lald C hd g
  rwa [if_pos ⟨h1, h2⟩] at h
theorem p_bald (C : Cx E cc own mL' ret R0 X0) {r : Nat} {i : Int32} (hd : decode cc pc = .ok (.baload, 1)) (h1 : mT X r = 16) (h2 : q_b X r i) (g : Sm E Qf k n (pc + 1) lv (.int (mI X r i.toNatClampNeg) :: st) X t) : Sm E Qf k n pc lv (.int i :: .ref (q_P E + r) :: st) X t := by
  have h := q_bald C hd g
  rwa [if_pos ⟨h1, h2⟩] at h
theorem p_aald (C : Cx E cc own mL' ret R0 X0) {r : Nat} {i : Int32} (hd : decode cc pc = .ok (.aaload, 1)) (h1 : mT X r = 17) (h2 : q_b X r i) (h3 : mR X r i.toNatClampNeg ≠ 0) (g : Sm E Qf k n (pc + 1) lv (.ref (q_P E + mR X r i.toNatClampNeg) :: st) X t) : Sm E Qf k n pc lv (.int i :: .ref (q_P E + r) :: st) X t := by
  have h := q_aald C hd g
  rwa [if_pos ⟨⟨h1, h2⟩, h3⟩] at h
theorem p_alen (C : Cx E cc own mL' ret R0 X0) {r : Nat} (hd : decode cc pc = .ok (.arraylength, 1)) (h1 : mT X r = 14) (g : Sm E Qf k n (pc + 1) lv (.int (Int32.ofNat (mL X r)) :: st) X t) : Sm E Qf k n pc lv (.ref (q_P E + r) :: st) X t := by
  have h := q_alen C hd g
  rwa [if_pos h1] at h
theorem p_iast (C : Cx E cc own mL' ret R0 X0) {r : Nat} {i x : Int32} (hd : decode cc pc = .ok (.iastore, 1)) (h1 : mT X r = 14) (h2 : q_b X r i) (g : Sm E Qf k n (pc + 1) lv st (sI X r i.toNatClampNeg x) t) : Sm E Qf k n pc lv (.int x :: .int i :: .ref (q_P E + r) :: st) X t := by
  have h := q_iast C hd g
  rwa [if_pos ⟨h1, h2⟩] at h
theorem p_last (C : Cx E cc own mL' ret R0 X0) {r : Nat} {i : Int32} {x : Int64} (hd : decode cc pc = .ok (.lastore, 1)) (h1 : mT X r = 15) (h2 : q_b X r i) (g : Sm E Qf k n (pc + 1) lv st (sJ X r i.toNatClampNeg x) t) : Sm E Qf k n pc lv (.long x :: .int i :: .ref (q_P E + r) :: st) X t := by
  have h := q_last C hd g
  rwa [if_pos ⟨h1, h2⟩] at h
theorem p_bast (C : Cx E cc own mL' ret R0 X0) {r : Nat} {i x : Int32} (hd : decode cc pc = .ok (.bastore, 1)) (h1 : mT X r = 16) (h2 : q_b X r i) (g : Sm E Qf k n (pc + 1) lv st (sI X r i.toNatClampNeg x.toInt8.toInt32) t) : Sm E Qf k n pc lv (.int x :: .int i :: .ref (q_P E + r) :: st) X t := by
  have h := q_bast C hd g
  rwa [if_pos ⟨h1, h2⟩] at h
theorem p_aast (C : Cx E cc own mL' ret R0 X0) {r v : Nat} {i : Int32} (hd : decode cc pc = .ok (.aastore, 1)) (h1 : mT X r = 17) (h2 : q_b X r i) (h3 : mT X v = 8) (g : Sm E Qf k n (pc + 1) lv st (sR X r i.toNatClampNeg v) t) : Sm E Qf k n pc lv (.ref (q_P E + v) :: .int i :: .ref (q_P E + r) :: st) X t := by
  have h := q_aast C hd g
  rwa [if_pos ⟨⟨h1, h2⟩, h3⟩] at h
theorem p_cpI (C : Cx E cc own mL' ret R0 X0) {idx a b : Nat} {sp dp z : Int32} (hlk : Cond.methodLink own idx arraycopyName ∈ q_tbl) (hnat : Cond.native arraycopyName ∈ q_tbl) (hst : Cond.static arraycopyName ∈ q_tbl) (hin : Cond.initialized "java/lang/System" ∈ q_tbl) (hR : 1 ≤ R0.frames ∧ (st.map fun v => v.category).sum + 18 ≤ R0.locals) (hd : decode cc pc = .ok (.invokestatic idx, 3)) (h1 : q_cpok X a b 14 sp dp z)
    (g : Sm E Qf k n (pc + 3) lv st (wI X b (va_cpy (mI X a) (mI X b) sp.toNatClampNeg dp.toNatClampNeg z.toNatClampNeg)) t) : Sm E Qf k n pc lv (.int z :: .int dp :: .ref (q_P E + b) :: .int sp :: .ref (q_P E + a) :: st) X t := by
  have h := q_cpI C hlk hnat hst hin hR hd g
  rwa [if_pos h1] at h
theorem p_cpJ (C : Cx E cc own mL' ret R0 X0) {idx a b : Nat} {sp dp z : Int32} (hlk : Cond.methodLink own idx arraycopyName ∈ q_tbl) (hnat : Cond.native arraycopyName ∈ q_tbl) (hst : Cond.static arraycopyName ∈ q_tbl) (hin : Cond.initialized "java/lang/System" ∈ q_tbl) (hR : 1 ≤ R0.frames ∧ (st.map fun v => v.category).sum + 18 ≤ R0.locals) (hd : decode cc pc = .ok (.invokestatic idx, 3)) (h1 : q_cpok X a b 15 sp dp z)
    (g : Sm E Qf k n (pc + 3) lv st (wJ X b (va_cpy (mJ X a) (mJ X b) sp.toNatClampNeg dp.toNatClampNeg z.toNatClampNeg)) t) : Sm E Qf k n pc lv (.int z :: .int dp :: .ref (q_P E + b) :: .int sp :: .ref (q_P E + a) :: st) X t := by
  have h := q_cpJ C hlk hnat hst hin hR hd g
  rwa [if_pos h1] at h
end
theorem q_lkout {ps : List (Int × Int)} {d x off : Int} (h : Op.lookupswitch.offset ps d x = off) : Op.lookupswitch.offset ps d x = off := h
def RJ9 : String := "java/lang/Math"
section
variable {E : q_E} {cc : ByteArray} {own : String} {mL' : Nat} {ret : Option FieldType} {R0 : Room} {X0 : Mm} {α : Type} {Qf : α → Mm → State → Prop} {k n pc : Nat} {lv : List (Nat × Value)} {st : List Value} {X : Mm} {t : Option (α × Mm)}
def q_LM (own : String) (idx : Nat) (y : MethodName) (cy : ByteArray) (mLy : Nat) (ty : FieldType) : Prop := Cond.methodLink own idx y ∈ q_tbl ∧ Cond.static y ∈ q_tbl ∧ Cond.initialized "java/lang/Math" ∈ q_tbl ∧ Cond.code y cy mLy (some ty) ∈ q_tbl
theorem q_minL (C : Cx E cc own mL' ret R0 X0) {idx : Nat} {x y : Int64} (L : q_LM own idx Lib.MathLoose.min_long.x Lib.MathLoose.min_long.code 4 .long) (hR : 1 ≤ R0.frames ∧ (st.map fun v => v.category).sum + 15 ≤ R0.locals ∧ k ≤ R0.cells ∧ n ≤ R0.slots) (hd : decode cc pc = .ok (.invokestatic idx, 3)) (g : Sm E Qf k n (pc + 3) lv (.long (if y < x then y else x) :: st) X t) : Sm E Qf k n pc lv (.long y :: .long x :: st) X t := by
  obtain ⟨p, l, e, R, s, m, args, below, meth, c, nL, P, D, cs, n0, s0⟩ := E
  obtain ⟨⟨hx, hb, hml, hown, hts⟩, hlk, hK, hz0, hXs, hnl, hrt, rfl, h0, h1⟩ := C
  intro r1 hr hn hs H locs ls hW hS hl
  exact va_mmin_long hx hb (hml.trans hl.1.symm) hown (hts _ L.1) (hts _ L.2.1) (hts _ L.2.2.1) (hts _ L.2.2.2) hR.1 hR.2.1 hR.2.2.1 hR.2.2.2 hd (g r1 hr hn hs H locs ls hW hS hl)
theorem q_maxL (C : Cx E cc own mL' ret R0 X0) {idx : Nat} {x y : Int64} (L : q_LM own idx Lib.MathLoose.max_long.x Lib.MathLoose.max_long.code 4 .long) (hR : 1 ≤ R0.frames ∧ (st.map fun v => v.category).sum + 15 ≤ R0.locals ∧ k ≤ R0.cells ∧ n ≤ R0.slots) (hd : decode cc pc = .ok (.invokestatic idx, 3)) (g : Sm E Qf k n (pc + 3) lv (.long (if y < x then x else y) :: st) X t) : Sm E Qf k n pc lv (.long y :: .long x :: st) X t := by
  obtain ⟨p, l, e, R, s, m, args, below, meth, c, nL, P, D, cs, n0, s0⟩ := E
  obtain ⟨⟨hx, hb, hml, hown, hts⟩, hlk, hK, hz0, hXs, hnl, hrt, rfl, h0, h1⟩ := C
  intro r1 hr hn hs H locs ls hW hS hl
  exact va_mmax_long hx hb (hml.trans hl.1.symm) hown (hts _ L.1) (hts _ L.2.1) (hts _ L.2.2.1) (hts _ L.2.2.2) hR.1 hR.2.1 hR.2.2.1 hR.2.2.2 hd (g r1 hr hn hs H locs ls hW hS hl)
theorem q_absL (C : Cx E cc own mL' ret R0 X0) {idx : Nat} {x : Int64} (L : q_LM own idx Lib.MathLoose.abs_long.x Lib.MathLoose.abs_long.code 2 .long) (hR : 1 ≤ R0.frames ∧ (st.map fun v => v.category).sum + 15 ≤ R0.locals ∧ k ≤ R0.cells ∧ n ≤ R0.slots) (hd : decode cc pc = .ok (.invokestatic idx, 3)) (g : Sm E Qf k n (pc + 3) lv (.long (if 0 < x then x else -x) :: st) X t) : Sm E Qf k n pc lv (.long x :: st) X t := by
  obtain ⟨p, l, e, R, s, m, args, below, meth, c, nL, P, D, cs, n0, s0⟩ := E
  obtain ⟨⟨hx, hb, hml, hown, hts⟩, hlk, hK, hz0, hXs, hnl, hrt, rfl, h0, h1⟩ := C
  intro r1 hr hn hs H locs ls hW hS hl
  exact va_mabs_long hx hb (hml.trans hl.1.symm) hown (hts _ L.1) (hts _ L.2.1) (hts _ L.2.2.1) (hts _ L.2.2.2) hR.1 (by omega) hR.2.2.1 hR.2.2.2 hd (g r1 hr hn hs H locs ls hW hS hl)
theorem q_minI (C : Cx E cc own mL' ret R0 X0) {idx : Nat} {x y : Int32} (L : q_LM own idx Lib.Math.min.name Lib.Math.min.code 2 .int) (hR : 1 ≤ R0.frames ∧ (st.map fun v => v.category).sum + 15 ≤ R0.locals ∧ k ≤ R0.cells ∧ n ≤ R0.slots) (hd : decode cc pc = .ok (.invokestatic idx, 3)) (g : Sm E Qf k n (pc + 3) lv (.int (if y < x then y else x) :: st) X t) : Sm E Qf k n pc lv (.int y :: .int x :: st) X t := by
  obtain ⟨p, l, e, R, s, m, args, below, meth, c, nL, P, D, cs, n0, s0⟩ := E
  obtain ⟨⟨hx, hb, hml, hown, hts⟩, hlk, hK, hz0, hXs, hnl, hrt, rfl, h0, h1⟩ := C
  intro r1 hr hn hs H locs ls hW hS hl
  exact va_mmin hx hb (hml.trans hl.1.symm) hown (hts _ L.1) (hts _ L.2.1) (hts _ L.2.2.1) (hts _ L.2.2.2) hR.1 (by omega) hR.2.2.1 hR.2.2.2 hd (g r1 hr hn hs H locs ls hW hS hl)
end
