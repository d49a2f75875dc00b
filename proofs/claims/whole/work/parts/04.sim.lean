/-! THE STEP BY STEP READING of a method's code beside a plain function's term -/
abbrev q_E : Type := Program × Launch × Env × Room × State × MethodId × Array Value × List Frame × Method × Code × Nat × Nat × va_G × q_Cs × Nat × Nat
def Sm {α : Type} (E : q_E) (Qf : α → Mm → State → Prop) (k n pc : Nat) (lv : List (Nat × Value)) (st : List Value) (X : Mm) (t : Option (α × Mm)) : Prop :=
  match E with
  | (p, l, e, R, s, m, args, below, meth, c, nL, P, D, cs, n0, s0) => ∀ r : α × Mm, t = some r → mN X = n0 + k → mS X = s0 + n → ∀ (H : Heap) (locs : List Loc) (ls : Array Slot), Wd P D cs X H → va_S (fun q => P < q) s.heap H locs → lv_has ls nL lv → W p l e R s m args below meth c H locs k n (Qf r.1 r.2) (F0 m pc ls st)
def Cx (E : q_E) (cc : ByteArray) (own : String) (mL : Nat) (ret : Option FieldType) (R0 : Room) (X0 : Mm) : Prop :=
  match E with
  | (p, _, _, R, s, m, args, _, meth, c, nL, P, D, cs, n0, s0) => CallFix p m c cc nL s args q_tbl own ∧ meth.locks = false ∧ va_K D q_cl (q_tys cs) s ∧ s.heap.size = P + 1 + n0 ∧ q_Xs P s ∧ nL = mL ∧ meth.sig.returnType = ret ∧ R = R0 ∧ mN X0 = n0 ∧ mS X0 = s0
def q_mn (E : q_E) : String := match E with
  | (_, _, _, _, _, _, _, _, meth, _, _, _, _, _, _, _) => meth.name
def q_P (E : q_E) : Nat := match E with
  | (_, _, _, _, _, _, _, _, _, _, _, P, _, _, _, _) => P
section
variable {E : q_E} {cc : ByteArray} {own : String} {mL : Nat} {ret : Option FieldType} {R0 : Room} {X0 : Mm} {α : Type} {Qf : α → Mm → State → Prop} {k n pc : Nat} {lv : List (Nat × Value)} {st : List Value} {X : Mm} {t : Option (α × Mm)}
theorem Sm.none : Sm E Qf k n pc lv st X Option.none := by
  obtain ⟨p, l, e, R, s, m, args, below, meth, c, nL, P, D, cs, n0, s0⟩ := E
  intro r hr
  cases hr
theorem Sm.go (C : Cx E cc own mL ret R0 X0) {pc' : Nat} {lv' : List (Nat × Value)} {st' : List Value}
    (h : ∀ (p : Program) (l : Launch) (e : Env) (R : Room) (s : State) (m : MethodId) (args : Array Value) (below : List Frame) (meth : Method) (c : Code) (H : Heap) (locs : List Loc) (Q : State → Prop) (nL : Nat) (ls : Array Slot), p.tables.exec = Jvm.exec → c.code = cc → s.vm.findClass own = some m.cls → (∀ w ∈ q_tbl, w.before args s = true) → nL = mL → lv_has ls nL lv →
      (∀ ls' : Array Slot, lv_has ls' nL lv' → W p l e R s m args below meth c H locs k n Q (F0 m pc' ls' st')) → W p l e R s m args below meth c H locs k n Q (F0 m pc ls st))
    (g : Sm E Qf k n pc' lv' st' X t) : Sm E Qf k n pc lv st X t := by
  obtain ⟨p, l, e, R, s, m, args, below, meth, c, nL, P, D, cs, n0, s0⟩ := E
  obtain ⟨⟨hx, hb, hml, hown, hts⟩, -, -, -, -, hnl, -⟩ := C
  intro r hr hn hs H locs ls hW hS hl
  exact h p l e R s m args below meth c H locs _ nL ls hx hb hown hts hnl hl (fun ls' hl' => g r hr hn hs H locs ls' hW hS hl')
theorem q_sub (C : Cx E cc own mL ret R0 X0) (lv' : List (Nat × Value)) (ks : List Nat) (hl : lv_pick lv ks = lv') (g : Sm E Qf k n pc lv' st X t) : Sm E Qf k n pc lv st X t :=
  Sm.go C (fun p l e R s m args below meth c H locs Q nL ls hx hb hown hts hnl h kk => kk ls (lv_sub h ks hl)) g
theorem q_iconst (C : Cx E cc own mL ret R0 X0) {z : Int} (v : Int32) (hd : decode cc pc = .ok (.iconst z, 1)) (hv : Int32.ofInt z = v) (g : Sm E Qf k n (pc + 1) lv (.int v :: st) X t) : Sm E Qf k n pc lv st X t :=
  Sm.go C (fun p l e R s m args below meth c H locs Q nL ls hx hb hown hts hnl h kk => lv_iconst hx hb hd hv (kk ls h)) g
theorem q_bipush (C : Cx E cc own mL ret R0 X0) {z : Int} (v : Int32) (hd : decode cc pc = .ok (.bipush z, 2)) (hv : (Int8.ofInt z).toInt32 = v) (g : Sm E Qf k n (pc + 2) lv (.int v :: st) X t) : Sm E Qf k n pc lv st X t :=
  Sm.go C (fun p l e R s m args below meth c H locs Q nL ls hx hb hown hts hnl h kk => lv_bipush hx hb hd hv (kk ls h)) g
theorem q_sipush (C : Cx E cc own mL ret R0 X0) {z : Int} (v : Int32) (hd : decode cc pc = .ok (.sipush z, 3)) (hv : (Int16.ofInt z).toInt32 = v) (g : Sm E Qf k n (pc + 3) lv (.int v :: st) X t) : Sm E Qf k n pc lv st X t :=
  Sm.go C (fun p l e R s m args below meth c H locs Q nL ls hx hb hown hts hnl h kk => lv_sipush hx hb hd hv (kk ls h)) g
theorem q_lconst (C : Cx E cc own mL ret R0 X0) {z : Fin 2} (v : Int64) (hd : decode cc pc = .ok (.lconst z, 1)) (hv : Int64.ofNat (z : Nat) = v) (g : Sm E Qf k n (pc + 1) lv (.long v :: st) X t) : Sm E Qf k n pc lv st X t :=
  Sm.go C (fun p l e R s m args below meth c H locs Q nL ls hx hb hown hts hnl h kk => lv_lconst hx hb hd hv (kk ls h)) g
theorem q_ldc (C : Cx E cc own mL ret R0 X0) {i : Nat} {v : Int32} (hd : decode cc pc = .ok (.ldc i, 2)) (hc : Cond.constant own i v ∈ q_tbl) (g : Sm E Qf k n (pc + 2) lv (.int v :: st) X t) : Sm E Qf k n pc lv st X t :=
  Sm.go C (fun p l e R s m args below meth c H locs Q nL ls hx hb hown hts hnl h kk => lv_ldc hx hb hown (hts _ hc) hd (kk ls h)) g
theorem q_ldcw (C : Cx E cc own mL ret R0 X0) {i : Nat} {v : Int32} (hd : decode cc pc = .ok (.ldc_w i, 3)) (hc : Cond.constant own i v ∈ q_tbl) (g : Sm E Qf k n (pc + 3) lv (.int v :: st) X t) : Sm E Qf k n pc lv st X t :=
  Sm.go C (fun p l e R s m args below meth c H locs Q nL ls hx hb hown hts hnl h kk => lv_ldcw hx hb hown (hts _ hc) hd (kk ls h)) g
theorem q_ldc2 (C : Cx E cc own mL ret R0 X0) {i : Nat} {v : Int64} (hd : decode cc pc = .ok (.ldc2_w i, 3)) (hc : Cond.constantLong own i v ∈ q_tbl) (g : Sm E Qf k n (pc + 3) lv (.long v :: st) X t) : Sm E Qf k n pc lv st X t :=
  Sm.go C (fun p l e R s m args below meth c H locs Q nL ls hx hb hown hts hnl h kk => lv_ldc2 hx hb hown (hts _ hc) hd (kk ls h)) g
theorem q_iload_n (C : Cx E cc own mL ret R0 X0) {f : Fin 4} {i : Nat} {x : Int32} (j : Nat) (hd : decode cc pc = .ok (.iload_n f, 1)) (hi : (f : Nat) = i) (hj : lv[j]? = some (i, .int x)) (g : Sm E Qf k n (pc + 1) lv (.int x :: st) X t) : Sm E Qf k n pc lv st X t :=
  Sm.go C (fun p l e R s m args below meth c H locs Q nL ls hx hb hown hts hnl h kk => lv_iload_n hx hb hd hi (lv_at h j hj) (kk ls h)) g
theorem q_iload (C : Cx E cc own mL ret R0 X0) {i : Nat} {x : Int32} (j : Nat) (hd : decode cc pc = .ok (.iload i, 2)) (hj : lv[j]? = some (i, .int x)) (g : Sm E Qf k n (pc + 2) lv (.int x :: st) X t) : Sm E Qf k n pc lv st X t :=
  Sm.go C (fun p l e R s m args below meth c H locs Q nL ls hx hb hown hts hnl h kk => lv_iload hx hb hd (lv_at h j hj) (kk ls h)) g
theorem q_lload_n (C : Cx E cc own mL ret R0 X0) {f : Fin 4} {i : Nat} {x : Int64} (j : Nat) (hd : decode cc pc = .ok (.lload_n f, 1)) (hi : (f : Nat) = i) (hj : lv[j]? = some (i, .long x)) (g : Sm E Qf k n (pc + 1) lv (.long x :: st) X t) : Sm E Qf k n pc lv st X t :=
  Sm.go C (fun p l e R s m args below meth c H locs Q nL ls hx hb hown hts hnl h kk => lv_lload_n hx hb hd hi (lv_at h j hj) (kk ls h)) g
theorem q_lload (C : Cx E cc own mL ret R0 X0) {i : Nat} {x : Int64} (j : Nat) (hd : decode cc pc = .ok (.lload i, 2)) (hj : lv[j]? = some (i, .long x)) (g : Sm E Qf k n (pc + 2) lv (.long x :: st) X t) : Sm E Qf k n pc lv st X t :=
  Sm.go C (fun p l e R s m args below meth c H locs Q nL ls hx hb hown hts hnl h kk => lv_lload hx hb hd (lv_at h j hj) (kk ls h)) g
theorem q_aload_n (C : Cx E cc own mL ret R0 X0) {f : Fin 4} {i : Nat} {x : Nat} (j : Nat) (hd : decode cc pc = .ok (.aload_n f, 1)) (hi : (f : Nat) = i) (hj : lv[j]? = some (i, .ref x)) (g : Sm E Qf k n (pc + 1) lv (.ref x :: st) X t) : Sm E Qf k n pc lv st X t :=
  Sm.go C (fun p l e R s m args below meth c H locs Q nL ls hx hb hown hts hnl h kk => lv_aload_n hx hb hd hi (lv_at h j hj) (kk ls h)) g
theorem q_aload (C : Cx E cc own mL ret R0 X0) {i : Nat} {x : Nat} (j : Nat) (hd : decode cc pc = .ok (.aload i, 2)) (hj : lv[j]? = some (i, .ref x)) (g : Sm E Qf k n (pc + 2) lv (.ref x :: st) X t) : Sm E Qf k n pc lv st X t :=
  Sm.go C (fun p l e R s m args below meth c H locs Q nL ls hx hb hown hts hnl h kk => lv_aload hx hb hd (lv_at h j hj) (kk ls h)) g
theorem q_iadd (C : Cx E cc own mL ret R0 X0) {x y : Int32} (hd : decode cc pc = .ok (.iadd, 1)) (g : Sm E Qf k n (pc + 1) lv (.int (x + y) :: st) X t) : Sm E Qf k n pc lv (.int y :: .int x :: st) X t :=
  Sm.go C (fun p l e R s m args below meth c H locs Q nL ls hx hb hown hts hnl h kk => lv_iadd hx hb hd (kk ls h)) g
theorem q_isub (C : Cx E cc own mL ret R0 X0) {x y : Int32} (hd : decode cc pc = .ok (.isub, 1)) (g : Sm E Qf k n (pc + 1) lv (.int (x - y) :: st) X t) : Sm E Qf k n pc lv (.int y :: .int x :: st) X t :=
  Sm.go C (fun p l e R s m args below meth c H locs Q nL ls hx hb hown hts hnl h kk => lv_isub hx hb hd (kk ls h)) g
theorem q_imul (C : Cx E cc own mL ret R0 X0) {x y : Int32} (hd : decode cc pc = .ok (.imul, 1)) (g : Sm E Qf k n (pc + 1) lv (.int (x * y) :: st) X t) : Sm E Qf k n pc lv (.int y :: .int x :: st) X t :=
  Sm.go C (fun p l e R s m args below meth c H locs Q nL ls hx hb hown hts hnl h kk => lv_imul hx hb hd (kk ls h)) g
theorem q_iand (C : Cx E cc own mL ret R0 X0) {x y : Int32} (hd : decode cc pc = .ok (.iand, 1)) (g : Sm E Qf k n (pc + 1) lv (.int (x &&& y) :: st) X t) : Sm E Qf k n pc lv (.int y :: .int x :: st) X t :=
  Sm.go C (fun p l e R s m args below meth c H locs Q nL ls hx hb hown hts hnl h kk => lv_iand hx hb hd (kk ls h)) g
theorem q_ior (C : Cx E cc own mL ret R0 X0) {x y : Int32} (hd : decode cc pc = .ok (.ior, 1)) (g : Sm E Qf k n (pc + 1) lv (.int (x ||| y) :: st) X t) : Sm E Qf k n pc lv (.int y :: .int x :: st) X t :=
  Sm.go C (fun p l e R s m args below meth c H locs Q nL ls hx hb hown hts hnl h kk => lv_ior hx hb hd (kk ls h)) g
theorem q_ishl (C : Cx E cc own mL ret R0 X0) {x y : Int32} (hd : decode cc pc = .ok (.ishl, 1)) (g : Sm E Qf k n (pc + 1) lv (.int (x <<< (y &&& 31)) :: st) X t) : Sm E Qf k n pc lv (.int y :: .int x :: st) X t :=
  Sm.go C (fun p l e R s m args below meth c H locs Q nL ls hx hb hown hts hnl h kk => lv_ishl hx hb hd (kk ls h)) g
theorem q_ishr (C : Cx E cc own mL ret R0 X0) {x y : Int32} (hd : decode cc pc = .ok (.ishr, 1)) (g : Sm E Qf k n (pc + 1) lv (.int (x >>> (y &&& 31)) :: st) X t) : Sm E Qf k n pc lv (.int y :: .int x :: st) X t :=
  Sm.go C (fun p l e R s m args below meth c H locs Q nL ls hx hb hown hts hnl h kk => lv_ishr hx hb hd (kk ls h)) g
def q_ushr (x y : Int32) : Int32 := (x.toUInt32 >>> (y.toUInt32 &&& Int32.toUInt32 31)).toInt32
theorem q_iushr (C : Cx E cc own mL ret R0 X0) {x y : Int32} (hd : decode cc pc = .ok (.iushr, 1)) (g : Sm E Qf k n (pc + 1) lv (.int (q_ushr x y) :: st) X t) : Sm E Qf k n pc lv (.int y :: .int x :: st) X t :=
  Sm.go C (fun p l e R s m args below meth c H locs Q nL ls hx hb hown hts hnl h kk => lv_iushr hx hb hd rfl (kk ls h)) g
theorem q_idiv (C : Cx E cc own mL ret R0 X0) {x y : Int32} (hd : decode cc pc = .ok (.idiv, 1)) (g : Sm E Qf k n (pc + 1) lv (.int (x / y) :: st) X t) : Sm E Qf k n pc lv (.int y :: .int x :: st) X (if y = 0 then Option.none else t) := by
  by_cases hy : y = 0
  · rw [if_pos hy]; exact Sm.none
  · rw [if_neg hy]; exact Sm.go C (fun p l e R s m args below meth c H locs Q nL ls hx hb hown hts hnl h kk => lv_idiv hx hb hd hy (kk ls h)) g
theorem q_irem (C : Cx E cc own mL ret R0 X0) {x y : Int32} (hd : decode cc pc = .ok (.irem, 1)) (g : Sm E Qf k n (pc + 1) lv (.int (x - x / y * y) :: st) X t) : Sm E Qf k n pc lv (.int y :: .int x :: st) X (if y = 0 then Option.none else t) := by
  by_cases hy : y = 0
  · rw [if_pos hy]; exact Sm.none
  · rw [if_neg hy]; exact Sm.go C (fun p l e R s m args below meth c H locs Q nL ls hx hb hown hts hnl h kk => lv_irem hx hb hd hy (kk ls h)) g
theorem q_ladd (C : Cx E cc own mL ret R0 X0) {x y : Int64} (hd : decode cc pc = .ok (.ladd, 1)) (g : Sm E Qf k n (pc + 1) lv (.long (x + y) :: st) X t) : Sm E Qf k n pc lv (.long y :: .long x :: st) X t :=
  Sm.go C (fun p l e R s m args below meth c H locs Q nL ls hx hb hown hts hnl h kk => lv_ladd hx hb hd (kk ls h)) g
theorem q_lsub (C : Cx E cc own mL ret R0 X0) {x y : Int64} (hd : decode cc pc = .ok (.lsub, 1)) (g : Sm E Qf k n (pc + 1) lv (.long (x - y) :: st) X t) : Sm E Qf k n pc lv (.long y :: .long x :: st) X t :=
  Sm.go C (fun p l e R s m args below meth c H locs Q nL ls hx hb hown hts hnl h kk => lv_lsub hx hb hd (kk ls h)) g
theorem q_lmul (C : Cx E cc own mL ret R0 X0) {x y : Int64} (hd : decode cc pc = .ok (.lmul, 1)) (g : Sm E Qf k n (pc + 1) lv (.long (x * y) :: st) X t) : Sm E Qf k n pc lv (.long y :: .long x :: st) X t :=
  Sm.go C (fun p l e R s m args below meth c H locs Q nL ls hx hb hown hts hnl h kk => lv_lmul hx hb hd (kk ls h)) g
theorem q_ldiv (C : Cx E cc own mL ret R0 X0) {x y : Int64} (hd : decode cc pc = .ok (.ldiv, 1)) (g : Sm E Qf k n (pc + 1) lv (.long (x / y) :: st) X t) : Sm E Qf k n pc lv (.long y :: .long x :: st) X (if y = 0 then Option.none else t) := by
  by_cases hy : y = 0
  · rw [if_pos hy]; exact Sm.none
  · rw [if_neg hy]; exact Sm.go C (fun p l e R s m args below meth c H locs Q nL ls hx hb hown hts hnl h kk => lv_ldiv hx hb hd hy (kk ls h)) g
theorem q_lrem (C : Cx E cc own mL ret R0 X0) {x y : Int64} (hd : decode cc pc = .ok (.lrem, 1)) (g : Sm E Qf k n (pc + 1) lv (.long (x - x / y * y) :: st) X t) : Sm E Qf k n pc lv (.long y :: .long x :: st) X (if y = 0 then Option.none else t) := by
  by_cases hy : y = 0
  · rw [if_pos hy]; exact Sm.none
  · rw [if_neg hy]; exact Sm.go C (fun p l e R s m args below meth c H locs Q nL ls hx hb hown hts hnl h kk => lv_lrem hx hb hd hy (kk ls h)) g
theorem q_lneg (C : Cx E cc own mL ret R0 X0) {x : Int64} (hd : decode cc pc = .ok (.lneg, 1)) (g : Sm E Qf k n (pc + 1) lv (.long (-x) :: st) X t) : Sm E Qf k n pc lv (.long x :: st) X t :=
  Sm.go C (fun p l e R s m args below meth c H locs Q nL ls hx hb hown hts hnl h kk => lv_lneg hx hb hd (kk ls h)) g
theorem q_lcmp (C : Cx E cc own mL ret R0 X0) {x y : Int64} (hd : decode cc pc = .ok (.lcmp, 1)) (g : Sm E Qf k n (pc + 1) lv (.int (lg_cmp x y) :: st) X t) : Sm E Qf k n pc lv (.long y :: .long x :: st) X t :=
  Sm.go C (fun p l e R s m args below meth c H locs Q nL ls hx hb hown hts hnl h kk => W.lcmp hx hb hd (kk ls h)) g
theorem q_i2l (C : Cx E cc own mL ret R0 X0) {x : Int32} (hd : decode cc pc = .ok (.i2l, 1)) (g : Sm E Qf k n (pc + 1) lv (.long x.toInt64 :: st) X t) : Sm E Qf k n pc lv (.int x :: st) X t :=
  Sm.go C (fun p l e R s m args below meth c H locs Q nL ls hx hb hown hts hnl h kk => lv_i2l hx hb hd rfl (kk ls h)) g
theorem q_l2i (C : Cx E cc own mL ret R0 X0) {x : Int64} (hd : decode cc pc = .ok (.l2i, 1)) (g : Sm E Qf k n (pc + 1) lv (.int x.toInt32 :: st) X t) : Sm E Qf k n pc lv (.long x :: st) X t :=
  Sm.go C (fun p l e R s m args below meth c H locs Q nL ls hx hb hown hts hnl h kk => lv_l2i hx hb hd rfl (kk ls h)) g
theorem q_i2b (C : Cx E cc own mL ret R0 X0) {x : Int32} (hd : decode cc pc = .ok (.i2b, 1)) (g : Sm E Qf k n (pc + 1) lv (.int x.toInt8.toInt32 :: st) X t) : Sm E Qf k n pc lv (.int x :: st) X t :=
  Sm.go C (fun p l e R s m args below meth c H locs Q nL ls hx hb hown hts hnl h kk => lv_i2b hx hb hd rfl (kk ls h)) g
theorem q_i2c (C : Cx E cc own mL ret R0 X0) {x : Int32} (hd : decode cc pc = .ok (.i2c, 1)) (g : Sm E Qf k n (pc + 1) lv (.int (x.toUInt32 % 65536).toInt32 :: st) X t) : Sm E Qf k n pc lv (.int x :: st) X t :=
  Sm.go C (fun p l e R s m args below meth c H locs Q nL ls hx hb hown hts hnl h kk => lv_i2c hx hb hd rfl (kk ls h)) g
theorem q_dup (C : Cx E cc own mL ret R0 X0) {v : Value} (hd : decode cc pc = .ok (.dup, 1)) (hv : v.category = 1) (g : Sm E Qf k n (pc + 1) lv (v :: v :: st) X t) : Sm E Qf k n pc lv (v :: st) X t :=
  Sm.go C (fun p l e R s m args below meth c H locs Q nL ls hx hb hown hts hnl h kk => lv_dup hx hb hd hv (kk ls h)) g
theorem q_dup2_11 (C : Cx E cc own mL ret R0 X0) {v w : Value} (hd : decode cc pc = .ok (.dup2, 1)) (hv : v.category = 1) (hw : w.category = 1) (g : Sm E Qf k n (pc + 1) lv (v :: w :: v :: w :: st) X t) : Sm E Qf k n pc lv (v :: w :: st) X t :=
  Sm.go C (fun p l e R s m args below meth c H locs Q nL ls hx hb hown hts hnl h kk => lv_dup2_11 hx hb hd hv hw (kk ls h)) g
theorem q_dup2_2 (C : Cx E cc own mL ret R0 X0) {v : Value} (hd : decode cc pc = .ok (.dup2, 1)) (hv : v.category = 2) (g : Sm E Qf k n (pc + 1) lv (v :: v :: st) X t) : Sm E Qf k n pc lv (v :: st) X t :=
  Sm.go C (fun p l e R s m args below meth c H locs Q nL ls hx hb hown hts hnl h kk => lv_dup2_2 hx hb hd hv (kk ls h)) g
theorem q_pop (C : Cx E cc own mL ret R0 X0) {v : Value} (hd : decode cc pc = .ok (.pop, 1)) (hv : v.category = 1) (g : Sm E Qf k n (pc + 1) lv st X t) : Sm E Qf k n pc lv (v :: st) X t :=
  Sm.go C (fun p l e R s m args below meth c H locs Q nL ls hx hb hown hts hnl h kk => lv_pop hx hb hd hv (kk ls h)) g
theorem q_goto (C : Cx E cc own mL ret R0 X0) {off : Int} (tgt : Nat) (hd : decode cc pc = .ok (.goto off, 3)) (ht : (pc : Int) + off = (tgt : Int)) (g : Sm E Qf k n tgt lv st X t) : Sm E Qf k n pc lv st X t :=
  Sm.go C (fun p l e R s m args below meth c H locs Q nL ls hx hb hown hts hnl h kk => lv_goto hx hb hd ht (kk ls h)) g
theorem q_istore_n (C : Cx E cc own mL ret R0 X0) {f : Fin 4} {i : Nat} {x : Int32} (lv' : List (Nat × Value)) (hd : decode cc pc = .ok (.istore_n f, 1)) (hi : (f : Nat) = i) (hn : i < mL) (hl : (i, Value.int x) :: lv.filter (fun q => !(q.1 == i) && !(q.1 + 1 == i && q.2.category == 2)) = lv') (g : Sm E Qf k n (pc + 1) lv' st X t) : Sm E Qf k n pc lv (.int x :: st) X t :=
  Sm.go C (fun p l e R s m args below meth c H locs Q nL ls hx hb hown hts hnl h kk => lv_istore_n hx hb hd hi h (by rw [hnl]; exact hn) hl kk) g
theorem q_istore (C : Cx E cc own mL ret R0 X0) {i : Nat} {x : Int32} (lv' : List (Nat × Value)) (hd : decode cc pc = .ok (.istore i, 2)) (hn : i < mL) (hl : (i, Value.int x) :: lv.filter (fun q => !(q.1 == i) && !(q.1 + 1 == i && q.2.category == 2)) = lv') (g : Sm E Qf k n (pc + 2) lv' st X t) : Sm E Qf k n pc lv (.int x :: st) X t :=
  Sm.go C (fun p l e R s m args below meth c H locs Q nL ls hx hb hown hts hnl h kk => lv_istore hx hb hd h (by rw [hnl]; exact hn) hl kk) g
theorem q_lstore_n (C : Cx E cc own mL ret R0 X0) {f : Fin 4} {i : Nat} {x : Int64} (lv' : List (Nat × Value)) (hd : decode cc pc = .ok (.lstore_n f, 1)) (hi : (f : Nat) = i) (hn : i + 1 < mL) (hl : (i, Value.long x) :: lv.filter (fun q => !(q.1 == i) && (!(q.1 == i + 1) && !(q.1 + 1 == i && q.2.category == 2))) = lv') (g : Sm E Qf k n (pc + 1) lv' st X t) : Sm E Qf k n pc lv (.long x :: st) X t :=
  Sm.go C (fun p l e R s m args below meth c H locs Q nL ls hx hb hown hts hnl h kk => lv_lstore_n hx hb hd hi h (by rw [hnl]; exact hn) hl kk) g
theorem q_lstore (C : Cx E cc own mL ret R0 X0) {i : Nat} {x : Int64} (lv' : List (Nat × Value)) (hd : decode cc pc = .ok (.lstore i, 2)) (hn : i + 1 < mL) (hl : (i, Value.long x) :: lv.filter (fun q => !(q.1 == i) && (!(q.1 == i + 1) && !(q.1 + 1 == i && q.2.category == 2))) = lv') (g : Sm E Qf k n (pc + 2) lv' st X t) : Sm E Qf k n pc lv (.long x :: st) X t :=
  Sm.go C (fun p l e R s m args below meth c H locs Q nL ls hx hb hown hts hnl h kk => lv_lstore hx hb hd h (by rw [hnl]; exact hn) hl kk) g
theorem q_astore_n (C : Cx E cc own mL ret R0 X0) {f : Fin 4} {i : Nat} {x : Nat} (lv' : List (Nat × Value)) (hd : decode cc pc = .ok (.astore_n f, 1)) (hi : (f : Nat) = i) (hn : i < mL) (hl : (i, Value.ref x) :: lv.filter (fun q => !(q.1 == i) && !(q.1 + 1 == i && q.2.category == 2)) = lv') (g : Sm E Qf k n (pc + 1) lv' st X t) : Sm E Qf k n pc lv (.ref x :: st) X t :=
  Sm.go C (fun p l e R s m args below meth c H locs Q nL ls hx hb hown hts hnl h kk => lv_astore_n hx hb hd hi h (by rw [hnl]; exact hn) hl kk) g
theorem q_astore (C : Cx E cc own mL ret R0 X0) {i : Nat} {x : Nat} (lv' : List (Nat × Value)) (hd : decode cc pc = .ok (.astore i, 2)) (hn : i < mL) (hl : (i, Value.ref x) :: lv.filter (fun q => !(q.1 == i) && !(q.1 + 1 == i && q.2.category == 2)) = lv') (g : Sm E Qf k n (pc + 2) lv' st X t) : Sm E Qf k n pc lv (.ref x :: st) X t :=
  Sm.go C (fun p l e R s m args below meth c H locs Q nL ls hx hb hown hts hnl h kk => lv_astore hx hb hd h (by rw [hnl]; exact hn) hl kk) g
theorem q_iinc (C : Cx E cc own mL ret R0 X0) {i : Nat} {z : Int} {x v : Int32} (j : Nat) (lv' : List (Nat × Value)) (hd : decode cc pc = .ok (.iinc i z, 3)) (hj : lv[j]? = some (i, .int x)) (hv : x + Int32.ofInt z = v) (hn : i < mL) (hl : (i, Value.int v) :: lv.filter (fun q => !(q.1 == i) && !(q.1 + 1 == i && q.2.category == 2)) = lv') (g : Sm E Qf k n (pc + 3) lv' st X t) : Sm E Qf k n pc lv st X t :=
  Sm.go C (fun p l e R s m args below meth c H locs Q nL ls hx hb hown hts hnl h kk => lv_iinc hx hb hd h hj hv (by rw [hnl]; exact hn) hl kk) g
/-- a value gets a name, in the term and on the stack -/
def nm {A B : Type} (a : A) (f : A → B) : B := f a
theorem q_nmi {x : Int32} {f : Int32 → Option (α × Mm)} (g : ∀ y : Int32, Sm E Qf k n pc lv (.int y :: st) X (f y)) : Sm E Qf k n pc lv (.int x :: st) X (nm x f) := g x
theorem q_nml {x : Int64} {f : Int64 → Option (α × Mm)} (g : ∀ y : Int64, Sm E Qf k n pc lv (.long y :: st) X (f y)) : Sm E Qf k n pc lv (.long x :: st) X (nm x f) := g x
theorem q_nmr {P x : Nat} {f : Nat → Option (α × Mm)} (g : ∀ y : Nat, Sm E Qf k n pc lv (.ref (P + y) :: st) X (f y)) : Sm E Qf k n pc lv (.ref (P + x) :: st) X (nm x f) := g x
theorem q_nmX {f : Mm → Option (α × Mm)} (g : ∀ Y : Mm, Sm E Qf k n pc lv st Y (f Y)) : Sm E Qf k n pc lv st X (nm X f) := g X
theorem q_ite {c : Prop} {inst : Decidable c} {t1 t2 : Option (α × Mm)} (g1 : c → Sm E Qf k n pc lv st X t1) (g2 : ¬ c → Sm E Qf k n pc lv st X t2) : Sm E Qf k n pc lv st X (if c then t1 else t2) := by
  by_cases h : c
  · rw [if_pos h]; exact g1 h
  · rw [if_neg h]; exact g2 h
theorem q_chk {c : Prop} {inst : Decidable c} {t1 : Option (α × Mm)} (g1 : c → Sm E Qf k n pc lv st X t1) : Sm E Qf k n pc lv st X (if c then t1 else Option.none) := q_ite g1 (fun _ => Sm.none)
theorem q_ne {x v : Int32} {i : Int} (h : ¬ x = v) (hv : v.toInt = i) : x.toInt ≠ i := fun e => h (Int32.toInt_inj.mp (e.trans hv.symm))
theorem q_icmp_eq (C : Cx E cc own mL ret R0 X0) {x y : Int32} {off : Int} (tgt : Nat) {t1 t2 : Option (α × Mm)} (hd : decode cc pc = .ok (.if_icmp .eq off, 3)) (ht : (pc : Int) + off = (tgt : Int)) (g1 : x = y → Sm E Qf k n tgt lv st X t1) (g2 : ¬ x = y → Sm E Qf k n (pc + 3) lv st X t2) : Sm E Qf k n pc lv (.int y :: .int x :: st) X (if x = y then t1 else t2) := by
  by_cases hh : x = y
  · rw [if_pos hh]
    exact Sm.go C (fun p l e R s m args below meth c H locs Q nL ls hx hb hown hts hnl h kk => lv_icmp_eq hx hb hd ht (fun _ => kk ls h) (fun hc => absurd hh hc)) (g1 hh)
  · rw [if_neg hh]
    exact Sm.go C (fun p l e R s m args below meth c H locs Q nL ls hx hb hown hts hnl h kk => lv_icmp_eq hx hb hd ht (fun hc => absurd hc hh) (fun _ => kk ls h)) (g2 hh)
theorem q_if_eq (C : Cx E cc own mL ret R0 X0) {x : Int32} {off : Int} (tgt : Nat) {t1 t2 : Option (α × Mm)} (hd : decode cc pc = .ok (.ifCond .eq off, 3)) (ht : (pc : Int) + off = (tgt : Int)) (g1 : x = 0 → Sm E Qf k n tgt lv st X t1) (g2 : ¬ x = 0 → Sm E Qf k n (pc + 3) lv st X t2) : Sm E Qf k n pc lv (.int x :: st) X (if x = 0 then t1 else t2) := by
  by_cases hh : x = 0
  · rw [if_pos hh]
    exact Sm.go C (fun p l e R s m args below meth c H locs Q nL ls hx hb hown hts hnl h kk => lv_if_eq hx hb hd ht (fun _ => kk ls h) (fun hc => absurd hh hc)) (g1 hh)
  · rw [if_neg hh]
    exact Sm.go C (fun p l e R s m args below meth c H locs Q nL ls hx hb hown hts hnl h kk => lv_if_eq hx hb hd ht (fun hc => absurd hc hh) (fun _ => kk ls h)) (g2 hh)
theorem q_icmp_ne (C : Cx E cc own mL ret R0 X0) {x y : Int32} {off : Int} (tgt : Nat) {t1 t2 : Option (α × Mm)} (hd : decode cc pc = .ok (.if_icmp .ne off, 3)) (ht : (pc : Int) + off = (tgt : Int)) (g1 : x = y → Sm E Qf k n (pc + 3) lv st X t1) (g2 : ¬ x = y → Sm E Qf k n tgt lv st X t2) : Sm E Qf k n pc lv (.int y :: .int x :: st) X (if x = y then t1 else t2) := by
  by_cases hh : x = y
  · rw [if_pos hh]
    exact Sm.go C (fun p l e R s m args below meth c H locs Q nL ls hx hb hown hts hnl h kk => lv_icmp_ne hx hb hd ht (fun hc => absurd hh hc) (fun _ => kk ls h)) (g1 hh)
  · rw [if_neg hh]
    exact Sm.go C (fun p l e R s m args below meth c H locs Q nL ls hx hb hown hts hnl h kk => lv_icmp_ne hx hb hd ht (fun _ => kk ls h) (fun hc => absurd hc hh)) (g2 hh)
theorem q_if_ne (C : Cx E cc own mL ret R0 X0) {x : Int32} {off : Int} (tgt : Nat) {t1 t2 : Option (α × Mm)} (hd : decode cc pc = .ok (.ifCond .ne off, 3)) (ht : (pc : Int) + off = (tgt : Int)) (g1 : x = 0 → Sm E Qf k n (pc + 3) lv st X t1) (g2 : ¬ x = 0 → Sm E Qf k n tgt lv st X t2) : Sm E Qf k n pc lv (.int x :: st) X (if x = 0 then t1 else t2) := by
  by_cases hh : x = 0
  · rw [if_pos hh]
    exact Sm.go C (fun p l e R s m args below meth c H locs Q nL ls hx hb hown hts hnl h kk => lv_if_ne hx hb hd ht (fun hc => absurd hh hc) (fun _ => kk ls h)) (g1 hh)
  · rw [if_neg hh]
    exact Sm.go C (fun p l e R s m args below meth c H locs Q nL ls hx hb hown hts hnl h kk => lv_if_ne hx hb hd ht (fun _ => kk ls h) (fun hc => absurd hc hh)) (g2 hh)
theorem q_icmp_lt (C : Cx E cc own mL ret R0 X0) {x y : Int32} {off : Int} (tgt : Nat) {t1 t2 : Option (α × Mm)} (hd : decode cc pc = .ok (.if_icmp .lt off, 3)) (ht : (pc : Int) + off = (tgt : Int)) (g1 : x < y → Sm E Qf k n tgt lv st X t1) (g2 : ¬ x < y → Sm E Qf k n (pc + 3) lv st X t2) : Sm E Qf k n pc lv (.int y :: .int x :: st) X (if x < y then t1 else t2) := by
  by_cases hh : x < y
  · rw [if_pos hh]
    exact Sm.go C (fun p l e R s m args below meth c H locs Q nL ls hx hb hown hts hnl h kk => lv_icmp_lt hx hb hd ht (fun _ => kk ls h) (fun hc => absurd hh hc)) (g1 hh)
  · rw [if_neg hh]
    exact Sm.go C (fun p l e R s m args below meth c H locs Q nL ls hx hb hown hts hnl h kk => lv_icmp_lt hx hb hd ht (fun hc => absurd hc hh) (fun _ => kk ls h)) (g2 hh)
theorem q_if_lt (C : Cx E cc own mL ret R0 X0) {x : Int32} {off : Int} (tgt : Nat) {t1 t2 : Option (α × Mm)} (hd : decode cc pc = .ok (.ifCond .lt off, 3)) (ht : (pc : Int) + off = (tgt : Int)) (g1 : x < 0 → Sm E Qf k n tgt lv st X t1) (g2 : ¬ x < 0 → Sm E Qf k n (pc + 3) lv st X t2) : Sm E Qf k n pc lv (.int x :: st) X (if x < 0 then t1 else t2) := by
  by_cases hh : x < 0
  · rw [if_pos hh]
    exact Sm.go C (fun p l e R s m args below meth c H locs Q nL ls hx hb hown hts hnl h kk => lv_if_lt hx hb hd ht (fun _ => kk ls h) (fun hc => absurd hh hc)) (g1 hh)
  · rw [if_neg hh]
    exact Sm.go C (fun p l e R s m args below meth c H locs Q nL ls hx hb hown hts hnl h kk => lv_if_lt hx hb hd ht (fun hc => absurd hc hh) (fun _ => kk ls h)) (g2 hh)
theorem q_icmp_ge (C : Cx E cc own mL ret R0 X0) {x y : Int32} {off : Int} (tgt : Nat) {t1 t2 : Option (α × Mm)} (hd : decode cc pc = .ok (.if_icmp .ge off, 3)) (ht : (pc : Int) + off = (tgt : Int)) (g1 : y ≤ x → Sm E Qf k n tgt lv st X t1) (g2 : ¬ y ≤ x → Sm E Qf k n (pc + 3) lv st X t2) : Sm E Qf k n pc lv (.int y :: .int x :: st) X (if y ≤ x then t1 else t2) := by
  by_cases hh : y ≤ x
  · rw [if_pos hh]
    exact Sm.go C (fun p l e R s m args below meth c H locs Q nL ls hx hb hown hts hnl h kk => lv_icmp_ge hx hb hd ht (fun _ => kk ls h) (fun hc => absurd hh hc)) (g1 hh)
  · rw [if_neg hh]
    exact Sm.go C (fun p l e R s m args below meth c H locs Q nL ls hx hb hown hts hnl h kk => lv_icmp_ge hx hb hd ht (fun hc => absurd hc hh) (fun _ => kk ls h)) (g2 hh)
theorem q_if_ge (C : Cx E cc own mL ret R0 X0) {x : Int32} {off : Int} (tgt : Nat) {t1 t2 : Option (α × Mm)} (hd : decode cc pc = .ok (.ifCond .ge off, 3)) (ht : (pc : Int) + off = (tgt : Int)) (g1 : 0 ≤ x → Sm E Qf k n tgt lv st X t1) (g2 : ¬ 0 ≤ x → Sm E Qf k n (pc + 3) lv st X t2) : Sm E Qf k n pc lv (.int x :: st) X (if 0 ≤ x then t1 else t2) := by
  by_cases hh : 0 ≤ x
  · rw [if_pos hh]
    exact Sm.go C (fun p l e R s m args below meth c H locs Q nL ls hx hb hown hts hnl h kk => lv_if_ge hx hb hd ht (fun _ => kk ls h) (fun hc => absurd hh hc)) (g1 hh)
  · rw [if_neg hh]
    exact Sm.go C (fun p l e R s m args below meth c H locs Q nL ls hx hb hown hts hnl h kk => lv_if_ge hx hb hd ht (fun hc => absurd hc hh) (fun _ => kk ls h)) (g2 hh)
theorem q_icmp_gt (C : Cx E cc own mL ret R0 X0) {x y : Int32} {off : Int} (tgt : Nat) {t1 t2 : Option (α × Mm)} (hd : decode cc pc = .ok (.if_icmp .gt off, 3)) (ht : (pc : Int) + off = (tgt : Int)) (g1 : y < x → Sm E Qf k n tgt lv st X t1) (g2 : ¬ y < x → Sm E Qf k n (pc + 3) lv st X t2) : Sm E Qf k n pc lv (.int y :: .int x :: st) X (if y < x then t1 else t2) := by
  by_cases hh : y < x
  · rw [if_pos hh]
    exact Sm.go C (fun p l e R s m args below meth c H locs Q nL ls hx hb hown hts hnl h kk => lv_icmp_gt hx hb hd ht (fun _ => kk ls h) (fun hc => absurd hh hc)) (g1 hh)
  · rw [if_neg hh]
    exact Sm.go C (fun p l e R s m args below meth c H locs Q nL ls hx hb hown hts hnl h kk => lv_icmp_gt hx hb hd ht (fun hc => absurd hc hh) (fun _ => kk ls h)) (g2 hh)
theorem q_if_gt (C : Cx E cc own mL ret R0 X0) {x : Int32} {off : Int} (tgt : Nat) {t1 t2 : Option (α × Mm)} (hd : decode cc pc = .ok (.ifCond .gt off, 3)) (ht : (pc : Int) + off = (tgt : Int)) (g1 : 0 < x → Sm E Qf k n tgt lv st X t1) (g2 : ¬ 0 < x → Sm E Qf k n (pc + 3) lv st X t2) : Sm E Qf k n pc lv (.int x :: st) X (if 0 < x then t1 else t2) := by
  by_cases hh : 0 < x
  · rw [if_pos hh]
    exact Sm.go C (fun p l e R s m args below meth c H locs Q nL ls hx hb hown hts hnl h kk => lv_if_gt hx hb hd ht (fun _ => kk ls h) (fun hc => absurd hh hc)) (g1 hh)
  · rw [if_neg hh]
    exact Sm.go C (fun p l e R s m args below meth c H locs Q nL ls hx hb hown hts hnl h kk => lv_if_gt hx hb hd ht (fun hc => absurd hc hh) (fun _ => kk ls h)) (g2 hh)
theorem q_icmp_le (C : Cx E cc own mL ret R0 X0) {x y : Int32} {off : Int} (tgt : Nat) {t1 t2 : Option (α × Mm)} (hd : decode cc pc = .ok (.if_icmp .le off, 3)) (ht : (pc : Int) + off = (tgt : Int)) (g1 : x ≤ y → Sm E Qf k n tgt lv st X t1) (g2 : ¬ x ≤ y → Sm E Qf k n (pc + 3) lv st X t2) : Sm E Qf k n pc lv (.int y :: .int x :: st) X (if x ≤ y then t1 else t2) := by
  by_cases hh : x ≤ y
  · rw [if_pos hh]
    exact Sm.go C (fun p l e R s m args below meth c H locs Q nL ls hx hb hown hts hnl h kk => lv_icmp_le hx hb hd ht (fun _ => kk ls h) (fun hc => absurd hh hc)) (g1 hh)
  · rw [if_neg hh]
    exact Sm.go C (fun p l e R s m args below meth c H locs Q nL ls hx hb hown hts hnl h kk => lv_icmp_le hx hb hd ht (fun hc => absurd hc hh) (fun _ => kk ls h)) (g2 hh)
theorem q_if_le (C : Cx E cc own mL ret R0 X0) {x : Int32} {off : Int} (tgt : Nat) {t1 t2 : Option (α × Mm)} (hd : decode cc pc = .ok (.ifCond .le off, 3)) (ht : (pc : Int) + off = (tgt : Int)) (g1 : x ≤ 0 → Sm E Qf k n tgt lv st X t1) (g2 : ¬ x ≤ 0 → Sm E Qf k n (pc + 3) lv st X t2) : Sm E Qf k n pc lv (.int x :: st) X (if x ≤ 0 then t1 else t2) := by
  by_cases hh : x ≤ 0
  · rw [if_pos hh]
    exact Sm.go C (fun p l e R s m args below meth c H locs Q nL ls hx hb hown hts hnl h kk => lv_if_le hx hb hd ht (fun _ => kk ls h) (fun hc => absurd hh hc)) (g1 hh)
  · rw [if_neg hh]
    exact Sm.go C (fun p l e R s m args below meth c H locs Q nL ls hx hb hown hts hnl h kk => lv_if_le hx hb hd ht (fun hc => absurd hc hh) (fun _ => kk ls h)) (g2 hh)
theorem q_tabIn (C : Cx E cc own mL ret R0 X0) {dflt lo hi : Int} {offs : Array Int} {len : Nat} {x : Int32} {off v : Int} (tgt : Nat) (hd : decode cc pc = .ok (.tableswitch dflt lo hi offs, len)) (hv : x.toInt = v) (h1 : ¬ v < lo) (h2 : ¬ hi < v) (ho : offs[(v - lo).toNat]? = some off) (ht : (pc : Int) + off = (tgt : Int)) (g : Sm E Qf k n tgt lv st X t) : Sm E Qf k n pc lv (.int x :: st) X t := by
  subst hv
  exact Sm.go C (fun p l e R s m args below meth c H locs Q nL ls hx hb hown hts hnl h kk => lv_tableIn hx hb hd h1 h2 ho ht (kk ls h)) g
theorem q_tabOut (C : Cx E cc own mL ret R0 X0) {dflt lo hi : Int} {offs : Array Int} {len : Nat} {x : Int32} (tgt : Nat) (hd : decode cc pc = .ok (.tableswitch dflt lo hi offs, len)) (hv : x.toInt < lo ∨ hi < x.toInt) (ht : (pc : Int) + dflt = (tgt : Int)) (g : Sm E Qf k n tgt lv st X t) : Sm E Qf k n pc lv (.int x :: st) X t :=
  Sm.go C (fun p l e R s m args below meth c H locs Q nL ls hx hb hown hts hnl h kk => lv_tableOut hx hb hd hv ht (kk ls h)) g
theorem q_lookup (C : Cx E cc own mL ret R0 X0) {dflt : Int} {ps : Array (Int × Int)} {len : Nat} {x : Int32} {off : Int} (tgt : Nat) (hd : decode cc pc = .ok (.lookupswitch dflt ps, len)) (hp : (ps.toList.zip (ps.toList.drop 1)).all (fun (a, next) => a.1 < next.1) = true) (ho : Op.lookupswitch.offset ps.toList dflt x.toInt = off) (ht : (pc : Int) + off = (tgt : Int)) (g : Sm E Qf k n tgt lv st X t) : Sm E Qf k n pc lv (.int x :: st) X t :=
  Sm.go C (fun p l e R s m args below meth c H locs Q nL ls hx hb hown hts hnl h kk => lv_lookup hx hb hd hp ho ht (kk ls h)) g
end
