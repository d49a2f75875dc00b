/-! contracts, calls, ends -/
def bd {A B : Type} (o : Option (A × Mm)) (f : A → Mm → Option (B × Mm)) : Option (B × Mm) := match o with
  | some (a, X) => f a X
  | none => none
def q_Pc (P : Nat) (D : va_G) (cs : q_Cs) (X : Mm) (av : List Value) : Array Value → State → Prop := fun a U => a = av.toArray ∧ Wd P D cs X U.heap ∧ va_K D q_cl (q_tys cs) U ∧ U.heap.size = P + 1 + mN X ∧ q_Xs P U
def q_Qc (P : Nat) (D : va_G) (cs : q_Cs) (v : Option Value) (X X' : Mm) (mc ms : Nat) : Array Value → State → Outcome → State → Prop := fun _ st o t => o = .returned v ∧ Wd P D cs X' t.heap ∧ mN X' = mN X + mc ∧ mS X' = mS X + ms ∧ va_F (fun q => P < q) st t
abbrev q_rm (fr lo mc ms : Nat) : Room := { frames := fr, cells := mc, slots := ms, locals := lo }
/-- what a method does: if its plain function answers on the memory, so does it, and the memory behind it is the function's -/
def q_Ct {B : Type} (y : MethodName) (cc : ByteArray) (mL : Nat) (ret : Option FieldType) (fr lo mc ms : Nat) (enc : Nat → B → Option Value) (av : Nat → List Value) (f : Mm → Option (B × Mm)) : Prop :=
  ∀ (l : Launch) (P : Nat) (D : va_G) (cs : q_Cs) (X : Mm) (r : B × Mm), f X = some r → Met l y (Cond.code y cc mL ret :: q_tbl) (q_rm fr lo mc ms) (q_Pc P D cs X (av P)) (q_Qc P D cs (enc P r.1) X r.2 mc ms) mc ms (fun q => P < q)
def q_fin {B : Type} (E : q_E) (enc : Nat → B → Option Value) (X0 : Mm) (mc ms : Nat) : B → Mm → State → Prop := match E with
  | (_, _, _, _, s, _, args, below, _, _, _, P, D, cs, _, _) => fun r X' => MQ below (q_Qc P D cs (enc P r) X0 X' mc ms) args s mc ms (fun q => P < q)
abbrev q_eI : Nat → Int32 → Option Value := fun _ v => some (.int v)
abbrev q_eL : Nat → Int64 → Option Value := fun _ v => some (.long v)
abbrev q_eR : Nat → Nat → Option Value := fun P v => some (.ref (P + v))
abbrev q_eV : Nat → Unit → Option Value := fun _ _ => none
theorem q_blind (P : Nat) (D : va_G) (cs : q_Cs) (X : Mm) (av : List Value) : FrameBlind (q_Pc P D cs X av) := by
  intro a U g mk h
  obtain ⟨h1, h2, h3, h4, h5⟩ := h
  exact ⟨h1, h2, va_K.moved (u := U) (U := U.calling g mk a) (Vm.Alike.refl U.vm) h3, h4, h5.same rfl rfl⟩
theorem q_meth {B : Type} {y : MethodName} {cc : ByteArray} {mL : Nat} {ret : Option FieldType} {fr lo mc ms : Nat} {enc : Nat → B → Option Value} {av : Nat → List Value} {f : Mm → Option (B × Mm)} (hy : plainName y.cls = true) (hlen : ∀ P, (lg_sl (av P)).length ≤ mL)
    (body : ∀ (E : q_E) (X0 : Mm), Cx E cc y.cls mL ret (q_rm fr lo mc ms) X0 → q_mn E = y.name → Sm E (q_fin E enc X0 mc ms) 0 0 0 (lv_args 0 (av (q_P E))) [] X0 (f X0)) : q_Ct y cc mL ret fr lo mc ms enc av f := by
  intro l P D cs X r hr
  refine Met.ofW (cc := cc) (maxL := mL) (ret := ret) hy rfl ?_
  intro p e s m args below meth c s₁ B hml hv
  obtain ⟨rfl, hWd, hK, hz, hXs⟩ := hv
  have hts := atoms_spec (ws := Cond.code y cc mL ret :: q_tbl) B.pre
  have hown : s.vm.findClass y.cls = some m.cls := findClass_of_methodNamed B.named
  have C : Cx (p, l, e, q_rm fr lo mc ms, s, m, (av P).toArray, below, meth, c, mL, P, D, cs, mN X, mS X) cc y.cls mL ret (q_rm fr lo mc ms) X :=
    ⟨⟨B.exec, B.bytes, hml, hown, fun w hw => hts w (List.mem_cons_of_mem _ hw)⟩, B.notSynchronized, hK, hz, hXs, rfl, B.returns, rfl, rfl, rfl⟩
  have g := body _ X C (name_of_methodNamed B.named B.method).1
  rw [lg_entry_eq]
  exact g r hr rfl rfl s.heap [] _ hWd va_S.rf (lv_entry (av P) (hlen P))
section
variable {E : q_E} {cc : ByteArray} {own : String} {mL' : Nat} {ret : Option FieldType} {R0 : Room} {X0 : Mm} {α : Type} {Qf : α → Mm → State → Prop} {k n pc : Nat} {lv : List (Nat × Value)} {st : List Value} {X : Mm} {t : Option (α × Mm)}
theorem q_iret (C : Cx E cc own mL' (some .int) R0 X0) {v : Int32} (hd : decode cc pc = .ok (.ireturn, 1)) : Sm E (q_fin E q_eI X0 k n) k n pc lv [.int v] X (some (v, X)) := by
  obtain ⟨p, l, e, R, s, m, args, below, meth, c, nL, P, D, cs, n0, s0⟩ := E
  obtain ⟨⟨hx, hb, hml, hown, hts⟩, hlk, hK, hz, hXs, hnl, hrt, hR, h0, h1⟩ := C
  intro r1 hr hn hs H locs ls hW hS hl
  cases hr
  exact W.iret hx hb hrt (fun t ht hWm => ⟨rfl, by rw [ht]; exact hW, by rw [hn, h0], by rw [hs, h1], hS.F ht⟩) hS.2.2 hd hlk
theorem q_zret (C : Cx E cc own mL' (some .boolean) R0 X0) {v : Int32} (hd : decode cc pc = .ok (.ireturn, 1)) : Sm E (q_fin E q_eI X0 k n) k n pc lv [.int v] X (if v = 0 ∨ v = 1 then some (v, X) else none) := by
  refine q_chk fun hv => ?_
  obtain ⟨p, l, e, R, s, m, args, below, meth, c, nL, P, D, cs, n0, s0⟩ := E
  obtain ⟨⟨hx, hb, hml, hown, hts⟩, hlk, hK, hz, hXs, hnl, hrt, hR, h0, h1⟩ := C
  intro r1 hr hn hs H locs ls hW hS hl
  cases hr
  exact W.zret hx hb hrt (by rcases hv with rfl | rfl <;> rfl) (fun t ht hWm => ⟨rfl, by rw [ht]; exact hW, by rw [hn, h0], by rw [hs, h1], hS.F ht⟩) hS.2.2 hd hlk
theorem q_zret0 (C : Cx E cc own mL' (some .boolean) R0 X0) (hd : decode cc pc = .ok (.ireturn, 1)) : Sm E (q_fin E q_eI X0 k n) k n pc lv [.int 0] X (some (0, X)) := by
  have h := q_zret (v := 0) (k := k) (n := n) (lv := lv) (X := X) C hd
  rwa [if_pos (Or.inl rfl)] at h
theorem q_zret1 (C : Cx E cc own mL' (some .boolean) R0 X0) (hd : decode cc pc = .ok (.ireturn, 1)) : Sm E (q_fin E q_eI X0 k n) k n pc lv [.int 1] X (some (1, X)) := by
  have h := q_zret (v := 1) (k := k) (n := n) (lv := lv) (X := X) C hd
  rwa [if_pos (Or.inr rfl)] at h
theorem q_lret (C : Cx E cc own mL' (some .long) R0 X0) {v : Int64} (hd : decode cc pc = .ok (.lreturn, 1)) : Sm E (q_fin E q_eL X0 k n) k n pc lv [.long v] X (some (v, X)) := by
  obtain ⟨p, l, e, R, s, m, args, below, meth, c, nL, P, D, cs, n0, s0⟩ := E
  obtain ⟨⟨hx, hb, hml, hown, hts⟩, hlk, hK, hz, hXs, hnl, hrt, hR, h0, h1⟩ := C
  intro r1 hr hn hs H locs ls hW hS hl
  cases hr
  exact W.lret hx hb hrt (fun t ht hWm => ⟨rfl, by rw [ht]; exact hW, by rw [hn, h0], by rw [hs, h1], hS.F ht⟩) hS.2.2 hd hlk
theorem q_aret {cn : String} (C : Cx E cc own mL' (some (.object cn)) R0 X0) {v : Nat} (hd : decode cc pc = .ok (.areturn, 1)) : Sm E (q_fin E q_eR X0 k n) k n pc lv [.ref (q_P E + v)] X (some (v, X)) := by
  obtain ⟨p, l, e, R, s, m, args, below, meth, c, nL, P, D, cs, n0, s0⟩ := E
  obtain ⟨⟨hx, hb, hml, hown, hts⟩, hlk, hK, hz, hXs, hnl, hrt, hR, h0, h1⟩ := C
  intro r1 hr hn hs H locs ls hW hS hl
  cases hr
  exact W.aret hx hb hrt (Or.inl ⟨cn, rfl⟩) (Or.inr ⟨_, rfl⟩) (fun t ht hWm => ⟨rfl, by rw [ht]; exact hW, by rw [hn, h0], by rw [hs, h1], hS.F ht⟩) hS.2.2 hd hlk
theorem q_vret (C : Cx E cc own mL' none R0 X0) (hd : decode cc pc = .ok (.return_, 1)) : Sm E (q_fin E q_eV X0 k n) k n pc lv [] X (some ((), X)) := by
  obtain ⟨p, l, e, R, s, m, args, below, meth, c, nL, P, D, cs, n0, s0⟩ := E
  obtain ⟨⟨hx, hb, hml, hown, hts⟩, hlk, hK, hz, hXs, hnl, hrt, hR, h0, h1⟩ := C
  intro r1 hr hn hs H locs ls hW hS hl
  cases hr
  exact W.vret hx hb hrt (fun t ht hWm => ⟨rfl, by rw [ht]; exact hW, by rw [hn, h0], by rw [hs, h1], hS.F ht⟩) hS.2.2 hd hlk
/-- how many cells the heap has -/
theorem q_sz (C : Cx E cc own mL' ret R0 X0) (g : ∀ (p : Program) (l : Launch) (e : Env) (R : Room) (s : State) (m : MethodId) (args : Array Value) (below : List Frame) (meth : Method) (c : Code) (nL P : Nat) (D : va_G) (cs : q_Cs) (n0 s0 : Nat), E = (p, l, e, R, s, m, args, below, meth, c, nL, P, D, cs, n0, s0) →
      ∀ r : α × Mm, t = some r → mN X = n0 + k → mS X = s0 + n → ∀ (H : Heap) (locs : List Loc) (ls : Array Slot), Wd P D cs X H → va_S (fun q => P < q) s.heap H locs → lv_has ls nL lv → H.size = P + 1 + mN X → W p l e R s m args below meth c H locs k n (Qf r.1 r.2) (F0 m pc ls st)) : Sm E Qf k n pc lv st X t := by
  obtain ⟨p, l, e, R, s, m, args, below, meth, c, nL, P, D, cs, n0, s0⟩ := E
  obtain ⟨-, -, -, hz, -⟩ := C
  intro r hr hn hs H locs ls hW hS hl T hT Xs
  have h1 : H.size ≤ s.heap.size + k := by have h := Xs.heapSize; rw [hT] at h; exact h
  have h2 : P + 1 + mN X ≤ H.size := by
    by_cases hm : mN X = 0
    · have h3 := hS.1
      omega
    · have h3 := (hW.1 (mN X - 1) _ (q_ws_at (by omega) (Nat.le_refl _))).lt
      have h4 : P + mN X < H.size := h3
      omega
  exact g p l e R s m args below meth c nL P D cs n0 s0 rfl r hr hn hs H locs ls hW hS hl (by omega) T hT Xs
/-- behind a call -/
theorem q_back {B : Type} {p : Program} {l : Launch} {e : Env} {R : Room} {s : State} {m : MethodId} {args : Array Value} {below : List Frame} {meth : Method} {c : Code} {P : Nat} {D : va_G} {cs : q_Cs} {H : Heap} {locs : List Loc} {mc ms : Nat} {ls : Array Slot} {stk rest : List Value} {enc : Nat → B → Option Value} {rb : B × Mm} {a : Array Value} {Q : State → Prop}
    (hr : va_Run p l e R s m args below meth c H locs k n mc ms (F0 m pc ls stk) rest (q_Qc P D cs (enc P rb.1) X rb.2 mc ms a) (fun q => P < q)) (hS : va_S (fun q => P < q) s.heap H locs)
    (kk : ∀ (H1 : Heap) (locs1 : List Loc), Wd P D cs rb.2 H1 → mN rb.2 = mN X + mc → mS rb.2 = mS X + ms → va_S (fun q => P < q) s.heap H1 locs1 → W p l e R s m args below meth c H1 locs1 (k + mc) (n + ms) Q (F0 m (pc + 3) ls ((enc P rb.1).toList ++ rest))) : W p l e R s m args below meth c H locs k n Q (F0 m pc ls stk) := by
  intro T hT Xs
  obtain ⟨v, st₀, t, T', L, h0, X', hL, e1, e2, ⟨hv, hW1, hn1, hs1, hz, hkp⟩, stp⟩ := hr T hT Xs
  cases hv
  rw [h0] at hz hkp
  obtain ⟨t2, a1, b1⟩ := kk T'.heap (locs ++ L) (by rw [e1]; exact hW1) hn1 hs1
    ⟨Nat.le_trans hS.1 (by rw [e1]; exact hz), fun q h1 h2 => by rw [e1, hkp q (Nat.lt_of_lt_of_le h1 hS.1) h2]; exact hS.2.1 q h1 h2, fun q hq => by
      rcases List.mem_append.mp hq with h | h
      · exact hS.2.2 q h
      · exact hL q h⟩ T' rfl X'
  exact ⟨t2, stp t2 a1, b1⟩
/-- the links of a call -/
def q_LV (own : String) (idx : Nat) (y : MethodName) (cy : ByteArray) (mLy : Nat) (rety : Option FieldType) (nA tg : Nat) : Prop := Cond.methodLink own idx y ∈ q_tbl ∧ Cond.instanceMethod y ∈ q_tbl ∧ Cond.selects y.cls y y ∈ q_tbl ∧ Cond.initialized y.cls ∈ q_tbl ∧ Cond.code y cy mLy rety ∈ q_tbl ∧ (y.cls ≠ "java/lang/invoke/MethodHandle" ∧ y.cls ≠ "java/lang/invoke/VarHandle" ∧ (parseMethodDescriptor y.desc).map (fun d => d.parameters.length) = some nA) ∧ ∃ (T : u_T) (N : Nat), q_cl[tg]? = some (y.cls, T, N)
def q_LS (own : String) (idx : Nat) (y : MethodName) (cy : ByteArray) (mLy : Nat) (rety : Option FieldType) (nA : Nat) : Prop := Cond.methodLink own idx y ∈ q_tbl ∧ Cond.static y ∈ q_tbl ∧ Cond.initialized y.cls ∈ q_tbl ∧ Cond.code y cy mLy rety ∈ q_tbl ∧ (y.cls ≠ "java/lang/invoke/MethodHandle" ∧ y.cls ≠ "java/lang/invoke/VarHandle" ∧ (parseMethodDescriptor y.desc).map (fun d => d.parameters.length) = some nA)
theorem q_gin {y : MethodName} {cy : ByteArray} {mLy : Nat} {rety : Option FieldType} (h : Cond.code y cy mLy rety ∈ q_tbl) : GoodIn q_tbl (Cond.code y cy mLy rety :: q_tbl) := by
  intro w hw
  rcases List.mem_cons.mp hw with rfl | hw
  · exact ⟨h, good_of_word (q_good _ h)⟩
  · exact ⟨hw, good_of_word (q_good _ hw)⟩
theorem q_callV (C : Cx E cc own mL' ret R0 X0) {B : Type} {y : MethodName} {cy : ByteArray} {mLy : Nat} {rety : Option FieldType} {fr lo mc ms nA tg idx r : Nat} {enc : Nat → B → Option Value} {As : Nat → List Value} {f : Mm → Option (B × Mm)} {stk : List Value} {kf : B → Mm → Option (α × Mm)}
    (M : q_Ct y cy mLy rety fr lo mc ms enc (fun P => .ref (P + r) :: As P) f) (L : q_LV own idx y cy mLy rety nA tg) (hst : stk = (As (q_P E)).reverse ++ .ref (q_P E + r) :: st) (hA : ∀ P, (As P).length = nA)
    (hR : fr + 1 ≤ R0.frames ∧ 8 + (mLy + 11) + lo ≤ R0.locals) (hR2 : k + mc ≤ R0.cells ∧ n + ms ≤ R0.slots) (hcat : (st.map fun v => v.category).sum ≤ 8) (hd : decode cc pc = .ok (.invokevirtual idx, 3))
    (g : ∀ (v : B) (X' : Mm), Sm E Qf (k + mc) (n + ms) (pc + 3) lv ((enc (q_P E) v).toList ++ st) X' (kf v X')) : Sm E Qf k n pc lv stk X (if mT X r = tg then bd (f X) kf else none) := by
  refine q_chk fun hT => q_sz C ?_
  rintro p l e R s m args below meth c nL P D cs n0 s0 rfl r1 hr hn hs H locs ls hW hS hl hz
  obtain ⟨⟨hx, hb, hml, hown, hts⟩, hlk, hK, hz0, hXs, hnl, hrt, rfl, h0, h1⟩ := C
  obtain ⟨l1, l2, l3, l4, l5, l6, TT, NN, l7⟩ := L
  cases hf : f X with
  | none => rw [hf] at hr; cases hr
  | some rb =>
    rw [hf] at hr
    have hst' : stk = (As P).reverse ++ .ref (P + r) :: st := hst
    subst hst'
    have h13 := q_cl_lt l7
    have he := q_ws_ok hW hT (by omega)
    rw [q_cell_obj hT h13.1] at he
    refine q_back (rb := rb) (enc := enc) (rest := st) (va_runV (As := As P) (C := y.cls) ⟨hx, hb, hml, hown, hts⟩ (M l P D cs X rb hf) ⟨callB_of nA hts (q_gin l5) rfl rfl rfl (hts _ l4) (hts _ l1) l6 hR, hts _ l2, hts _ l3⟩
      ⟨q_blind P D cs X _, va_recv hK hW.1 l7 he, fun U hU hWm => ⟨rfl, by rw [hU]; exact hW, va_K.moved hWm.alike hK, by rw [hU]; exact hz, hXs.warm hWm (fun a h1 h2 => by rw [hU]; exact hS.2.1 a h1 h2)⟩⟩ rfl (hA P) (hl.1.trans hnl |>.trans hnl.symm) rfl (lv_room hcat) hd hR2) hS ?_
    intro H1 locs1 hW1 e1 e2 hS1
    exact g rb.1 rb.2 r1 hr (by rw [e1, hn, Nat.add_assoc]) (by rw [e2, hs, Nat.add_assoc]) H1 locs1 ls hW1 hS1 hl
theorem q_callS (C : Cx E cc own mL' ret R0 X0) {B : Type} {y : MethodName} {cy : ByteArray} {mLy : Nat} {rety : Option FieldType} {fr lo mc ms nA idx : Nat} {enc : Nat → B → Option Value} {As : Nat → List Value} {f : Mm → Option (B × Mm)} {stk : List Value} {kf : B → Mm → Option (α × Mm)}
    (M : q_Ct y cy mLy rety fr lo mc ms enc As f) (L : q_LS own idx y cy mLy rety nA) (hst : stk = (As (q_P E)).reverse ++ st) (hA : ∀ P, (As P).length = nA)
    (hR : fr + 1 ≤ R0.frames ∧ 8 + (mLy + 11) + lo ≤ R0.locals) (hR2 : k + mc ≤ R0.cells ∧ n + ms ≤ R0.slots) (hcat : (st.map fun v => v.category).sum ≤ 8) (hd : decode cc pc = .ok (.invokestatic idx, 3))
    (g : ∀ (v : B) (X' : Mm), Sm E Qf (k + mc) (n + ms) (pc + 3) lv ((enc (q_P E) v).toList ++ st) X' (kf v X')) : Sm E Qf k n pc lv stk X (bd (f X) kf) := by
  refine q_sz C ?_
  rintro p l e R s m args below meth c nL P D cs n0 s0 rfl r1 hr hn hs H locs ls hW hS hl hz
  obtain ⟨⟨hx, hb, hml, hown, hts⟩, hlk, hK, hz0, hXs, hnl, hrt, rfl, h0, h1⟩ := C
  obtain ⟨l1, l2, l4, l5, l6⟩ := L
  cases hf : f X with
  | none => rw [hf] at hr; cases hr
  | some rb =>
    rw [hf] at hr
    have hst' : stk = (As P).reverse ++ st := hst
    subst hst'
    refine q_back (rb := rb) (enc := enc) (rest := st) (va_runS (As := As P) ⟨hx, hb, hml, hown, hts⟩ (M l P D cs X rb hf) ⟨callB_of nA hts (q_gin l5) rfl rfl rfl (hts _ l4) (hts _ l1) l6 hR, hts _ l2⟩
      ⟨q_blind P D cs X _, fun U hU hWm => ⟨rfl, by rw [hU]; exact hW, va_K.moved hWm.alike hK, by rw [hU]; exact hz, hXs.warm hWm (fun a h1 h2 => by rw [hU]; exact hS.2.1 a h1 h2)⟩⟩ rfl (hA P) (hl.1.trans hnl |>.trans hnl.symm) rfl (lv_room hcat) hd hR2) hS ?_
    intro H1 locs1 hW1 e1 e2 hS1
    exact g rb.1 rb.2 r1 hr (by rw [e1, hn, Nat.add_assoc]) (by rw [e2, hs, Nat.add_assoc]) H1 locs1 ls hW1 hS1 hl
end
