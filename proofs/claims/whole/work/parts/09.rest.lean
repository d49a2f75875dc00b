/-! constructors' calls, nest mates, arraycopy -/
def q_LI (own : String) (idx : Nat) (y : MethodName) (cy : ByteArray) (mLy : Nat) (nA : Nat) : Prop := ((Cond.methodLink own idx y ∈ q_tbl) ∨ ∃ h : String, Cond.methodLinkNest own idx y h ∈ lw_tbl) ∧ Cond.instanceMethod y ∈ q_tbl ∧ Cond.initialized y.cls ∈ q_tbl ∧ Cond.code y cy mLy none ∈ q_tbl ∧ y.name = "<init>" ∧ (y.cls ≠ "java/lang/invoke/MethodHandle" ∧ y.cls ≠ "java/lang/invoke/VarHandle" ∧ (parseMethodDescriptor y.desc).map (fun d => d.parameters.length) = some nA)
def q_LSN (own : String) (idx : Nat) (y : MethodName) (h : String) (cy : ByteArray) (mLy : Nat) (rety : Option FieldType) (nA : Nat) : Prop := Cond.methodLinkNest own idx y h ∈ lw_tbl ∧ Cond.static y ∈ q_tbl ∧ Cond.initialized y.cls ∈ q_tbl ∧ Cond.code y cy mLy rety ∈ q_tbl ∧ (y.cls ≠ "java/lang/invoke/MethodHandle" ∧ y.cls ≠ "java/lang/invoke/VarHandle" ∧ (parseMethodDescriptor y.desc).map (fun d => d.parameters.length) = some nA)
abbrev q_cpok (X : Mm) (a b tg : Nat) (sp dp z : Int32) : Prop := mT X a = tg ∧ mT X b = tg ∧ ¬ sp < 0 ∧ ¬ dp < 0 ∧ ¬ z < 0 ∧ sp.toNatClampNeg + z.toNatClampNeg ≤ mL X a ∧ dp.toNatClampNeg + z.toNatClampNeg ≤ mL X b
section
variable {E : q_E} {cc : ByteArray} {own : String} {mL' : Nat} {ret : Option FieldType} {R0 : Room} {X0 : Mm} {α : Type} {Qf : α → Mm → State → Prop} {k n pc : Nat} {lv : List (Nat × Value)} {st : List Value} {X : Mm} {t : Option (α × Mm)}
theorem q_objInit (C : Cx E cc own mL' ret R0 X0) {idx r : Nat} (h1 : Cond.methodLink own idx Lib.objectInit ∈ q_tbl) (h2 : Cond.instanceMethod Lib.objectInit ∈ q_tbl) (h3 : Cond.code Lib.objectInit ⟨#[0xb1]⟩ 1 none ∈ q_tbl) (hR : 1 ≤ R0.frames ∧ (st.map fun v => v.category).sum + 12 ≤ R0.locals) (hd : decode cc pc = .ok (.invokespecial idx, 3)) (g : Sm E Qf k n (pc + 3) lv st X t) : Sm E Qf k n pc lv (.ref (q_P E + r) :: st) X t := by
  obtain ⟨p, l, e, R, s, m, args, below, meth, c, nL, P, D, cs, n0, s0⟩ := E
  obtain ⟨⟨hx, hb, hml, hown, hts⟩, hlk, hK, hz0, hXs, hnl, hrt, rfl, h0, h1'⟩ := C
  intro r1 hr hn hs H locs ls hW hS hl
  refine W.objInit hx hb hown (hts _ h1) (hts _ h2) (hts _ h3) rfl (by rw [hml]; exact hl.1) rfl hd hR.1 (by show 2 * 0 + _ + 12 ≤ _; omega) ?_
  exact g r1 hr hn hs H locs ls hW hS hl
theorem q_callI (C : Cx E cc own mL' ret R0 X0) {y : MethodName} {cy : ByteArray} {mLy : Nat} {fr lo mc ms nA idx r : Nat} {As : Nat → List Value} {f : Mm → Option (Unit × Mm)} {stk : List Value} {kf : Unit → Mm → Option (α × Mm)}
    (M : q_Ct y cy mLy none fr lo mc ms q_eV (fun P => .ref (P + r) :: As P) f) (L : q_LI own idx y cy mLy nA) (hst : stk = (As (q_P E)).reverse ++ .ref (q_P E + r) :: st) (hA : ∀ P, (As P).length = nA)
    (hR : fr + 1 ≤ R0.frames ∧ 8 + (mLy + 11) + lo ≤ R0.locals) (hR2 : k + mc ≤ R0.cells ∧ n + ms ≤ R0.slots) (hcat : (st.map fun v => v.category).sum ≤ 8) (hd : decode cc pc = .ok (.invokespecial idx, 3))
    (g : ∀ (X' : Mm), Sm E Qf (k + mc) (n + ms) (pc + 3) lv st X' (kf () X')) : Sm E Qf k n pc lv stk X (bd (f X) kf) := by
  refine q_sz C ?_
  rintro p l e R s m args below meth c nL P D cs n0 s0 rfl r1 hr hn hs H locs ls hW hS hl hz
  obtain ⟨⟨hx, hb, hml, hown, hts⟩, hlk, hK, hz0, hXs, hnl, hrt, rfl, h0, h1⟩ := C
  obtain ⟨l1, l2, l4, l5, l7, l6⟩ := L
  cases hf : f X with
  | none => rw [hf] at hr; cases hr
  | some rb =>
    rw [hf] at hr
    have hst' : stk = (As P).reverse ++ .ref (P + r) :: st := hst
    subst hst'
    have hpre : PreS s H (q_Pc P D cs X (.ref (P + r) :: As P)) (.ref (P + r) :: As P) := ⟨q_blind P D cs X _, fun U hU hWm => ⟨rfl, by rw [hU]; exact hW, va_K.moved hWm.alike hK, by rw [hU]; exact hz, hXs.warm hWm (fun a h1 h2 => by rw [hU]; exact hS.2.1 a h1 h2)⟩⟩
    have hrun : va_Run p l e R s m args below meth c H locs k n mc ms (F0 m pc ls ((As P).reverse ++ .ref (P + r) :: st)) st (q_Qc P D cs (q_eV P rb.1) X rb.2 mc ms (Value.ref (P + r) :: As P).toArray) (fun q => P < q) := by
      rcases l1 with l1 | ⟨h, l1⟩
      · exact va_runI (As := As P) ⟨hx, hb, hml, hown, hts⟩ (M l P D cs X rb hf) ⟨callB_of nA hts (q_gin l5) rfl rfl rfl (hts _ l4) (hts _ l1) l6 hR, l7, hts _ l2⟩ hpre rfl (hA P) (hl.1.trans hnl |>.trans hnl.symm) rfl (lv_room hcat) hd hR2
      · exact va_runIN (As := As P) ⟨hx, hb, hml, hown, hts⟩ (M l P D cs X rb hf) ⟨va_cnB nA hts (q_gin l5) rfl rfl rfl (hXs.2.2.2.1 _ _ _ _ l1) (hts _ l4) l6 hR, l7, hts _ l2⟩ hpre rfl (hA P) (hl.1.trans hnl |>.trans hnl.symm) rfl (lv_room hcat) hd hR2
    refine q_back (rb := rb) (enc := q_eV) (rest := st) hrun hS ?_
    intro H1 locs1 hW1 e1 e2 hS1
    exact g rb.2 r1 hr (by rw [e1, hn, Nat.add_assoc]) (by rw [e2, hs, Nat.add_assoc]) H1 locs1 ls hW1 hS1 hl
theorem q_callSN (C : Cx E cc own mL' ret R0 X0) {B : Type} {y : MethodName} {host : String} {cy : ByteArray} {mLy : Nat} {rety : Option FieldType} {fr lo mc ms nA idx : Nat} {enc : Nat → B → Option Value} {As : Nat → List Value} {f : Mm → Option (B × Mm)} {stk : List Value} {kf : B → Mm → Option (α × Mm)}
    (M : q_Ct y cy mLy rety fr lo mc ms enc As f) (L : q_LSN own idx y host cy mLy rety nA) (hst : stk = (As (q_P E)).reverse ++ st) (hA : ∀ P, (As P).length = nA)
    (hR : fr + 1 ≤ R0.frames ∧ 8 + (mLy + 11) + lo ≤ R0.locals) (hR2 : k + mc ≤ R0.cells ∧ n + ms ≤ R0.slots) (hcat : (st.map fun v => v.category).sum ≤ 8) (hd : decode cc pc = .ok (.invokestatic idx, 3))
    (g : ∀ (v : B) (X' : Mm), Sm E Qf (k + mc) (n + ms) (pc + 3) lv ((enc (q_P E) v).toList ++ st) X' (kf v X')) : Sm E Qf k n pc lv stk X (bd (f X) kf) := by
  refine q_sz C ?_
  rintro p l e R s m args below meth c nL P D cs n0 s0 rfl r1 hr hn hs H locs ls hW hS hl hz
  obtain ⟨⟨hx, hb, hml, hown, hts⟩, hlk, hK, hz0, hXs, hnl, hrt, rfl, h0, h1⟩ := C
  obtain ⟨l1, l2, l4, l5, l6⟩ := L
  cases hf : f X with
  | none => rw [hf] at hr; cases hr
  | some rb =>
    rw [hf] at hr
    have hst' : stk = (As P).reverse ++ st := hst
    subst hst'
    refine q_back (rb := rb) (enc := enc) (rest := st) (va_runSN (As := As P) ⟨hx, hb, hml, hown, hts⟩ (M l P D cs X rb hf) ⟨va_cnB nA hts (q_gin l5) rfl rfl rfl (hXs.2.2.2.1 _ _ _ _ l1) (hts _ l4) l6 hR, hts _ l2, trivial⟩
      ⟨q_blind P D cs X _, fun U hU hWm => ⟨rfl, by rw [hU]; exact hW, va_K.moved hWm.alike hK, by rw [hU]; exact hz, hXs.warm hWm (fun a h1 h2 => by rw [hU]; exact hS.2.1 a h1 h2)⟩⟩ rfl (hA P) (hl.1.trans hnl |>.trans hnl.symm) rfl (lv_room hcat) hd hR2) hS ?_
    intro H1 locs1 hW1 e1 e2 hS1
    exact g rb.1 rb.2 r1 hr (by rw [e1, hn, Nat.add_assoc]) (by rw [e2, hs, Nat.add_assoc]) H1 locs1 ls hW1 hS1 hl
theorem q_cpI (C : Cx E cc own mL' ret R0 X0) {idx a b : Nat} {sp dp z : Int32} (hlk : Cond.methodLink own idx arraycopyName ∈ q_tbl) (hnat : Cond.native arraycopyName ∈ q_tbl) (hst : Cond.static arraycopyName ∈ q_tbl) (hin : Cond.initialized "java/lang/System" ∈ q_tbl) (hR : 1 ≤ R0.frames ∧ (st.map fun v => v.category).sum + 18 ≤ R0.locals) (hd : decode cc pc = .ok (.invokestatic idx, 3))
    (g : Sm E Qf k n (pc + 3) lv st (wI X b (va_cpy (mI X a) (mI X b) sp.toNatClampNeg dp.toNatClampNeg z.toNatClampNeg)) t) : Sm E Qf k n pc lv (.int z :: .int dp :: .ref (q_P E + b) :: .int sp :: .ref (q_P E + a) :: st) X (if q_cpok X a b 14 sp dp z then t else none) := by
  refine q_chk fun hi => ?_
  obtain ⟨i1, i2, i3, i4, i5, i6, i7⟩ := hi
  obtain ⟨p, l, e, R, s, m, args, below, meth, c, nL, P, D, cs, n0, s0⟩ := E
  obtain ⟨⟨hx, hb, hml, hown, hts⟩, hlk2, hK, hz0, hXs, hnl, hrt, rfl, h0, h1'⟩ := C
  intro r1 hr hn hs H locs ls hW hS hl
  have ha := q_ws_ok hW i1 (by omega)
  rw [q_cell_a i1] at ha
  have hb2 := q_ws_ok hW i2 (by omega)
  rw [q_cell_a i2] at hb2
  have hw : nativeFrameWords "java/lang/System" "arraycopy" 5 = 7 := by decide
  refine va_copyi hx hb (hml.trans hl.1.symm) hown (hts _ hlk) (hts _ hnat) (hts _ hst) (hts _ hin) hK hW.1 (q_ws_D P cs X) hS (a - 1) (b - 1) 0 0 ha hb2 rfl rfl rfl i3 i4 i5 i6 i7 (fun _ _ => rfl) hR.1 (by omega) hd (fun H1 locs1 hP1 hD1 hS1 => g r1 hr hn hs H1 locs1 ls (hW.put i2 (by omega) rfl rfl ?_ (fun d hd => q_owI P cs d hd) hP1) hS1 hl)
  rw [q_cell_a (X := wI X b _) i2]
  show (Sum.inl (cs.1, mL X b, .inl (q_u1 (mI X) b _ b)) : va_E) = _
  rw [q_u1_s]
theorem q_cpJ (C : Cx E cc own mL' ret R0 X0) {idx a b : Nat} {sp dp z : Int32} (hlk : Cond.methodLink own idx arraycopyName ∈ q_tbl) (hnat : Cond.native arraycopyName ∈ q_tbl) (hst : Cond.static arraycopyName ∈ q_tbl) (hin : Cond.initialized "java/lang/System" ∈ q_tbl) (hR : 1 ≤ R0.frames ∧ (st.map fun v => v.category).sum + 18 ≤ R0.locals) (hd : decode cc pc = .ok (.invokestatic idx, 3))
    (g : Sm E Qf k n (pc + 3) lv st (wJ X b (va_cpy (mJ X a) (mJ X b) sp.toNatClampNeg dp.toNatClampNeg z.toNatClampNeg)) t) : Sm E Qf k n pc lv (.int z :: .int dp :: .ref (q_P E + b) :: .int sp :: .ref (q_P E + a) :: st) X (if q_cpok X a b 15 sp dp z then t else none) := by
  refine q_chk fun hi => ?_
  obtain ⟨i1, i2, i3, i4, i5, i6, i7⟩ := hi
  obtain ⟨p, l, e, R, s, m, args, below, meth, c, nL, P, D, cs, n0, s0⟩ := E
  obtain ⟨⟨hx, hb, hml, hown, hts⟩, hlk2, hK, hz0, hXs, hnl, hrt, rfl, h0, h1'⟩ := C
  intro r1 hr hn hs H locs ls hW hS hl
  have ha := q_ws_ok hW i1 (by omega)
  rw [q_cell_l i1] at ha
  have hb2 := q_ws_ok hW i2 (by omega)
  rw [q_cell_l i2] at hb2
  have hw : nativeFrameWords "java/lang/System" "arraycopy" 5 = 7 := by decide
  refine va_copyl hx hb (hml.trans hl.1.symm) hown (hts _ hlk) (hts _ hnat) (hts _ hst) (hts _ hin) hK hW.1 (q_ws_D P cs X) hS (a - 1) (b - 1) 1 1 ha hb2 rfl rfl rfl i3 i4 i5 i6 i7 (fun _ _ => rfl) hR.1 (by omega) hd (fun H1 locs1 hP1 hD1 hS1 => g r1 hr hn hs H1 locs1 ls (hW.put i2 (by omega) rfl rfl ?_ (fun d hd => q_owJ P cs d hd) hP1) hS1 hl)
  rw [q_cell_l (X := wJ X b _) i2]
  show (Sum.inl (cs.2.1, mL X b, .inr (.inl (q_u1 (mJ X) b _ b))) : va_E) = _
  rw [q_u1_s]
end
