/-! a call over a fuller stack: up to sixteen words below its arguments -/
section
variable {p : Program} {l : Launch} {e : Env} {R : Room} {s : State} {m : MethodId} {args : Array Value} {below : List Frame} {meth : Method} {c : Code} {H : Heap} {locs : List Loc} {cells slots : Nat}
theorem q_runV16 {y : MethodName} {bytes cc : ByteArray} {maxL nL mc ms n index : Nat} {rt : Option FieldType} {ws : List Cond} {rm : Room} {Pc : Array Value → State → Prop} {Qc : Array Value → State → Outcome → State → Prop} {free : Addr → Prop} {Ts : List Cond} {own C : String} {b : Addr} {As rest : List Value} {g : JFrame}
    (S : CallFix p m c cc nL s args Ts own) (hM : Met l y ws rm Pc Qc mc ms free) (cw : CallW R s args own C index y bytes maxL rt ws rm mc ms n) (hlo : 16 + (maxL + 11) + rm.locals ≤ R.locals) (hp : PreV s H C b Pc As)
    (hg : g.method = m) (hn : As.length = n) (hsize : g.locals.size = nL) (hstack : g.stack = As.reverse ++ .ref b :: rest) (hW : 2 * g.monitorRoom + (rest.map fun v => v.category).sum ≤ 16) (hdg : decode cc g.pc = .ok (.invokevirtual index, 3)) (hf : cells + mc ≤ R.cells ∧ slots + ms ≤ R.slots) :
    va_Run p l e R s m args below meth c H locs cells slots mc ms g rest (Qc (Value.ref b :: As).toArray) (free) := by
  obtain ⟨⟨hrc, hrs, hfr, -, hws, hcw, hcode, hini, hy, hlen, hl⟩, hin, hse⟩ := cw
  have hK : Back l R p e below s args y 3 16 (PreOf R mc ms Pc) (PostOf Qc mc ms free) := back_of (bytes := bytes) (maxL := maxL) (ret := rt) hM hp.1 hrc hrs hfr hlo hws hcw (fun a' U hW => word_at hW (Or.inl (by first | rfl | simp [Cond.onTables, Cond.keeps, Cond.steady])) hini)
  obtain ⟨hx, hb, hml, ho, -⟩ := S
  obtain ⟨-, ⟨cellB, hcB, hoB, hclB⟩, hPc⟩ := hp
  intro T hT X
  obtain ⟨v, vm₁, ⟨U', l2, c2, s2⟩, hW₁, X', ⟨g', mk, t, L, e1, e2, hq, h1, hL, h2, h3⟩, st⟩ := callV X hx (C := C) (bytes := bytes) (maxL := maxL) (ret := rt) ho hl hin hse hcode hy hK (by rw [hT]; exact hcB) hoB hclB hg (hsize.trans hml.symm) (argsL := As) (rest := rest) (fun sig h => hn.trans (hlen sig h)) hstack hW (by rw [hb]; exact hdg)
    (fun vm₁ hW₁ => ⟨hf.1, hf.2, hPc (T.setVm vm₁) hT hW₁⟩)
  dsimp only [Pt.U, Pt.locs, Pt.cells, Pt.slots] at X' e1 e2 h1 h2 h3 st
  subst h1; subst h2; subst h3
  exact ⟨v, (T.setVm vm₁).calling g' mk (Value.ref b :: As).toArray, t, U', L, hT, X', hL, e1, e2, hq, st⟩
end
section
variable {E : q_E} {cc : ByteArray} {own : String} {mL' : Nat} {rt : Option FieldType} {R0 : Room} {X0 : Mm} {α : Type} {Qf : α → Mm → State → Prop} {k n pc : Nat} {lv : List (Nat × Value)} {X : Mm} {t : Option (α × Mm)}
theorem q_room16 {m : MethodId} {pc : Nat} {ls : Array Slot} {rest st : List Value} (h : (st.map fun v => v.category).sum ≤ 16) : 2 * (F0 m pc ls rest).monitorRoom + (st.map fun v => v.category).sum ≤ 16 := by
  show 2 * 0 + _ ≤ 16
  omega
theorem q_cVI16 (C : Cx E cc own mL' rt R0 X0) (st : List Value) {y : MethodName} {cy : ByteArray} {mLy : Nat} {rety : Option FieldType} {fr lo nA tg idx r : Nat} {As : Nat → List Value} {stk : List Value} {f : Mm → Option (Int32 × Mm)} {kf : Int32 → Mm → Option (α × Mm)} (M : q_Ct y cy mLy rety fr lo 0 0 q_eI (fun P => .ref (P + r) :: As P) f) (L : q_LV own idx y cy mLy rety nA tg) (hst : stk = (As (q_P E)).reverse ++ .ref (q_P E + r) :: st) (hA : ∀ P, (As P).length = nA)
    (hR : fr + 1 ≤ R0.frames ∧ 16 + (mLy + 11) + lo ≤ R0.locals) (hR2 : k + 0 ≤ R0.cells ∧ n + 0 ≤ R0.slots) (hcat : (st.map fun v => v.category).sum ≤ 16) (hd : decode cc pc = .ok (.invokevirtual idx, 3)) (hT : mT X r = tg) (g : ∀ (v : Int32) (X' : Mm), Sm E Qf k n (pc + 3) lv (.int v :: st) X' (kf v X')) : Sm E Qf k n pc lv stk X (bd (f X) kf) := by
  refine q_sz C ?_
  rintro p l e R s m args below meth c nL P D cs n0 s0 rfl r1 hr hn hs H locs ls hW hS hl hz
  obtain ⟨⟨hx, hb, hml, hown, hts⟩, hlk, hK, hz0, hXs, hnl, hrt, rfl, h0, h1⟩ := C
  obtain ⟨l1, l2, l3, l4, l5, l6, TT, NN, l7⟩ := L
  cases hf : f X with
  | none => rw [hf] at hr; cases hr
  | some rb =>
    rw [hf] at hr
    have hst' : stk = (As P).reverse ++ .ref (P + r) :: st := hst
    subst hst'
    have h13 := q_cl_lt l7
    have he := q_ws_ok hW hT (by omega)
    rw [q_cell_obj hT h13.1] at he
    refine q_back (rb := rb) (enc := q_eI) (rest := st) (q_runV16 (As := As P) (C := y.cls) ⟨hx, hb, hml, hown, hts⟩ (M l P D cs X rb hf) ⟨callB_of nA hts (q_gin l5) rfl rfl rfl (hts _ l4) (hts _ l1) l6 ⟨hR.1, Nat.le_trans (show 8 + (mLy + 11) + lo ≤ 16 + (mLy + 11) + lo by omega) hR.2⟩, hts _ l2, hts _ l3⟩ hR.2
      ⟨q_blind P D cs X _, va_recv hK hW.1 l7 he, fun U hU hWm => ⟨rfl, by rw [hU]; exact hW, va_K.moved hWm.alike hK, by rw [hU]; exact hz, hXs.warm hWm (fun a h1 h2 => by rw [hU]; exact hS.2.1 a h1 h2)⟩⟩ rfl (hA P) (hl.1.trans hnl |>.trans hnl.symm) rfl (q_room16 hcat) hd hR2) hS ?_
    intro H1 locs1 hW1 e1 e2 hS1
    exact g rb.1 rb.2 r1 hr (by omega) (by omega) H1 locs1 ls hW1 hS1 hl
end
