/-! rows over arrays -/
abbrev q_in (X : Mm) (r tg : Nat) (i : Int32) : Prop := mT X r = tg ∧ 0 ≤ i.toInt ∧ i.toInt < (mL X r : Int)
theorem q_vpin {X : Mm} {r tg : Nat} {i : Int32} (h : q_in X r tg i) : vp_in i (mL X r) := vp_in_iff.mpr ⟨h.2.1, h.2.2⟩
theorem q_cell_a {P : Nat} {cs : q_Cs} {X : Mm} {r : Nat} (hT : mT X r = 14) : q_cell P cs X r = .inl (cs.1, mL X r, .inl (mI X r)) := by
  unfold q_cell q_ce; rw [if_pos hT]
theorem q_cell_l {P : Nat} {cs : q_Cs} {X : Mm} {r : Nat} (hT : mT X r = 15) : q_cell P cs X r = .inl (cs.2.1, mL X r, .inr (.inl (mJ X r))) := by
  unfold q_cell q_ce; rw [if_neg (by omega), if_pos hT]
theorem q_cell_b {P : Nat} {cs : q_Cs} {X : Mm} {r : Nat} (hT : mT X r = 16) : q_cell P cs X r = .inl (cs.2.2.1, mL X r, .inl (mI X r)) := by
  unfold q_cell q_ce; rw [if_neg (by omega), if_neg (by omega), if_pos hT]
theorem q_cell_r {P : Nat} {cs : q_Cs} {X : Mm} {r : Nat} (hT : mT X r = 17) : q_cell P cs X r = .inl (cs.2.2.2, mL X r, .inr (.inr (.inr (.inr (fun k => q_rf P (mR X r k)))))) := by
  unfold q_cell q_ce; rw [if_neg (by omega), if_neg (by omega), if_neg (by omega), if_pos hT]
theorem q_upd {f : Nat → Int32} {k : Nat} {v : Int32} : upd f k v = q_u1 f k v := by
  funext j
  simp [upd, q_u1]
theorem q_updL {f : Nat → Int64} {k : Nat} {v : Int64} : vp_updL f k v = q_u1 f k v := rfl
section
variable {E : q_E} {cc : ByteArray} {own : String} {mL' : Nat} {ret : Option FieldType} {R0 : Room} {X0 : Mm} {α : Type} {Qf : α → Mm → State → Prop} {k n pc : Nat} {lv : List (Nat × Value)} {st : List Value} {X : Mm} {t : Option (α × Mm)}
theorem q_iald (C : Cx E cc own mL' ret R0 X0) {r : Nat} {i : Int32} (hd : decode cc pc = .ok (.iaload, 1)) (g : Sm E Qf k n (pc + 1) lv (.int (mI X r i.toNatClampNeg) :: st) X t) : Sm E Qf k n pc lv (.int i :: .ref (q_P E + r) :: st) X (if q_in X r 14 i then t else none) := by
  refine q_chk fun hi => ?_
  obtain ⟨p, l, e, R, s, m, args, below, meth, c, nL, P, D, cs, n0, s0⟩ := E
  obtain ⟨⟨hx, hb, hml, hown, hts⟩, -, hK, -⟩ := C
  intro r1 hr hn hs H locs ls hW hS hl
  have he := q_ws_ok hW hi.1 (by omega)
  rw [q_cell_a hi.1] at he
  exact va_iald hx hb hK hW.1 (r - 1) 0 he rfl (q_vpin hi) hd (g r1 hr hn hs H locs ls hW hS hl)
theorem q_lald (C : Cx E cc own mL' ret R0 X0) {r : Nat} {i : Int32} (hd : decode cc pc = .ok (.laload, 1)) (g : Sm E Qf k n (pc + 1) lv (.long (mJ X r i.toNatClampNeg) :: st) X t) : Sm E Qf k n pc lv (.int i :: .ref (q_P E + r) :: st) X (if q_in X r 15 i then t else none) := by
  refine q_chk fun hi => ?_
  obtain ⟨p, l, e, R, s, m, args, below, meth, c, nL, P, D, cs, n0, s0⟩ := E
  obtain ⟨⟨hx, hb, hml, hown, hts⟩, -, hK, -⟩ := C
  intro r1 hr hn hs H locs ls hW hS hl
  have he := q_ws_ok hW hi.1 (by omega)
  rw [q_cell_l hi.1] at he
  exact va_lald hx hb hK hW.1 (r - 1) 1 he rfl (q_vpin hi) hd (g r1 hr hn hs H locs ls hW hS hl)
theorem q_bald (C : Cx E cc own mL' ret R0 X0) {r : Nat} {i : Int32} (hd : decode cc pc = .ok (.baload, 1)) (g : Sm E Qf k n (pc + 1) lv (.int (mI X r i.toNatClampNeg) :: st) X t) : Sm E Qf k n pc lv (.int i :: .ref (q_P E + r) :: st) X (if q_in X r 16 i then t else none) := by
  refine q_chk fun hi => ?_
  obtain ⟨p, l, e, R, s, m, args, below, meth, c, nL, P, D, cs, n0, s0⟩ := E
  obtain ⟨⟨hx, hb, hml, hown, hts⟩, -, hK, -⟩ := C
  intro r1 hr hn hs H locs ls hW hS hl
  have he := q_ws_ok hW hi.1 (by omega)
  rw [q_cell_b hi.1] at he
  exact va_bald hx hb hK hW.1 (r - 1) 2 he rfl (q_vpin hi) hd (g r1 hr hn hs H locs ls hW hS hl)
theorem q_aald (C : Cx E cc own mL' ret R0 X0) {r : Nat} {i : Int32} (hd : decode cc pc = .ok (.aaload, 1)) (g : Sm E Qf k n (pc + 1) lv (.ref (q_P E + mR X r i.toNatClampNeg) :: st) X t) : Sm E Qf k n pc lv (.int i :: .ref (q_P E + r) :: st) X (if q_in X r 17 i ∧ mR X r i.toNatClampNeg ≠ 0 then t else none) := by
  refine q_chk fun hi => ?_
  obtain ⟨p, l, e, R, s, m, args, below, meth, c, nL, P, D, cs, n0, s0⟩ := E
  obtain ⟨⟨hx, hb, hml, hown, hts⟩, -, hK, -⟩ := C
  intro r1 hr hn hs H locs ls hW hS hl
  have he := q_ws_ok hW hi.1.1 (by omega)
  rw [q_cell_r hi.1.1] at he
  have h2 := g r1 hr hn hs H locs ls hW hS hl
  have hev : va_rf (q_rf P (mR X r i.toNatClampNeg)) = .ref (P + mR X r i.toNatClampNeg) := by unfold q_rf; rw [if_neg hi.2]; rfl
  refine va_aldq (C := "RecordClaims$State") hx hb hK hW.1 (r - 1) 3 he rfl (q_vpin hi.1) hd ?_
  show W p l e R s m args below meth c H locs k n (Qf r1.1 r1.2) (F0 m (pc + 1) ls (va_rf (q_rf P (mR X r i.toNatClampNeg)) :: st))
  rw [hev]
  exact h2
theorem q_alen (C : Cx E cc own mL' ret R0 X0) {r : Nat} (hd : decode cc pc = .ok (.arraylength, 1)) (g : Sm E Qf k n (pc + 1) lv (.int (Int32.ofNat (mL X r)) :: st) X t) : Sm E Qf k n pc lv (.ref (q_P E + r) :: st) X (if mT X r = 14 then t else none) := by
  refine q_chk fun hi => ?_
  obtain ⟨p, l, e, R, s, m, args, below, meth, c, nL, P, D, cs, n0, s0⟩ := E
  obtain ⟨⟨hx, hb, hml, hown, hts⟩, -, hK, -⟩ := C
  intro r1 hr hn hs H locs ls hW hS hl
  have he := q_ws_ok hW hi (by omega)
  rw [q_cell_a hi] at he
  exact va_alen hx hb hK hW.1 (r - 1) 0 he rfl rfl hd (g r1 hr hn hs H locs ls hW hS hl)
theorem q_iast (C : Cx E cc own mL' ret R0 X0) {r : Nat} {i x : Int32} (hd : decode cc pc = .ok (.iastore, 1)) (g : Sm E Qf k n (pc + 1) lv st (sI X r i.toNatClampNeg x) t) : Sm E Qf k n pc lv (.int x :: .int i :: .ref (q_P E + r) :: st) X (if q_in X r 14 i then t else none) := by
  refine q_chk fun hi => ?_
  obtain ⟨p, l, e, R, s, m, args, below, meth, c, nL, P, D, cs, n0, s0⟩ := E
  obtain ⟨⟨hx, hb, hml, hown, hts⟩, -, hK, -⟩ := C
  intro r1 hr hn hs H locs ls hW hS hl
  have he := q_ws_ok hW hi.1 (by omega)
  rw [q_cell_a hi.1] at he
  refine va_iast hx hb hK hW.1 (q_ws_D P cs X) hS (r - 1) 0 he rfl (q_vpin hi) hd (fun H1 locs1 hP1 hD1 hS1 => g r1 hr hn hs H1 locs1 ls (hW.put hi.1 (by omega) rfl rfl ?_ (fun d hd => q_oI P cs d hd) hP1) hS1 hl)
  rw [q_cell_a (X := sI X r i.toNatClampNeg x) hi.1, q_upd]
  show (Sum.inl (cs.1, mL X r, .inl (q_u2 (mI X) r i.toNatClampNeg x r)) : va_E) = _
  rw [q_u2, q_u1_s]
theorem q_last (C : Cx E cc own mL' ret R0 X0) {r : Nat} {i : Int32} {x : Int64} (hd : decode cc pc = .ok (.lastore, 1)) (g : Sm E Qf k n (pc + 1) lv st (sJ X r i.toNatClampNeg x) t) : Sm E Qf k n pc lv (.long x :: .int i :: .ref (q_P E + r) :: st) X (if q_in X r 15 i then t else none) := by
  refine q_chk fun hi => ?_
  obtain ⟨p, l, e, R, s, m, args, below, meth, c, nL, P, D, cs, n0, s0⟩ := E
  obtain ⟨⟨hx, hb, hml, hown, hts⟩, -, hK, -⟩ := C
  intro r1 hr hn hs H locs ls hW hS hl
  have he := q_ws_ok hW hi.1 (by omega)
  rw [q_cell_l hi.1] at he
  refine va_last hx hb hK hW.1 (q_ws_D P cs X) hS (r - 1) 1 he rfl (q_vpin hi) hd (fun H1 locs1 hP1 hD1 hS1 => g r1 hr hn hs H1 locs1 ls (hW.put hi.1 (by omega) rfl rfl ?_ (fun d hd => q_oJ P cs d hd) hP1) hS1 hl)
  rw [q_cell_l (X := sJ X r i.toNatClampNeg x) hi.1, q_updL]
  show (Sum.inl (cs.2.1, mL X r, .inr (.inl (q_u2 (mJ X) r i.toNatClampNeg x r))) : va_E) = _
  rw [q_u2, q_u1_s]
theorem q_bast (C : Cx E cc own mL' ret R0 X0) {r : Nat} {i x : Int32} (hd : decode cc pc = .ok (.bastore, 1)) (g : Sm E Qf k n (pc + 1) lv st (sI X r i.toNatClampNeg x.toInt8.toInt32) t) : Sm E Qf k n pc lv (.int x :: .int i :: .ref (q_P E + r) :: st) X (if q_in X r 16 i then t else none) := by
  refine q_chk fun hi => ?_
  obtain ⟨p, l, e, R, s, m, args, below, meth, c, nL, P, D, cs, n0, s0⟩ := E
  obtain ⟨⟨hx, hb, hml, hown, hts⟩, -, hK, -⟩ := C
  intro r1 hr hn hs H locs ls hW hS hl
  have he := q_ws_ok hW hi.1 (by omega)
  rw [q_cell_b hi.1] at he
  refine va_bast hx hb hK hW.1 (q_ws_D P cs X) hS (r - 1) 2 he rfl (q_vpin hi) hd (fun H1 locs1 hP1 hD1 hS1 => g r1 hr hn hs H1 locs1 ls (hW.put hi.1 (by omega) rfl rfl ?_ (fun d hd => q_oI P cs d hd) hP1) hS1 hl)
  rw [q_cell_b (X := sI X r i.toNatClampNeg x.toInt8.toInt32) hi.1, q_upd, vp_nar_byte]
  show (Sum.inl (cs.2.2.1, mL X r, .inl (q_u2 (mI X) r i.toNatClampNeg x.toInt8.toInt32 r)) : va_E) = _
  rw [q_u2, q_u1_s]
end
