/-! rows that make cells; final fields; whole rows copied -/
theorem q_cell_nw {P : Nat} {cs : q_Cs} {X : Mm} {tg n c : Nat} (hc : c ≠ mN X + 1) : q_cell P cs (q_nw X tg n) c = q_cell P cs X c := by
  unfold q_cell
  show q_ce P cs (q_u1 (mT X) (mN X + 1) tg c) (q_u1 (mL X) (mN X + 1) n c) (q_u1 (mI X) (mN X + 1) (fun _ => 0) c) (q_u1 (mJ X) (mN X + 1) (fun _ => 0) c) (q_u1 (mR X) (mN X + 1) (fun _ => 0) c) = _
  rw [q_u1_n _ _ hc, q_u1_n _ _ hc, q_u1_n _ _ hc, q_u1_n _ _ hc, q_u1_n _ _ hc]
theorem q_cell_nw_s {P : Nat} {cs : q_Cs} {X : Mm} {tg n : Nat} : q_cell P cs (q_nw X tg n) (mN X + 1) = q_ce P cs tg n (fun _ => 0) (fun _ => 0) (fun _ => 0) := by
  unfold q_cell
  show q_ce P cs (q_u1 (mT X) (mN X + 1) tg (mN X + 1)) (q_u1 (mL X) (mN X + 1) n (mN X + 1)) (q_u1 (mI X) (mN X + 1) (fun _ => 0) (mN X + 1)) (q_u1 (mJ X) (mN X + 1) (fun _ => 0) (mN X + 1)) (q_u1 (mR X) (mN X + 1) (fun _ => 0) (mN X + 1)) = _
  rw [q_u1_s, q_u1_s, q_u1_s, q_u1_s, q_u1_s]
theorem q_ws_nw {P : Nat} {cs : q_Cs} {X : Mm} {tg n : Nat} : q_ws P cs (q_nw X tg n) = q_ws P cs X ++ [(P + (mN X + 1), q_ce P cs tg n (fun _ => 0) (fun _ => 0) (fun _ => 0))] := by
  unfold q_ws
  show (List.range (mN X + 1)).map _ = _
  rw [List.range_succ, List.map_append, List.map_cons, List.map_nil, q_cell_nw_s]
  congr 1
  apply List.map_congr_left
  intro i hi
  have hi2 := List.mem_range.mp hi
  rw [q_cell_nw (by omega)]
/-- a new cell's address is the next one -/
theorem q_newat {P : Nat} {D : va_G} {cs : q_Cs} {X : Mm} {H1 : Heap} {q : Nat} {e : va_E} (hP : va_P D q_cl (q_ws P cs X ++ [(q, e)]) H1) (hD : va_D (fun a => P < a) (q_ws P cs X ++ [(q, e)])) (hz : H1.size ≤ P + 1 + mN X + 1) : q = P + (mN X + 1) := by
  have hlen : (q_ws P cs X).length = mN X := by simp [q_ws]
  have h1 : (q_ws P cs X ++ [(q, e)])[mN X]? = some (q, e) := by
    rw [List.getElem?_append_right (by omega), hlen]
    simp
  have h2 := (hP _ _ h1).lt
  have h3 : P < q := hD.2 _ _ h1
  have h2' : q < H1.size := h2
  by_cases hq : q = P + (mN X + 1)
  · exact hq
  · have h4 : q - P ≤ mN X := by omega
    have h5 := q_ws_at (P := P) (cs := cs) (X := X) (c := q - P) (by omega) h4
    have h6 : (q_ws P cs X ++ [(q, e)])[q - P - 1]? = some (P + (q - P), q_cell P cs X (q - P)) := by
      rw [List.getElem?_append_left (by rw [hlen]; omega)]
      exact h5
    have h7 := hD.1 _ _ _ _ h6 h1 (by show P + (q - P) = q; omega)
    omega
theorem Wd.new {P : Nat} {D : va_G} {cs : q_Cs} {X : Mm} {H H1 : Heap} {tg n : Nat} (hW : Wd P D cs X H) (hP : va_P D q_cl (q_ws P cs X ++ [(P + (mN X + 1), q_ce P cs tg n (fun _ => 0) (fun _ => 0) (fun _ => 0))]) H1) : Wd P D cs (q_nw X tg n) H1 := by
  refine ⟨by rw [q_ws_nw]; exact hP, fun c hc => ?_⟩
  show 1 ≤ c ∧ c ≤ mN X + 1
  by_cases h : c = mN X + 1
  · omega
  · have h2 : q_u1 (mT X) (mN X + 1) tg c ≠ 99 := hc
    rw [q_u1_n _ _ h] at h2
    have h3 := hW.2 c h2
    omega
def q_LN (own : String) (idx tg N : Nat) : Prop := ∃ (C : String) (T : u_T) (ty : Nat → FieldType), q_cl[tg]? = some (C, T, N) ∧ (∀ w ∈ u_ws C T N, w ∈ q_tbl) ∧ (∀ k, k < N → parseFieldDescriptor (T k).2.2.1 = some (ty k)) ∧ Cond.classLink own idx C ∈ q_tbl ∧ Cond.instantiable C N ∈ q_tbl ∧ Cond.initialized C ∈ q_tbl ∧ ∀ (P j : Nat), j < N → defaultValue (ty j) = q_fv P (fun _ => 0) (fun _ => 0) (fun _ => 0) tg j
section
variable {E : q_E} {cc : ByteArray} {own : String} {mL' : Nat} {ret : Option FieldType} {R0 : Room} {X0 : Mm} {α : Type} {Qf : α → Mm → State → Prop} {k n pc : Nat} {lv : List (Nat × Value)} {st : List Value} {X : Mm} {t : Option (α × Mm)}
theorem q_new (C : Cx E cc own mL' ret R0 X0) {i tg N : Nat} (L : q_LN own i tg N) (hR : k + 1 ≤ R0.cells ∧ n + N ≤ R0.slots) (hd : decode cc pc = .ok (.new i, 3)) (g : Sm E Qf (k + 1) (n + N) (pc + 3) lv (.ref (q_P E + (mN X + 1)) :: st) (q_nw X tg N) t) : Sm E Qf k n pc lv st X t := by
  refine q_sz C ?_
  rintro p l e R s m args below meth c nL P D cs n0 s0 rfl r1 hr hn hs H locs ls hW hS hl hz
  obtain ⟨⟨hx, hb, hml, hown, hts⟩, hlk, hK, hz0, hXs, hnl, hrt, rfl, h0, h1⟩ := C
  obtain ⟨CC, TT, ty, hc, hin, hty, l1, l2, l3, hdef⟩ := L
  obtain ⟨h13, hN⟩ := q_cl_lt hc
  have hN' : N = q_nf tg := hN
  refine va_new (fs := (List.range (q_nf tg)).map (q_fv P (fun _ => 0) (fun _ => 0) (fun _ => 0) tg)) hx hb hts hin ty hty hown (hts _ l1) (hts _ l2) (hts _ l3) hK hW.1 (q_ws_D P cs X) hS (fun q hq => by show P < q; omega) hc (fun j hj => ?_) hR.1 hR.2 hd (fun q H1 hP1 hD1 hS1 => ?_)
  · rw [hdef P j hj]
    unfold vp_V
    rw [List.getD_eq_getElem?_getD, q_fv_at (by omega)]
    rfl
  · intro T hT Xs
    have hsz : H1.size ≤ s.heap.size + (k + 1) := by have h := Xs.heapSize; rw [hT] at h; exact h
    have hq := q_newat hP1 hD1 (by omega)
    subst hq
    refine g r1 hr ?_ ?_ H1 locs ls (hW.new (by rw [q_ce_obj h13]; exact hP1)) hS1 hl T hT Xs
    · show mN X + 1 = n0 + (k + 1); omega
    · show mS X + N = s0 + (n + N); omega
theorem q_newa (C : Cx E cc own mL' ret R0 X0) {tg N : Nat} {z : Int32} {atype : ArrayType} {ty : FieldType} (hty : newarray.typeOf atype = ty) (harr : Cond.arrayClass ty ∈ q_tbl)
    (hk : (ty = .int ∧ tg = 14) ∨ (ty = .long ∧ tg = 15) ∨ (ty = .byte ∧ tg = 16)) (hz : ¬ z < 0) (hN : z.toNatClampNeg = N) (hby : N * componentBytes ty ≤ 536870912) (hR : k + 1 ≤ R0.cells ∧ n + N ≤ R0.slots) (hd : decode cc pc = .ok (.newarray atype, 2)) (g : Sm E Qf (k + 1) (n + N) (pc + 2) lv (.ref (q_P E + (mN X + 1)) :: st) (q_nw X tg N) t) : Sm E Qf k n pc lv (.int z :: st) X t := by
  refine q_sz C ?_
  rintro p l e R s m args below meth c nL P D cs n0 s0 rfl r1 hr hn hs H locs ls hW hS hl hz2
  obtain ⟨⟨hx, hb, hml, hown, hts⟩, hlk, hK, hz0, hXs, hnl, hrt, rfl, h0, h1⟩ := C
  have ha : ∃ (a0 : vp_A), (∀ cA : ClassId, vp_cell cA a0 = arrV cA N (fun _ => defaultValue ty)) ∧ ∀ cA : ClassId, (U : Unit) → va_RA s cA ty → q_ce P cs tg N (fun _ => 0) (fun _ => 0) (fun _ => 0) = .inl (cA, a0) := by
    rcases hk with ⟨rfl, rfl⟩ | ⟨rfl, rfl⟩ | ⟨rfl, rfl⟩
    · exact ⟨(N, .inl (fun _ => 0)), fun _ => rfl, fun cA _ h => by
        have h2 := (hK.2 0 _ rfl).2
        have h3 : cs.1 = cA := Option.some.inj (Eq.trans (Eq.symm h2) h)
        subst h3; rfl⟩
    · exact ⟨(N, .inr (.inl (fun _ => 0))), fun _ => rfl, fun cA _ h => by
        have h2 := (hK.2 1 _ rfl).2
        have h3 : cs.2.1 = cA := Option.some.inj (Eq.trans (Eq.symm h2) h)
        subst h3; rfl⟩
    · exact ⟨(N, .inl (fun _ => 0)), fun _ => rfl, fun cA _ h => by
        have h2 := (hK.2 2 _ rfl).2
        have h3 : cs.2.2.1 = cA := Option.some.inj (Eq.trans (Eq.symm h2) h)
        subst h3; rfl⟩
  obtain ⟨a0, ha1, ha2⟩ := ha
  refine va_newa (atype := atype) hx hb (by rw [hty]; exact hts _ harr) hty hK hW.1 (q_ws_D P cs X) hS (fun q hq => by show P < q; omega) ha1 hz hN hby hR.1 hR.2 hd (fun q cA H1 hK1 hP1 hD1 hS1 => ?_)
  intro T hT Xs
  have hsz : H1.size ≤ s.heap.size + (k + 1) := by have h := Xs.heapSize; rw [hT] at h; exact h
  have hq := q_newat hP1 hD1 (by omega)
  subst hq
  have hRA : va_RA s cA ty := (hK1.2 4 (cA, ty) rfl).2
  refine g r1 hr ?_ ?_ H1 locs ls (hW.new (by rw [ha2 cA () hRA]; exact hP1)) hS1 hl T hT Xs
  · show mN X + 1 = n0 + (k + 1); omega
  · show mS X + N = s0 + (n + N); omega
theorem q_newq (C : Cx E cc own mL' ret R0 X0) {i N : Nat} {z : Int32} (hcl : Cond.classLink own i "RecordClaims$State" ∈ q_tbl) (hz : ¬ z < 0) (hN : z.toNatClampNeg = N) (hby : N * 4 ≤ 536870912) (hR : k + 1 ≤ R0.cells ∧ n + N ≤ R0.slots) (hd : decode cc pc = .ok (.anewarray i, 3)) (g : Sm E Qf (k + 1) (n + N) (pc + 3) lv (.ref (q_P E + (mN X + 1)) :: st) (q_nw X 17 N) t) : Sm E Qf k n pc lv (.int z :: st) X t := by
  refine q_sz C ?_
  rintro p l e R s m args below meth c nL P D cs n0 s0 rfl r1 hr hn hs H locs ls hW hS hl hz2
  obtain ⟨⟨hx, hb, hml, hown, hts⟩, hlk, hK, hz0, hXs, hnl, hrt, rfl, h0, h1⟩ := C
  refine va_newq hx hb hown (hts _ hcl) hXs.2.2.1 hK hW.1 (q_ws_D P cs X) hS (fun q hq => by show P < q; omega) hz hN hby hR.1 hR.2 hd (fun q cA H1 hK1 hP1 hD1 hS1 => ?_)
  intro T hT Xs
  have hsz : H1.size ≤ s.heap.size + (k + 1) := by have h := Xs.heapSize; rw [hT] at h; exact h
  have hq := q_newat hP1 hD1 (by omega)
  subst hq
  obtain ⟨_, _, -, -, -, hf1⟩ := (hK1.2 4 (cA, .object "RecordClaims$State") rfl).2
  obtain ⟨_, _, -, -, -, hf2⟩ := (hK.2 3 (cs.2.2.2, .object "RecordClaims$State") rfl).2
  have h3 : cs.2.2.2 = cA := Option.some.inj (Eq.trans (Eq.symm hf2) hf1)
  subst h3
  refine g r1 hr ?_ ?_ H1 locs ls (hW.new hP1) hS1 hl T hT Xs
  · show mN X + 1 = n0 + (k + 1); omega
  · show mS X + N = s0 + (n + N); omega
theorem q_aast (C : Cx E cc own mL' ret R0 X0) {r v : Nat} {i : Int32} (hd : decode cc pc = .ok (.aastore, 1)) (g : Sm E Qf k n (pc + 1) lv st (sR X r i.toNatClampNeg v) t) : Sm E Qf k n pc lv (.ref (q_P E + v) :: .int i :: .ref (q_P E + r) :: st) X (if q_in X r 17 i ∧ mT X v = 8 then t else none) := by
  refine q_chk fun hi => ?_
  obtain ⟨p, l, e, R, s, m, args, below, meth, c, nL, P, D, cs, n0, s0⟩ := E
  obtain ⟨⟨hx, hb, hml, hown, hts⟩, -, hK, -⟩ := C
  intro r1 hr hn hs H locs ls hW hS hl
  have he := q_ws_ok hW hi.1.1 (by omega)
  rw [q_cell_r hi.1.1] at he
  have hv := q_ws_ok hW hi.2 (by omega)
  have hv1 := (hW.2 v (by omega)).1
  rw [q_cell_obj hi.2 (by omega)] at hv
  refine va_astq hx hb hK hW.1 (q_ws_D P cs X) hS (r - 1) 3 (v - 1) 8 (r := (RX8, TX8, 9)) he rfl hv rfl (q_vpin hi.1) hd (fun H1 locs1 hP1 hD1 hS1 => g r1 hr hn hs H1 locs1 ls (hW.put hi.1.1 (by omega) rfl rfl ?_ (fun d hd => q_oR P cs d hd) hP1) hS1 hl)
  have hfun : (fun k => q_rf P (mR (sR X r i.toNatClampNeg v) r k)) = va_up (fun k => q_rf P (mR X r k)) i.toNatClampNeg (some (P + v)) := by
    funext j
    show q_rf P (q_u2 (mR X) r i.toNatClampNeg v r j) = va_up (fun k => q_rf P (mR X r k)) i.toNatClampNeg (some (P + v)) j
    rw [q_u2, q_u1_s]
    unfold q_u1 va_up q_rf
    by_cases hj : j = i.toNatClampNeg
    · rw [if_pos hj, if_pos hj, if_neg (by omega)]
    · rw [if_neg hj, if_neg hj]
  rw [q_cell_r (X := sR X r i.toNatClampNeg v) hi.1.1, hfun]
  rfl
theorem q_putF (C : Cx E cc own mL' ret R0 X0) {i r v tg kf : Nat} {ty : FieldType} (F : q_Fp own i tg kf ty true) (hin2 : q_mn E = "<init>") (hnar : ∀ a, narrow ty (.ref a) = .ref a) (hfit : ∀ a, fits ty (.ref a) = true) (hf : q_fc tg kf = 2) (hd : decode cc pc = .ok (.putfield i, 3)) (g : Sm E Qf k n (pc + 3) lv st (sR X r kf v) t) : Sm E Qf k n pc lv (.ref (q_P E + v) :: .ref (q_P E + r) :: st) X (if mT X r = tg ∧ v ≠ 0 then t else none) := by
  refine q_chk fun hi => ?_
  obtain ⟨p, l, e, R, s, m, args, below, meth, c, nL, P, D, cs, n0, s0⟩ := E
  obtain ⟨⟨hx, hb, hml, hown, hts⟩, -, hK, -⟩ := C
  obtain ⟨CC, TT, N, ty0, hc, hk, hin, hlk, hty, hnm, hfin, hty1, hdecl⟩ := F
  obtain ⟨h13, hN⟩ := q_cl_lt hc
  have hN' : N = q_nf tg := hN
  intro r1 hr hn1 hs H locs ls hW hS hl
  have he := q_ws_ok hW hi.1 (by omega)
  rw [q_cell_obj hi.1 h13] at he
  refine va_putF hx hb hts hin ty0 hty hnm hown hK hW.1 (q_ws_D P cs X) hS (r - 1) he hc kf hk (hts _ hlk) (fun _ h => h) hfin hin2 (hdecl rfl) (ty := ty) (by rw [← hty1]; exact hty kf hk) (hnar _) (hfit _) (by simp; omega) hd (fun H1 locs1 hP1 hD1 hS1 => ?_)
  refine g r1 hr hn1 hs H1 locs1 ls ?_ hS1 hl
  refine hW.put hi.1 (by omega) rfl rfl ?_ (fun d hd => q_oR P cs d hd) hP1
  rw [q_cell_obj (X := sR X r kf v) hi.1 h13]
  have e1 : q_fv P (mI X r) (mJ X r) (q_u2 (mR X) r kf v r) tg kf = .ref (P + v) := by
    unfold q_fv
    rw [if_neg (by omega), if_neg (by omega), q_u2, q_u1_s, q_u1_s]
    unfold q_rf
    rw [if_neg hi.2]
    rfl
  have e2 : ∀ j, j ≠ kf → q_fv P (mI X r) (mJ X r) (q_u2 (mR X) r kf v r) tg j = q_fv P (mI X r) (mJ X r) (mR X r) tg j := fun j hj => by
    unfold q_fv
    rw [q_u2, q_u1_s, q_u1_n _ _ hj]
  exact congrArg (fun z => (Sum.inr (tg, z) : va_E)) (q_set_range (N := q_nf tg) _ _ _ e1 e2).symm
end
