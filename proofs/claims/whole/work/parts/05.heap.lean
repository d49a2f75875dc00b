/-! rows that read and write the memory -/
def q_Fg (own : String) (idx t kf : Nat) : Prop := ∃ (C : String) (T : u_T) (N : Nat), q_cl[t]? = some (C, T, N) ∧ kf < N ∧ (∀ w ∈ u_ws C T N, w ∈ q_tbl) ∧ Cond.fieldLink own idx (T kf).1 (T kf).2.1 (T kf).2.2.1 ∈ q_tbl
def q_Fp (own : String) (idx t kf : Nat) (ty : FieldType) (fin : Bool) : Prop := ∃ (C : String) (T : u_T) (N : Nat) (ty0 : Nat → FieldType), q_cl[t]? = some (C, T, N) ∧ kf < N ∧ (∀ w ∈ u_ws C T N, w ∈ q_tbl) ∧ Cond.fieldLink own idx (T kf).1 (T kf).2.1 (T kf).2.2.1 ∈ q_tbl ∧
  (∀ j, j < N → parseFieldDescriptor (T j).2.2.1 = some (ty0 j)) ∧ (∀ a, a < N → ∀ b, b < N → a ≠ b → (T a).2.1 ≠ (T b).2.1) ∧ (T kf).2.2.2 = fin ∧ ty0 kf = ty ∧ (fin = true → (T kf).1 = own)
theorem q_Fg.of {own C : String} {idx t kf : Nat} {T : u_T} {N : Nat} (h1 : q_cl[t]? = some (C, T, N)) (h2 : kf < N) (h3 : ∀ w ∈ u_ws C T N, w ∈ q_tbl) {w : Cond} (i : Nat) (h4 : tables_1[i]? = some w) (h5 : goodWord w = true) (h6 : w = Cond.fieldLink own idx (T kf).1 (T kf).2.1 (T kf).2.2.1) : q_Fg own idx t kf :=
  ⟨C, T, N, h1, h2, h3, h6 ▸ q_tb i h4 h5⟩
theorem q_cl_nf : ∀ t, t < 13 → (q_cl[t]?).map (fun q => q.2.2) = some (q_nf t) := by decide +kernel
theorem q_cl_lt {t : Nat} {q : vw_C} (h : q_cl[t]? = some q) : t < 13 ∧ q.2.2 = q_nf t := by
  have h1 : t < 13 := (List.getElem?_eq_some_iff.mp h).1
  have h2 := q_cl_nf t h1
  rw [h] at h2
  exact ⟨h1, Option.some.inj h2⟩
theorem q_ce_obj {P : Nat} {cs : q_Cs} {t n : Nat} {fI : Nat → Int32} {fJ : Nat → Int64} {fR : Nat → Nat} (ht : t < 13) : q_ce P cs t n fI fJ fR = .inr (t, (List.range (q_nf t)).map (q_fv P fI fJ fR t)) := by
  unfold q_ce
  rw [if_neg (by omega), if_neg (by omega), if_neg (by omega), if_neg (by omega)]
theorem q_fv_at {P : Nat} {fI : Nat → Int32} {fJ : Nat → Int64} {fR : Nat → Nat} {t kf : Nat} (hk : kf < q_nf t) : ((List.range (q_nf t)).map (q_fv P fI fJ fR t))[kf]? = some (q_fv P fI fJ fR t kf) := by
  simp [hk]
theorem q_cell_obj {P : Nat} {cs : q_Cs} {X : Mm} {r t : Nat} (hT : mT X r = t) (ht : t < 13) : q_cell P cs X r = .inr (t, (List.range (q_nf t)).map (q_fv P (mI X r) (mJ X r) (mR X r) t)) := by
  unfold q_cell
  rw [hT]
  exact q_ce_obj ht
theorem q_set_range {N k : Nat} (f g : Nat → Value) (v : Value) (hk : g k = v) (ho : ∀ j, j ≠ k → g j = f j) : ((List.range N).map f).set k v = (List.range N).map g := by
  apply List.ext_getElem?
  intro j
  rw [List.getElem?_set]
  by_cases hj : k = j
  · subst hj
    by_cases hl : k < N
    · simp [hl, hk]
    · simp [hl]
  · rw [if_neg hj]
    by_cases hl : j < N
    · simp [hl, ho j (fun e => hj e.symm)]
    · simp [hl]
section
variable {E : q_E} {cc : ByteArray} {own : String} {mL : Nat} {ret : Option FieldType} {R0 : Room} {X0 : Mm} {α : Type} {Qf : α → Mm → State → Prop} {k n pc : Nat} {lv : List (Nat × Value)} {st : List Value} {X : Mm} {t : Option (α × Mm)}
theorem q_getV (C : Cx E cc own mL ret R0 X0) {i r tg kf : Nat} {v : Value} (F : q_Fg own i tg kf) (hv : mT X r = tg → q_fv (q_P E) (mI X r) (mJ X r) (mR X r) tg kf = v) (hd : decode cc pc = .ok (.getfield i, 3)) (hT : mT X r = tg) (g : Sm E Qf k n (pc + 3) lv (v :: st) X t) : Sm E Qf k n pc lv (.ref (q_P E + r) :: st) X t := by
  obtain ⟨p, l, e, R, s, m, args, below, meth, c, nL, P, D, cs, n0, s0⟩ := E
  obtain ⟨⟨hx, hb, hml, hown, hts⟩, -, hK, -⟩ := C
  obtain ⟨CC, TT, N, hc, hk, hin, hlk⟩ := F
  obtain ⟨h13, hN⟩ := q_cl_lt hc
  intro r1 hr hn hs H locs ls hW hS hl
  have he := q_ws_ok hW hT (by omega)
  rw [q_cell_obj hT h13] at he
  have hv' := hv hT
  refine va_get hx hb hts hin hown hK hW.1 (r - 1) he hc kf hk (hts _ hlk) (fun _ h => h) (v := v) ?_ hd (g r1 hr hn hs H locs ls hW hS hl)
  rw [q_fv_at (by rw [← hN]; exact hk)]
  exact congrArg some hv'
theorem q_getI (C : Cx E cc own mL ret R0 X0) {i r tg kf : Nat} (F : q_Fg own i tg kf) (hf : q_fc tg kf = 0) (hd : decode cc pc = .ok (.getfield i, 3)) (g : Sm E Qf k n (pc + 3) lv (.int (mI X r kf) :: st) X t) : Sm E Qf k n pc lv (.ref (q_P E + r) :: st) X (if mT X r = tg then t else none) :=
  q_chk fun hT => q_getV C F (fun _ => by unfold q_fv; rw [if_pos hf]) hd hT g
theorem q_getJ (C : Cx E cc own mL ret R0 X0) {i r tg kf : Nat} (F : q_Fg own i tg kf) (hf : q_fc tg kf = 1) (hd : decode cc pc = .ok (.getfield i, 3)) (g : Sm E Qf k n (pc + 3) lv (.long (mJ X r kf) :: st) X t) : Sm E Qf k n pc lv (.ref (q_P E + r) :: st) X (if mT X r = tg then t else none) :=
  q_chk fun hT => q_getV C F (fun _ => by unfold q_fv; rw [if_neg (by omega), if_pos hf]) hd hT g
theorem q_getR (C : Cx E cc own mL ret R0 X0) {i r tg kf : Nat} (F : q_Fg own i tg kf) (hf : q_fc tg kf = 2) (hd : decode cc pc = .ok (.getfield i, 3)) (g : Sm E Qf k n (pc + 3) lv (.ref (q_P E + mR X r kf) :: st) X t) : Sm E Qf k n pc lv (.ref (q_P E + r) :: st) X (if mT X r = tg ∧ mR X r kf ≠ 0 then t else none) :=
  q_chk fun h => q_getV C F (fun _ => by unfold q_fv q_rf; rw [if_neg (by omega), if_neg (by omega), if_neg h.2]; rfl) hd h.1 g
theorem q_putV (C : Cx E cc own mL ret R0 X0) {i r tg kf : Nat} {v : Value} {X' : Mm} {ty : FieldType} (F : q_Fp own i tg kf ty false) (hn : narrow ty v = v) (hfit : fits ty v = true) (hd : decode cc pc = .ok (.putfield i, 3)) (hT : mT X r = tg)
    (hN' : mN X' = mN X) (hS' : mS X' = mS X) (hT' : mT X' = mT X) (ho : ∀ P cs d, d ≠ r → q_cell P cs X' d = q_cell P cs X d) (hk' : ∀ P, tg < 13 → q_fv P (mI X' r) (mJ X' r) (mR X' r) tg kf = (if P = q_P E then v else q_fv P (mI X' r) (mJ X' r) (mR X' r) tg kf)) (ho' : ∀ P j, j ≠ kf → q_fv P (mI X' r) (mJ X' r) (mR X' r) tg j = q_fv P (mI X r) (mJ X r) (mR X r) tg j)
    (g : Sm E Qf k n (pc + 3) lv st X' t) : Sm E Qf k n pc lv (v :: .ref (q_P E + r) :: st) X t := by
  obtain ⟨p, l, e, R, s, m, args, below, meth, c, nL, P, D, cs, n0, s0⟩ := E
  obtain ⟨⟨hx, hb, hml, hown, hts⟩, -, hK, -⟩ := C
  obtain ⟨CC, TT, N, ty0, hc, hk, hin, hlk, hty, hnm, hfin, hty1, -⟩ := F
  obtain ⟨h13, hN⟩ := q_cl_lt hc
  intro r1 hr hn1 hs H locs ls hW hS hl
  have he := q_ws_ok hW hT (by omega)
  rw [q_cell_obj hT h13] at he
  refine va_put hx hb hts hin ty0 hty hnm hown hK hW.1 (q_ws_D P cs X) hS (r - 1) he hc kf hk (hts _ hlk) (fun _ h => h) hfin (ty := ty) (by rw [← hty1]; exact hty kf hk) hn hfit (by simp [← hN, hk]) hd (fun H1 locs1 hP1 hD1 hS1 => ?_)
  refine g r1 hr (hN'.trans hn1) (hS'.trans hs) H1 locs1 ls ?_ hS1 hl
  refine hW.put hT (by omega) hN' hT' ?_ (fun d hd => ho _ _ d hd) hP1
  rw [q_cell_obj (by rw [hT']; exact hT) h13]
  have e1 := hk' P h13
  rw [if_pos (show P = q_P (p, l, e, R, s, m, args, below, meth, c, nL, P, D, cs, n0, s0) from rfl)] at e1
  rw [q_set_range _ _ v e1 (fun j hj => ho' P j hj)]
theorem q_oI {X : Mm} {r kf : Nat} {v : Int32} (P : Nat) (cs : q_Cs) (d : Nat) (h : d ≠ r) : q_cell P cs (sI X r kf v) d = q_cell P cs X d := by
  unfold q_cell
  show q_ce P cs (mT X d) (mL X d) (q_u2 (mI X) r kf v d) (mJ X d) (mR X d) = _
  rw [q_u2, q_u1_n _ _ h]
theorem q_oJ {X : Mm} {r kf : Nat} {v : Int64} (P : Nat) (cs : q_Cs) (d : Nat) (h : d ≠ r) : q_cell P cs (sJ X r kf v) d = q_cell P cs X d := by
  unfold q_cell
  show q_ce P cs (mT X d) (mL X d) (mI X d) (q_u2 (mJ X) r kf v d) (mR X d) = _
  rw [q_u2, q_u1_n _ _ h]
theorem q_oR {X : Mm} {r kf : Nat} {v : Nat} (P : Nat) (cs : q_Cs) (d : Nat) (h : d ≠ r) : q_cell P cs (sR X r kf v) d = q_cell P cs X d := by
  unfold q_cell
  show q_ce P cs (mT X d) (mL X d) (mI X d) (mJ X d) (q_u2 (mR X) r kf v d) = _
  rw [q_u2, q_u1_n _ _ h]
theorem q_owI {X : Mm} {r : Nat} {f : Nat → Int32} (P : Nat) (cs : q_Cs) (d : Nat) (h : d ≠ r) : q_cell P cs (wI X r f) d = q_cell P cs X d := by
  unfold q_cell
  show q_ce P cs (mT X d) (mL X d) (q_u1 (mI X) r f d) (mJ X d) (mR X d) = _
  rw [q_u1_n _ _ h]
theorem q_owJ {X : Mm} {r : Nat} {f : Nat → Int64} (P : Nat) (cs : q_Cs) (d : Nat) (h : d ≠ r) : q_cell P cs (wJ X r f) d = q_cell P cs X d := by
  unfold q_cell
  show q_ce P cs (mT X d) (mL X d) (mI X d) (q_u1 (mJ X) r f d) (mR X d) = _
  rw [q_u1_n _ _ h]
theorem q_putI (C : Cx E cc own mL ret R0 X0) {i r tg kf : Nat} {v : Int32} (F : q_Fp own i tg kf .int false) (hf : q_fc tg kf = 0) (hd : decode cc pc = .ok (.putfield i, 3)) (g : Sm E Qf k n (pc + 3) lv st (sI X r kf v) t) : Sm E Qf k n pc lv (.int v :: .ref (q_P E + r) :: st) X (if mT X r = tg then t else none) :=
  q_chk fun hT => q_putV C (X' := sI X r kf v) F rfl rfl hd hT rfl rfl rfl q_oI
    (fun P _ => by
      have e : q_fv P (mI (sI X r kf v) r) (mJ (sI X r kf v) r) (mR (sI X r kf v) r) tg kf = .int v := by
        unfold q_fv; rw [if_pos hf]; show Value.int (q_u2 (mI X) r kf v r kf) = _; rw [q_u2, q_u1_s, q_u1_s]
      split
      · exact e
      · rfl)
    (fun P j hj => by
      unfold q_fv
      show (if q_fc tg j = 0 then Value.int (q_u2 (mI X) r kf v r j) else _) = _
      rw [q_u2, q_u1_s, q_u1_n _ _ hj]; rfl) g
theorem q_putJ (C : Cx E cc own mL ret R0 X0) {i r tg kf : Nat} {v : Int64} (F : q_Fp own i tg kf .long false) (hf : q_fc tg kf = 1) (hd : decode cc pc = .ok (.putfield i, 3)) (g : Sm E Qf k n (pc + 3) lv st (sJ X r kf v) t) : Sm E Qf k n pc lv (.long v :: .ref (q_P E + r) :: st) X (if mT X r = tg then t else none) :=
  q_chk fun hT => q_putV C (X' := sJ X r kf v) F rfl rfl hd hT rfl rfl rfl q_oJ
    (fun P _ => by
      have e : q_fv P (mI (sJ X r kf v) r) (mJ (sJ X r kf v) r) (mR (sJ X r kf v) r) tg kf = .long v := by
        unfold q_fv; rw [if_neg (by omega), if_pos hf]; show Value.long (q_u2 (mJ X) r kf v r kf) = _; rw [q_u2, q_u1_s, q_u1_s]
      split
      · exact e
      · rfl)
    (fun P j hj => by
      unfold q_fv
      show (if q_fc tg j = 0 then _ else if q_fc tg j = 1 then Value.long (q_u2 (mJ X) r kf v r j) else _) = _
      rw [q_u2, q_u1_s, q_u1_n _ _ hj]; rfl) g
theorem q_putR (C : Cx E cc own mL ret R0 X0) {i r v tg kf : Nat} {ty : FieldType} (F : q_Fp own i tg kf ty false) (hnar : ∀ a, narrow ty (.ref a) = .ref a) (hfit : ∀ a, fits ty (.ref a) = true) (hf : q_fc tg kf = 2) (hd : decode cc pc = .ok (.putfield i, 3)) (g : Sm E Qf k n (pc + 3) lv st (sR X r kf v) t) : Sm E Qf k n pc lv (.ref (q_P E + v) :: .ref (q_P E + r) :: st) X (if mT X r = tg ∧ v ≠ 0 then t else none) :=
  q_chk fun h => q_putV C (X' := sR X r kf v) F (hnar _) (hfit _) hd h.1 rfl rfl rfl q_oR
    (fun P _ => by
      split
      · rename_i hP
        unfold q_fv; rw [if_neg (by omega), if_neg (by omega)]; show va_rf (q_rf P (q_u2 (mR X) r kf v r kf)) = _; rw [q_u2, q_u1_s, q_u1_s, hP]; unfold q_rf; rw [if_neg h.2]; rfl
      · rfl)
    (fun P j hj => by
      unfold q_fv
      show (if q_fc tg j = 0 then _ else if q_fc tg j = 1 then _ else va_rf (q_rf P (q_u2 (mR X) r kf v r j))) = _
      rw [q_u2, q_u1_s, q_u1_n _ _ hj]; rfl) g
end
