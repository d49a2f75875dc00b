/-! the law's start: what the Statement gives, in the rows' form -/
theorem q_start_el : ∀ j, j < 113 → Cond.eq (.elem (.field (.string "RecordClaims$Tape" 68) "java/lang/String" "value" "[B") (.int (Int32.ofNat j))) (.int (q_kb.getD j 0)) ∈ flatC (Jvm.Cond.and given_1 narrow_1) := by decide +kernel
theorem q_start_Xs {args : Array Value} {s : State} {P : Nat} (hts : ∀ w ∈ lw_tbl, w.before args s = true) (hgv : (Jvm.Cond.and given_1 narrow_1).before args s = true) (hP : s.heap.size = P + 1) : q_Xs P s := by
  have hf := flat_of_before _ hgv
  have hA : ∀ a : Nat, a < s.heap.size → ¬ P < a := fun a h => by omega
  have ht : ∀ {w : Cond} (i : Nat), tables_1[i]? = some w → w.before args s = true := fun i h => hts _ (List.mem_append_right _ (List.mem_of_getElem? h))
  obtain ⟨aK, aV, hS, hev⟩ := vk_Sof (args := args) (s := s) (N := 1) (tm := fun _ => .string "RecordClaims$Tape" 68) (len := [q_kb.length]) (byt := [q_kb]) (A := fun q => P < q)
    (fun i hi => by have h0 : i = 0 := by omega
                    subst h0; decide)
    (fun i hi => hf _ (by decide +kernel)) (fun i hi => hf _ (by decide +kernel)) (fun i hi => hf _ (by decide +kernel))
    (fun i hi => by have h0 : i = 0 := by omega
                    subst h0; exact hf _ (by decide +kernel))
    (fun i hi j hj => by have h0 : i = 0 := by omega
                         subst h0; exact hf _ (q_start_el j hj))
    (fun i j hi hj hij => by omega) hA
  refine ⟨⟨aK, aV, hS, vk_R.of (ht 547 (by decide +kernel)) (hev 0 (by decide))⟩, ?_, ?_, ?_, ?_⟩
  · exact va_Zof (ht 557 (by decide +kernel)) (ht 14 (by decide +kernel)) (va_eqt (hf _ (by decide +kernel))) hA
  · exact va_AO.of (ht 439 (by decide +kernel))
  · exact fun a i y h hm => va_Nw.of rfl (hts _ hm)
  · exact va_Zqof (ht 573 (by decide +kernel)) (ht 16 (by decide +kernel)) (hf _ (by decide +kernel)) hA
theorem q_start_K {args : Array Value} {s : State} (hts : ∀ w ∈ q_tbl, w.before args s = true) (hlw : ∀ w ∈ lw_tbl, w.before args s = true) : ∃ (D : va_G) (cs : q_Cs), va_K D q_cl (q_tys cs) s := by
  have ht : ∀ {w : Cond} (i : Nat), tables_1[i]? = some w → w.before args s = true := fun i h => hlw _ (List.mem_append_right _ (List.mem_of_getElem? h))
  obtain ⟨c0, i0, k0⟩ := u_known (C := RX0) (T := TX0) (N := 5) (n := 5) hts inX0 (ht (w := .instantiable RX0 5) 66 (by decide +kernel))
  obtain ⟨c1, i1, k1⟩ := u_known (C := RX1) (T := TX1) (N := 5) (n := 5) hts inX1 (ht (w := .instantiable RX1 5) 370 (by decide +kernel))
  obtain ⟨c2, i2, k2⟩ := u_known (C := RX2) (T := TX2) (N := 20) (n := 20) hts inX2 (ht (w := .instantiable RX2 20) 94 (by decide +kernel))
  obtain ⟨c3, i3, k3⟩ := u_known (C := RX3) (T := TX3) (N := 17) (n := 17) hts inX3 (ht (w := .instantiable RX3 17) 265 (by decide +kernel))
  obtain ⟨c4, i4, k4⟩ := u_known (C := RX4) (T := TX4) (N := 3) (n := 3) hts inX4 (ht (w := .instantiable RX4 3) 433 (by decide +kernel))
  obtain ⟨c5, i5, k5⟩ := u_known (C := RX5) (T := TX5) (N := 1) (n := 1) hts inX5 (ht (w := .instantiable RX5 1) 468 (by decide +kernel))
  obtain ⟨c6, i6, k6⟩ := u_known (C := RX6) (T := TX6) (N := 6) (n := 6) hts inX6 (ht (w := .instantiable RX6 6) 339 (by decide +kernel))
  obtain ⟨c7, i7, k7⟩ := u_known (C := RX7) (T := TX7) (N := 2) (n := 2) hts inX7 (ht (w := .instantiable RX7 2) 453 (by decide +kernel))
  obtain ⟨c8, i8, k8⟩ := u_known (C := RX8) (T := TX8) (N := 9) (n := 9) hts inX8 (ht (w := .instantiable RX8 9) 211 (by decide +kernel))
  obtain ⟨c9, i9, k9⟩ := u_known (C := RX9) (T := TX9) (N := 8) (n := 8) hts inX9 (ht (w := .instantiable RX9 8) 29 (by decide +kernel))
  obtain ⟨c10, i10, k10⟩ := u_known (C := RX10) (T := TX10) (N := 10) (n := 10) hts inX10 (ht (w := .instantiable RX10 10) 217 (by decide +kernel))
  obtain ⟨c11, i11, k11⟩ := u_known (C := RX11) (T := TX11) (N := 8) (n := 8) hts inX11 (ht (w := .instantiable RX11 8) 21 (by decide +kernel))
  obtain ⟨c12, i12, k12⟩ := u_known (C := RX12) (T := TX12) (N := 35) (n := 35) hts inX12 (ht (w := .instantiable RX12 35) 1246 (by decide +kernel))
  obtain ⟨cI, kI, mI, a1, a2, a3⟩ := Cond.arrayClass_spec (ht (w := .arrayClass .int) 64 (by decide +kernel))
  obtain ⟨cJ, kJ, mJ, b1, b2, b3⟩ := Cond.arrayClass_spec (ht (w := .arrayClass .long) 92 (by decide +kernel))
  obtain ⟨cB, kB, mB, d1, d2, d3⟩ := Cond.arrayClass_spec (ht (w := .arrayClass .byte) 63 (by decide +kernel))
  obtain ⟨mS, cS, kS, e1, e2, e3, e4, e5⟩ := Cond.arrayOver_spec (ht (w := .arrayOver (.object "RecordClaims$State")) 439 (by decide +kernel))
  refine ⟨(fun t => match t with | 0 => c0 | 1 => c1 | 2 => c2 | 3 => c3 | 4 => c4 | 5 => c5 | 6 => c6 | 7 => c7 | 8 => c8 | 9 => c9 | 10 => c10 | 11 => c11 | _ => c12, fun t => match t with | 0 => i0 | 1 => i1 | 2 => i2 | 3 => i3 | 4 => i4 | 5 => i5 | 6 => i6 | 7 => i7 | 8 => i8 | 9 => i9 | 10 => i10 | 11 => i11 | _ => i12), (cI, cJ, cB, cS), ?_, ?_⟩
  · intro c q hq
    match c, hq with
    | 0, hq => cases hq; exact k0
    | 1, hq => cases hq; exact k1
    | 2, hq => cases hq; exact k2
    | 3, hq => cases hq; exact k3
    | 4, hq => cases hq; exact k4
    | 5, hq => cases hq; exact k5
    | 6, hq => cases hq; exact k6
    | 7, hq => cases hq; exact k7
    | 8, hq => cases hq; exact k8
    | 9, hq => cases hq; exact k9
    | 10, hq => cases hq; exact k10
    | 11, hq => cases hq; exact k11
    | 12, hq => cases hq; exact k12
    | c + 13, hq => simp [q_cl] at hq
  · intro k q hq
    match k, hq with
    | 0, hq => cases hq; exact ⟨fun n z => ⟨fun k h => (by cases h), kI, a2, mI, a3⟩, a1⟩
    | 1, hq => cases hq; exact ⟨fun n z => ⟨fun k h => (by cases h), kJ, b2, mJ, b3⟩, b1⟩
    | 2, hq => cases hq; exact ⟨fun n z => ⟨fun k h => (by cases h), kB, d2, mB, d3⟩, d1⟩
    | 3, hq => cases hq; exact ⟨fun n z => ⟨fun k h => (by cases h), kS, e3, mS, e4⟩, ⟨kS, mS, e3, e4, e1, e5⟩⟩
    | k + 4, hq => simp [q_tys] at hq
def lw_P (b : Addr) (xs : List Int32) (args : Array Value) (s : State) : Prop := args = #[.ref b] ∧ s.IntsAt b xs ∧ xs.length ≤ 4096 ∧ (Jvm.Cond.and given_1 narrow_1).before args s = true
/-- what holds at the law's entry -/
def lw_At (p : Program) (s : State) (m : MethodId) (meth : Method) (c : Code) (b L : Nat) (xs : Nat → Int32) : Prop :=
  p.tables.exec = Jvm.exec ∧ c.code = code ∧ meth.sig.returnType = ret ∧ c.maxLocals = 4 ∧ s.vm.findClass R_law = some m.cls ∧ (∀ w ∈ lw_tbl, w.before #[Value.ref b] s = true) ∧ va_X b L xs s s.heap ∧ b < s.heap.size ∧ meth.locks = false ∧ (Jvm.Cond.and given_1 narrow_1).before #[Value.ref b] s = true
/-- THE CLAIM, OF THE PLAIN FUNCTIONS ALONE, gives the walk of the law's body -/
theorem q_whole (pure : ∀ (L : Nat) (xs : Nat → Int32), L ≤ 4096 → ∃ (n : Nat) (X' : Mm), fL_law n xs L q_X0 = some ((), X')) {p : Program} {e : Env} {s : State} {m : MethodId} {below : List Frame} {meth : Method} {c : Code} (l : Launch) {b L : Nat} {xs : Nat → Int32} (hL : L ≤ 4096) (C0 : lw_At p s m meth c b L xs) : W p l e room_1 s m #[Value.ref b] below meth c s.heap [] 0 0 (lw_Z below #[Value.ref b] s) (entryFrame m ([Value.ref b] : List Value).toArray 4) := by
  obtain ⟨hx, hb, hr, hml, hown, hts, hX, hbl, hlocks, hgv⟩ := C0
  obtain ⟨n, X', hf⟩ := pure L xs hL
  have hq : ∀ w ∈ q_tbl, w.before #[Value.ref b] s = true := fun w hw => hts w (q_lw w hw)
  obtain ⟨D, cs, hK⟩ := q_start_K hq hts
  obtain ⟨P, hP⟩ : ∃ P : Nat, s.heap.size = P + 1 := ⟨s.heap.size - 1, by omega⟩
  have hXs := q_start_Xs hts hgv hP
  have C : Cx (p, l, e, room_1, s, m, #[Value.ref b], below, meth, c, 4, P, D, cs, 0, 0) code R_law 4 ret room_1 q_X0 :=
    ⟨⟨hx, hb, hml, hown, hq⟩, hlocks, hK, by rw [hP], hXs, rfl, hr, rfl, rfl, rfl⟩
  have hsc : q_sc (p, l, e, room_1, s, m, #[Value.ref b], below, meth, c, 4, P, D, cs, 0, 0) b L xs := ⟨hX, hbl, by omega⟩
  have g := sL_law C n xs L hsc q_X0
  rw [lg_entry_eq]
  exact g _ hf rfl rfl s.heap [] _ ⟨fun k q h => by simp [q_ws, mN, q_X0] at h, fun c h => absurd rfl h⟩ va_S.rf (lv_entry [Value.ref b] (Nat.le_of_ble_eq_true rfl))
