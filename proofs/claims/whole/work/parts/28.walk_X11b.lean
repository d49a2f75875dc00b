/-! RecordClaims.waits(I)I -/
abbrev cX11_waits : ByteArray := prog_1_method_31_code
def yX11_waits : MethodName := ⟨RX11, "waits", "(I)I"⟩
theorem dX11_waits_0 : decode cX11_waits 0 = .ok (.aload_n 0, 1) := by decide +kernel
theorem dX11_waits_1 : decode cX11_waits 1 = .ok (.getfield 36, 3) := by decide +kernel
theorem dX11_waits_4 : decode cX11_waits 4 = .ok (.getfield 201, 3) := by decide +kernel
theorem dX11_waits_7 : decode cX11_waits 7 = .ok (.iload_n 1, 1) := by decide +kernel
theorem dX11_waits_8 : decode cX11_waits 8 = .ok (.invokevirtual 205, 3) := by decide +kernel
theorem dX11_waits_11 : decode cX11_waits 11 = .ok (.ifCond .ne 6, 3) := by decide +kernel
theorem dX11_waits_14 : decode cX11_waits 14 = .ok (.bipush (-2), 2) := by decide +kernel
theorem dX11_waits_16 : decode cX11_waits 16 = .ok (.ireturn, 1) := by decide +kernel
theorem dX11_waits_17 : decode cX11_waits 17 = .ok (.aload_n 0, 1) := by decide +kernel
theorem dX11_waits_18 : decode cX11_waits 18 = .ok (.getfield 36, 3) := by decide +kernel
theorem dX11_waits_21 : decode cX11_waits 21 = .ok (.getfield 201, 3) := by decide +kernel
theorem dX11_waits_24 : decode cX11_waits 24 = .ok (.getfield 266, 3) := by decide +kernel
theorem dX11_waits_27 : decode cX11_waits 27 = .ok (.iload_n 1, 1) := by decide +kernel
theorem dX11_waits_28 : decode cX11_waits 28 = .ok (.iaload, 1) := by decide +kernel
theorem dX11_waits_29 : decode cX11_waits 29 = .ok (.ifCond .eq 5, 3) := by decide +kernel
theorem dX11_waits_32 : decode cX11_waits 32 = .ok (.iconst (-1), 1) := by decide +kernel
theorem dX11_waits_33 : decode cX11_waits 33 = .ok (.ireturn, 1) := by decide +kernel
theorem dX11_waits_34 : decode cX11_waits 34 = .ok (.aload_n 0, 1) := by decide +kernel
theorem dX11_waits_35 : decode cX11_waits 35 = .ok (.iconst 0, 1) := by decide +kernel
theorem dX11_waits_36 : decode cX11_waits 36 = .ok (.invokevirtual 251, 3) := by decide +kernel
theorem dX11_waits_39 : decode cX11_waits 39 = .ok (.astore_n 2, 1) := by decide +kernel
theorem dX11_waits_40 : decode cX11_waits 40 = .ok (.iconst 1, 1) := by decide +kernel
theorem dX11_waits_41 : decode cX11_waits 41 = .ok (.istore_n 3, 1) := by decide +kernel
theorem dX11_waits_42 : decode cX11_waits 42 = .ok (.iload_n 3, 1) := by decide +kernel
theorem dX11_waits_43 : decode cX11_waits 43 = .ok (.bipush 99, 2) := by decide +kernel
theorem dX11_waits_45 : decode cX11_waits 45 = .ok (.if_icmp .gt 39, 3) := by decide +kernel
theorem dX11_waits_48 : decode cX11_waits 48 = .ok (.aload_n 2, 1) := by decide +kernel
theorem dX11_waits_49 : decode cX11_waits 49 = .ok (.getfield 255, 3) := by decide +kernel
theorem dX11_waits_52 : decode cX11_waits 52 = .ok (.sipush 999, 3) := by decide +kernel
theorem dX11_waits_55 : decode cX11_waits 55 = .ok (.if_icmp .ge 29, 3) := by decide +kernel
theorem dX11_waits_58 : decode cX11_waits 58 = .ok (.aload_n 2, 1) := by decide +kernel
theorem dX11_waits_59 : decode cX11_waits 59 = .ok (.iconst 1, 1) := by decide +kernel
theorem dX11_waits_60 : decode cX11_waits 60 = .ok (.invokevirtual 263, 3) := by decide +kernel
theorem dX11_waits_63 : decode cX11_waits 63 = .ok (.pop, 1) := by decide +kernel
theorem dX11_waits_64 : decode cX11_waits 64 = .ok (.aload_n 2, 1) := by decide +kernel
theorem dX11_waits_65 : decode cX11_waits 65 = .ok (.getfield 201, 3) := by decide +kernel
theorem dX11_waits_68 : decode cX11_waits 68 = .ok (.getfield 266, 3) := by decide +kernel
theorem dX11_waits_71 : decode cX11_waits 71 = .ok (.iload_n 1, 1) := by decide +kernel
theorem dX11_waits_72 : decode cX11_waits 72 = .ok (.iaload, 1) := by decide +kernel
theorem dX11_waits_73 : decode cX11_waits 73 = .ok (.ifCond .eq 5, 3) := by decide +kernel
theorem dX11_waits_76 : decode cX11_waits 76 = .ok (.iload_n 3, 1) := by decide +kernel
theorem dX11_waits_77 : decode cX11_waits 77 = .ok (.ireturn, 1) := by decide +kernel
theorem dX11_waits_78 : decode cX11_waits 78 = .ok (.iinc 3 1, 3) := by decide +kernel
theorem dX11_waits_81 : decode cX11_waits 81 = .ok (.goto (-39), 3) := by decide +kernel
theorem dX11_waits_84 : decode cX11_waits 84 = .ok (.iconst (-1), 1) := by decide +kernel
theorem dX11_waits_85 : decode cX11_waits 85 = .ok (.ireturn, 1) := by decide +kernel
theorem fgX11_266 : q_Fg RX11 266 10 7 := q_Fg.of (C := RX10) (T := TX10) (N := 10) rfl (by decide) inX10 238 (by decide +kernel) rfl rfl
def fX11_waits_L84 (n : Nat) (X : Mm) : Option (Int32 × Mm) :=
some ((-1 : Int32), X)
def fX11_waits_L42 (n : Nat) : Nat → Int32 → Nat → Int32 → Mm → Option (Int32 × Mm)
| 0, _, _, _, _ => none
| j + 1, v1, r2, v3, X =>
if (99 : Int32) < v3 then (
fX11_waits_L84 n X
) else (
if mT X r2 = 8 then
if (999 : Int32) ≤ (mI X r2 8) then (
fX11_waits_L84 n X
) else (
bd (fX8_passDays n r2 (1 : Int32) X) fun w19 X60_20 =>
if mT X60_20 r2 = 8 then
if mR X60_20 r2 2 ≠ 0 then
if mT X60_20 (mR X60_20 r2 2) = 10 then
if mR X60_20 (mR X60_20 r2 2) 7 ≠ 0 then
if mT X60_20 (mR X60_20 (mR X60_20 r2 2) 7) = 14 then
if q_b X60_20 (mR X60_20 (mR X60_20 r2 2) 7) v1 then
if (mI X60_20 (mR X60_20 (mR X60_20 r2 2) 7) (v1).toNatClampNeg) = 0 then (
nm (v3 + (1 : Int32)) fun v3_78 =>
(fX11_waits_L42 n j) v1 r2 v3_78 X60_20
) else (
some (v3, X60_20)
)
else none
else none
else none
else none
else none
else none
)
else none
)
def fX11_waits (n : Nat) (r0 : Nat) (v1 : Int32) (X : Mm) : Option (Int32 × Mm) :=
if mT X r0 = 11 then
if mR X r0 4 ≠ 0 then
if mT X (mR X r0 4) = 8 then
if mR X (mR X r0 4) 2 ≠ 0 then
if mT X (mR X (mR X r0 4) 2) = 10 then
bd (fX10_isThere ((mR X (mR X r0 4) 2)) v1 X) fun w5 X8_6 =>
if w5 = 0 then (
some ((-2 : Int32), X8_6)
) else (
if mT X8_6 r0 = 11 then
if mR X8_6 r0 4 ≠ 0 then
if mT X8_6 (mR X8_6 r0 4) = 8 then
if mR X8_6 (mR X8_6 r0 4) 2 ≠ 0 then
if mT X8_6 (mR X8_6 (mR X8_6 r0 4) 2) = 10 then
if mR X8_6 (mR X8_6 (mR X8_6 r0 4) 2) 7 ≠ 0 then
if mT X8_6 (mR X8_6 (mR X8_6 (mR X8_6 r0 4) 2) 7) = 14 then
if q_b X8_6 (mR X8_6 (mR X8_6 (mR X8_6 r0 4) 2) 7) v1 then
if (mI X8_6 (mR X8_6 (mR X8_6 (mR X8_6 r0 4) 2) 7) (v1).toNatClampNeg) = 0 then (
bd (fX11_stateAhead n r0 (0 : Int32) X8_6) fun w16 X36_17 =>
fX11_waits_L42 n n v1 w16 (1 : Int32) X36_17
) else (
some ((-1 : Int32), X8_6)
)
else none
else none
else none
else none
else none
else none
else none
else none
)
else none
else none
else none
else none
else none
theorem gX11_waits_L84 {E : q_E} {X0 : Mm} (C : Cx E cX11_waits RX11 4 (some .int) (q_rm 6 145 0 0) X0) (n : Nat) (X : Mm) : Sm E (q_fin E q_eI X0 0 0) 0 0 84 [] [] X (fX11_waits_L84 n  X) := by
  unfold fX11_waits_L84
  refine q_iconst C (-1 : Int32) dX11_waits_84 rfl ?_
  exact q_iret C dX11_waits_85
theorem gX11_waits_L42 {E : q_E} {X0 : Mm} (C : Cx E cX11_waits RX11 4 (some .int) (q_rm 6 145 0 0) X0) (n : Nat) : ∀ (j : Nat) (v1 : Int32) (r2 : Nat) (v3 : Int32) (X : Mm), Sm E (q_fin E q_eI X0 0 0) 0 0 42 [(1, .int v1), (2, .ref (q_P E + r2)), (3, .int v3)] [] X (fX11_waits_L42 n j v1 r2 v3 X) := by
  intro j
  induction j with
  | zero => intros; exact Sm.none
  | succ j ih =>
    intro v1 r2 v3 X
    rw [fX11_waits_L42]
    refine q_iload_n C 2 dX11_waits_42 rfl rfl ?_
    refine q_bipush C (99 : Int32) dX11_waits_43 rfl ?_
    refine q_icmp_gt C 84 dX11_waits_45 (by decide) (fun _ => ?_) (fun _ => ?_)
    · refine q_sub C [] [] rfl ?_
      exact gX11_waits_L84 C n X
    · refine q_aload_n C 1 dX11_waits_48 rfl rfl ?_
      refine q_chk (fun h18 => ?_)
      refine p_getI C fgX11_255 rfl dX11_waits_49 h18 ?_
      refine q_sipush C (999 : Int32) dX11_waits_52 rfl ?_
      refine q_icmp_ge C 84 dX11_waits_55 (by decide) (fun _ => ?_) (fun _ => ?_)
      · refine q_sub C [] [] rfl ?_
        exact gX11_waits_L84 C n X
      · refine q_aload_n C 1 dX11_waits_58 rfl rfl ?_
        refine q_iconst C (1 : Int32) dX11_waits_59 rfl ?_
        refine q_cVI (As := (fun P => [.int (1 : Int32)])) C [] (sX8_passDays n r2 (1 : Int32)) fcX11_263 rfl (fun _ => rfl) ⟨Nat.le_of_ble_eq_true rfl, Nat.le_of_ble_eq_true rfl⟩ ⟨Nat.le_of_ble_eq_true rfl, Nat.le_of_ble_eq_true rfl⟩ (Nat.le_of_ble_eq_true rfl) dX11_waits_60 h18 (fun w19 X60_20 => ?_)
        refine q_pop C dX11_waits_63 rfl ?_
        refine q_aload_n C 1 dX11_waits_64 rfl rfl ?_
        refine q_chk (fun h21 => ?_)
        refine q_chk (fun h22 => ?_)
        refine p_getR C fgX11_201 rfl dX11_waits_65 h21 h22 ?_
        refine q_chk (fun h23 => ?_)
        refine q_chk (fun h24 => ?_)
        refine p_getR C fgX11_266 rfl dX11_waits_68 h23 h24 ?_
        refine q_iload_n C 0 dX11_waits_71 rfl rfl ?_
        refine q_chk (fun h25 => ?_)
        refine q_chk (fun h26 => ?_)
        refine p_iald C dX11_waits_72 h25 h26 ?_
        refine q_if_eq C 78 dX11_waits_73 (by decide) (fun _ => ?_) (fun _ => ?_)
        · refine q_iincN C (1 : Int32) 2 (fun v3_78 => [(3, .int v3_78), (1, .int v1), (2, .ref (q_P E + r2))]) dX11_waits_78 rfl rfl (Nat.le_of_ble_eq_true rfl) (fun _ => rfl) (fun v3_78 => ?_)
          refine q_goto C 42 dX11_waits_81 (by decide) ?_
          refine q_sub C [(1, .int v1), (2, .ref (q_P E + r2)), (3, .int v3_78)] [1, 2, 0] rfl ?_
          exact ih v1 r2 v3_78 X60_20
        · refine q_iload_n C 2 dX11_waits_76 rfl rfl ?_
          exact q_iret C dX11_waits_77
theorem sX11_waits (n : Nat) (r0 : Nat) (v1 : Int32) : q_Ct yX11_waits cX11_waits 4 (some .int) 6 145 0 0 q_eI (fun P => [.ref (P + r0), .int v1]) (fX11_waits n r0 v1) := by
  refine q_meth (by decide +kernel) (fun P => Nat.le_of_ble_eq_true rfl) (fun E X C hn => ?_)
  show Sm E (q_fin E q_eI X 0 0) 0 0 0 [(0, .ref (q_P E + r0)), (1, .int v1)] [] X _
  unfold fX11_waits
  refine q_aload_n C 0 dX11_waits_0 rfl rfl ?_
  refine q_chk (fun h1 => ?_)
  refine q_chk (fun h2 => ?_)
  refine p_getR C fgX11_36 rfl dX11_waits_1 h1 h2 ?_
  refine q_chk (fun h3 => ?_)
  refine q_chk (fun h4 => ?_)
  refine p_getR C fgX11_201 rfl dX11_waits_4 h3 h4 ?_
  refine q_iload_n C 1 dX11_waits_7 rfl rfl ?_
  refine q_chk (fun h7 => ?_)
  refine q_cVI (As := (fun P => [.int v1])) C [] (sX10_isThere ((mR X (mR X r0 4) 2)) v1) fcX11_205 rfl (fun _ => rfl) ⟨Nat.le_of_ble_eq_true rfl, Nat.le_of_ble_eq_true rfl⟩ ⟨Nat.le_of_ble_eq_true rfl, Nat.le_of_ble_eq_true rfl⟩ (Nat.le_of_ble_eq_true rfl) dX11_waits_8 h7 (fun w5 X8_6 => ?_)
  refine q_if_ne C 17 dX11_waits_11 (by decide) (fun _ => ?_) (fun _ => ?_)
  · refine q_bipush C (-2 : Int32) dX11_waits_14 rfl ?_
    exact q_iret C dX11_waits_16
  · refine q_aload_n C 0 dX11_waits_17 rfl rfl ?_
    refine q_chk (fun h8 => ?_)
    refine q_chk (fun h9 => ?_)
    refine p_getR C fgX11_36 rfl dX11_waits_18 h8 h9 ?_
    refine q_chk (fun h10 => ?_)
    refine q_chk (fun h11 => ?_)
    refine p_getR C fgX11_201 rfl dX11_waits_21 h10 h11 ?_
    refine q_chk (fun h12 => ?_)
    refine q_chk (fun h13 => ?_)
    refine p_getR C fgX11_266 rfl dX11_waits_24 h12 h13 ?_
    refine q_iload_n C 1 dX11_waits_27 rfl rfl ?_
    refine q_chk (fun h14 => ?_)
    refine q_chk (fun h15 => ?_)
    refine p_iald C dX11_waits_28 h14 h15 ?_
    refine q_if_eq C 34 dX11_waits_29 (by decide) (fun _ => ?_) (fun _ => ?_)
    · refine q_aload_n C 0 dX11_waits_34 rfl rfl ?_
      refine q_iconst C (0 : Int32) dX11_waits_35 rfl ?_
      refine q_cVR (As := (fun P => [.int (0 : Int32)])) C [] (sX11_stateAhead n r0 (0 : Int32)) fcX11_251 rfl (fun _ => rfl) ⟨Nat.le_of_ble_eq_true rfl, Nat.le_of_ble_eq_true rfl⟩ ⟨Nat.le_of_ble_eq_true rfl, Nat.le_of_ble_eq_true rfl⟩ (Nat.le_of_ble_eq_true rfl) dX11_waits_36 h8 (fun w16 X36_17 => ?_)
      refine q_astore_n C [(2, .ref (q_P E + w16)), (0, .ref (q_P E + r0)), (1, .int v1)] dX11_waits_39 rfl (Nat.le_of_ble_eq_true rfl) rfl ?_
      refine q_iconst C (1 : Int32) dX11_waits_40 rfl ?_
      refine q_istore_n C [(3, .int (1 : Int32)), (2, .ref (q_P E + w16)), (0, .ref (q_P E + r0)), (1, .int v1)] dX11_waits_41 rfl (Nat.le_of_ble_eq_true rfl) rfl ?_
      refine q_sub C [(1, .int v1), (2, .ref (q_P E + w16)), (3, .int (1 : Int32))] [3, 1, 0] rfl ?_
      exact gX11_waits_L42 C n n v1 w16 (1 : Int32) X36_17
    · refine q_iconst C (-1 : Int32) dX11_waits_32 rfl ?_
      exact q_iret C dX11_waits_33
/-! RecordClaims.wants(II)J -/
abbrev cX11_wants : ByteArray := prog_1_method_32_code
def yX11_wants : MethodName := ⟨RX11, "wants", "(II)J"⟩
theorem dX11_wants_0 : decode cX11_wants 0 = .ok (.aload_n 0, 1) := by decide +kernel
theorem dX11_wants_1 : decode cX11_wants 1 = .ok (.getfield 36, 3) := by decide +kernel
theorem dX11_wants_4 : decode cX11_wants 4 = .ok (.iload_n 1, 1) := by decide +kernel
theorem dX11_wants_5 : decode cX11_wants 5 = .ok (.invokevirtual 182, 3) := by decide +kernel
theorem dX11_wants_8 : decode cX11_wants 8 = .ok (.ifCond .eq 14, 3) := by decide +kernel
theorem dX11_wants_11 : decode cX11_wants 11 = .ok (.aload_n 0, 1) := by decide +kernel
theorem dX11_wants_12 : decode cX11_wants 12 = .ok (.getfield 36, 3) := by decide +kernel
theorem dX11_wants_15 : decode cX11_wants 15 = .ok (.iload_n 2, 1) := by decide +kernel
theorem dX11_wants_16 : decode cX11_wants 16 = .ok (.invokevirtual 186, 3) := by decide +kernel
theorem dX11_wants_19 : decode cX11_wants 19 = .ok (.ifCond .ne 7, 3) := by decide +kernel
theorem dX11_wants_22 : decode cX11_wants 22 = .ok (.ldc2_w 193, 3) := by decide +kernel
theorem dX11_wants_25 : decode cX11_wants 25 = .ok (.lreturn, 1) := by decide +kernel
theorem dX11_wants_26 : decode cX11_wants 26 = .ok (.lconst 0, 1) := by decide +kernel
theorem dX11_wants_27 : decode cX11_wants 27 = .ok (.aload_n 0, 1) := by decide +kernel
theorem dX11_wants_28 : decode cX11_wants 28 = .ok (.getfield 36, 3) := by decide +kernel
theorem dX11_wants_31 : decode cX11_wants 31 = .ok (.getfield 201, 3) := by decide +kernel
theorem dX11_wants_34 : decode cX11_wants 34 = .ok (.iload_n 1, 1) := by decide +kernel
theorem dX11_wants_35 : decode cX11_wants 35 = .ok (.iload_n 2, 1) := by decide +kernel
theorem dX11_wants_36 : decode cX11_wants 36 = .ok (.invokevirtual 270, 3) := by decide +kernel
theorem dX11_wants_39 : decode cX11_wants 39 = .ok (.aload_n 0, 1) := by decide +kernel
theorem dX11_wants_40 : decode cX11_wants 40 = .ok (.getfield 36, 3) := by decide +kernel
theorem dX11_wants_43 : decode cX11_wants 43 = .ok (.iload_n 1, 1) := by decide +kernel
theorem dX11_wants_44 : decode cX11_wants 44 = .ok (.iload_n 2, 1) := by decide +kernel
theorem dX11_wants_45 : decode cX11_wants 45 = .ok (.invokevirtual 189, 3) := by decide +kernel
theorem dX11_wants_48 : decode cX11_wants 48 = .ok (.lsub, 1) := by decide +kernel
theorem dX11_wants_49 : decode cX11_wants 49 = .ok (.invokestatic 273, 3) := by decide +kernel
theorem dX11_wants_52 : decode cX11_wants 52 = .ok (.lreturn, 1) := by decide +kernel
theorem fcX11_270 : q_LV RX11 270 yX10_openSharesFrom cX10_openSharesFrom 6 (some .long) 2 10 := ⟨q_tb 1171 (by decide +kernel) rfl, q_tb 1172 (by decide +kernel) rfl, q_tb 1173 (by decide +kernel) rfl, q_tb 6 (by decide +kernel) rfl, q_tb 1174 (by decide +kernel) rfl, ⟨by decide +kernel, by decide +kernel, by decide +kernel⟩, TX10, 10, rfl⟩
theorem fmX11_273 : q_LM RX11 273 Lib.MathLoose.max_long.x Lib.MathLoose.max_long.code 4 .long := ⟨q_tb 1175 (by decide +kernel) rfl, q_tb 1176 (by decide +kernel) rfl, q_tb 19 (by decide +kernel) rfl, q_tb 1177 (by decide +kernel) rfl⟩
def fX11_wants_L22 (n : Nat) (X : Mm) : Option (Int64 × Mm) :=
some ((-1 : Int64), X)
def fX11_wants (n : Nat) (r0 : Nat) (v1 : Int32) (v2 : Int32) (X : Mm) : Option (Int64 × Mm) :=
if mT X r0 = 11 then
if mR X r0 4 ≠ 0 then
if mT X (mR X r0 4) = 8 then
bd (fX8_isHolder ((mR X r0 4)) v1 X) fun w3 X5_4 =>
if w3 = 0 then (
fX11_wants_L22 n X5_4
) else (
if mT X5_4 r0 = 11 then
if mR X5_4 r0 4 ≠ 0 then
if mT X5_4 (mR X5_4 r0 4) = 8 then
bd (fX8_isPaper ((mR X5_4 r0 4)) v2 X5_4) fun w8 X16_9 =>
if w8 = 0 then (
fX11_wants_L22 n X16_9
) else (
if mT X16_9 r0 = 11 then
if mR X16_9 r0 4 ≠ 0 then
if mT X16_9 (mR X16_9 r0 4) = 8 then
if mR X16_9 (mR X16_9 r0 4) 2 ≠ 0 then
if mT X16_9 (mR X16_9 (mR X16_9 r0 4) 2) = 10 then
bd (fX10_openSharesFrom n ((mR X16_9 (mR X16_9 r0 4) 2)) v1 v2 X16_9) fun w15 X36_16 =>
if mT X36_16 r0 = 11 then
if mR X36_16 r0 4 ≠ 0 then
if mT X36_16 (mR X36_16 r0 4) = 8 then
bd (fX8_sharesOf ((mR X36_16 r0 4)) v1 v2 X36_16) fun w20 X45_21 =>
some ((if (w15 - w20) < (0 : Int64) then (0 : Int64) else (w15 - w20)), X45_21)
else none
else none
else none
else none
else none
else none
else none
else none
)
else none
else none
else none
)
else none
else none
else none
theorem gX11_wants_L22 {E : q_E} {X0 : Mm} (C : Cx E cX11_wants RX11 3 (some .long) (q_rm 1 25 0 0) X0) (n : Nat) (X : Mm) : Sm E (q_fin E q_eL X0 0 0) 0 0 22 [] [] X (fX11_wants_L22 n  X) := by
  unfold fX11_wants_L22
  refine q_ldc2 C dX11_wants_22 fkX11_193 ?_
  exact q_lret C dX11_wants_25
theorem sX11_wants (n : Nat) (r0 : Nat) (v1 : Int32) (v2 : Int32) : q_Ct yX11_wants cX11_wants 3 (some .long) 1 25 0 0 q_eL (fun P => [.ref (P + r0), .int v1, .int v2]) (fX11_wants n r0 v1 v2) := by
  refine q_meth (by decide +kernel) (fun P => Nat.le_of_ble_eq_true rfl) (fun E X C hn => ?_)
  show Sm E (q_fin E q_eL X 0 0) 0 0 0 [(0, .ref (q_P E + r0)), (1, .int v1), (2, .int v2)] [] X _
  unfold fX11_wants
  refine q_aload_n C 0 dX11_wants_0 rfl rfl ?_
  refine q_chk (fun h1 => ?_)
  refine q_chk (fun h2 => ?_)
  refine p_getR C fgX11_36 rfl dX11_wants_1 h1 h2 ?_
  refine q_iload_n C 1 dX11_wants_4 rfl rfl ?_
  refine q_chk (fun h5 => ?_)
  refine q_cVI (As := (fun P => [.int v1])) C [] (sX8_isHolder ((mR X r0 4)) v1) fcX11_182 rfl (fun _ => rfl) ⟨Nat.le_of_ble_eq_true rfl, Nat.le_of_ble_eq_true rfl⟩ ⟨Nat.le_of_ble_eq_true rfl, Nat.le_of_ble_eq_true rfl⟩ (Nat.le_of_ble_eq_true rfl) dX11_wants_5 h5 (fun w3 X5_4 => ?_)
  refine q_if_eq C 22 dX11_wants_8 (by decide) (fun _ => ?_) (fun _ => ?_)
  · refine q_sub C [] [] rfl ?_
    exact gX11_wants_L22 C n X5_4
  · refine q_aload_n C 0 dX11_wants_11 rfl rfl ?_
    refine q_chk (fun h6 => ?_)
    refine q_chk (fun h7 => ?_)
    refine p_getR C fgX11_36 rfl dX11_wants_12 h6 h7 ?_
    refine q_iload_n C 2 dX11_wants_15 rfl rfl ?_
    refine q_chk (fun h10 => ?_)
    refine q_cVI (As := (fun P => [.int v2])) C [] (sX8_isPaper ((mR X5_4 r0 4)) v2) fcX11_186 rfl (fun _ => rfl) ⟨Nat.le_of_ble_eq_true rfl, Nat.le_of_ble_eq_true rfl⟩ ⟨Nat.le_of_ble_eq_true rfl, Nat.le_of_ble_eq_true rfl⟩ (Nat.le_of_ble_eq_true rfl) dX11_wants_16 h10 (fun w8 X16_9 => ?_)
    refine q_if_ne C 26 dX11_wants_19 (by decide) (fun _ => ?_) (fun _ => ?_)
    · refine q_sub C [] [] rfl ?_
      exact gX11_wants_L22 C n X16_9
    · refine q_lconst C (0 : Int64) dX11_wants_26 rfl ?_
      refine q_aload_n C 0 dX11_wants_27 rfl rfl ?_
      refine q_chk (fun h11 => ?_)
      refine q_chk (fun h12 => ?_)
      refine p_getR C fgX11_36 rfl dX11_wants_28 h11 h12 ?_
      refine q_chk (fun h13 => ?_)
      refine q_chk (fun h14 => ?_)
      refine p_getR C fgX11_201 rfl dX11_wants_31 h13 h14 ?_
      refine q_iload_n C 1 dX11_wants_34 rfl rfl ?_
      refine q_iload_n C 2 dX11_wants_35 rfl rfl ?_
      refine q_chk (fun h17 => ?_)
      refine q_cVL (As := (fun P => [.int v1, .int v2])) C [.long (0 : Int64)] (sX10_openSharesFrom n ((mR X16_9 (mR X16_9 r0 4) 2)) v1 v2) fcX11_270 rfl (fun _ => rfl) ⟨Nat.le_of_ble_eq_true rfl, Nat.le_of_ble_eq_true rfl⟩ ⟨Nat.le_of_ble_eq_true rfl, Nat.le_of_ble_eq_true rfl⟩ (Nat.le_of_ble_eq_true rfl) dX11_wants_36 h17 (fun w15 X36_16 => ?_)
      refine q_aload_n C 0 dX11_wants_39 rfl rfl ?_
      refine q_chk (fun h18 => ?_)
      refine q_chk (fun h19 => ?_)
      refine p_getR C fgX11_36 rfl dX11_wants_40 h18 h19 ?_
      refine q_iload_n C 1 dX11_wants_43 rfl rfl ?_
      refine q_iload_n C 2 dX11_wants_44 rfl rfl ?_
      refine q_chk (fun h22 => ?_)
      refine q_cVL (As := (fun P => [.int v1, .int v2])) C [.long w15, .long (0 : Int64)] (sX8_sharesOf ((mR X36_16 r0 4)) v1 v2) fcX11_189 rfl (fun _ => rfl) ⟨Nat.le_of_ble_eq_true rfl, Nat.le_of_ble_eq_true rfl⟩ ⟨Nat.le_of_ble_eq_true rfl, Nat.le_of_ble_eq_true rfl⟩ (Nat.le_of_ble_eq_true rfl) dX11_wants_45 h22 (fun w20 X45_21 => ?_)
      refine q_lsub C dX11_wants_48 ?_
      refine q_maxL C fmX11_273 ⟨Nat.le_of_ble_eq_true rfl, Nat.le_of_ble_eq_true rfl, Nat.le_of_ble_eq_true rfl, Nat.le_of_ble_eq_true rfl⟩ dX11_wants_49 ?_
      exact q_lret C dX11_wants_52
/-! RecordClaims.carries(III)I -/
abbrev cX11_carries : ByteArray := prog_1_method_33_code
def yX11_carries : MethodName := ⟨RX11, "carries", "(III)I"⟩
theorem dX11_carries_0 : decode cX11_carries 0 = .ok (.aload_n 0, 1) := by decide +kernel
theorem dX11_carries_1 : decode cX11_carries 1 = .ok (.getfield 36, 3) := by decide +kernel
theorem dX11_carries_4 : decode cX11_carries 4 = .ok (.iload_n 1, 1) := by decide +kernel
theorem dX11_carries_5 : decode cX11_carries 5 = .ok (.invokevirtual 186, 3) := by decide +kernel
theorem dX11_carries_8 : decode cX11_carries 8 = .ok (.ifCond .eq 23, 3) := by decide +kernel
theorem dX11_carries_11 : decode cX11_carries 11 = .ok (.iload_n 2, 1) := by decide +kernel
theorem dX11_carries_12 : decode cX11_carries 12 = .ok (.iconst 1, 1) := by decide +kernel
theorem dX11_carries_13 : decode cX11_carries 13 = .ok (.if_icmp .lt 18, 3) := by decide +kernel
theorem dX11_carries_16 : decode cX11_carries 16 = .ok (.iload_n 2, 1) := by decide +kernel
theorem dX11_carries_17 : decode cX11_carries 17 = .ok (.bipush 9, 2) := by decide +kernel
theorem dX11_carries_19 : decode cX11_carries 19 = .ok (.if_icmp .gt 12, 3) := by decide +kernel
theorem dX11_carries_22 : decode cX11_carries 22 = .ok (.iload_n 3, 1) := by decide +kernel
theorem dX11_carries_23 : decode cX11_carries 23 = .ok (.ifCond .lt 8, 3) := by decide +kernel
theorem dX11_carries_26 : decode cX11_carries 26 = .ok (.iload_n 3, 1) := by decide +kernel
theorem dX11_carries_27 : decode cX11_carries 27 = .ok (.iconst 2, 1) := by decide +kernel
theorem dX11_carries_28 : decode cX11_carries 28 = .ok (.if_icmp .le 5, 3) := by decide +kernel
theorem dX11_carries_31 : decode cX11_carries 31 = .ok (.iconst (-1), 1) := by decide +kernel
theorem dX11_carries_32 : decode cX11_carries 32 = .ok (.ireturn, 1) := by decide +kernel
theorem dX11_carries_33 : decode cX11_carries 33 = .ok (.iconst 0, 1) := by decide +kernel
theorem dX11_carries_34 : decode cX11_carries 34 = .ok (.istore 4, 2) := by decide +kernel
theorem dX11_carries_36 : decode cX11_carries 36 = .ok (.iconst 0, 1) := by decide +kernel
theorem dX11_carries_37 : decode cX11_carries 37 = .ok (.istore 5, 2) := by decide +kernel
theorem dX11_carries_39 : decode cX11_carries 39 = .ok (.iload 5, 2) := by decide +kernel
theorem dX11_carries_41 : decode cX11_carries 41 = .ok (.aload_n 0, 1) := by decide +kernel
theorem dX11_carries_42 : decode cX11_carries 42 = .ok (.getfield 36, 3) := by decide +kernel
theorem dX11_carries_45 : decode cX11_carries 45 = .ok (.getfield 213, 3) := by decide +kernel
theorem dX11_carries_48 : decode cX11_carries 48 = .ok (.getfield 277, 3) := by decide +kernel
theorem dX11_carries_51 : decode cX11_carries 51 = .ok (.if_icmp .ge 51, 3) := by decide +kernel
theorem dX11_carries_54 : decode cX11_carries 54 = .ok (.aload_n 0, 1) := by decide +kernel
theorem dX11_carries_55 : decode cX11_carries 55 = .ok (.getfield 36, 3) := by decide +kernel
theorem dX11_carries_58 : decode cX11_carries 58 = .ok (.getfield 213, 3) := by decide +kernel
theorem dX11_carries_61 : decode cX11_carries 61 = .ok (.iload 5, 2) := by decide +kernel
theorem dX11_carries_63 : decode cX11_carries 63 = .ok (.iload_n 1, 1) := by decide +kernel
theorem dX11_carries_64 : decode cX11_carries 64 = .ok (.iload_n 3, 1) := by decide +kernel
theorem dX11_carries_65 : decode cX11_carries 65 = .ok (.aload_n 0, 1) := by decide +kernel
theorem dX11_carries_66 : decode cX11_carries 66 = .ok (.getfield 36, 3) := by decide +kernel
theorem dX11_carries_69 : decode cX11_carries 69 = .ok (.getfield 255, 3) := by decide +kernel
theorem dX11_carries_72 : decode cX11_carries 72 = .ok (.aload_n 0, 1) := by decide +kernel
theorem dX11_carries_73 : decode cX11_carries 73 = .ok (.getfield 36, 3) := by decide +kernel
theorem dX11_carries_76 : decode cX11_carries 76 = .ok (.getfield 255, 3) := by decide +kernel
theorem dX11_carries_79 : decode cX11_carries 79 = .ok (.iload_n 2, 1) := by decide +kernel
theorem dX11_carries_80 : decode cX11_carries 80 = .ok (.iadd, 1) := by decide +kernel
theorem dX11_carries_81 : decode cX11_carries 81 = .ok (.invokevirtual 278, 3) := by decide +kernel
theorem dX11_carries_84 : decode cX11_carries 84 = .ok (.ifCond .eq 12, 3) := by decide +kernel
theorem dX11_carries_87 : decode cX11_carries 87 = .ok (.iload 4, 2) := by decide +kernel
theorem dX11_carries_89 : decode cX11_carries 89 = .ok (.iconst 1, 1) := by decide +kernel
theorem dX11_carries_90 : decode cX11_carries 90 = .ok (.iload 5, 2) := by decide +kernel
theorem dX11_carries_92 : decode cX11_carries 92 = .ok (.ishl, 1) := by decide +kernel
theorem dX11_carries_93 : decode cX11_carries 93 = .ok (.ior, 1) := by decide +kernel
theorem dX11_carries_94 : decode cX11_carries 94 = .ok (.istore 4, 2) := by decide +kernel
theorem dX11_carries_96 : decode cX11_carries 96 = .ok (.iinc 5 1, 3) := by decide +kernel
theorem dX11_carries_99 : decode cX11_carries 99 = .ok (.goto (-60), 3) := by decide +kernel
theorem dX11_carries_102 : decode cX11_carries 102 = .ok (.iload 4, 2) := by decide +kernel
theorem dX11_carries_104 : decode cX11_carries 104 = .ok (.ireturn, 1) := by decide +kernel
theorem fgX11_277 : q_Fg RX11 277 3 16 := q_Fg.of (C := RX3) (T := TX3) (N := 17) rfl (by decide) inX3 302 (by decide +kernel) rfl rfl
theorem fcX11_278 : q_LV RX11 278 yX3_carriesTo cX3_carriesTo 8 (some .boolean) 5 3 := ⟨q_tb 1182 (by decide +kernel) rfl, q_tb 1183 (by decide +kernel) rfl, q_tb 1184 (by decide +kernel) rfl, q_tb 7 (by decide +kernel) rfl, q_tb 1185 (by decide +kernel) rfl, ⟨by decide +kernel, by decide +kernel, by decide +kernel⟩, TX3, 17, rfl⟩
def fX11_carries_L31 (n : Nat) (X : Mm) : Option (Int32 × Mm) :=
some ((-1 : Int32), X)
def fX11_carries_L96 (n : Nat) (k39 : Nat → Int32 → Int32 → Int32 → Int32 → Int32 → Mm → Option (Int32 × Mm)) (r0 : Nat) (v1 : Int32) (v2 : Int32) (v3 : Int32) (v4 : Int32) (v5 : Int32) (X : Mm) : Option (Int32 × Mm) :=
nm (v5 + (1 : Int32)) fun v5_96 =>
k39 r0 v1 v2 v3 v4 v5_96 X
def fX11_carries_L39 (n : Nat) : Nat → Nat → Int32 → Int32 → Int32 → Int32 → Int32 → Mm → Option (Int32 × Mm)
| 0, _, _, _, _, _, _, _ => none
| j + 1, r0, v1, v2, v3, v4, v5, X =>
if mT X r0 = 11 then
if mR X r0 4 ≠ 0 then
if mT X (mR X r0 4) = 8 then
if mR X (mR X r0 4) 3 ≠ 0 then
if mT X (mR X (mR X r0 4) 3) = 3 then
if (mI X (mR X (mR X r0 4) 3) 16) ≤ v5 then (
some (v4, X)
) else (
bd (fX3_carriesTo ((mR X (mR X r0 4) 3)) v5 v1 v3 ((mI X (mR X r0 4) 8)) (((mI X (mR X r0 4) 8) + v2)) X) fun w11 X81_12 =>
if w11 = 0 then (
fX11_carries_L96 n (fX11_carries_L39 n j) r0 v1 v2 v3 v4 v5 X81_12
) else (
nm ((v4 ||| ((1 : Int32) <<< (v5 &&& 31)))) fun v4_94 =>
fX11_carries_L96 n (fX11_carries_L39 n j) r0 v1 v2 v3 v4_94 v5 X81_12
)
)
else none
else none
else none
else none
else none
def fX11_carries (n : Nat) (r0 : Nat) (v1 : Int32) (v2 : Int32) (v3 : Int32) (X : Mm) : Option (Int32 × Mm) :=
if mT X r0 = 11 then
if mR X r0 4 ≠ 0 then
if mT X (mR X r0 4) = 8 then
bd (fX8_isPaper ((mR X r0 4)) v1 X) fun w3 X5_4 =>
if w3 = 0 then (
fX11_carries_L31 n X5_4
) else (
if v2 < (1 : Int32) then (
fX11_carries_L31 n X5_4
) else (
if (9 : Int32) < v2 then (
fX11_carries_L31 n X5_4
) else (
if v3 < 0 then (
fX11_carries_L31 n X5_4
) else (
if v3 ≤ (2 : Int32) then (
fX11_carries_L39 n n r0 v1 v2 v3 (0 : Int32) (0 : Int32) X5_4
) else (
fX11_carries_L31 n X5_4
)
)
)
)
)
else none
else none
else none
theorem gX11_carries_L31 {E : q_E} {X0 : Mm} (C : Cx E cX11_carries RX11 6 (some .int) (q_rm 1 27 0 0) X0) (n : Nat) (X : Mm) : Sm E (q_fin E q_eI X0 0 0) 0 0 31 [] [] X (fX11_carries_L31 n  X) := by
  unfold fX11_carries_L31
  refine q_iconst C (-1 : Int32) dX11_carries_31 rfl ?_
  exact q_iret C dX11_carries_32
theorem gX11_carries_L96 {E : q_E} {X0 : Mm} (C : Cx E cX11_carries RX11 6 (some .int) (q_rm 1 27 0 0) X0) (n : Nat) (k39 : Nat → Int32 → Int32 → Int32 → Int32 → Int32 → Mm → Option (Int32 × Mm)) (hk39 : ∀ (r0 : Nat) (v1 : Int32) (v2 : Int32) (v3 : Int32) (v4 : Int32) (v5 : Int32) (X : Mm), Sm E (q_fin E q_eI X0 0 0) 0 0 39 [(0, .ref (q_P E + r0)), (1, .int v1), (2, .int v2), (3, .int v3), (4, .int v4), (5, .int v5)] [] X (k39 r0 v1 v2 v3 v4 v5 X)) (r0 : Nat) (v1 : Int32) (v2 : Int32) (v3 : Int32) (v4 : Int32) (v5 : Int32) (X : Mm) : Sm E (q_fin E q_eI X0 0 0) 0 0 96 [(0, .ref (q_P E + r0)), (1, .int v1), (2, .int v2), (3, .int v3), (4, .int v4), (5, .int v5)] [] X (fX11_carries_L96 n k39 r0 v1 v2 v3 v4 v5 X) := by
  unfold fX11_carries_L96
  refine q_iincN C (1 : Int32) 5 (fun v5_96 => [(5, .int v5_96), (0, .ref (q_P E + r0)), (1, .int v1), (2, .int v2), (3, .int v3), (4, .int v4)]) dX11_carries_96 rfl rfl (Nat.le_of_ble_eq_true rfl) (fun _ => rfl) (fun v5_96 => ?_)
  refine q_goto C 39 dX11_carries_99 (by decide) ?_
  refine q_sub C [(0, .ref (q_P E + r0)), (1, .int v1), (2, .int v2), (3, .int v3), (4, .int v4), (5, .int v5_96)] [1, 2, 3, 4, 5, 0] rfl ?_
  exact hk39 r0 v1 v2 v3 v4 v5_96 X
theorem gX11_carries_L39 {E : q_E} {X0 : Mm} (C : Cx E cX11_carries RX11 6 (some .int) (q_rm 1 27 0 0) X0) (n : Nat) : ∀ (j : Nat) (r0 : Nat) (v1 : Int32) (v2 : Int32) (v3 : Int32) (v4 : Int32) (v5 : Int32) (X : Mm), Sm E (q_fin E q_eI X0 0 0) 0 0 39 [(0, .ref (q_P E + r0)), (1, .int v1), (2, .int v2), (3, .int v3), (4, .int v4), (5, .int v5)] [] X (fX11_carries_L39 n j r0 v1 v2 v3 v4 v5 X) := by
  intro j
  induction j with
  | zero => intros; exact Sm.none
  | succ j ih =>
    intro r0 v1 v2 v3 v4 v5 X
    rw [fX11_carries_L39]
    refine q_iload C 5 dX11_carries_39 rfl ?_
    refine q_aload_n C 0 dX11_carries_41 rfl rfl ?_
    refine q_chk (fun h6 => ?_)
    refine q_chk (fun h7 => ?_)
    refine p_getR C fgX11_36 rfl dX11_carries_42 h6 h7 ?_
    refine q_chk (fun h8 => ?_)
    refine q_chk (fun h9 => ?_)
    refine p_getR C fgX11_213 rfl dX11_carries_45 h8 h9 ?_
    refine q_chk (fun h10 => ?_)
    refine p_getI C fgX11_277 rfl dX11_carries_48 h10 ?_
    refine q_icmp_ge C 102 dX11_carries_51 (by decide) (fun _ => ?_) (fun _ => ?_)
    · refine q_iload C 4 dX11_carries_102 rfl ?_
      exact q_iret C dX11_carries_104
    · refine q_aload_n C 0 dX11_carries_54 rfl rfl ?_
      refine p_getR C fgX11_36 rfl dX11_carries_55 h6 h7 ?_
      refine p_getR C fgX11_213 rfl dX11_carries_58 h8 h9 ?_
      refine q_iload C 5 dX11_carries_61 rfl ?_
      refine q_iload_n C 1 dX11_carries_63 rfl rfl ?_
      refine q_iload_n C 3 dX11_carries_64 rfl rfl ?_
      refine q_aload_n C 0 dX11_carries_65 rfl rfl ?_
      refine p_getR C fgX11_36 rfl dX11_carries_66 h6 h7 ?_
      refine p_getI C fgX11_255 rfl dX11_carries_69 h8 ?_
      refine q_aload_n C 0 dX11_carries_72 rfl rfl ?_
      refine p_getR C fgX11_36 rfl dX11_carries_73 h6 h7 ?_
      refine p_getI C fgX11_255 rfl dX11_carries_76 h8 ?_
      refine q_iload_n C 2 dX11_carries_79 rfl rfl ?_
      refine q_iadd C dX11_carries_80 ?_
      refine q_cVI (As := (fun P => [.int v5, .int v1, .int v3, .int (mI X (mR X r0 4) 8), .int ((mI X (mR X r0 4) 8) + v2)])) C [] (sX3_carriesTo ((mR X (mR X r0 4) 3)) v5 v1 v3 ((mI X (mR X r0 4) 8)) (((mI X (mR X r0 4) 8) + v2))) fcX11_278 rfl (fun _ => rfl) ⟨Nat.le_of_ble_eq_true rfl, Nat.le_of_ble_eq_true rfl⟩ ⟨Nat.le_of_ble_eq_true rfl, Nat.le_of_ble_eq_true rfl⟩ (Nat.le_of_ble_eq_true rfl) dX11_carries_81 h10 (fun w11 X81_12 => ?_)
      refine q_if_eq C 96 dX11_carries_84 (by decide) (fun _ => ?_) (fun _ => ?_)
      · exact gX11_carries_L96 C n (fX11_carries_L39 n j) ih r0 v1 v2 v3 v4 v5 X81_12
      · refine q_iload C 4 dX11_carries_87 rfl ?_
        refine q_iconst C (1 : Int32) dX11_carries_89 rfl ?_
        refine q_iload C 5 dX11_carries_90 rfl ?_
        refine q_ishl C dX11_carries_92 ?_
        refine q_ior C dX11_carries_93 ?_
        refine q_nmi (fun v4_94 => ?_)
        refine q_istore C [(4, .int v4_94), (0, .ref (q_P E + r0)), (1, .int v1), (2, .int v2), (3, .int v3), (5, .int v5)] dX11_carries_94 (Nat.le_of_ble_eq_true rfl) rfl ?_
        refine q_sub C [(0, .ref (q_P E + r0)), (1, .int v1), (2, .int v2), (3, .int v3), (4, .int v4_94), (5, .int v5)] [1, 2, 3, 4, 0, 5] rfl ?_
        exact gX11_carries_L96 C n (fX11_carries_L39 n j) ih r0 v1 v2 v3 v4_94 v5 X81_12
theorem sX11_carries (n : Nat) (r0 : Nat) (v1 : Int32) (v2 : Int32) (v3 : Int32) : q_Ct yX11_carries cX11_carries 6 (some .int) 1 27 0 0 q_eI (fun P => [.ref (P + r0), .int v1, .int v2, .int v3]) (fX11_carries n r0 v1 v2 v3) := by
  refine q_meth (by decide +kernel) (fun P => Nat.le_of_ble_eq_true rfl) (fun E X C hn => ?_)
  show Sm E (q_fin E q_eI X 0 0) 0 0 0 [(0, .ref (q_P E + r0)), (1, .int v1), (2, .int v2), (3, .int v3)] [] X _
  unfold fX11_carries
  refine q_aload_n C 0 dX11_carries_0 rfl rfl ?_
  refine q_chk (fun h1 => ?_)
  refine q_chk (fun h2 => ?_)
  refine p_getR C fgX11_36 rfl dX11_carries_1 h1 h2 ?_
  refine q_iload_n C 1 dX11_carries_4 rfl rfl ?_
  refine q_chk (fun h5 => ?_)
  refine q_cVI (As := (fun P => [.int v1])) C [] (sX8_isPaper ((mR X r0 4)) v1) fcX11_186 rfl (fun _ => rfl) ⟨Nat.le_of_ble_eq_true rfl, Nat.le_of_ble_eq_true rfl⟩ ⟨Nat.le_of_ble_eq_true rfl, Nat.le_of_ble_eq_true rfl⟩ (Nat.le_of_ble_eq_true rfl) dX11_carries_5 h5 (fun w3 X5_4 => ?_)
  refine q_if_eq C 31 dX11_carries_8 (by decide) (fun _ => ?_) (fun _ => ?_)
  · refine q_sub C [] [] rfl ?_
    exact gX11_carries_L31 C n X5_4
  · refine q_iload_n C 2 dX11_carries_11 rfl rfl ?_
    refine q_iconst C (1 : Int32) dX11_carries_12 rfl ?_
    refine q_icmp_lt C 31 dX11_carries_13 (by decide) (fun _ => ?_) (fun _ => ?_)
    · refine q_sub C [] [] rfl ?_
      exact gX11_carries_L31 C n X5_4
    · refine q_iload_n C 2 dX11_carries_16 rfl rfl ?_
      refine q_bipush C (9 : Int32) dX11_carries_17 rfl ?_
      refine q_icmp_gt C 31 dX11_carries_19 (by decide) (fun _ => ?_) (fun _ => ?_)
      · refine q_sub C [] [] rfl ?_
        exact gX11_carries_L31 C n X5_4
      · refine q_iload_n C 3 dX11_carries_22 rfl rfl ?_
        refine q_if_lt C 31 dX11_carries_23 (by decide) (fun _ => ?_) (fun _ => ?_)
        · refine q_sub C [] [] rfl ?_
          exact gX11_carries_L31 C n X5_4
        · refine q_iload_n C 3 dX11_carries_26 rfl rfl ?_
          refine q_iconst C (2 : Int32) dX11_carries_27 rfl ?_
          refine q_icmp_le C 33 dX11_carries_28 (by decide) (fun _ => ?_) (fun _ => ?_)
          · refine q_iconst C (0 : Int32) dX11_carries_33 rfl ?_
            refine q_istore C [(4, .int (0 : Int32)), (0, .ref (q_P E + r0)), (1, .int v1), (2, .int v2), (3, .int v3)] dX11_carries_34 (Nat.le_of_ble_eq_true rfl) rfl ?_
            refine q_iconst C (0 : Int32) dX11_carries_36 rfl ?_
            refine q_istore C [(5, .int (0 : Int32)), (4, .int (0 : Int32)), (0, .ref (q_P E + r0)), (1, .int v1), (2, .int v2), (3, .int v3)] dX11_carries_37 (Nat.le_of_ble_eq_true rfl) rfl ?_
            refine q_sub C [(0, .ref (q_P E + r0)), (1, .int v1), (2, .int v2), (3, .int v3), (4, .int (0 : Int32)), (5, .int (0 : Int32))] [2, 3, 4, 5, 1, 0] rfl ?_
            exact gX11_carries_L39 C n n r0 v1 v2 v3 (0 : Int32) (0 : Int32) X5_4
          · refine q_sub C [] [] rfl ?_
            exact gX11_carries_L31 C n X5_4
/-! RecordClaims.worst(II)J -/
abbrev cX11_worst : ByteArray := prog_1_method_34_code
def yX11_worst : MethodName := ⟨RX11, "worst", "(II)J"⟩
theorem dX11_worst_0 : decode cX11_worst 0 = .ok (.aload_n 0, 1) := by decide +kernel
theorem dX11_worst_1 : decode cX11_worst 1 = .ok (.getfield 36, 3) := by decide +kernel
theorem dX11_worst_4 : decode cX11_worst 4 = .ok (.getfield 213, 3) := by decide +kernel
theorem dX11_worst_7 : decode cX11_worst 7 = .ok (.iload_n 1, 1) := by decide +kernel
theorem dX11_worst_8 : decode cX11_worst 8 = .ok (.invokevirtual 217, 3) := by decide +kernel
theorem dX11_worst_11 : decode cX11_worst 11 = .ok (.ifCond .eq 18, 3) := by decide +kernel
theorem dX11_worst_14 : decode cX11_worst 14 = .ok (.aload_n 0, 1) := by decide +kernel
theorem dX11_worst_15 : decode cX11_worst 15 = .ok (.getfield 36, 3) := by decide +kernel
theorem dX11_worst_18 : decode cX11_worst 18 = .ok (.getfield 213, 3) := by decide +kernel
theorem dX11_worst_21 : decode cX11_worst 21 = .ok (.getfield 282, 3) := by decide +kernel
theorem dX11_worst_24 : decode cX11_worst 24 = .ok (.iload_n 1, 1) := by decide +kernel
theorem dX11_worst_25 : decode cX11_worst 25 = .ok (.iaload, 1) := by decide +kernel
theorem dX11_worst_26 : decode cX11_worst 26 = .ok (.ifCond .ne 7, 3) := by decide +kernel
theorem dX11_worst_29 : decode cX11_worst 29 = .ok (.ldc2_w 193, 3) := by decide +kernel
theorem dX11_worst_32 : decode cX11_worst 32 = .ok (.lreturn, 1) := by decide +kernel
theorem dX11_worst_33 : decode cX11_worst 33 = .ok (.aload_n 0, 1) := by decide +kernel
theorem dX11_worst_34 : decode cX11_worst 34 = .ok (.getfield 36, 3) := by decide +kernel
theorem dX11_worst_37 : decode cX11_worst 37 = .ok (.iload_n 1, 1) := by decide +kernel
theorem dX11_worst_38 : decode cX11_worst 38 = .ok (.invokevirtual 285, 3) := by decide +kernel
theorem dX11_worst_41 : decode cX11_worst 41 = .ok (.istore_n 3, 1) := by decide +kernel
theorem dX11_worst_42 : decode cX11_worst 42 = .ok (.iload_n 2, 1) := by decide +kernel
theorem dX11_worst_43 : decode cX11_worst 43 = .ok (.lookupswitch 38 #[(0, 25), (1, 28)], 25) := by decide +kernel
theorem dX11_worst_68 : decode cX11_worst 68 = .ok (.iload_n 3, 1) := by decide +kernel
theorem dX11_worst_69 : decode cX11_worst 69 = .ok (.i2l, 1) := by decide +kernel
theorem dX11_worst_70 : decode cX11_worst 70 = .ok (.lreturn, 1) := by decide +kernel
theorem dX11_worst_71 : decode cX11_worst 71 = .ok (.aload_n 0, 1) := by decide +kernel
theorem dX11_worst_72 : decode cX11_worst 72 = .ok (.getfield 36, 3) := by decide +kernel
theorem dX11_worst_75 : decode cX11_worst 75 = .ok (.iload_n 1, 1) := by decide +kernel
theorem dX11_worst_76 : decode cX11_worst 76 = .ok (.iload_n 3, 1) := by decide +kernel
theorem dX11_worst_77 : decode cX11_worst 77 = .ok (.invokevirtual 288, 3) := by decide +kernel
theorem dX11_worst_80 : decode cX11_worst 80 = .ok (.lreturn, 1) := by decide +kernel
theorem dX11_worst_81 : decode cX11_worst 81 = .ok (.ldc2_w 193, 3) := by decide +kernel
theorem dX11_worst_84 : decode cX11_worst 84 = .ok (.lreturn, 1) := by decide +kernel
theorem fgX11_282 : q_Fg RX11 282 3 12 := q_Fg.of (C := RX3) (T := TX3) (N := 17) rfl (by decide) inX3 293 (by decide +kernel) rfl rfl
theorem fcX11_285 : q_LV RX11 285 yX8_worstOf cX8_worstOf 4 (some .int) 1 8 := ⟨q_tb 1190 (by decide +kernel) rfl, q_tb 1191 (by decide +kernel) rfl, q_tb 1192 (by decide +kernel) rfl, q_tb 5 (by decide +kernel) rfl, q_tb 1193 (by decide +kernel) rfl, ⟨by decide +kernel, by decide +kernel, by decide +kernel⟩, TX8, 9, rfl⟩
theorem fcX11_288 : q_LV RX11 288 yX8_claimedFrom cX8_claimedFrom 6 (some .long) 2 8 := ⟨q_tb 1194 (by decide +kernel) rfl, q_tb 1083 (by decide +kernel) rfl, q_tb 1084 (by decide +kernel) rfl, q_tb 5 (by decide +kernel) rfl, q_tb 1085 (by decide +kernel) rfl, ⟨by decide +kernel, by decide +kernel, by decide +kernel⟩, TX8, 9, rfl⟩
def fX11_worst_L29 (n : Nat) (X : Mm) : Option (Int64 × Mm) :=
some ((-1 : Int64), X)
def fX11_worst (n : Nat) (r0 : Nat) (v1 : Int32) (v2 : Int32) (X : Mm) : Option (Int64 × Mm) :=
if mT X r0 = 11 then
if mR X r0 4 ≠ 0 then
if mT X (mR X r0 4) = 8 then
if mR X (mR X r0 4) 3 ≠ 0 then
if mT X (mR X (mR X r0 4) 3) = 3 then
bd (fX3_isThere ((mR X (mR X r0 4) 3)) v1 X) fun w5 X8_6 =>
if w5 = 0 then (
fX11_worst_L29 n X8_6
) else (
if mT X8_6 r0 = 11 then
if mR X8_6 r0 4 ≠ 0 then
if mT X8_6 (mR X8_6 r0 4) = 8 then
if mR X8_6 (mR X8_6 r0 4) 3 ≠ 0 then
if mT X8_6 (mR X8_6 (mR X8_6 r0 4) 3) = 3 then
if mR X8_6 (mR X8_6 (mR X8_6 r0 4) 3) 12 ≠ 0 then
if mT X8_6 (mR X8_6 (mR X8_6 (mR X8_6 r0 4) 3) 12) = 14 then
if q_b X8_6 (mR X8_6 (mR X8_6 (mR X8_6 r0 4) 3) 12) v1 then
if (mI X8_6 (mR X8_6 (mR X8_6 (mR X8_6 r0 4) 3) 12) (v1).toNatClampNeg) = 0 then (
fX11_worst_L29 n X8_6
) else (
bd (fX8_worstOf n ((mR X8_6 r0 4)) v1 X8_6) fun w16 X38_17 =>
if v2 = (0 : Int32) then (
some (((w16).toInt64), X38_17)
) else (
if v2 = (1 : Int32) then (
if mT X38_17 r0 = 11 then
if mR X38_17 r0 4 ≠ 0 then
if mT X38_17 (mR X38_17 r0 4) = 8 then
bd (fX8_claimedFrom n ((mR X38_17 r0 4)) v1 w16 X38_17) fun w20 X77_21 =>
some (w20, X77_21)
else none
else none
else none
) else (
some ((-1 : Int64), X38_17)
)
)
)
else none
else none
else none
else none
else none
else none
else none
else none
)
else none
else none
else none
else none
else none
theorem gX11_worst_L29 {E : q_E} {X0 : Mm} (C : Cx E cX11_worst RX11 4 (some .long) (q_rm 3 69 0 0) X0) (n : Nat) (X : Mm) : Sm E (q_fin E q_eL X0 0 0) 0 0 29 [] [] X (fX11_worst_L29 n  X) := by
  unfold fX11_worst_L29
  refine q_ldc2 C dX11_worst_29 fkX11_193 ?_
  exact q_lret C dX11_worst_32
theorem sX11_worst (n : Nat) (r0 : Nat) (v1 : Int32) (v2 : Int32) : q_Ct yX11_worst cX11_worst 4 (some .long) 3 69 0 0 q_eL (fun P => [.ref (P + r0), .int v1, .int v2]) (fX11_worst n r0 v1 v2) := by
  refine q_meth (by decide +kernel) (fun P => Nat.le_of_ble_eq_true rfl) (fun E X C hn => ?_)
  show Sm E (q_fin E q_eL X 0 0) 0 0 0 [(0, .ref (q_P E + r0)), (1, .int v1), (2, .int v2)] [] X _
  unfold fX11_worst
  refine q_aload_n C 0 dX11_worst_0 rfl rfl ?_
  refine q_chk (fun h1 => ?_)
  refine q_chk (fun h2 => ?_)
  refine p_getR C fgX11_36 rfl dX11_worst_1 h1 h2 ?_
  refine q_chk (fun h3 => ?_)
  refine q_chk (fun h4 => ?_)
  refine p_getR C fgX11_213 rfl dX11_worst_4 h3 h4 ?_
  refine q_iload_n C 1 dX11_worst_7 rfl rfl ?_
  refine q_chk (fun h7 => ?_)
  refine q_cVI (As := (fun P => [.int v1])) C [] (sX3_isThere ((mR X (mR X r0 4) 3)) v1) fcX11_217 rfl (fun _ => rfl) ⟨Nat.le_of_ble_eq_true rfl, Nat.le_of_ble_eq_true rfl⟩ ⟨Nat.le_of_ble_eq_true rfl, Nat.le_of_ble_eq_true rfl⟩ (Nat.le_of_ble_eq_true rfl) dX11_worst_8 h7 (fun w5 X8_6 => ?_)
  refine q_if_eq C 29 dX11_worst_11 (by decide) (fun _ => ?_) (fun _ => ?_)
  · refine q_sub C [] [] rfl ?_
    exact gX11_worst_L29 C n X8_6
  · refine q_aload_n C 0 dX11_worst_14 rfl rfl ?_
    refine q_chk (fun h8 => ?_)
    refine q_chk (fun h9 => ?_)
    refine p_getR C fgX11_36 rfl dX11_worst_15 h8 h9 ?_
    refine q_chk (fun h10 => ?_)
    refine q_chk (fun h11 => ?_)
    refine p_getR C fgX11_213 rfl dX11_worst_18 h10 h11 ?_
    refine q_chk (fun h12 => ?_)
    refine q_chk (fun h13 => ?_)
    refine p_getR C fgX11_282 rfl dX11_worst_21 h12 h13 ?_
    refine q_iload_n C 1 dX11_worst_24 rfl rfl ?_
    refine q_chk (fun h14 => ?_)
    refine q_chk (fun h15 => ?_)
    refine p_iald C dX11_worst_25 h14 h15 ?_
    refine q_if_ne C 33 dX11_worst_26 (by decide) (fun _ => ?_) (fun _ => ?_)
    · refine q_sub C [] [] rfl ?_
      exact gX11_worst_L29 C n X8_6
    · refine q_aload_n C 0 dX11_worst_33 rfl rfl ?_
      refine p_getR C fgX11_36 rfl dX11_worst_34 h8 h9 ?_
      refine q_iload_n C 1 dX11_worst_37 rfl rfl ?_
      refine q_cVI (As := (fun P => [.int v1])) C [] (sX8_worstOf n ((mR X8_6 r0 4)) v1) fcX11_285 rfl (fun _ => rfl) ⟨Nat.le_of_ble_eq_true rfl, Nat.le_of_ble_eq_true rfl⟩ ⟨Nat.le_of_ble_eq_true rfl, Nat.le_of_ble_eq_true rfl⟩ (Nat.le_of_ble_eq_true rfl) dX11_worst_38 h10 (fun w16 X38_17 => ?_)
      refine q_istore_n C [(3, .int w16), (0, .ref (q_P E + r0)), (1, .int v1), (2, .int v2)] dX11_worst_41 rfl (Nat.le_of_ble_eq_true rfl) rfl ?_
      refine q_iload_n C 3 dX11_worst_42 rfl rfl ?_
      refine q_ite (fun e0 => ?_) (fun e0 => ?_)
      · refine q_lookup C (off := 25) 68 dX11_worst_43 (by decide) (by rw [e0]; rfl) (by decide) ?_
        refine q_iload_n C 0 dX11_worst_68 rfl rfl ?_
        refine q_i2l C dX11_worst_69 ?_
        exact q_lret C dX11_worst_70
      · refine q_ite (fun e1 => ?_) (fun e1 => ?_)
        · refine q_lookup C (off := 28) 71 dX11_worst_43 (by decide) (by rw [e1]; rfl) (by decide) ?_
          refine q_aload_n C 1 dX11_worst_71 rfl rfl ?_
          refine q_chk (fun h18 => ?_)
          refine q_chk (fun h19 => ?_)
          refine p_getR C fgX11_36 rfl dX11_worst_72 h18 h19 ?_
          refine q_iload_n C 2 dX11_worst_75 rfl rfl ?_
          refine q_iload_n C 0 dX11_worst_76 rfl rfl ?_
          refine q_chk (fun h22 => ?_)
          refine q_cVL (As := (fun P => [.int v1, .int w16])) C [] (sX8_claimedFrom n ((mR X38_17 r0 4)) v1 w16) fcX11_288 rfl (fun _ => rfl) ⟨Nat.le_of_ble_eq_true rfl, Nat.le_of_ble_eq_true rfl⟩ ⟨Nat.le_of_ble_eq_true rfl, Nat.le_of_ble_eq_true rfl⟩ (Nat.le_of_ble_eq_true rfl) dX11_worst_77 h22 (fun w20 X77_21 => ?_)
          exact q_lret C dX11_worst_80
        · have n0 := q_ne e0 (i := 0) rfl
          have n1 := q_ne e1 (i := 1) rfl
          refine q_lookup C (off := 38) 81 dX11_worst_43 (by decide) (q_lkout (by simp [Op.lookupswitch.offset, n0, Ne.symm n0, n1, Ne.symm n1])) (by decide) ?_
          refine q_ldc2 C dX11_worst_81 fkX11_193 ?_
          exact q_lret C dX11_worst_84
/-! RecordClaims.show(I)I -/
abbrev cX11_show : ByteArray := prog_1_method_35_code
def yX11_show : MethodName := ⟨RX11, "show", "(I)I"⟩
theorem dX11_show_0 : decode cX11_show 0 = .ok (.aload_n 0, 1) := by decide +kernel
theorem dX11_show_1 : decode cX11_show 1 = .ok (.getfield 36, 3) := by decide +kernel
theorem dX11_show_4 : decode cX11_show 4 = .ok (.iload_n 1, 1) := by decide +kernel
theorem dX11_show_5 : decode cX11_show 5 = .ok (.invokevirtual 182, 3) := by decide +kernel
theorem dX11_show_8 : decode cX11_show 8 = .ok (.ifCond .ne 5, 3) := by decide +kernel
theorem dX11_show_11 : decode cX11_show 11 = .ok (.iconst (-1), 1) := by decide +kernel
theorem dX11_show_12 : decode cX11_show 12 = .ok (.ireturn, 1) := by decide +kernel
theorem dX11_show_13 : decode cX11_show 13 = .ok (.aload_n 0, 1) := by decide +kernel
theorem dX11_show_14 : decode cX11_show 14 = .ok (.getfield 50, 3) := by decide +kernel
theorem dX11_show_17 : decode cX11_show 17 = .ok (.aload_n 0, 1) := by decide +kernel
theorem dX11_show_18 : decode cX11_show 18 = .ok (.getfield 36, 3) := by decide +kernel
theorem dX11_show_21 : decode cX11_show 21 = .ok (.aload_n 0, 1) := by decide +kernel
theorem dX11_show_22 : decode cX11_show 22 = .ok (.getfield 19, 3) := by decide +kernel
theorem dX11_show_25 : decode cX11_show 25 = .ok (.iload_n 1, 1) := by decide +kernel
theorem dX11_show_26 : decode cX11_show 26 = .ok (.invokevirtual 291, 3) := by decide +kernel
theorem dX11_show_29 : decode cX11_show 29 = .ok (.aload_n 0, 1) := by decide +kernel
theorem dX11_show_30 : decode cX11_show 30 = .ok (.getfield 50, 3) := by decide +kernel
theorem dX11_show_33 : decode cX11_show 33 = .ok (.getfield 295, 3) := by decide +kernel
theorem dX11_show_36 : decode cX11_show 36 = .ok (.ireturn, 1) := by decide +kernel
theorem fgX11_50 : q_Fg RX11 50 11 6 := q_Fg.of (C := RX11) (T := TX11) (N := 8) rfl (by decide) inX11 483 (by decide +kernel) rfl rfl
theorem fcX11_291 : q_LV RX11 291 yX7_tell cX7_tell 5 none 3 7 := ⟨q_tb 1199 (by decide +kernel) rfl, q_tb 1200 (by decide +kernel) rfl, q_tb 1201 (by decide +kernel) rfl, q_tb 11 (by decide +kernel) rfl, q_tb 1202 (by decide +kernel) rfl, ⟨by decide +kernel, by decide +kernel, by decide +kernel⟩, TX7, 2, rfl⟩
theorem fgX11_295 : q_Fg RX11 295 7 1 := q_Fg.of (C := RX7) (T := TX7) (N := 2) rfl (by decide) inX7 461 (by decide +kernel) rfl rfl
def fX11_show (n : Nat) (r0 : Nat) (v1 : Int32) (X : Mm) : Option (Int32 × Mm) :=
if mT X r0 = 11 then
if mR X r0 4 ≠ 0 then
if mT X (mR X r0 4) = 8 then
bd (fX8_isHolder ((mR X r0 4)) v1 X) fun w3 X5_4 =>
if w3 = 0 then (
some ((-1 : Int32), X5_4)
) else (
if mT X5_4 r0 = 11 then
if mR X5_4 r0 6 ≠ 0 then
if mR X5_4 r0 4 ≠ 0 then
if mR X5_4 r0 1 ≠ 0 then
if mT X5_4 (mR X5_4 r0 6) = 7 then
bd (fX7_tell n ((mR X5_4 r0 6)) ((mR X5_4 r0 4)) ((mR X5_4 r0 1)) v1 X5_4) fun _ X26_11 =>
if mT X26_11 r0 = 11 then
if mR X26_11 r0 6 ≠ 0 then
if mT X26_11 (mR X26_11 r0 6) = 7 then
some ((mI X26_11 (mR X26_11 r0 6) 1), X26_11)
else none
else none
else none
else none
else none
else none
else none
else none
)
else none
else none
else none
theorem sX11_show (n : Nat) (r0 : Nat) (v1 : Int32) : q_Ct yX11_show cX11_show 2 (some .int) 3 74 0 0 q_eI (fun P => [.ref (P + r0), .int v1]) (fX11_show n r0 v1) := by
  refine q_meth (by decide +kernel) (fun P => Nat.le_of_ble_eq_true rfl) (fun E X C hn => ?_)
  show Sm E (q_fin E q_eI X 0 0) 0 0 0 [(0, .ref (q_P E + r0)), (1, .int v1)] [] X _
  unfold fX11_show
  refine q_aload_n C 0 dX11_show_0 rfl rfl ?_
  refine q_chk (fun h1 => ?_)
  refine q_chk (fun h2 => ?_)
  refine p_getR C fgX11_36 rfl dX11_show_1 h1 h2 ?_
  refine q_iload_n C 1 dX11_show_4 rfl rfl ?_
  refine q_chk (fun h5 => ?_)
  refine q_cVI (As := (fun P => [.int v1])) C [] (sX8_isHolder ((mR X r0 4)) v1) fcX11_182 rfl (fun _ => rfl) ⟨Nat.le_of_ble_eq_true rfl, Nat.le_of_ble_eq_true rfl⟩ ⟨Nat.le_of_ble_eq_true rfl, Nat.le_of_ble_eq_true rfl⟩ (Nat.le_of_ble_eq_true rfl) dX11_show_5 h5 (fun w3 X5_4 => ?_)
  refine q_if_ne C 13 dX11_show_8 (by decide) (fun _ => ?_) (fun _ => ?_)
  · refine q_iconst C (-1 : Int32) dX11_show_11 rfl ?_
    exact q_iret C dX11_show_12
  · refine q_aload_n C 0 dX11_show_13 rfl rfl ?_
    refine q_chk (fun h6 => ?_)
    refine q_chk (fun h7 => ?_)
    refine p_getR C fgX11_50 rfl dX11_show_14 h6 h7 ?_
    refine q_aload_n C 0 dX11_show_17 rfl rfl ?_
    refine q_chk (fun h8 => ?_)
    refine p_getR C fgX11_36 rfl dX11_show_18 h6 h8 ?_
    refine q_aload_n C 0 dX11_show_21 rfl rfl ?_
    refine q_chk (fun h9 => ?_)
    refine p_getR C fgX11_19 rfl dX11_show_22 h6 h9 ?_
    refine q_iload_n C 1 dX11_show_25 rfl rfl ?_
    refine q_chk (fun h12 => ?_)
    refine q_cVV (As := (fun P => [.ref (P + (mR X5_4 r0 4)), .ref (P + (mR X5_4 r0 1)), .int v1])) C [] (sX7_tell n ((mR X5_4 r0 6)) ((mR X5_4 r0 4)) ((mR X5_4 r0 1)) v1) fcX11_291 rfl (fun _ => rfl) ⟨Nat.le_of_ble_eq_true rfl, Nat.le_of_ble_eq_true rfl⟩ ⟨Nat.le_of_ble_eq_true rfl, Nat.le_of_ble_eq_true rfl⟩ (Nat.le_of_ble_eq_true rfl) dX11_show_26 h12 (fun _ X26_11 => ?_)
    refine q_aload_n C 0 dX11_show_29 rfl rfl ?_
    refine q_chk (fun h13 => ?_)
    refine q_chk (fun h14 => ?_)
    refine p_getR C fgX11_50 rfl dX11_show_30 h13 h14 ?_
    refine q_chk (fun h15 => ?_)
    refine p_getI C fgX11_295 rfl dX11_show_33 h15 ?_
    exact q_iret C dX11_show_36
/-! RecordClaims.out(I)I -/
abbrev cX11_out : ByteArray := prog_1_method_36_code
def yX11_out : MethodName := ⟨RX11, "out", "(I)I"⟩
theorem dX11_out_0 : decode cX11_out 0 = .ok (.iload_n 1, 1) := by decide +kernel
theorem dX11_out_1 : decode cX11_out 1 = .ok (.ifCond .lt 26, 3) := by decide +kernel
theorem dX11_out_4 : decode cX11_out 4 = .ok (.iload_n 1, 1) := by decide +kernel
theorem dX11_out_5 : decode cX11_out 5 = .ok (.aload_n 0, 1) := by decide +kernel
theorem dX11_out_6 : decode cX11_out 6 = .ok (.getfield 50, 3) := by decide +kernel
theorem dX11_out_9 : decode cX11_out 9 = .ok (.getfield 295, 3) := by decide +kernel
theorem dX11_out_12 : decode cX11_out 12 = .ok (.if_icmp .ge 15, 3) := by decide +kernel
theorem dX11_out_15 : decode cX11_out 15 = .ok (.aload_n 0, 1) := by decide +kernel
theorem dX11_out_16 : decode cX11_out 16 = .ok (.getfield 50, 3) := by decide +kernel
theorem dX11_out_19 : decode cX11_out 19 = .ok (.getfield 296, 3) := by decide +kernel
theorem dX11_out_22 : decode cX11_out 22 = .ok (.iload_n 1, 1) := by decide +kernel
theorem dX11_out_23 : decode cX11_out 23 = .ok (.baload, 1) := by decide +kernel
theorem dX11_out_24 : decode cX11_out 24 = .ok (.goto 4, 3) := by decide +kernel
theorem dX11_out_27 : decode cX11_out 27 = .ok (.iconst (-1), 1) := by decide +kernel
theorem dX11_out_28 : decode cX11_out 28 = .ok (.ireturn, 1) := by decide +kernel
theorem fgX11_296 : q_Fg RX11 296 7 0 := q_Fg.of (C := RX7) (T := TX7) (N := 2) rfl (by decide) inX7 459 (by decide +kernel) rfl rfl
def fX11_out_L27 (X : Mm) : Option (Int32 × Mm) :=
some ((-1 : Int32), X)
def fX11_out (r0 : Nat) (v1 : Int32) (X : Mm) : Option (Int32 × Mm) :=
if v1 < 0 then (
fX11_out_L27 X
) else (
if mT X r0 = 11 then
if mR X r0 6 ≠ 0 then
if mT X (mR X r0 6) = 7 then
if (mI X (mR X r0 6) 1) ≤ v1 then (
fX11_out_L27 X
) else (
if mR X (mR X r0 6) 0 ≠ 0 then
if mT X (mR X (mR X r0 6) 0) = 16 then
if q_b X (mR X (mR X r0 6) 0) v1 then
some ((mI X (mR X (mR X r0 6) 0) (v1).toNatClampNeg), X)
else none
else none
else none
)
else none
else none
else none
)
theorem gX11_out_L27 {E : q_E} {X0 : Mm} (C : Cx E cX11_out RX11 2 (some .int) (q_rm 0 0 0 0) X0) (X : Mm) : Sm E (q_fin E q_eI X0 0 0) 0 0 27 [] [] X (fX11_out_L27  X) := by
  unfold fX11_out_L27
  refine q_iconst C (-1 : Int32) dX11_out_27 rfl ?_
  exact q_iret C dX11_out_28
theorem sX11_out (r0 : Nat) (v1 : Int32) : q_Ct yX11_out cX11_out 2 (some .int) 0 0 0 0 q_eI (fun P => [.ref (P + r0), .int v1]) (fX11_out r0 v1) := by
  refine q_meth (by decide +kernel) (fun P => Nat.le_of_ble_eq_true rfl) (fun E X C hn => ?_)
  show Sm E (q_fin E q_eI X 0 0) 0 0 0 [(0, .ref (q_P E + r0)), (1, .int v1)] [] X _
  unfold fX11_out
  refine q_iload_n C 1 dX11_out_0 rfl rfl ?_
  refine q_if_lt C 27 dX11_out_1 (by decide) (fun _ => ?_) (fun _ => ?_)
  · refine q_sub C [] [] rfl ?_
    exact gX11_out_L27 C X
  · refine q_iload_n C 1 dX11_out_4 rfl rfl ?_
    refine q_aload_n C 0 dX11_out_5 rfl rfl ?_
    refine q_chk (fun h1 => ?_)
    refine q_chk (fun h2 => ?_)
    refine p_getR C fgX11_50 rfl dX11_out_6 h1 h2 ?_
    refine q_chk (fun h3 => ?_)
    refine p_getI C fgX11_295 rfl dX11_out_9 h3 ?_
    refine q_icmp_ge C 27 dX11_out_12 (by decide) (fun _ => ?_) (fun _ => ?_)
    · refine q_sub C [] [] rfl ?_
      exact gX11_out_L27 C X
    · refine q_aload_n C 0 dX11_out_15 rfl rfl ?_
      refine p_getR C fgX11_50 rfl dX11_out_16 h1 h2 ?_
      refine q_chk (fun h4 => ?_)
      refine p_getR C fgX11_296 rfl dX11_out_19 h3 h4 ?_
      refine q_iload_n C 1 dX11_out_22 rfl rfl ?_
      refine q_chk (fun h5 => ?_)
      refine q_chk (fun h6 => ?_)
      refine p_bald C dX11_out_23 h5 h6 ?_
      refine q_goto C 28 dX11_out_24 (by decide) ?_
      exact q_iret C dX11_out_28
/-! RecordClaims.named(I)I -/
abbrev cX11_named : ByteArray := prog_1_method_37_code
def yX11_named : MethodName := ⟨RX11, "named", "(I)I"⟩
theorem dX11_named_0 : decode cX11_named 0 = .ok (.aload_n 0, 1) := by decide +kernel
theorem dX11_named_1 : decode cX11_named 1 = .ok (.getfield 10, 3) := by decide +kernel
theorem dX11_named_4 : decode cX11_named 4 = .ok (.invokevirtual 300, 3) := by decide +kernel
theorem dX11_named_7 : decode cX11_named 7 = .ok (.istore_n 2, 1) := by decide +kernel
theorem dX11_named_8 : decode cX11_named 8 = .ok (.aload_n 0, 1) := by decide +kernel
theorem dX11_named_9 : decode cX11_named 9 = .ok (.getfield 10, 3) := by decide +kernel
theorem dX11_named_12 : decode cX11_named 12 = .ok (.iconst 0, 1) := by decide +kernel
theorem dX11_named_13 : decode cX11_named 13 = .ok (.putfield 61, 3) := by decide +kernel
theorem dX11_named_16 : decode cX11_named 16 = .ok (.iload_n 1, 1) := by decide +kernel
theorem dX11_named_17 : decode cX11_named 17 = .ok (.lookupswitch 45 #[(0, 27), (1, 36)], 27) := by decide +kernel
theorem dX11_named_44 : decode cX11_named 44 = .ok (.aload_n 0, 1) := by decide +kernel
theorem dX11_named_45 : decode cX11_named 45 = .ok (.getfield 19, 3) := by decide +kernel
theorem dX11_named_48 : decode cX11_named 48 = .ok (.iload_n 2, 1) := by decide +kernel
theorem dX11_named_49 : decode cX11_named 49 = .ok (.invokevirtual 303, 3) := by decide +kernel
theorem dX11_named_52 : decode cX11_named 52 = .ok (.ireturn, 1) := by decide +kernel
theorem dX11_named_53 : decode cX11_named 53 = .ok (.aload_n 0, 1) := by decide +kernel
theorem dX11_named_54 : decode cX11_named 54 = .ok (.getfield 19, 3) := by decide +kernel
theorem dX11_named_57 : decode cX11_named 57 = .ok (.iload_n 2, 1) := by decide +kernel
theorem dX11_named_58 : decode cX11_named 58 = .ok (.invokevirtual 306, 3) := by decide +kernel
theorem dX11_named_61 : decode cX11_named 61 = .ok (.ireturn, 1) := by decide +kernel
theorem dX11_named_62 : decode cX11_named 62 = .ok (.iconst (-1), 1) := by decide +kernel
theorem dX11_named_63 : decode cX11_named 63 = .ok (.ireturn, 1) := by decide +kernel
theorem fcX11_300 : q_LV RX11 300 yX9_nameAlone cX9_nameAlone 1 (some .int) 0 9 := ⟨q_tb 1227 (by decide +kernel) rfl, q_tb 1228 (by decide +kernel) rfl, q_tb 1229 (by decide +kernel) rfl, q_tb 2 (by decide +kernel) rfl, q_tb 1230 (by decide +kernel) rfl, ⟨by decide +kernel, by decide +kernel, by decide +kernel⟩, TX9, 8, rfl⟩
theorem fcX11_303 : q_LV RX11 303 yX0_holderNamed cX0_holderNamed 2 (some .int) 1 0 := ⟨q_tb 1231 (by decide +kernel) rfl, q_tb 642 (by decide +kernel) rfl, q_tb 643 (by decide +kernel) rfl, q_tb 3 (by decide +kernel) rfl, q_tb 644 (by decide +kernel) rfl, ⟨by decide +kernel, by decide +kernel, by decide +kernel⟩, TX0, 5, rfl⟩
theorem fcX11_306 : q_LV RX11 306 yX0_paperNamed cX0_paperNamed 2 (some .int) 1 0 := ⟨q_tb 1232 (by decide +kernel) rfl, q_tb 649 (by decide +kernel) rfl, q_tb 650 (by decide +kernel) rfl, q_tb 3 (by decide +kernel) rfl, q_tb 651 (by decide +kernel) rfl, ⟨by decide +kernel, by decide +kernel, by decide +kernel⟩, TX0, 5, rfl⟩
def fX11_named (n : Nat) (r0 : Nat) (v1 : Int32) (X : Mm) : Option (Int32 × Mm) :=
if mT X r0 = 11 then
if mR X r0 0 ≠ 0 then
if mT X (mR X r0 0) = 9 then
bd (fX9_nameAlone n ((mR X r0 0)) X) fun w3 X4_4 =>
if mT X4_4 r0 = 11 then
if mR X4_4 r0 0 ≠ 0 then
if mT X4_4 (mR X4_4 r0 0) = 9 then
nm (sI X4_4 (mR X4_4 r0 0) 1 (0 : Int32)) fun X13_8 =>
if v1 = (0 : Int32) then (
if mT X13_8 r0 = 11 then
if mR X13_8 r0 1 ≠ 0 then
if mT X13_8 (mR X13_8 r0 1) = 0 then
bd (fX0_holderNamed n ((mR X13_8 r0 1)) w3 X13_8) fun w12 X49_13 =>
some (w12, X49_13)
else none
else none
else none
) else (
if v1 = (1 : Int32) then (
if mT X13_8 r0 = 11 then
if mR X13_8 r0 1 ≠ 0 then
if mT X13_8 (mR X13_8 r0 1) = 0 then
bd (fX0_paperNamed n ((mR X13_8 r0 1)) w3 X13_8) fun w17 X58_18 =>
some (w17, X58_18)
else none
else none
else none
) else (
some ((-1 : Int32), X13_8)
)
)
else none
else none
else none
else none
else none
else none
theorem sX11_named (n : Nat) (r0 : Nat) (v1 : Int32) : q_Ct yX11_named cX11_named 3 (some .int) 11 233 0 0 q_eI (fun P => [.ref (P + r0), .int v1]) (fX11_named n r0 v1) := by
  refine q_meth (by decide +kernel) (fun P => Nat.le_of_ble_eq_true rfl) (fun E X C hn => ?_)
  show Sm E (q_fin E q_eI X 0 0) 0 0 0 [(0, .ref (q_P E + r0)), (1, .int v1)] [] X _
  unfold fX11_named
  refine q_aload_n C 0 dX11_named_0 rfl rfl ?_
  refine q_chk (fun h1 => ?_)
  refine q_chk (fun h2 => ?_)
  refine p_getR C fgX11_10 rfl dX11_named_1 h1 h2 ?_
  refine q_chk (fun h5 => ?_)
  refine q_cVI (As := (fun P => [])) C [] (sX9_nameAlone n ((mR X r0 0))) fcX11_300 rfl (fun _ => rfl) ⟨Nat.le_of_ble_eq_true rfl, Nat.le_of_ble_eq_true rfl⟩ ⟨Nat.le_of_ble_eq_true rfl, Nat.le_of_ble_eq_true rfl⟩ (Nat.le_of_ble_eq_true rfl) dX11_named_4 h5 (fun w3 X4_4 => ?_)
  refine q_istore_n C [(2, .int w3), (0, .ref (q_P E + r0)), (1, .int v1)] dX11_named_7 rfl (Nat.le_of_ble_eq_true rfl) rfl ?_
  refine q_aload_n C 1 dX11_named_8 rfl rfl ?_
  refine q_chk (fun h6 => ?_)
  refine q_chk (fun h7 => ?_)
  refine p_getR C fgX11_10 rfl dX11_named_9 h6 h7 ?_
  refine q_iconst C (0 : Int32) dX11_named_12 rfl ?_
  refine q_chk (fun h9 => ?_)
  refine p_putI C fpX11_61 rfl dX11_named_13 h9 ?_
  refine q_nmX (fun X13_8 => ?_)
  refine q_iload_n C 2 dX11_named_16 rfl rfl ?_
  refine q_ite (fun e0 => ?_) (fun e0 => ?_)
  · refine q_lookup C (off := 27) 44 dX11_named_17 (by decide) (by rw [e0]; rfl) (by decide) ?_
    refine q_aload_n C 1 dX11_named_44 rfl rfl ?_
    refine q_chk (fun h10 => ?_)
    refine q_chk (fun h11 => ?_)
    refine p_getR C fgX11_19 rfl dX11_named_45 h10 h11 ?_
    refine q_iload_n C 0 dX11_named_48 rfl rfl ?_
    refine q_chk (fun h14 => ?_)
    refine q_cVI (As := (fun P => [.int w3])) C [] (sX0_holderNamed n ((mR X13_8 r0 1)) w3) fcX11_303 rfl (fun _ => rfl) ⟨Nat.le_of_ble_eq_true rfl, Nat.le_of_ble_eq_true rfl⟩ ⟨Nat.le_of_ble_eq_true rfl, Nat.le_of_ble_eq_true rfl⟩ (Nat.le_of_ble_eq_true rfl) dX11_named_49 h14 (fun w12 X49_13 => ?_)
    exact q_iret C dX11_named_52
  · refine q_ite (fun e1 => ?_) (fun e1 => ?_)
    · refine q_lookup C (off := 36) 53 dX11_named_17 (by decide) (by rw [e1]; rfl) (by decide) ?_
      refine q_aload_n C 1 dX11_named_53 rfl rfl ?_
      refine q_chk (fun h15 => ?_)
      refine q_chk (fun h16 => ?_)
      refine p_getR C fgX11_19 rfl dX11_named_54 h15 h16 ?_
      refine q_iload_n C 0 dX11_named_57 rfl rfl ?_
      refine q_chk (fun h19 => ?_)
      refine q_cVI (As := (fun P => [.int w3])) C [] (sX0_paperNamed n ((mR X13_8 r0 1)) w3) fcX11_306 rfl (fun _ => rfl) ⟨Nat.le_of_ble_eq_true rfl, Nat.le_of_ble_eq_true rfl⟩ ⟨Nat.le_of_ble_eq_true rfl, Nat.le_of_ble_eq_true rfl⟩ (Nat.le_of_ble_eq_true rfl) dX11_named_58 h19 (fun w17 X58_18 => ?_)
      exact q_iret C dX11_named_61
    · have n0 := q_ne e0 (i := 0) rfl
      have n1 := q_ne e1 (i := 1) rfl
      refine q_lookup C (off := 45) 62 dX11_named_17 (by decide) (q_lkout (by simp [Op.lookupswitch.offset, n0, Ne.symm n0, n1, Ne.symm n1])) (by decide) ?_
      refine q_iconst C (-1 : Int32) dX11_named_62 rfl ?_
      exact q_iret C dX11_named_63
/-! RecordClaims.look(I)I -/
abbrev cX11_look : ByteArray := prog_1_method_38_code
def yX11_look : MethodName := ⟨RX11, "look", "(I)I"⟩
theorem dX11_look_0 : decode cX11_look 0 = .ok (.iload_n 1, 1) := by decide +kernel
theorem dX11_look_1 : decode cX11_look 1 = .ok (.tableswitch 162 0 9 #[55, 63, 71, 82, 93, 101, 115, 135, 146, 154], 55) := by decide +kernel
theorem dX11_look_56 : decode cX11_look 56 = .ok (.aload_n 0, 1) := by decide +kernel
theorem dX11_look_57 : decode cX11_look 57 = .ok (.getfield 36, 3) := by decide +kernel
theorem dX11_look_60 : decode cX11_look 60 = .ok (.getfield 309, 3) := by decide +kernel
theorem dX11_look_63 : decode cX11_look 63 = .ok (.ireturn, 1) := by decide +kernel
theorem dX11_look_64 : decode cX11_look 64 = .ok (.aload_n 0, 1) := by decide +kernel
theorem dX11_look_65 : decode cX11_look 65 = .ok (.getfield 36, 3) := by decide +kernel
theorem dX11_look_68 : decode cX11_look 68 = .ok (.getfield 312, 3) := by decide +kernel
theorem dX11_look_71 : decode cX11_look 71 = .ok (.ireturn, 1) := by decide +kernel
theorem dX11_look_72 : decode cX11_look 72 = .ok (.aload_n 0, 1) := by decide +kernel
theorem dX11_look_73 : decode cX11_look 73 = .ok (.getfield 36, 3) := by decide +kernel
theorem dX11_look_76 : decode cX11_look 76 = .ok (.getfield 201, 3) := by decide +kernel
theorem dX11_look_79 : decode cX11_look 79 = .ok (.getfield 315, 3) := by decide +kernel
theorem dX11_look_82 : decode cX11_look 82 = .ok (.ireturn, 1) := by decide +kernel
theorem dX11_look_83 : decode cX11_look 83 = .ok (.aload_n 0, 1) := by decide +kernel
theorem dX11_look_84 : decode cX11_look 84 = .ok (.getfield 36, 3) := by decide +kernel
theorem dX11_look_87 : decode cX11_look 87 = .ok (.getfield 213, 3) := by decide +kernel
theorem dX11_look_90 : decode cX11_look 90 = .ok (.getfield 277, 3) := by decide +kernel
theorem dX11_look_93 : decode cX11_look 93 = .ok (.ireturn, 1) := by decide +kernel
theorem dX11_look_94 : decode cX11_look 94 = .ok (.aload_n 0, 1) := by decide +kernel
theorem dX11_look_95 : decode cX11_look 95 = .ok (.getfield 36, 3) := by decide +kernel
theorem dX11_look_98 : decode cX11_look 98 = .ok (.getfield 255, 3) := by decide +kernel
theorem dX11_look_101 : decode cX11_look 101 = .ok (.ireturn, 1) := by decide +kernel
theorem dX11_look_102 : decode cX11_look 102 = .ok (.aload_n 0, 1) := by decide +kernel
theorem dX11_look_103 : decode cX11_look 103 = .ok (.getfield 36, 3) := by decide +kernel
theorem dX11_look_106 : decode cX11_look 106 = .ok (.getfield 201, 3) := by decide +kernel
theorem dX11_look_109 : decode cX11_look 109 = .ok (.sipush 1008, 3) := by decide +kernel
theorem dX11_look_112 : decode cX11_look 112 = .ok (.invokevirtual 316, 3) := by decide +kernel
theorem dX11_look_115 : decode cX11_look 115 = .ok (.ireturn, 1) := by decide +kernel
theorem dX11_look_116 : decode cX11_look 116 = .ok (.aload_n 0, 1) := by decide +kernel
theorem dX11_look_117 : decode cX11_look 117 = .ok (.getfield 36, 3) := by decide +kernel
theorem dX11_look_120 : decode cX11_look 120 = .ok (.getfield 201, 3) := by decide +kernel
theorem dX11_look_123 : decode cX11_look 123 = .ok (.aload_n 0, 1) := by decide +kernel
theorem dX11_look_124 : decode cX11_look 124 = .ok (.getfield 36, 3) := by decide +kernel
theorem dX11_look_127 : decode cX11_look 127 = .ok (.getfield 255, 3) := by decide +kernel
theorem dX11_look_130 : decode cX11_look 130 = .ok (.iconst 1, 1) := by decide +kernel
theorem dX11_look_131 : decode cX11_look 131 = .ok (.isub, 1) := by decide +kernel
theorem dX11_look_132 : decode cX11_look 132 = .ok (.invokevirtual 316, 3) := by decide +kernel
theorem dX11_look_135 : decode cX11_look 135 = .ok (.ireturn, 1) := by decide +kernel
theorem dX11_look_136 : decode cX11_look 136 = .ok (.aload_n 0, 1) := by decide +kernel
theorem dX11_look_137 : decode cX11_look 137 = .ok (.getfield 36, 3) := by decide +kernel
theorem dX11_look_140 : decode cX11_look 140 = .ok (.getfield 213, 3) := by decide +kernel
theorem dX11_look_143 : decode cX11_look 143 = .ok (.invokevirtual 319, 3) := by decide +kernel
theorem dX11_look_146 : decode cX11_look 146 = .ok (.ireturn, 1) := by decide +kernel
theorem dX11_look_147 : decode cX11_look 147 = .ok (.aload_n 0, 1) := by decide +kernel
theorem dX11_look_148 : decode cX11_look 148 = .ok (.getfield 43, 3) := by decide +kernel
theorem dX11_look_151 : decode cX11_look 151 = .ok (.getfield 77, 3) := by decide +kernel
theorem dX11_look_154 : decode cX11_look 154 = .ok (.ireturn, 1) := by decide +kernel
theorem dX11_look_155 : decode cX11_look 155 = .ok (.aload_n 0, 1) := by decide +kernel
theorem dX11_look_156 : decode cX11_look 156 = .ok (.getfield 10, 3) := by decide +kernel
theorem dX11_look_159 : decode cX11_look 159 = .ok (.getfield 61, 3) := by decide +kernel
theorem dX11_look_162 : decode cX11_look 162 = .ok (.ireturn, 1) := by decide +kernel
theorem dX11_look_163 : decode cX11_look 163 = .ok (.iconst (-1), 1) := by decide +kernel
theorem dX11_look_164 : decode cX11_look 164 = .ok (.ireturn, 1) := by decide +kernel
theorem fgX11_309 : q_Fg RX11 309 8 6 := q_Fg.of (C := RX8) (T := TX8) (N := 9) rfl (by decide) inX8 407 (by decide +kernel) rfl rfl
theorem fgX11_312 : q_Fg RX11 312 8 7 := q_Fg.of (C := RX8) (T := TX8) (N := 9) rfl (by decide) inX8 410 (by decide +kernel) rfl rfl
theorem fgX11_315 : q_Fg RX11 315 10 9 := q_Fg.of (C := RX10) (T := TX10) (N := 10) rfl (by decide) inX10 242 (by decide +kernel) rfl rfl
theorem fcX11_316 : q_LV RX11 316 yX10_openDueBy cX10_openDueBy 4 (some .int) 1 10 := ⟨q_tb 1237 (by decide +kernel) rfl, q_tb 1238 (by decide +kernel) rfl, q_tb 1239 (by decide +kernel) rfl, q_tb 6 (by decide +kernel) rfl, q_tb 1240 (by decide +kernel) rfl, ⟨by decide +kernel, by decide +kernel, by decide +kernel⟩, TX10, 10, rfl⟩
theorem fcX11_319 : q_LV RX11 319 yX3_waitingInAll cX3_waitingInAll 3 (some .int) 0 3 := ⟨q_tb 1241 (by decide +kernel) rfl, q_tb 1242 (by decide +kernel) rfl, q_tb 1243 (by decide +kernel) rfl, q_tb 7 (by decide +kernel) rfl, q_tb 1244 (by decide +kernel) rfl, ⟨by decide +kernel, by decide +kernel, by decide +kernel⟩, TX3, 17, rfl⟩
def fX11_look (n : Nat) (r0 : Nat) (v1 : Int32) (X : Mm) : Option (Int32 × Mm) :=
if v1 = (0 : Int32) then (
if mT X r0 = 11 then
if mR X r0 4 ≠ 0 then
if mT X (mR X r0 4) = 8 then
some ((mI X (mR X r0 4) 6), X)
else none
else none
else none
) else (
if v1 = (1 : Int32) then (
if mT X r0 = 11 then
if mR X r0 4 ≠ 0 then
if mT X (mR X r0 4) = 8 then
some ((mI X (mR X r0 4) 7), X)
else none
else none
else none
) else (
if v1 = (2 : Int32) then (
if mT X r0 = 11 then
if mR X r0 4 ≠ 0 then
if mT X (mR X r0 4) = 8 then
if mR X (mR X r0 4) 2 ≠ 0 then
if mT X (mR X (mR X r0 4) 2) = 10 then
some ((mI X (mR X (mR X r0 4) 2) 9), X)
else none
else none
else none
else none
else none
) else (
if v1 = (3 : Int32) then (
if mT X r0 = 11 then
if mR X r0 4 ≠ 0 then
if mT X (mR X r0 4) = 8 then
if mR X (mR X r0 4) 3 ≠ 0 then
if mT X (mR X (mR X r0 4) 3) = 3 then
some ((mI X (mR X (mR X r0 4) 3) 16), X)
else none
else none
else none
else none
else none
) else (
if v1 = (4 : Int32) then (
if mT X r0 = 11 then
if mR X r0 4 ≠ 0 then
if mT X (mR X r0 4) = 8 then
some ((mI X (mR X r0 4) 8), X)
else none
else none
else none
) else (
if v1 = (5 : Int32) then (
if mT X r0 = 11 then
if mR X r0 4 ≠ 0 then
if mT X (mR X r0 4) = 8 then
if mR X (mR X r0 4) 2 ≠ 0 then
if mT X (mR X (mR X r0 4) 2) = 10 then
bd (fX10_openDueBy n ((mR X (mR X r0 4) 2)) (1008 : Int32) X) fun w24 X112_25 =>
some (w24, X112_25)
else none
else none
else none
else none
else none
) else (
if v1 = (6 : Int32) then (
if mT X r0 = 11 then
if mR X r0 4 ≠ 0 then
if mT X (mR X r0 4) = 8 then
if mR X (mR X r0 4) 2 ≠ 0 then
if mT X (mR X (mR X r0 4) 2) = 10 then
bd (fX10_openDueBy n ((mR X (mR X r0 4) 2)) (((mI X (mR X r0 4) 8) - (1 : Int32))) X) fun w31 X132_32 =>
some (w31, X132_32)
else none
else none
else none
else none
else none
) else (
if v1 = (7 : Int32) then (
if mT X r0 = 11 then
if mR X r0 4 ≠ 0 then
if mT X (mR X r0 4) = 8 then
if mR X (mR X r0 4) 3 ≠ 0 then
if mT X (mR X (mR X r0 4) 3) = 3 then
bd (fX3_waitingInAll n ((mR X (mR X r0 4) 3)) X) fun w38 X143_39 =>
some (w38, X143_39)
else none
else none
else none
else none
else none
) else (
if v1 = (8 : Int32) then (
if mT X r0 = 11 then
if mR X r0 5 ≠ 0 then
if mT X (mR X r0 5) = 4 then
some ((mI X (mR X r0 5) 2), X)
else none
else none
else none
) else (
if v1 = (9 : Int32) then (
if mT X r0 = 11 then
if mR X r0 0 ≠ 0 then
if mT X (mR X r0 0) = 9 then
some ((mI X (mR X r0 0) 1), X)
else none
else none
else none
) else (
some ((-1 : Int32), X)
)
)
)
)
)
)
)
)
)
)
theorem sX11_look (n : Nat) (r0 : Nat) (v1 : Int32) : q_Ct yX11_look cX11_look 2 (some .int) 1 23 0 0 q_eI (fun P => [.ref (P + r0), .int v1]) (fX11_look n r0 v1) := by
  refine q_meth (by decide +kernel) (fun P => Nat.le_of_ble_eq_true rfl) (fun E X C hn => ?_)
  show Sm E (q_fin E q_eI X 0 0) 0 0 0 [(0, .ref (q_P E + r0)), (1, .int v1)] [] X _
  unfold fX11_look
  refine q_iload_n C 1 dX11_look_0 rfl rfl ?_
  refine q_ite (fun e0 => ?_) (fun e0 => ?_)
  · refine q_tabIn C (v := 0) 56 dX11_look_1 (by rw [e0]; rfl) (by decide) (by decide) rfl (by decide) ?_
    refine q_aload_n C 0 dX11_look_56 rfl rfl ?_
    refine q_chk (fun h1 => ?_)
    refine q_chk (fun h2 => ?_)
    refine p_getR C fgX11_36 rfl dX11_look_57 h1 h2 ?_
    refine q_chk (fun h3 => ?_)
    refine p_getI C fgX11_309 rfl dX11_look_60 h3 ?_
    exact q_iret C dX11_look_63
  · refine q_ite (fun e1 => ?_) (fun e1 => ?_)
    · refine q_tabIn C (v := 1) 64 dX11_look_1 (by rw [e1]; rfl) (by decide) (by decide) rfl (by decide) ?_
      refine q_aload_n C 0 dX11_look_64 rfl rfl ?_
      refine q_chk (fun h4 => ?_)
      refine q_chk (fun h5 => ?_)
      refine p_getR C fgX11_36 rfl dX11_look_65 h4 h5 ?_
      refine q_chk (fun h6 => ?_)
      refine p_getI C fgX11_312 rfl dX11_look_68 h6 ?_
      exact q_iret C dX11_look_71
    · refine q_ite (fun e2 => ?_) (fun e2 => ?_)
      · refine q_tabIn C (v := 2) 72 dX11_look_1 (by rw [e2]; rfl) (by decide) (by decide) rfl (by decide) ?_
        refine q_aload_n C 0 dX11_look_72 rfl rfl ?_
        refine q_chk (fun h7 => ?_)
        refine q_chk (fun h8 => ?_)
        refine p_getR C fgX11_36 rfl dX11_look_73 h7 h8 ?_
        refine q_chk (fun h9 => ?_)
        refine q_chk (fun h10 => ?_)
        refine p_getR C fgX11_201 rfl dX11_look_76 h9 h10 ?_
        refine q_chk (fun h11 => ?_)
        refine p_getI C fgX11_315 rfl dX11_look_79 h11 ?_
        exact q_iret C dX11_look_82
      · refine q_ite (fun e3 => ?_) (fun e3 => ?_)
        · refine q_tabIn C (v := 3) 83 dX11_look_1 (by rw [e3]; rfl) (by decide) (by decide) rfl (by decide) ?_
          refine q_aload_n C 0 dX11_look_83 rfl rfl ?_
          refine q_chk (fun h12 => ?_)
          refine q_chk (fun h13 => ?_)
          refine p_getR C fgX11_36 rfl dX11_look_84 h12 h13 ?_
          refine q_chk (fun h14 => ?_)
          refine q_chk (fun h15 => ?_)
          refine p_getR C fgX11_213 rfl dX11_look_87 h14 h15 ?_
          refine q_chk (fun h16 => ?_)
          refine p_getI C fgX11_277 rfl dX11_look_90 h16 ?_
          exact q_iret C dX11_look_93
        · refine q_ite (fun e4 => ?_) (fun e4 => ?_)
          · refine q_tabIn C (v := 4) 94 dX11_look_1 (by rw [e4]; rfl) (by decide) (by decide) rfl (by decide) ?_
            refine q_aload_n C 0 dX11_look_94 rfl rfl ?_
            refine q_chk (fun h17 => ?_)
            refine q_chk (fun h18 => ?_)
            refine p_getR C fgX11_36 rfl dX11_look_95 h17 h18 ?_
            refine q_chk (fun h19 => ?_)
            refine p_getI C fgX11_255 rfl dX11_look_98 h19 ?_
            exact q_iret C dX11_look_101
          · refine q_ite (fun e5 => ?_) (fun e5 => ?_)
            · refine q_tabIn C (v := 5) 102 dX11_look_1 (by rw [e5]; rfl) (by decide) (by decide) rfl (by decide) ?_
              refine q_aload_n C 0 dX11_look_102 rfl rfl ?_
              refine q_chk (fun h20 => ?_)
              refine q_chk (fun h21 => ?_)
              refine p_getR C fgX11_36 rfl dX11_look_103 h20 h21 ?_
              refine q_chk (fun h22 => ?_)
              refine q_chk (fun h23 => ?_)
              refine p_getR C fgX11_201 rfl dX11_look_106 h22 h23 ?_
              refine q_sipush C (1008 : Int32) dX11_look_109 rfl ?_
              refine q_chk (fun h26 => ?_)
              refine q_cVI (As := (fun P => [.int (1008 : Int32)])) C [] (sX10_openDueBy n ((mR X (mR X r0 4) 2)) (1008 : Int32)) fcX11_316 rfl (fun _ => rfl) ⟨Nat.le_of_ble_eq_true rfl, Nat.le_of_ble_eq_true rfl⟩ ⟨Nat.le_of_ble_eq_true rfl, Nat.le_of_ble_eq_true rfl⟩ (Nat.le_of_ble_eq_true rfl) dX11_look_112 h26 (fun w24 X112_25 => ?_)
              exact q_iret C dX11_look_115
            · refine q_ite (fun e6 => ?_) (fun e6 => ?_)
              · refine q_tabIn C (v := 6) 116 dX11_look_1 (by rw [e6]; rfl) (by decide) (by decide) rfl (by decide) ?_
                refine q_aload_n C 0 dX11_look_116 rfl rfl ?_
                refine q_chk (fun h27 => ?_)
                refine q_chk (fun h28 => ?_)
                refine p_getR C fgX11_36 rfl dX11_look_117 h27 h28 ?_
                refine q_chk (fun h29 => ?_)
                refine q_chk (fun h30 => ?_)
                refine p_getR C fgX11_201 rfl dX11_look_120 h29 h30 ?_
                refine q_aload_n C 0 dX11_look_123 rfl rfl ?_
                refine p_getR C fgX11_36 rfl dX11_look_124 h27 h28 ?_
                refine p_getI C fgX11_255 rfl dX11_look_127 h29 ?_
                refine q_iconst C (1 : Int32) dX11_look_130 rfl ?_
                refine q_isub C dX11_look_131 ?_
                refine q_chk (fun h33 => ?_)
                refine q_cVI (As := (fun P => [.int ((mI X (mR X r0 4) 8) - (1 : Int32))])) C [] (sX10_openDueBy n ((mR X (mR X r0 4) 2)) (((mI X (mR X r0 4) 8) - (1 : Int32)))) fcX11_316 rfl (fun _ => rfl) ⟨Nat.le_of_ble_eq_true rfl, Nat.le_of_ble_eq_true rfl⟩ ⟨Nat.le_of_ble_eq_true rfl, Nat.le_of_ble_eq_true rfl⟩ (Nat.le_of_ble_eq_true rfl) dX11_look_132 h33 (fun w31 X132_32 => ?_)
                exact q_iret C dX11_look_135
              · refine q_ite (fun e7 => ?_) (fun e7 => ?_)
                · refine q_tabIn C (v := 7) 136 dX11_look_1 (by rw [e7]; rfl) (by decide) (by decide) rfl (by decide) ?_
                  refine q_aload_n C 0 dX11_look_136 rfl rfl ?_
                  refine q_chk (fun h34 => ?_)
                  refine q_chk (fun h35 => ?_)
                  refine p_getR C fgX11_36 rfl dX11_look_137 h34 h35 ?_
                  refine q_chk (fun h36 => ?_)
                  refine q_chk (fun h37 => ?_)
                  refine p_getR C fgX11_213 rfl dX11_look_140 h36 h37 ?_
                  refine q_chk (fun h40 => ?_)
                  refine q_cVI (As := (fun P => [])) C [] (sX3_waitingInAll n ((mR X (mR X r0 4) 3))) fcX11_319 rfl (fun _ => rfl) ⟨Nat.le_of_ble_eq_true rfl, Nat.le_of_ble_eq_true rfl⟩ ⟨Nat.le_of_ble_eq_true rfl, Nat.le_of_ble_eq_true rfl⟩ (Nat.le_of_ble_eq_true rfl) dX11_look_143 h40 (fun w38 X143_39 => ?_)
                  exact q_iret C dX11_look_146
                · refine q_ite (fun e8 => ?_) (fun e8 => ?_)
                  · refine q_tabIn C (v := 8) 147 dX11_look_1 (by rw [e8]; rfl) (by decide) (by decide) rfl (by decide) ?_
                    refine q_aload_n C 0 dX11_look_147 rfl rfl ?_
                    refine q_chk (fun h41 => ?_)
                    refine q_chk (fun h42 => ?_)
                    refine p_getR C fgX11_43 rfl dX11_look_148 h41 h42 ?_
                    refine q_chk (fun h43 => ?_)
                    refine p_getI C fgX11_77 rfl dX11_look_151 h43 ?_
                    exact q_iret C dX11_look_154
                  · refine q_ite (fun e9 => ?_) (fun e9 => ?_)
                    · refine q_tabIn C (v := 9) 155 dX11_look_1 (by rw [e9]; rfl) (by decide) (by decide) rfl (by decide) ?_
                      refine q_aload_n C 0 dX11_look_155 rfl rfl ?_
                      refine q_chk (fun h44 => ?_)
                      refine q_chk (fun h45 => ?_)
                      refine p_getR C fgX11_10 rfl dX11_look_156 h44 h45 ?_
                      refine q_chk (fun h46 => ?_)
                      refine p_getI C fgX11_61 rfl dX11_look_159 h46 ?_
                      exact q_iret C dX11_look_162
                    · have n0 := q_ne e0 (i := 0) rfl
                      have n1 := q_ne e1 (i := 1) rfl
                      have n2 := q_ne e2 (i := 2) rfl
                      have n3 := q_ne e3 (i := 3) rfl
                      have n4 := q_ne e4 (i := 4) rfl
                      have n5 := q_ne e5 (i := 5) rfl
                      have n6 := q_ne e6 (i := 6) rfl
                      have n7 := q_ne e7 (i := 7) rfl
                      have n8 := q_ne e8 (i := 8) rfl
                      have n9 := q_ne e9 (i := 9) rfl
                      refine q_tabOut C 163 dX11_look_1 (by omega) (by decide) ?_
                      refine q_iconst C (-1 : Int32) dX11_look_163 rfl ?_
                      exact q_iret C dX11_look_164
