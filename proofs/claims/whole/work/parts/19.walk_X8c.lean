/-! RecordClaims$State.ratioCanBe(LRecordClaims$Deed;)Z -/
abbrev cX8_ratioCanBe : ByteArray := prog_10_method_16_code
def yX8_ratioCanBe : MethodName := ⟨RX8, "ratioCanBe", "(LRecordClaims$Deed;)Z"⟩
theorem dX8_ratioCanBe_0 : decode cX8_ratioCanBe 0 = .ok (.aload_n 0, 1) := by decide +kernel
theorem dX8_ratioCanBe_1 : decode cX8_ratioCanBe 1 = .ok (.getfield 193, 3) := by decide +kernel
theorem dX8_ratioCanBe_4 : decode cX8_ratioCanBe 4 = .ok (.iconst 1, 1) := by decide +kernel
theorem dX8_ratioCanBe_5 : decode cX8_ratioCanBe 5 = .ok (.bipush 9, 2) := by decide +kernel
theorem dX8_ratioCanBe_7 : decode cX8_ratioCanBe 7 = .ok (.invokestatic 139, 3) := by decide +kernel
theorem dX8_ratioCanBe_10 : decode cX8_ratioCanBe 10 = .ok (.ifCond .eq 48, 3) := by decide +kernel
theorem dX8_ratioCanBe_13 : decode cX8_ratioCanBe 13 = .ok (.aload_n 0, 1) := by decide +kernel
theorem dX8_ratioCanBe_14 : decode cX8_ratioCanBe 14 = .ok (.getfield 196, 3) := by decide +kernel
theorem dX8_ratioCanBe_17 : decode cX8_ratioCanBe 17 = .ok (.iconst 1, 1) := by decide +kernel
theorem dX8_ratioCanBe_18 : decode cX8_ratioCanBe 18 = .ok (.bipush 9, 2) := by decide +kernel
theorem dX8_ratioCanBe_20 : decode cX8_ratioCanBe 20 = .ok (.invokestatic 139, 3) := by decide +kernel
theorem dX8_ratioCanBe_23 : decode cX8_ratioCanBe 23 = .ok (.ifCond .eq 35, 3) := by decide +kernel
theorem dX8_ratioCanBe_26 : decode cX8_ratioCanBe 26 = .ok (.aload_n 0, 1) := by decide +kernel
theorem dX8_ratioCanBe_27 : decode cX8_ratioCanBe 27 = .ok (.getfield 184, 3) := by decide +kernel
theorem dX8_ratioCanBe_30 : decode cX8_ratioCanBe 30 = .ok (.iconst 0, 1) := by decide +kernel
theorem dX8_ratioCanBe_31 : decode cX8_ratioCanBe 31 = .ok (.sipush 999, 3) := by decide +kernel
theorem dX8_ratioCanBe_34 : decode cX8_ratioCanBe 34 = .ok (.invokestatic 139, 3) := by decide +kernel
theorem dX8_ratioCanBe_37 : decode cX8_ratioCanBe 37 = .ok (.ifCond .eq 21, 3) := by decide +kernel
theorem dX8_ratioCanBe_40 : decode cX8_ratioCanBe 40 = .ok (.aload_n 0, 1) := by decide +kernel
theorem dX8_ratioCanBe_41 : decode cX8_ratioCanBe 41 = .ok (.getfield 199, 3) := by decide +kernel
theorem dX8_ratioCanBe_44 : decode cX8_ratioCanBe 44 = .ok (.iconst 0, 1) := by decide +kernel
theorem dX8_ratioCanBe_45 : decode cX8_ratioCanBe 45 = .ok (.sipush 999, 3) := by decide +kernel
theorem dX8_ratioCanBe_48 : decode cX8_ratioCanBe 48 = .ok (.invokestatic 139, 3) := by decide +kernel
theorem dX8_ratioCanBe_51 : decode cX8_ratioCanBe 51 = .ok (.ifCond .eq 7, 3) := by decide +kernel
theorem dX8_ratioCanBe_54 : decode cX8_ratioCanBe 54 = .ok (.iconst 1, 1) := by decide +kernel
theorem dX8_ratioCanBe_55 : decode cX8_ratioCanBe 55 = .ok (.goto 4, 3) := by decide +kernel
theorem dX8_ratioCanBe_58 : decode cX8_ratioCanBe 58 = .ok (.iconst 0, 1) := by decide +kernel
theorem dX8_ratioCanBe_59 : decode cX8_ratioCanBe 59 = .ok (.ireturn, 1) := by decide +kernel
theorem fgX8_193 : q_Fg RX8 193 2 8 := q_Fg.of (C := RX2) (T := TX2) (N := 20) rfl (by decide) inX2 132 (by decide +kernel) rfl rfl
theorem fgX8_196 : q_Fg RX8 196 2 9 := q_Fg.of (C := RX2) (T := TX2) (N := 20) rfl (by decide) inX2 135 (by decide +kernel) rfl rfl
theorem fgX8_184 : q_Fg RX8 184 2 10 := q_Fg.of (C := RX2) (T := TX2) (N := 20) rfl (by decide) inX2 139 (by decide +kernel) rfl rfl
theorem fgX8_199 : q_Fg RX8 199 2 11 := q_Fg.of (C := RX2) (T := TX2) (N := 20) rfl (by decide) inX2 143 (by decide +kernel) rfl rfl
def fX8_ratioCanBe_L58 (X : Mm) : Option (Int32 × Mm) :=
some (0, X)
def fX8_ratioCanBe (r0 : Nat) (X : Mm) : Option (Int32 × Mm) :=
if mT X r0 = 2 then
bd (fX11_isWithin ((mI X r0 8)) (1 : Int32) (9 : Int32) X) fun w2 X7_3 =>
if w2 = 0 then (
fX8_ratioCanBe_L58 X7_3
) else (
if mT X7_3 r0 = 2 then
bd (fX11_isWithin ((mI X7_3 r0 9)) (1 : Int32) (9 : Int32) X7_3) fun w5 X20_6 =>
if w5 = 0 then (
fX8_ratioCanBe_L58 X20_6
) else (
if mT X20_6 r0 = 2 then
bd (fX11_isWithin ((mI X20_6 r0 10)) (0 : Int32) (999 : Int32) X20_6) fun w8 X34_9 =>
if w8 = 0 then (
fX8_ratioCanBe_L58 X34_9
) else (
if mT X34_9 r0 = 2 then
bd (fX11_isWithin ((mI X34_9 r0 11)) (0 : Int32) (999 : Int32) X34_9) fun w11 X48_12 =>
if w11 = 0 then (
fX8_ratioCanBe_L58 X48_12
) else (
some (1, X48_12)
)
else none
)
else none
)
else none
)
else none
theorem gX8_ratioCanBe_L58 {E : q_E} {X0 : Mm} (C : Cx E cX8_ratioCanBe RX8 1 (some .boolean) (q_rm 1 22 0 0) X0) (X : Mm) : Sm E (q_fin E q_eI X0 0 0) 0 0 58 [] [] X (fX8_ratioCanBe_L58  X) := by
  unfold fX8_ratioCanBe_L58
  refine q_iconst C (0 : Int32) dX8_ratioCanBe_58 rfl ?_
  exact q_zret0 C dX8_ratioCanBe_59
theorem sX8_ratioCanBe (r0 : Nat) : q_Ct yX8_ratioCanBe cX8_ratioCanBe 1 (some .boolean) 1 22 0 0 q_eI (fun P => [.ref (P + r0)]) (fX8_ratioCanBe r0) := by
  refine q_meth (by decide +kernel) (fun P => Nat.le_of_ble_eq_true rfl) (fun E X C hn => ?_)
  show Sm E (q_fin E q_eI X 0 0) 0 0 0 [(0, .ref (q_P E + r0))] [] X _
  unfold fX8_ratioCanBe
  refine q_aload_n C 0 dX8_ratioCanBe_0 rfl rfl ?_
  refine q_chk (fun h1 => ?_)
  refine p_getI C fgX8_193 rfl dX8_ratioCanBe_1 h1 ?_
  refine q_iconst C (1 : Int32) dX8_ratioCanBe_4 rfl ?_
  refine q_bipush C (9 : Int32) dX8_ratioCanBe_5 rfl ?_
  refine q_cNI (As := (fun P => [.int (mI X r0 8), .int (1 : Int32), .int (9 : Int32)])) C [] (sX11_isWithin ((mI X r0 8)) (1 : Int32) (9 : Int32)) fcX8_139 rfl (fun _ => rfl) ⟨Nat.le_of_ble_eq_true rfl, Nat.le_of_ble_eq_true rfl⟩ ⟨Nat.le_of_ble_eq_true rfl, Nat.le_of_ble_eq_true rfl⟩ (Nat.le_of_ble_eq_true rfl) dX8_ratioCanBe_7 (fun w2 X7_3 => ?_)
  refine q_if_eq C 58 dX8_ratioCanBe_10 (by decide) (fun _ => ?_) (fun _ => ?_)
  · refine q_sub C [] [] rfl ?_
    exact gX8_ratioCanBe_L58 C X7_3
  · refine q_aload_n C 0 dX8_ratioCanBe_13 rfl rfl ?_
    refine q_chk (fun h4 => ?_)
    refine p_getI C fgX8_196 rfl dX8_ratioCanBe_14 h4 ?_
    refine q_iconst C (1 : Int32) dX8_ratioCanBe_17 rfl ?_
    refine q_bipush C (9 : Int32) dX8_ratioCanBe_18 rfl ?_
    refine q_cNI (As := (fun P => [.int (mI X7_3 r0 9), .int (1 : Int32), .int (9 : Int32)])) C [] (sX11_isWithin ((mI X7_3 r0 9)) (1 : Int32) (9 : Int32)) fcX8_139 rfl (fun _ => rfl) ⟨Nat.le_of_ble_eq_true rfl, Nat.le_of_ble_eq_true rfl⟩ ⟨Nat.le_of_ble_eq_true rfl, Nat.le_of_ble_eq_true rfl⟩ (Nat.le_of_ble_eq_true rfl) dX8_ratioCanBe_20 (fun w5 X20_6 => ?_)
    refine q_if_eq C 58 dX8_ratioCanBe_23 (by decide) (fun _ => ?_) (fun _ => ?_)
    · refine q_sub C [] [] rfl ?_
      exact gX8_ratioCanBe_L58 C X20_6
    · refine q_aload_n C 0 dX8_ratioCanBe_26 rfl rfl ?_
      refine q_chk (fun h7 => ?_)
      refine p_getI C fgX8_184 rfl dX8_ratioCanBe_27 h7 ?_
      refine q_iconst C (0 : Int32) dX8_ratioCanBe_30 rfl ?_
      refine q_sipush C (999 : Int32) dX8_ratioCanBe_31 rfl ?_
      refine q_cNI (As := (fun P => [.int (mI X20_6 r0 10), .int (0 : Int32), .int (999 : Int32)])) C [] (sX11_isWithin ((mI X20_6 r0 10)) (0 : Int32) (999 : Int32)) fcX8_139 rfl (fun _ => rfl) ⟨Nat.le_of_ble_eq_true rfl, Nat.le_of_ble_eq_true rfl⟩ ⟨Nat.le_of_ble_eq_true rfl, Nat.le_of_ble_eq_true rfl⟩ (Nat.le_of_ble_eq_true rfl) dX8_ratioCanBe_34 (fun w8 X34_9 => ?_)
      refine q_if_eq C 58 dX8_ratioCanBe_37 (by decide) (fun _ => ?_) (fun _ => ?_)
      · refine q_sub C [] [] rfl ?_
        exact gX8_ratioCanBe_L58 C X34_9
      · refine q_aload_n C 0 dX8_ratioCanBe_40 rfl rfl ?_
        refine q_chk (fun h10 => ?_)
        refine p_getI C fgX8_199 rfl dX8_ratioCanBe_41 h10 ?_
        refine q_iconst C (0 : Int32) dX8_ratioCanBe_44 rfl ?_
        refine q_sipush C (999 : Int32) dX8_ratioCanBe_45 rfl ?_
        refine q_cNI (As := (fun P => [.int (mI X34_9 r0 11), .int (0 : Int32), .int (999 : Int32)])) C [] (sX11_isWithin ((mI X34_9 r0 11)) (0 : Int32) (999 : Int32)) fcX8_139 rfl (fun _ => rfl) ⟨Nat.le_of_ble_eq_true rfl, Nat.le_of_ble_eq_true rfl⟩ ⟨Nat.le_of_ble_eq_true rfl, Nat.le_of_ble_eq_true rfl⟩ (Nat.le_of_ble_eq_true rfl) dX8_ratioCanBe_48 (fun w11 X48_12 => ?_)
        refine q_if_eq C 58 dX8_ratioCanBe_51 (by decide) (fun _ => ?_) (fun _ => ?_)
        · refine q_sub C [] [] rfl ?_
          exact gX8_ratioCanBe_L58 C X48_12
        · refine q_iconst C (1 : Int32) dX8_ratioCanBe_54 rfl ?_
          refine q_goto C 59 dX8_ratioCanBe_55 (by decide) ?_
          exact q_zret1 C dX8_ratioCanBe_59
/-! RecordClaims$State.termsCanBe(LRecordClaims$Deed;)Z -/
abbrev cX8_termsCanBe : ByteArray := prog_10_method_15_code
def yX8_termsCanBe : MethodName := ⟨RX8, "termsCanBe", "(LRecordClaims$Deed;)Z"⟩
theorem dX8_termsCanBe_0 : decode cX8_termsCanBe 0 = .ok (.aload_n 1, 1) := by decide +kernel
theorem dX8_termsCanBe_1 : decode cX8_termsCanBe 1 = .ok (.getfield 91, 3) := by decide +kernel
theorem dX8_termsCanBe_4 : decode cX8_termsCanBe 4 = .ok (.lookupswitch 75 #[(0, 28), (3, 40)], 28) := by decide +kernel
theorem dX8_termsCanBe_32 : decode cX8_termsCanBe 32 = .ok (.aload_n 1, 1) := by decide +kernel
theorem dX8_termsCanBe_33 : decode cX8_termsCanBe 33 = .ok (.getfield 184, 3) := by decide +kernel
theorem dX8_termsCanBe_36 : decode cX8_termsCanBe 36 = .ok (.iconst 1, 1) := by decide +kernel
theorem dX8_termsCanBe_37 : decode cX8_termsCanBe 37 = .ok (.sipush 999, 3) := by decide +kernel
theorem dX8_termsCanBe_40 : decode cX8_termsCanBe 40 = .ok (.invokestatic 139, 3) := by decide +kernel
theorem dX8_termsCanBe_43 : decode cX8_termsCanBe 43 = .ok (.ireturn, 1) := by decide +kernel
theorem dX8_termsCanBe_44 : decode cX8_termsCanBe 44 = .ok (.aload_n 0, 1) := by decide +kernel
theorem dX8_termsCanBe_45 : decode cX8_termsCanBe 45 = .ok (.aload_n 1, 1) := by decide +kernel
theorem dX8_termsCanBe_46 : decode cX8_termsCanBe 46 = .ok (.getfield 187, 3) := by decide +kernel
theorem dX8_termsCanBe_49 : decode cX8_termsCanBe 49 = .ok (.invokevirtual 133, 3) := by decide +kernel
theorem dX8_termsCanBe_52 : decode cX8_termsCanBe 52 = .ok (.ifCond .eq 25, 3) := by decide +kernel
theorem dX8_termsCanBe_55 : decode cX8_termsCanBe 55 = .ok (.aload_n 1, 1) := by decide +kernel
theorem dX8_termsCanBe_56 : decode cX8_termsCanBe 56 = .ok (.getfield 187, 3) := by decide +kernel
theorem dX8_termsCanBe_59 : decode cX8_termsCanBe 59 = .ok (.aload_n 1, 1) := by decide +kernel
theorem dX8_termsCanBe_60 : decode cX8_termsCanBe 60 = .ok (.getfield 130, 3) := by decide +kernel
theorem dX8_termsCanBe_63 : decode cX8_termsCanBe 63 = .ok (.if_icmp .eq 14, 3) := by decide +kernel
theorem dX8_termsCanBe_66 : decode cX8_termsCanBe 66 = .ok (.aload_n 1, 1) := by decide +kernel
theorem dX8_termsCanBe_67 : decode cX8_termsCanBe 67 = .ok (.invokestatic 190, 3) := by decide +kernel
theorem dX8_termsCanBe_70 : decode cX8_termsCanBe 70 = .ok (.ifCond .eq 7, 3) := by decide +kernel
theorem dX8_termsCanBe_73 : decode cX8_termsCanBe 73 = .ok (.iconst 1, 1) := by decide +kernel
theorem dX8_termsCanBe_74 : decode cX8_termsCanBe 74 = .ok (.goto 4, 3) := by decide +kernel
theorem dX8_termsCanBe_77 : decode cX8_termsCanBe 77 = .ok (.iconst 0, 1) := by decide +kernel
theorem dX8_termsCanBe_78 : decode cX8_termsCanBe 78 = .ok (.ireturn, 1) := by decide +kernel
theorem dX8_termsCanBe_79 : decode cX8_termsCanBe 79 = .ok (.aload_n 1, 1) := by decide +kernel
theorem dX8_termsCanBe_80 : decode cX8_termsCanBe 80 = .ok (.invokestatic 190, 3) := by decide +kernel
theorem dX8_termsCanBe_83 : decode cX8_termsCanBe 83 = .ok (.ireturn, 1) := by decide +kernel
theorem fgX8_91 : q_Fg RX8 91 2 0 := q_Fg.of (C := RX2) (T := TX2) (N := 20) rfl (by decide) inX2 101 (by decide +kernel) rfl rfl
theorem fgX8_187 : q_Fg RX8 187 2 7 := q_Fg.of (C := RX2) (T := TX2) (N := 20) rfl (by decide) inX2 129 (by decide +kernel) rfl rfl
theorem fcX8_190 : q_LS RX8 190 yX8_ratioCanBe cX8_ratioCanBe 1 (some .boolean) 1 := ⟨q_tb 955 (by decide +kernel) rfl, q_tb 956 (by decide +kernel) rfl, q_tb 5 (by decide +kernel) rfl, q_tb 957 (by decide +kernel) rfl, ⟨by decide +kernel, by decide +kernel, by decide +kernel⟩⟩
def fX8_termsCanBe_L77 (X : Mm) : Option (Int32 × Mm) :=
some (0, X)
def fX8_termsCanBe (r0 : Nat) (r1 : Nat) (X : Mm) : Option (Int32 × Mm) :=
if mT X r1 = 2 then
if (mI X r1 0) = (0 : Int32) then (
bd (fX11_isWithin ((mI X r1 10)) (1 : Int32) (999 : Int32) X) fun w2 X40_3 =>
if w2 = 0 ∨ w2 = 1 then some (w2, X40_3) else none
) else (
if (mI X r1 0) = (3 : Int32) then (
if mT X r0 = 8 then
bd (fX8_isPaper r0 ((mI X r1 7)) X) fun w4 X49_5 =>
if w4 = 0 then (
fX8_termsCanBe_L77 X49_5
) else (
if mT X49_5 r1 = 2 then
if (mI X49_5 r1 7) = (mI X49_5 r1 1) then (
fX8_termsCanBe_L77 X49_5
) else (
bd (fX8_ratioCanBe r1 X49_5) fun w8 X67_9 =>
if w8 = 0 then (
fX8_termsCanBe_L77 X67_9
) else (
some (1, X67_9)
)
)
else none
)
else none
) else (
bd (fX8_ratioCanBe r1 X) fun w10 X80_11 =>
if w10 = 0 ∨ w10 = 1 then some (w10, X80_11) else none
)
)
else none
theorem gX8_termsCanBe_L77 {E : q_E} {X0 : Mm} (C : Cx E cX8_termsCanBe RX8 2 (some .boolean) (q_rm 2 42 0 0) X0) (X : Mm) : Sm E (q_fin E q_eI X0 0 0) 0 0 77 [] [] X (fX8_termsCanBe_L77  X) := by
  unfold fX8_termsCanBe_L77
  refine q_iconst C (0 : Int32) dX8_termsCanBe_77 rfl ?_
  exact q_zret0 C dX8_termsCanBe_78
theorem sX8_termsCanBe (r0 : Nat) (r1 : Nat) : q_Ct yX8_termsCanBe cX8_termsCanBe 2 (some .boolean) 2 42 0 0 q_eI (fun P => [.ref (P + r0), .ref (P + r1)]) (fX8_termsCanBe r0 r1) := by
  refine q_meth (by decide +kernel) (fun P => Nat.le_of_ble_eq_true rfl) (fun E X C hn => ?_)
  show Sm E (q_fin E q_eI X 0 0) 0 0 0 [(0, .ref (q_P E + r0)), (1, .ref (q_P E + r1))] [] X _
  unfold fX8_termsCanBe
  refine q_aload_n C 1 dX8_termsCanBe_0 rfl rfl ?_
  refine q_chk (fun h1 => ?_)
  refine p_getI C fgX8_91 rfl dX8_termsCanBe_1 h1 ?_
  refine q_ite (fun e0 => ?_) (fun e0 => ?_)
  · refine q_lookup C (off := 28) 32 dX8_termsCanBe_4 (by decide) (by rw [e0]; rfl) (by decide) ?_
    refine q_aload_n C 1 dX8_termsCanBe_32 rfl rfl ?_
    refine p_getI C fgX8_184 rfl dX8_termsCanBe_33 h1 ?_
    refine q_iconst C (1 : Int32) dX8_termsCanBe_36 rfl ?_
    refine q_sipush C (999 : Int32) dX8_termsCanBe_37 rfl ?_
    refine q_cNI (As := (fun P => [.int (mI X r1 10), .int (1 : Int32), .int (999 : Int32)])) C [] (sX11_isWithin ((mI X r1 10)) (1 : Int32) (999 : Int32)) fcX8_139 rfl (fun _ => rfl) ⟨Nat.le_of_ble_eq_true rfl, Nat.le_of_ble_eq_true rfl⟩ ⟨Nat.le_of_ble_eq_true rfl, Nat.le_of_ble_eq_true rfl⟩ (Nat.le_of_ble_eq_true rfl) dX8_termsCanBe_40 (fun w2 X40_3 => ?_)
    exact q_zret C dX8_termsCanBe_43
  · refine q_ite (fun e3 => ?_) (fun e3 => ?_)
    · refine q_lookup C (off := 40) 44 dX8_termsCanBe_4 (by decide) (by rw [e3]; rfl) (by decide) ?_
      refine q_aload_n C 0 dX8_termsCanBe_44 rfl rfl ?_
      refine q_aload_n C 1 dX8_termsCanBe_45 rfl rfl ?_
      refine p_getI C fgX8_187 rfl dX8_termsCanBe_46 h1 ?_
      refine q_chk (fun h6 => ?_)
      refine q_cVI (As := (fun P => [.int (mI X r1 7)])) C [] (sX8_isPaper r0 ((mI X r1 7))) fcX8_133 rfl (fun _ => rfl) ⟨Nat.le_of_ble_eq_true rfl, Nat.le_of_ble_eq_true rfl⟩ ⟨Nat.le_of_ble_eq_true rfl, Nat.le_of_ble_eq_true rfl⟩ (Nat.le_of_ble_eq_true rfl) dX8_termsCanBe_49 h6 (fun w4 X49_5 => ?_)
      refine q_if_eq C 77 dX8_termsCanBe_52 (by decide) (fun _ => ?_) (fun _ => ?_)
      · refine q_sub C [] [] rfl ?_
        exact gX8_termsCanBe_L77 C X49_5
      · refine q_aload_n C 1 dX8_termsCanBe_55 rfl rfl ?_
        refine q_chk (fun h7 => ?_)
        refine p_getI C fgX8_187 rfl dX8_termsCanBe_56 h7 ?_
        refine q_aload_n C 1 dX8_termsCanBe_59 rfl rfl ?_
        refine p_getI C fgX8_130 rfl dX8_termsCanBe_60 h7 ?_
        refine q_icmp_eq C 77 dX8_termsCanBe_63 (by decide) (fun _ => ?_) (fun _ => ?_)
        · refine q_sub C [] [] rfl ?_
          exact gX8_termsCanBe_L77 C X49_5
        · refine q_aload_n C 1 dX8_termsCanBe_66 rfl rfl ?_
          refine q_cSI (As := (fun P => [.ref (P + r1)])) C [] (sX8_ratioCanBe r1) fcX8_190 rfl (fun _ => rfl) ⟨Nat.le_of_ble_eq_true rfl, Nat.le_of_ble_eq_true rfl⟩ ⟨Nat.le_of_ble_eq_true rfl, Nat.le_of_ble_eq_true rfl⟩ (Nat.le_of_ble_eq_true rfl) dX8_termsCanBe_67 (fun w8 X67_9 => ?_)
          refine q_if_eq C 77 dX8_termsCanBe_70 (by decide) (fun _ => ?_) (fun _ => ?_)
          · refine q_sub C [] [] rfl ?_
            exact gX8_termsCanBe_L77 C X67_9
          · refine q_iconst C (1 : Int32) dX8_termsCanBe_73 rfl ?_
            refine q_goto C 78 dX8_termsCanBe_74 (by decide) ?_
            exact q_zret1 C dX8_termsCanBe_78
    · have n0 := q_ne e0 (i := 0) rfl
      have n3 := q_ne e3 (i := 3) rfl
      refine q_lookup C (off := 75) 79 dX8_termsCanBe_4 (by decide) (q_lkout (by simp [Op.lookupswitch.offset, n0, Ne.symm n0, n3, Ne.symm n3])) (by decide) ?_
      refine q_aload_n C 1 dX8_termsCanBe_79 rfl rfl ?_
      refine q_cSI (As := (fun P => [.ref (P + r1)])) C [] (sX8_ratioCanBe r1) fcX8_190 rfl (fun _ => rfl) ⟨Nat.le_of_ble_eq_true rfl, Nat.le_of_ble_eq_true rfl⟩ ⟨Nat.le_of_ble_eq_true rfl, Nat.le_of_ble_eq_true rfl⟩ (Nat.le_of_ble_eq_true rfl) dX8_termsCanBe_80 (fun w10 X80_11 => ?_)
      exact q_zret C dX8_termsCanBe_83
/-! RecordClaims$State.whenCanBe(LRecordClaims$Deed;)Z -/
abbrev cX8_whenCanBe : ByteArray := prog_10_method_17_code
def yX8_whenCanBe : MethodName := ⟨RX8, "whenCanBe", "(LRecordClaims$Deed;)Z"⟩
theorem dX8_whenCanBe_0 : decode cX8_whenCanBe 0 = .ok (.aload_n 1, 1) := by decide +kernel
theorem dX8_whenCanBe_1 : decode cX8_whenCanBe 1 = .ok (.getfield 202, 3) := by decide +kernel
theorem dX8_whenCanBe_4 : decode cX8_whenCanBe 4 = .ok (.aload_n 0, 1) := by decide +kernel
theorem dX8_whenCanBe_5 : decode cX8_whenCanBe 5 = .ok (.getfield 68, 3) := by decide +kernel
theorem dX8_whenCanBe_8 : decode cX8_whenCanBe 8 = .ok (.if_icmp .le 39, 3) := by decide +kernel
theorem dX8_whenCanBe_11 : decode cX8_whenCanBe 11 = .ok (.aload_n 1, 1) := by decide +kernel
theorem dX8_whenCanBe_12 : decode cX8_whenCanBe 12 = .ok (.getfield 205, 3) := by decide +kernel
theorem dX8_whenCanBe_15 : decode cX8_whenCanBe 15 = .ok (.aload_n 1, 1) := by decide +kernel
theorem dX8_whenCanBe_16 : decode cX8_whenCanBe 16 = .ok (.getfield 202, 3) := by decide +kernel
theorem dX8_whenCanBe_19 : decode cX8_whenCanBe 19 = .ok (.if_icmp .lt 28, 3) := by decide +kernel
theorem dX8_whenCanBe_22 : decode cX8_whenCanBe 22 = .ok (.aload_n 1, 1) := by decide +kernel
theorem dX8_whenCanBe_23 : decode cX8_whenCanBe 23 = .ok (.getfield 208, 3) := by decide +kernel
theorem dX8_whenCanBe_26 : decode cX8_whenCanBe 26 = .ok (.aload_n 1, 1) := by decide +kernel
theorem dX8_whenCanBe_27 : decode cX8_whenCanBe 27 = .ok (.getfield 205, 3) := by decide +kernel
theorem dX8_whenCanBe_30 : decode cX8_whenCanBe 30 = .ok (.if_icmp .lt 17, 3) := by decide +kernel
theorem dX8_whenCanBe_33 : decode cX8_whenCanBe 33 = .ok (.aload_n 1, 1) := by decide +kernel
theorem dX8_whenCanBe_34 : decode cX8_whenCanBe 34 = .ok (.getfield 208, 3) := by decide +kernel
theorem dX8_whenCanBe_37 : decode cX8_whenCanBe 37 = .ok (.sipush 999, 3) := by decide +kernel
theorem dX8_whenCanBe_40 : decode cX8_whenCanBe 40 = .ok (.if_icmp .gt 7, 3) := by decide +kernel
theorem dX8_whenCanBe_43 : decode cX8_whenCanBe 43 = .ok (.iconst 1, 1) := by decide +kernel
theorem dX8_whenCanBe_44 : decode cX8_whenCanBe 44 = .ok (.goto 4, 3) := by decide +kernel
theorem dX8_whenCanBe_47 : decode cX8_whenCanBe 47 = .ok (.iconst 0, 1) := by decide +kernel
theorem dX8_whenCanBe_48 : decode cX8_whenCanBe 48 = .ok (.istore_n 2, 1) := by decide +kernel
theorem dX8_whenCanBe_49 : decode cX8_whenCanBe 49 = .ok (.aload_n 1, 1) := by decide +kernel
theorem dX8_whenCanBe_50 : decode cX8_whenCanBe 50 = .ok (.getfield 91, 3) := by decide +kernel
theorem dX8_whenCanBe_53 : decode cX8_whenCanBe 53 = .ok (.iconst 2, 1) := by decide +kernel
theorem dX8_whenCanBe_54 : decode cX8_whenCanBe 54 = .ok (.if_icmp .ne 7, 3) := by decide +kernel
theorem dX8_whenCanBe_57 : decode cX8_whenCanBe 57 = .ok (.iconst 1, 1) := by decide +kernel
theorem dX8_whenCanBe_58 : decode cX8_whenCanBe 58 = .ok (.goto 4, 3) := by decide +kernel
theorem dX8_whenCanBe_61 : decode cX8_whenCanBe 61 = .ok (.iconst 0, 1) := by decide +kernel
theorem dX8_whenCanBe_62 : decode cX8_whenCanBe 62 = .ok (.istore_n 3, 1) := by decide +kernel
theorem dX8_whenCanBe_63 : decode cX8_whenCanBe 63 = .ok (.iload_n 2, 1) := by decide +kernel
theorem dX8_whenCanBe_64 : decode cX8_whenCanBe 64 = .ok (.ifCond .eq 29, 3) := by decide +kernel
theorem dX8_whenCanBe_67 : decode cX8_whenCanBe 67 = .ok (.iload_n 3, 1) := by decide +kernel
theorem dX8_whenCanBe_68 : decode cX8_whenCanBe 68 = .ok (.ifCond .eq 21, 3) := by decide +kernel
theorem dX8_whenCanBe_71 : decode cX8_whenCanBe 71 = .ok (.aload_n 1, 1) := by decide +kernel
theorem dX8_whenCanBe_72 : decode cX8_whenCanBe 72 = .ok (.getfield 211, 3) := by decide +kernel
theorem dX8_whenCanBe_75 : decode cX8_whenCanBe 75 = .ok (.aload_n 1, 1) := by decide +kernel
theorem dX8_whenCanBe_76 : decode cX8_whenCanBe 76 = .ok (.getfield 205, 3) := by decide +kernel
theorem dX8_whenCanBe_79 : decode cX8_whenCanBe 79 = .ok (.aload_n 1, 1) := by decide +kernel
theorem dX8_whenCanBe_80 : decode cX8_whenCanBe 80 = .ok (.getfield 208, 3) := by decide +kernel
theorem dX8_whenCanBe_83 : decode cX8_whenCanBe 83 = .ok (.invokestatic 139, 3) := by decide +kernel
theorem dX8_whenCanBe_86 : decode cX8_whenCanBe 86 = .ok (.ifCond .eq 7, 3) := by decide +kernel
theorem dX8_whenCanBe_89 : decode cX8_whenCanBe 89 = .ok (.iconst 1, 1) := by decide +kernel
theorem dX8_whenCanBe_90 : decode cX8_whenCanBe 90 = .ok (.goto 4, 3) := by decide +kernel
theorem dX8_whenCanBe_93 : decode cX8_whenCanBe 93 = .ok (.iconst 0, 1) := by decide +kernel
theorem dX8_whenCanBe_94 : decode cX8_whenCanBe 94 = .ok (.ireturn, 1) := by decide +kernel
theorem fgX8_202 : q_Fg RX8 202 2 13 := q_Fg.of (C := RX2) (T := TX2) (N := 20) rfl (by decide) inX2 150 (by decide +kernel) rfl rfl
theorem fgX8_211 : q_Fg RX8 211 2 12 := q_Fg.of (C := RX2) (T := TX2) (N := 20) rfl (by decide) inX2 147 (by decide +kernel) rfl rfl
theorem fgX8_205 : q_Fg RX8 205 2 14 := q_Fg.of (C := RX2) (T := TX2) (N := 20) rfl (by decide) inX2 153 (by decide +kernel) rfl rfl
theorem fgX8_208 : q_Fg RX8 208 2 15 := q_Fg.of (C := RX2) (T := TX2) (N := 20) rfl (by decide) inX2 156 (by decide +kernel) rfl rfl
def fX8_whenCanBe_L93 (X : Mm) : Option (Int32 × Mm) :=
some (0, X)
def fX8_whenCanBe_L89 (X : Mm) : Option (Int32 × Mm) :=
some (1, X)
def fX8_whenCanBe_L62 (r1 : Nat) (v2 : Int32) (s0 : Int32) (X : Mm) : Option (Int32 × Mm) :=
if v2 = 0 then (
fX8_whenCanBe_L93 X
) else (
if s0 = 0 then (
fX8_whenCanBe_L89 X
) else (
if mT X r1 = 2 then
bd (fX11_isWithin ((mI X r1 12)) ((mI X r1 14)) ((mI X r1 15)) X) fun w5 X83_6 =>
if w5 = 0 then (
fX8_whenCanBe_L93 X83_6
) else (
fX8_whenCanBe_L89 X83_6
)
else none
)
)
def fX8_whenCanBe_L48 (r1 : Nat) (s0 : Int32) (X : Mm) : Option (Int32 × Mm) :=
if mT X r1 = 2 then
if (mI X r1 0) = (2 : Int32) then (
fX8_whenCanBe_L62 r1 s0 (1 : Int32) X
) else (
fX8_whenCanBe_L62 r1 s0 (0 : Int32) X
)
else none
def fX8_whenCanBe_L47 (r1 : Nat) (X : Mm) : Option (Int32 × Mm) :=
fX8_whenCanBe_L48 r1 (0 : Int32) X
def fX8_whenCanBe (r0 : Nat) (r1 : Nat) (X : Mm) : Option (Int32 × Mm) :=
if mT X r1 = 2 then
if mT X r0 = 8 then
if (mI X r1 13) ≤ (mI X r0 8) then (
fX8_whenCanBe_L47 r1 X
) else (
if (mI X r1 14) < (mI X r1 13) then (
fX8_whenCanBe_L47 r1 X
) else (
if (mI X r1 15) < (mI X r1 14) then (
fX8_whenCanBe_L47 r1 X
) else (
if (999 : Int32) < (mI X r1 15) then (
fX8_whenCanBe_L47 r1 X
) else (
fX8_whenCanBe_L48 r1 (1 : Int32) X
)
)
)
)
else none
else none
theorem gX8_whenCanBe_L93 {E : q_E} {X0 : Mm} (C : Cx E cX8_whenCanBe RX8 4 (some .boolean) (q_rm 1 22 0 0) X0) (X : Mm) : Sm E (q_fin E q_eI X0 0 0) 0 0 93 [] [] X (fX8_whenCanBe_L93  X) := by
  unfold fX8_whenCanBe_L93
  refine q_iconst C (0 : Int32) dX8_whenCanBe_93 rfl ?_
  exact q_zret0 C dX8_whenCanBe_94
theorem gX8_whenCanBe_L89 {E : q_E} {X0 : Mm} (C : Cx E cX8_whenCanBe RX8 4 (some .boolean) (q_rm 1 22 0 0) X0) (X : Mm) : Sm E (q_fin E q_eI X0 0 0) 0 0 89 [] [] X (fX8_whenCanBe_L89  X) := by
  unfold fX8_whenCanBe_L89
  refine q_iconst C (1 : Int32) dX8_whenCanBe_89 rfl ?_
  refine q_goto C 94 dX8_whenCanBe_90 (by decide) ?_
  exact q_zret1 C dX8_whenCanBe_94
theorem gX8_whenCanBe_L62 {E : q_E} {X0 : Mm} (C : Cx E cX8_whenCanBe RX8 4 (some .boolean) (q_rm 1 22 0 0) X0) (r1 : Nat) (v2 : Int32) (s0 : Int32) (X : Mm) : Sm E (q_fin E q_eI X0 0 0) 0 0 62 [(1, .ref (q_P E + r1)), (2, .int v2)] [.int s0] X (fX8_whenCanBe_L62 r1 v2 s0 X) := by
  unfold fX8_whenCanBe_L62
  refine q_istore_n C [(3, .int s0), (1, .ref (q_P E + r1)), (2, .int v2)] dX8_whenCanBe_62 rfl (Nat.le_of_ble_eq_true rfl) rfl ?_
  refine q_iload_n C 2 dX8_whenCanBe_63 rfl rfl ?_
  refine q_if_eq C 93 dX8_whenCanBe_64 (by decide) (fun _ => ?_) (fun _ => ?_)
  · refine q_sub C [] [] rfl ?_
    exact gX8_whenCanBe_L93 C X
  · refine q_iload_n C 0 dX8_whenCanBe_67 rfl rfl ?_
    refine q_if_eq C 89 dX8_whenCanBe_68 (by decide) (fun _ => ?_) (fun _ => ?_)
    · refine q_sub C [] [] rfl ?_
      exact gX8_whenCanBe_L89 C X
    · refine q_aload_n C 1 dX8_whenCanBe_71 rfl rfl ?_
      refine q_chk (fun h4 => ?_)
      refine p_getI C fgX8_211 rfl dX8_whenCanBe_72 h4 ?_
      refine q_aload_n C 1 dX8_whenCanBe_75 rfl rfl ?_
      refine p_getI C fgX8_205 rfl dX8_whenCanBe_76 h4 ?_
      refine q_aload_n C 1 dX8_whenCanBe_79 rfl rfl ?_
      refine p_getI C fgX8_208 rfl dX8_whenCanBe_80 h4 ?_
      refine q_cNI (As := (fun P => [.int (mI X r1 12), .int (mI X r1 14), .int (mI X r1 15)])) C [] (sX11_isWithin ((mI X r1 12)) ((mI X r1 14)) ((mI X r1 15))) fcX8_139 rfl (fun _ => rfl) ⟨Nat.le_of_ble_eq_true rfl, Nat.le_of_ble_eq_true rfl⟩ ⟨Nat.le_of_ble_eq_true rfl, Nat.le_of_ble_eq_true rfl⟩ (Nat.le_of_ble_eq_true rfl) dX8_whenCanBe_83 (fun w5 X83_6 => ?_)
      refine q_if_eq C 93 dX8_whenCanBe_86 (by decide) (fun _ => ?_) (fun _ => ?_)
      · refine q_sub C [] [] rfl ?_
        exact gX8_whenCanBe_L93 C X83_6
      · refine q_sub C [] [] rfl ?_
        exact gX8_whenCanBe_L89 C X83_6
theorem gX8_whenCanBe_L48 {E : q_E} {X0 : Mm} (C : Cx E cX8_whenCanBe RX8 4 (some .boolean) (q_rm 1 22 0 0) X0) (r1 : Nat) (s0 : Int32) (X : Mm) : Sm E (q_fin E q_eI X0 0 0) 0 0 48 [(1, .ref (q_P E + r1))] [.int s0] X (fX8_whenCanBe_L48 r1 s0 X) := by
  unfold fX8_whenCanBe_L48
  refine q_istore_n C [(2, .int s0), (1, .ref (q_P E + r1))] dX8_whenCanBe_48 rfl (Nat.le_of_ble_eq_true rfl) rfl ?_
  refine q_aload_n C 1 dX8_whenCanBe_49 rfl rfl ?_
  refine q_chk (fun h3 => ?_)
  refine p_getI C fgX8_91 rfl dX8_whenCanBe_50 h3 ?_
  refine q_iconst C (2 : Int32) dX8_whenCanBe_53 rfl ?_
  refine q_icmp_ne C 61 dX8_whenCanBe_54 (by decide) (fun _ => ?_) (fun _ => ?_)
  · refine q_iconst C (1 : Int32) dX8_whenCanBe_57 rfl ?_
    refine q_goto C 62 dX8_whenCanBe_58 (by decide) ?_
    refine q_sub C [(1, .ref (q_P E + r1)), (2, .int s0)] [1, 0] rfl ?_
    exact gX8_whenCanBe_L62 C r1 s0 (1 : Int32) X
  · refine q_iconst C (0 : Int32) dX8_whenCanBe_61 rfl ?_
    refine q_sub C [(1, .ref (q_P E + r1)), (2, .int s0)] [1, 0] rfl ?_
    exact gX8_whenCanBe_L62 C r1 s0 (0 : Int32) X
theorem gX8_whenCanBe_L47 {E : q_E} {X0 : Mm} (C : Cx E cX8_whenCanBe RX8 4 (some .boolean) (q_rm 1 22 0 0) X0) (r1 : Nat) (X : Mm) : Sm E (q_fin E q_eI X0 0 0) 0 0 47 [(1, .ref (q_P E + r1))] [] X (fX8_whenCanBe_L47 r1 X) := by
  unfold fX8_whenCanBe_L47
  refine q_iconst C (0 : Int32) dX8_whenCanBe_47 rfl ?_
  exact gX8_whenCanBe_L48 C r1 (0 : Int32) X
theorem sX8_whenCanBe (r0 : Nat) (r1 : Nat) : q_Ct yX8_whenCanBe cX8_whenCanBe 4 (some .boolean) 1 22 0 0 q_eI (fun P => [.ref (P + r0), .ref (P + r1)]) (fX8_whenCanBe r0 r1) := by
  refine q_meth (by decide +kernel) (fun P => Nat.le_of_ble_eq_true rfl) (fun E X C hn => ?_)
  show Sm E (q_fin E q_eI X 0 0) 0 0 0 [(0, .ref (q_P E + r0)), (1, .ref (q_P E + r1))] [] X _
  unfold fX8_whenCanBe
  refine q_aload_n C 1 dX8_whenCanBe_0 rfl rfl ?_
  refine q_chk (fun h1 => ?_)
  refine p_getI C fgX8_202 rfl dX8_whenCanBe_1 h1 ?_
  refine q_aload_n C 0 dX8_whenCanBe_4 rfl rfl ?_
  refine q_chk (fun h2 => ?_)
  refine p_getI C fgX8_68 rfl dX8_whenCanBe_5 h2 ?_
  refine q_icmp_le C 47 dX8_whenCanBe_8 (by decide) (fun _ => ?_) (fun _ => ?_)
  · refine q_sub C [(1, .ref (q_P E + r1))] [1] rfl ?_
    exact gX8_whenCanBe_L47 C r1 X
  · refine q_aload_n C 1 dX8_whenCanBe_11 rfl rfl ?_
    refine p_getI C fgX8_205 rfl dX8_whenCanBe_12 h1 ?_
    refine q_aload_n C 1 dX8_whenCanBe_15 rfl rfl ?_
    refine p_getI C fgX8_202 rfl dX8_whenCanBe_16 h1 ?_
    refine q_icmp_lt C 47 dX8_whenCanBe_19 (by decide) (fun _ => ?_) (fun _ => ?_)
    · refine q_sub C [(1, .ref (q_P E + r1))] [1] rfl ?_
      exact gX8_whenCanBe_L47 C r1 X
    · refine q_aload_n C 1 dX8_whenCanBe_22 rfl rfl ?_
      refine p_getI C fgX8_208 rfl dX8_whenCanBe_23 h1 ?_
      refine q_aload_n C 1 dX8_whenCanBe_26 rfl rfl ?_
      refine p_getI C fgX8_205 rfl dX8_whenCanBe_27 h1 ?_
      refine q_icmp_lt C 47 dX8_whenCanBe_30 (by decide) (fun _ => ?_) (fun _ => ?_)
      · refine q_sub C [(1, .ref (q_P E + r1))] [1] rfl ?_
        exact gX8_whenCanBe_L47 C r1 X
      · refine q_aload_n C 1 dX8_whenCanBe_33 rfl rfl ?_
        refine p_getI C fgX8_208 rfl dX8_whenCanBe_34 h1 ?_
        refine q_sipush C (999 : Int32) dX8_whenCanBe_37 rfl ?_
        refine q_icmp_gt C 47 dX8_whenCanBe_40 (by decide) (fun _ => ?_) (fun _ => ?_)
        · refine q_sub C [(1, .ref (q_P E + r1))] [1] rfl ?_
          exact gX8_whenCanBe_L47 C r1 X
        · refine q_iconst C (1 : Int32) dX8_whenCanBe_43 rfl ?_
          refine q_goto C 48 dX8_whenCanBe_44 (by decide) ?_
          refine q_sub C [(1, .ref (q_P E + r1))] [1] rfl ?_
          exact gX8_whenCanBe_L48 C r1 (1 : Int32) X
/-! RecordClaims$State.addEvent(LRecordClaims$Deed;)I -/
abbrev cX8_addEvent : ByteArray := prog_10_method_14_code
def yX8_addEvent : MethodName := ⟨RX8, "addEvent", "(LRecordClaims$Deed;)I"⟩
theorem dX8_addEvent_0 : decode cX8_addEvent 0 = .ok (.aload_n 0, 1) := by decide +kernel
theorem dX8_addEvent_1 : decode cX8_addEvent 1 = .ok (.aload_n 1, 1) := by decide +kernel
theorem dX8_addEvent_2 : decode cX8_addEvent 2 = .ok (.getfield 130, 3) := by decide +kernel
theorem dX8_addEvent_5 : decode cX8_addEvent 5 = .ok (.invokevirtual 133, 3) := by decide +kernel
theorem dX8_addEvent_8 : decode cX8_addEvent 8 = .ok (.ifCond .eq 19, 3) := by decide +kernel
theorem dX8_addEvent_11 : decode cX8_addEvent 11 = .ok (.aload_n 0, 1) := by decide +kernel
theorem dX8_addEvent_12 : decode cX8_addEvent 12 = .ok (.aload_n 1, 1) := by decide +kernel
theorem dX8_addEvent_13 : decode cX8_addEvent 13 = .ok (.invokevirtual 172, 3) := by decide +kernel
theorem dX8_addEvent_16 : decode cX8_addEvent 16 = .ok (.ifCond .eq 11, 3) := by decide +kernel
theorem dX8_addEvent_19 : decode cX8_addEvent 19 = .ok (.aload_n 0, 1) := by decide +kernel
theorem dX8_addEvent_20 : decode cX8_addEvent 20 = .ok (.aload_n 1, 1) := by decide +kernel
theorem dX8_addEvent_21 : decode cX8_addEvent 21 = .ok (.invokevirtual 175, 3) := by decide +kernel
theorem dX8_addEvent_24 : decode cX8_addEvent 24 = .ok (.ifCond .ne 5, 3) := by decide +kernel
theorem dX8_addEvent_27 : decode cX8_addEvent 27 = .ok (.iconst (-1), 1) := by decide +kernel
theorem dX8_addEvent_28 : decode cX8_addEvent 28 = .ok (.ireturn, 1) := by decide +kernel
theorem dX8_addEvent_29 : decode cX8_addEvent 29 = .ok (.aload_n 0, 1) := by decide +kernel
theorem dX8_addEvent_30 : decode cX8_addEvent 30 = .ok (.getfield 28, 3) := by decide +kernel
theorem dX8_addEvent_33 : decode cX8_addEvent 33 = .ok (.aload_n 1, 1) := by decide +kernel
theorem dX8_addEvent_34 : decode cX8_addEvent 34 = .ok (.invokevirtual 178, 3) := by decide +kernel
theorem dX8_addEvent_37 : decode cX8_addEvent 37 = .ok (.istore_n 2, 1) := by decide +kernel
theorem dX8_addEvent_38 : decode cX8_addEvent 38 = .ok (.iload_n 2, 1) := by decide +kernel
theorem dX8_addEvent_39 : decode cX8_addEvent 39 = .ok (.iconst (-1), 1) := by decide +kernel
theorem dX8_addEvent_40 : decode cX8_addEvent 40 = .ok (.if_icmp .eq 11, 3) := by decide +kernel
theorem dX8_addEvent_43 : decode cX8_addEvent 43 = .ok (.aload_n 0, 1) := by decide +kernel
theorem dX8_addEvent_44 : decode cX8_addEvent 44 = .ok (.getfield 35, 3) := by decide +kernel
theorem dX8_addEvent_47 : decode cX8_addEvent 47 = .ok (.iload_n 2, 1) := by decide +kernel
theorem dX8_addEvent_48 : decode cX8_addEvent 48 = .ok (.invokevirtual 180, 3) := by decide +kernel
theorem dX8_addEvent_51 : decode cX8_addEvent 51 = .ok (.iload_n 2, 1) := by decide +kernel
theorem dX8_addEvent_52 : decode cX8_addEvent 52 = .ok (.ireturn, 1) := by decide +kernel
theorem fcX8_172 : q_LV RX8 172 yX8_termsCanBe cX8_termsCanBe 2 (some .boolean) 1 8 := ⟨q_tb 951 (by decide +kernel) rfl, q_tb 953 (by decide +kernel) rfl, q_tbs (q := (yX8_termsCanBe, 9)) 41 (by decide +kernel) rfl, q_tb 5 (by decide +kernel) rfl, q_tb 954 (by decide +kernel) rfl, ⟨by decide +kernel, by decide +kernel, by decide +kernel⟩, TX8, 9, rfl⟩
theorem fcX8_175 : q_LV RX8 175 yX8_whenCanBe cX8_whenCanBe 4 (some .boolean) 1 8 := ⟨q_tb 958 (by decide +kernel) rfl, q_tb 960 (by decide +kernel) rfl, q_tbs (q := (yX8_whenCanBe, 9)) 42 (by decide +kernel) rfl, q_tb 5 (by decide +kernel) rfl, q_tb 961 (by decide +kernel) rfl, ⟨by decide +kernel, by decide +kernel, by decide +kernel⟩, TX8, 9, rfl⟩
theorem fcX8_178 : q_LV RX8 178 yX3_add cX3_add 3 (some .int) 1 3 := ⟨q_tb 962 (by decide +kernel) rfl, q_tb 963 (by decide +kernel) rfl, q_tb 964 (by decide +kernel) rfl, q_tb 7 (by decide +kernel) rfl, q_tb 965 (by decide +kernel) rfl, ⟨by decide +kernel, by decide +kernel, by decide +kernel⟩, TX3, 17, rfl⟩
theorem fcX8_180 : q_LV RX8 180 yX6_wipe cX6_wipe 4 none 1 6 := ⟨q_tb 966 (by decide +kernel) rfl, q_tb 967 (by decide +kernel) rfl, q_tb 968 (by decide +kernel) rfl, q_tb 8 (by decide +kernel) rfl, q_tb 969 (by decide +kernel) rfl, ⟨by decide +kernel, by decide +kernel, by decide +kernel⟩, TX6, 6, rfl⟩
def fX8_addEvent_L27 (n : Nat) (X : Mm) : Option (Int32 × Mm) :=
some ((-1 : Int32), X)
def fX8_addEvent_L51 (n : Nat) (v2 : Int32) (X : Mm) : Option (Int32 × Mm) :=
some (v2, X)
def fX8_addEvent (n : Nat) (r0 : Nat) (r1 : Nat) (X : Mm) : Option (Int32 × Mm) :=
if mT X r1 = 2 then
if mT X r0 = 8 then
bd (fX8_isPaper r0 ((mI X r1 1)) X) fun w2 X5_3 =>
if w2 = 0 then (
fX8_addEvent_L27 n X5_3
) else (
if mT X5_3 r0 = 8 then
bd (fX8_termsCanBe r0 r1 X5_3) fun w5 X13_6 =>
if w5 = 0 then (
fX8_addEvent_L27 n X13_6
) else (
if mT X13_6 r0 = 8 then
bd (fX8_whenCanBe r0 r1 X13_6) fun w8 X21_9 =>
if w8 = 0 then (
fX8_addEvent_L27 n X21_9
) else (
if mT X21_9 r0 = 8 then
if mR X21_9 r0 3 ≠ 0 then
if mT X21_9 (mR X21_9 r0 3) = 3 then
bd (fX3_add ((mR X21_9 r0 3)) r1 X21_9) fun w13 X34_14 =>
if w13 = (-1 : Int32) then (
fX8_addEvent_L51 n w13 X34_14
) else (
if mT X34_14 r0 = 8 then
if mR X34_14 r0 4 ≠ 0 then
if mT X34_14 (mR X34_14 r0 4) = 6 then
bd (fX6_wipe n ((mR X34_14 r0 4)) w13 X34_14) fun _ X48_19 =>
fX8_addEvent_L51 n w13 X48_19
else none
else none
else none
)
else none
else none
else none
)
else none
)
else none
)
else none
else none
theorem gX8_addEvent_L27 {E : q_E} {X0 : Mm} (C : Cx E cX8_addEvent RX8 3 (some .int) (q_rm 3 63 0 0) X0) (n : Nat) (X : Mm) : Sm E (q_fin E q_eI X0 0 0) 0 0 27 [] [] X (fX8_addEvent_L27 n  X) := by
  unfold fX8_addEvent_L27
  refine q_iconst C (-1 : Int32) dX8_addEvent_27 rfl ?_
  exact q_iret C dX8_addEvent_28
theorem gX8_addEvent_L51 {E : q_E} {X0 : Mm} (C : Cx E cX8_addEvent RX8 3 (some .int) (q_rm 3 63 0 0) X0) (n : Nat) (v2 : Int32) (X : Mm) : Sm E (q_fin E q_eI X0 0 0) 0 0 51 [(2, .int v2)] [] X (fX8_addEvent_L51 n v2 X) := by
  unfold fX8_addEvent_L51
  refine q_iload_n C 0 dX8_addEvent_51 rfl rfl ?_
  exact q_iret C dX8_addEvent_52
theorem sX8_addEvent (n : Nat) (r0 : Nat) (r1 : Nat) : q_Ct yX8_addEvent cX8_addEvent 3 (some .int) 3 63 0 0 q_eI (fun P => [.ref (P + r0), .ref (P + r1)]) (fX8_addEvent n r0 r1) := by
  refine q_meth (by decide +kernel) (fun P => Nat.le_of_ble_eq_true rfl) (fun E X C hn => ?_)
  show Sm E (q_fin E q_eI X 0 0) 0 0 0 [(0, .ref (q_P E + r0)), (1, .ref (q_P E + r1))] [] X _
  unfold fX8_addEvent
  refine q_aload_n C 0 dX8_addEvent_0 rfl rfl ?_
  refine q_aload_n C 1 dX8_addEvent_1 rfl rfl ?_
  refine q_chk (fun h1 => ?_)
  refine p_getI C fgX8_130 rfl dX8_addEvent_2 h1 ?_
  refine q_chk (fun h4 => ?_)
  refine q_cVI (As := (fun P => [.int (mI X r1 1)])) C [] (sX8_isPaper r0 ((mI X r1 1))) fcX8_133 rfl (fun _ => rfl) ⟨Nat.le_of_ble_eq_true rfl, Nat.le_of_ble_eq_true rfl⟩ ⟨Nat.le_of_ble_eq_true rfl, Nat.le_of_ble_eq_true rfl⟩ (Nat.le_of_ble_eq_true rfl) dX8_addEvent_5 h4 (fun w2 X5_3 => ?_)
  refine q_if_eq C 27 dX8_addEvent_8 (by decide) (fun _ => ?_) (fun _ => ?_)
  · refine q_sub C [] [] rfl ?_
    exact gX8_addEvent_L27 C n X5_3
  · refine q_aload_n C 0 dX8_addEvent_11 rfl rfl ?_
    refine q_aload_n C 1 dX8_addEvent_12 rfl rfl ?_
    refine q_chk (fun h7 => ?_)
    refine q_cVI (As := (fun P => [.ref (P + r1)])) C [] (sX8_termsCanBe r0 r1) fcX8_172 rfl (fun _ => rfl) ⟨Nat.le_of_ble_eq_true rfl, Nat.le_of_ble_eq_true rfl⟩ ⟨Nat.le_of_ble_eq_true rfl, Nat.le_of_ble_eq_true rfl⟩ (Nat.le_of_ble_eq_true rfl) dX8_addEvent_13 h7 (fun w5 X13_6 => ?_)
    refine q_if_eq C 27 dX8_addEvent_16 (by decide) (fun _ => ?_) (fun _ => ?_)
    · refine q_sub C [] [] rfl ?_
      exact gX8_addEvent_L27 C n X13_6
    · refine q_aload_n C 0 dX8_addEvent_19 rfl rfl ?_
      refine q_aload_n C 1 dX8_addEvent_20 rfl rfl ?_
      refine q_chk (fun h10 => ?_)
      refine q_cVI (As := (fun P => [.ref (P + r1)])) C [] (sX8_whenCanBe r0 r1) fcX8_175 rfl (fun _ => rfl) ⟨Nat.le_of_ble_eq_true rfl, Nat.le_of_ble_eq_true rfl⟩ ⟨Nat.le_of_ble_eq_true rfl, Nat.le_of_ble_eq_true rfl⟩ (Nat.le_of_ble_eq_true rfl) dX8_addEvent_21 h10 (fun w8 X21_9 => ?_)
      refine q_if_ne C 29 dX8_addEvent_24 (by decide) (fun _ => ?_) (fun _ => ?_)
      · refine q_sub C [] [] rfl ?_
        exact gX8_addEvent_L27 C n X21_9
      · refine q_aload_n C 0 dX8_addEvent_29 rfl rfl ?_
        refine q_chk (fun h11 => ?_)
        refine q_chk (fun h12 => ?_)
        refine p_getR C fgX8_28 rfl dX8_addEvent_30 h11 h12 ?_
        refine q_aload_n C 1 dX8_addEvent_33 rfl rfl ?_
        refine q_chk (fun h15 => ?_)
        refine q_cVI (As := (fun P => [.ref (P + r1)])) C [] (sX3_add ((mR X21_9 r0 3)) r1) fcX8_178 rfl (fun _ => rfl) ⟨Nat.le_of_ble_eq_true rfl, Nat.le_of_ble_eq_true rfl⟩ ⟨Nat.le_of_ble_eq_true rfl, Nat.le_of_ble_eq_true rfl⟩ (Nat.le_of_ble_eq_true rfl) dX8_addEvent_34 h15 (fun w13 X34_14 => ?_)
        refine q_istore_n C [(2, .int w13), (0, .ref (q_P E + r0)), (1, .ref (q_P E + r1))] dX8_addEvent_37 rfl (Nat.le_of_ble_eq_true rfl) rfl ?_
        refine q_iload_n C 0 dX8_addEvent_38 rfl rfl ?_
        refine q_iconst C (-1 : Int32) dX8_addEvent_39 rfl ?_
        refine q_icmp_eq C 51 dX8_addEvent_40 (by decide) (fun _ => ?_) (fun _ => ?_)
        · refine q_sub C [(2, .int w13)] [0] rfl ?_
          exact gX8_addEvent_L51 C n w13 X34_14
        · refine q_aload_n C 1 dX8_addEvent_43 rfl rfl ?_
          refine q_chk (fun h16 => ?_)
          refine q_chk (fun h17 => ?_)
          refine p_getR C fgX8_35 rfl dX8_addEvent_44 h16 h17 ?_
          refine q_iload_n C 0 dX8_addEvent_47 rfl rfl ?_
          refine q_chk (fun h20 => ?_)
          refine q_cVV (As := (fun P => [.int w13])) C [] (sX6_wipe n ((mR X34_14 r0 4)) w13) fcX8_180 rfl (fun _ => rfl) ⟨Nat.le_of_ble_eq_true rfl, Nat.le_of_ble_eq_true rfl⟩ ⟨Nat.le_of_ble_eq_true rfl, Nat.le_of_ble_eq_true rfl⟩ (Nat.le_of_ble_eq_true rfl) dX8_addEvent_48 h20 (fun _ X48_19 => ?_)
          refine q_sub C [(2, .int w13)] [0] rfl ?_
          exact gX8_addEvent_L51 C n w13 X48_19
/-! RecordClaims$State.perform(LRecordClaims$Deed;)I -/
abbrev cX8_perform : ByteArray := prog_10_method_10_code
def yX8_perform : MethodName := ⟨RX8, "perform", "(LRecordClaims$Deed;)I"⟩
theorem dX8_perform_0 : decode cX8_perform 0 = .ok (.aload_n 1, 1) := by decide +kernel
theorem dX8_perform_1 : decode cX8_perform 1 = .ok (.getfield 91, 3) := by decide +kernel
theorem dX8_perform_4 : decode cX8_perform 4 = .ok (.tableswitch 83 4 6 #[28, 53, 59], 28) := by decide +kernel
theorem dX8_perform_32 : decode cX8_perform 32 = .ok (.aload_n 0, 1) := by decide +kernel
theorem dX8_perform_33 : decode cX8_perform 33 = .ok (.aload_n 1, 1) := by decide +kernel
theorem dX8_perform_34 : decode cX8_perform 34 = .ok (.invokevirtual 96, 3) := by decide +kernel
theorem dX8_perform_37 : decode cX8_perform 37 = .ok (.ifCond .eq 18, 3) := by decide +kernel
theorem dX8_perform_40 : decode cX8_perform 40 = .ok (.aload_n 0, 1) := by decide +kernel
theorem dX8_perform_41 : decode cX8_perform 41 = .ok (.getfield 21, 3) := by decide +kernel
theorem dX8_perform_44 : decode cX8_perform 44 = .ok (.aload_n 1, 1) := by decide +kernel
theorem dX8_perform_45 : decode cX8_perform 45 = .ok (.aload_n 0, 1) := by decide +kernel
theorem dX8_perform_46 : decode cX8_perform 46 = .ok (.getfield 68, 3) := by decide +kernel
theorem dX8_perform_49 : decode cX8_perform 49 = .ok (.invokevirtual 100, 3) := by decide +kernel
theorem dX8_perform_52 : decode cX8_perform 52 = .ok (.goto 4, 3) := by decide +kernel
theorem dX8_perform_55 : decode cX8_perform 55 = .ok (.iconst (-1), 1) := by decide +kernel
theorem dX8_perform_56 : decode cX8_perform 56 = .ok (.ireturn, 1) := by decide +kernel
theorem dX8_perform_57 : decode cX8_perform 57 = .ok (.aload_n 0, 1) := by decide +kernel
theorem dX8_perform_58 : decode cX8_perform 58 = .ok (.aload_n 1, 1) := by decide +kernel
theorem dX8_perform_59 : decode cX8_perform 59 = .ok (.invokevirtual 104, 3) := by decide +kernel
theorem dX8_perform_62 : decode cX8_perform 62 = .ok (.ireturn, 1) := by decide +kernel
theorem dX8_perform_63 : decode cX8_perform 63 = .ok (.aload_n 0, 1) := by decide +kernel
theorem dX8_perform_64 : decode cX8_perform 64 = .ok (.aload_n 1, 1) := by decide +kernel
theorem dX8_perform_65 : decode cX8_perform 65 = .ok (.getfield 108, 3) := by decide +kernel
theorem dX8_perform_68 : decode cX8_perform 68 = .ok (.invokevirtual 111, 3) := by decide +kernel
theorem dX8_perform_71 : decode cX8_perform 71 = .ok (.ifCond .eq 14, 3) := by decide +kernel
theorem dX8_perform_74 : decode cX8_perform 74 = .ok (.aload_n 0, 1) := by decide +kernel
theorem dX8_perform_75 : decode cX8_perform 75 = .ok (.aload_n 1, 1) := by decide +kernel
theorem dX8_perform_76 : decode cX8_perform 76 = .ok (.getfield 108, 3) := by decide +kernel
theorem dX8_perform_79 : decode cX8_perform 79 = .ok (.invokevirtual 114, 3) := by decide +kernel
theorem dX8_perform_82 : decode cX8_perform 82 = .ok (.goto 4, 3) := by decide +kernel
theorem dX8_perform_85 : decode cX8_perform 85 = .ok (.iconst (-1), 1) := by decide +kernel
theorem dX8_perform_86 : decode cX8_perform 86 = .ok (.ireturn, 1) := by decide +kernel
theorem dX8_perform_87 : decode cX8_perform 87 = .ok (.aload_n 0, 1) := by decide +kernel
theorem dX8_perform_88 : decode cX8_perform 88 = .ok (.aload_n 1, 1) := by decide +kernel
theorem dX8_perform_89 : decode cX8_perform 89 = .ok (.invokevirtual 118, 3) := by decide +kernel
theorem dX8_perform_92 : decode cX8_perform 92 = .ok (.ireturn, 1) := by decide +kernel
theorem fcX8_96 : q_LV RX8 96 yX8_tradeCanBe cX8_tradeCanBe 2 (some .boolean) 1 8 := ⟨q_tb 796 (by decide +kernel) rfl, q_tb 798 (by decide +kernel) rfl, q_tbs (q := (yX8_tradeCanBe, 9)) 19 (by decide +kernel) rfl, q_tb 5 (by decide +kernel) rfl, q_tb 799 (by decide +kernel) rfl, ⟨by decide +kernel, by decide +kernel, by decide +kernel⟩, TX8, 9, rfl⟩
theorem fcX8_100 : q_LV RX8 100 yX10_add cX10_add 4 (some .int) 2 10 := ⟨q_tb 813 (by decide +kernel) rfl, q_tb 814 (by decide +kernel) rfl, q_tb 815 (by decide +kernel) rfl, q_tb 6 (by decide +kernel) rfl, q_tb 816 (by decide +kernel) rfl, ⟨by decide +kernel, by decide +kernel, by decide +kernel⟩, TX10, 10, rfl⟩
theorem fcX8_104 : q_LV RX8 104 yX8_putChoice cX8_putChoice 3 (some .int) 1 8 := ⟨q_tb 817 (by decide +kernel) rfl, q_tb 819 (by decide +kernel) rfl, q_tbs (q := (yX8_putChoice, 9)) 20 (by decide +kernel) rfl, q_tb 5 (by decide +kernel) rfl, q_tb 820 (by decide +kernel) rfl, ⟨by decide +kernel, by decide +kernel, by decide +kernel⟩, TX8, 9, rfl⟩
theorem fgX8_108 : q_Fg RX8 108 2 19 := q_Fg.of (C := RX2) (T := TX2) (N := 20) rfl (by decide) inX2 167 (by decide +kernel) rfl rfl
theorem fcX8_111 : q_LV RX8 111 yX8_daysCanPass cX8_daysCanPass 2 (some .boolean) 1 8 := ⟨q_tb 833 (by decide +kernel) rfl, q_tb 835 (by decide +kernel) rfl, q_tbs (q := (yX8_daysCanPass, 9)) 21 (by decide +kernel) rfl, q_tb 5 (by decide +kernel) rfl, q_tb 836 (by decide +kernel) rfl, ⟨by decide +kernel, by decide +kernel, by decide +kernel⟩, TX8, 9, rfl⟩
theorem fcX8_114 : q_LV RX8 114 yX8_passDays cX8_passDays 3 (some .int) 1 8 := ⟨q_tb 837 (by decide +kernel) rfl, q_tb 838 (by decide +kernel) rfl, q_tb 839 (by decide +kernel) rfl, q_tb 5 (by decide +kernel) rfl, q_tb 840 (by decide +kernel) rfl, ⟨by decide +kernel, by decide +kernel, by decide +kernel⟩, TX8, 9, rfl⟩
theorem fcX8_118 : q_LV RX8 118 yX8_addEvent cX8_addEvent 3 (some .int) 1 8 := ⟨q_tb 947 (by decide +kernel) rfl, q_tb 949 (by decide +kernel) rfl, q_tbs (q := (yX8_addEvent, 9)) 40 (by decide +kernel) rfl, q_tb 5 (by decide +kernel) rfl, q_tb 950 (by decide +kernel) rfl, ⟨by decide +kernel, by decide +kernel, by decide +kernel⟩, TX8, 9, rfl⟩
def fX8_perform (n : Nat) (r0 : Nat) (r1 : Nat) (X : Mm) : Option (Int32 × Mm) :=
if mT X r1 = 2 then
if (mI X r1 0) = (4 : Int32) then (
if mT X r0 = 8 then
bd (fX8_tradeCanBe r0 r1 X) fun w2 X34_3 =>
if w2 = 0 then (
some ((-1 : Int32), X34_3)
) else (
if mT X34_3 r0 = 8 then
if mR X34_3 r0 2 ≠ 0 then
if mT X34_3 (mR X34_3 r0 2) = 10 then
bd (fX10_add ((mR X34_3 r0 2)) r1 ((mI X34_3 r0 8)) X34_3) fun w7 X49_8 =>
some (w7, X49_8)
else none
else none
else none
)
else none
) else (
if (mI X r1 0) = (5 : Int32) then (
if mT X r0 = 8 then
bd (fX8_putChoice r0 r1 X) fun w10 X59_11 =>
some (w10, X59_11)
else none
) else (
if (mI X r1 0) = (6 : Int32) then (
if mT X r0 = 8 then
bd (fX8_daysCanPass r0 ((mI X r1 19)) X) fun w13 X68_14 =>
if w13 = 0 then (
some ((-1 : Int32), X68_14)
) else (
if mT X68_14 r1 = 2 then
if mT X68_14 r0 = 8 then
bd (fX8_passDays n r0 ((mI X68_14 r1 19)) X68_14) fun w17 X79_18 =>
some (w17, X79_18)
else none
else none
)
else none
) else (
if mT X r0 = 8 then
bd (fX8_addEvent n r0 r1 X) fun w20 X89_21 =>
some (w20, X89_21)
else none
)
)
)
else none
theorem sX8_perform (n : Nat) (r0 : Nat) (r1 : Nat) : q_Ct yX8_perform cX8_perform 2 (some .int) 5 123 0 0 q_eI (fun P => [.ref (P + r0), .ref (P + r1)]) (fX8_perform n r0 r1) := by
  refine q_meth (by decide +kernel) (fun P => Nat.le_of_ble_eq_true rfl) (fun E X C hn => ?_)
  show Sm E (q_fin E q_eI X 0 0) 0 0 0 [(0, .ref (q_P E + r0)), (1, .ref (q_P E + r1))] [] X _
  unfold fX8_perform
  refine q_aload_n C 1 dX8_perform_0 rfl rfl ?_
  refine q_chk (fun h1 => ?_)
  refine p_getI C fgX8_91 rfl dX8_perform_1 h1 ?_
  refine q_ite (fun e4 => ?_) (fun e4 => ?_)
  · refine q_tabIn C (v := 4) 32 dX8_perform_4 (by rw [e4]; rfl) (by decide) (by decide) rfl (by decide) ?_
    refine q_aload_n C 0 dX8_perform_32 rfl rfl ?_
    refine q_aload_n C 1 dX8_perform_33 rfl rfl ?_
    refine q_chk (fun h4 => ?_)
    refine q_cVI (As := (fun P => [.ref (P + r1)])) C [] (sX8_tradeCanBe r0 r1) fcX8_96 rfl (fun _ => rfl) ⟨Nat.le_of_ble_eq_true rfl, Nat.le_of_ble_eq_true rfl⟩ ⟨Nat.le_of_ble_eq_true rfl, Nat.le_of_ble_eq_true rfl⟩ (Nat.le_of_ble_eq_true rfl) dX8_perform_34 h4 (fun w2 X34_3 => ?_)
    refine q_if_eq C 55 dX8_perform_37 (by decide) (fun _ => ?_) (fun _ => ?_)
    · refine q_iconst C (-1 : Int32) dX8_perform_55 rfl ?_
      exact q_iret C dX8_perform_56
    · refine q_aload_n C 0 dX8_perform_40 rfl rfl ?_
      refine q_chk (fun h5 => ?_)
      refine q_chk (fun h6 => ?_)
      refine p_getR C fgX8_21 rfl dX8_perform_41 h5 h6 ?_
      refine q_aload_n C 1 dX8_perform_44 rfl rfl ?_
      refine q_aload_n C 0 dX8_perform_45 rfl rfl ?_
      refine p_getI C fgX8_68 rfl dX8_perform_46 h5 ?_
      refine q_chk (fun h9 => ?_)
      refine q_cVI (As := (fun P => [.ref (P + r1), .int (mI X34_3 r0 8)])) C [] (sX10_add ((mR X34_3 r0 2)) r1 ((mI X34_3 r0 8))) fcX8_100 rfl (fun _ => rfl) ⟨Nat.le_of_ble_eq_true rfl, Nat.le_of_ble_eq_true rfl⟩ ⟨Nat.le_of_ble_eq_true rfl, Nat.le_of_ble_eq_true rfl⟩ (Nat.le_of_ble_eq_true rfl) dX8_perform_49 h9 (fun w7 X49_8 => ?_)
      refine q_goto C 56 dX8_perform_52 (by decide) ?_
      exact q_iret C dX8_perform_56
  · refine q_ite (fun e5 => ?_) (fun e5 => ?_)
    · refine q_tabIn C (v := 5) 57 dX8_perform_4 (by rw [e5]; rfl) (by decide) (by decide) rfl (by decide) ?_
      refine q_aload_n C 0 dX8_perform_57 rfl rfl ?_
      refine q_aload_n C 1 dX8_perform_58 rfl rfl ?_
      refine q_chk (fun h12 => ?_)
      refine q_cVI (As := (fun P => [.ref (P + r1)])) C [] (sX8_putChoice r0 r1) fcX8_104 rfl (fun _ => rfl) ⟨Nat.le_of_ble_eq_true rfl, Nat.le_of_ble_eq_true rfl⟩ ⟨Nat.le_of_ble_eq_true rfl, Nat.le_of_ble_eq_true rfl⟩ (Nat.le_of_ble_eq_true rfl) dX8_perform_59 h12 (fun w10 X59_11 => ?_)
      exact q_iret C dX8_perform_62
    · refine q_ite (fun e6 => ?_) (fun e6 => ?_)
      · refine q_tabIn C (v := 6) 63 dX8_perform_4 (by rw [e6]; rfl) (by decide) (by decide) rfl (by decide) ?_
        refine q_aload_n C 0 dX8_perform_63 rfl rfl ?_
        refine q_aload_n C 1 dX8_perform_64 rfl rfl ?_
        refine p_getI C fgX8_108 rfl dX8_perform_65 h1 ?_
        refine q_chk (fun h15 => ?_)
        refine q_cVI (As := (fun P => [.int (mI X r1 19)])) C [] (sX8_daysCanPass r0 ((mI X r1 19))) fcX8_111 rfl (fun _ => rfl) ⟨Nat.le_of_ble_eq_true rfl, Nat.le_of_ble_eq_true rfl⟩ ⟨Nat.le_of_ble_eq_true rfl, Nat.le_of_ble_eq_true rfl⟩ (Nat.le_of_ble_eq_true rfl) dX8_perform_68 h15 (fun w13 X68_14 => ?_)
        refine q_if_eq C 85 dX8_perform_71 (by decide) (fun _ => ?_) (fun _ => ?_)
        · refine q_iconst C (-1 : Int32) dX8_perform_85 rfl ?_
          exact q_iret C dX8_perform_86
        · refine q_aload_n C 0 dX8_perform_74 rfl rfl ?_
          refine q_aload_n C 1 dX8_perform_75 rfl rfl ?_
          refine q_chk (fun h16 => ?_)
          refine p_getI C fgX8_108 rfl dX8_perform_76 h16 ?_
          refine q_chk (fun h19 => ?_)
          refine q_cVI (As := (fun P => [.int (mI X68_14 r1 19)])) C [] (sX8_passDays n r0 ((mI X68_14 r1 19))) fcX8_114 rfl (fun _ => rfl) ⟨Nat.le_of_ble_eq_true rfl, Nat.le_of_ble_eq_true rfl⟩ ⟨Nat.le_of_ble_eq_true rfl, Nat.le_of_ble_eq_true rfl⟩ (Nat.le_of_ble_eq_true rfl) dX8_perform_79 h19 (fun w17 X79_18 => ?_)
          refine q_goto C 86 dX8_perform_82 (by decide) ?_
          exact q_iret C dX8_perform_86
      · have n4 := q_ne e4 (i := 4) rfl
        have n5 := q_ne e5 (i := 5) rfl
        have n6 := q_ne e6 (i := 6) rfl
        refine q_tabOut C 87 dX8_perform_4 (by omega) (by decide) ?_
        refine q_aload_n C 0 dX8_perform_87 rfl rfl ?_
        refine q_aload_n C 1 dX8_perform_88 rfl rfl ?_
        refine q_chk (fun h22 => ?_)
        refine q_cVI (As := (fun P => [.ref (P + r1)])) C [] (sX8_addEvent n r0 r1) fcX8_118 rfl (fun _ => rfl) ⟨Nat.le_of_ble_eq_true rfl, Nat.le_of_ble_eq_true rfl⟩ ⟨Nat.le_of_ble_eq_true rfl, Nat.le_of_ble_eq_true rfl⟩ (Nat.le_of_ble_eq_true rfl) dX8_perform_89 h22 (fun w20 X89_21 => ?_)
        exact q_iret C dX8_perform_92
/-! RecordClaims$State.entryOf(III)J -/
abbrev cX8_entryOf : ByteArray := prog_10_method_35_code
def yX8_entryOf : MethodName := ⟨RX8, "entryOf", "(III)J"⟩
theorem dX8_entryOf_0 : decode cX8_entryOf 0 = .ok (.iload_n 1, 1) := by decide +kernel
theorem dX8_entryOf_1 : decode cX8_entryOf 1 = .ok (.iload_n 2, 1) := by decide +kernel
theorem dX8_entryOf_2 : decode cX8_entryOf 2 = .ok (.invokestatic 164, 3) := by decide +kernel
theorem dX8_entryOf_5 : decode cX8_entryOf 5 = .ok (.istore 4, 2) := by decide +kernel
theorem dX8_entryOf_7 : decode cX8_entryOf 7 = .ok (.iload_n 3, 1) := by decide +kernel
theorem dX8_entryOf_8 : decode cX8_entryOf 8 = .ok (.tableswitch 135 0 6 #[44, 55, 80, 91, 102, 113, 124], 44) := by decide +kernel
theorem dX8_entryOf_52 : decode cX8_entryOf 52 = .ok (.aload_n 0, 1) := by decide +kernel
theorem dX8_entryOf_53 : decode cX8_entryOf 53 = .ok (.getfield 35, 3) := by decide +kernel
theorem dX8_entryOf_56 : decode cX8_entryOf 56 = .ok (.getfield 271, 3) := by decide +kernel
theorem dX8_entryOf_59 : decode cX8_entryOf 59 = .ok (.iload 4, 2) := by decide +kernel
theorem dX8_entryOf_61 : decode cX8_entryOf 61 = .ok (.laload, 1) := by decide +kernel
theorem dX8_entryOf_62 : decode cX8_entryOf 62 = .ok (.lreturn, 1) := by decide +kernel
theorem dX8_entryOf_63 : decode cX8_entryOf 63 = .ok (.aload_n 0, 1) := by decide +kernel
theorem dX8_entryOf_64 : decode cX8_entryOf 64 = .ok (.getfield 35, 3) := by decide +kernel
theorem dX8_entryOf_67 : decode cX8_entryOf 67 = .ok (.getfield 271, 3) := by decide +kernel
theorem dX8_entryOf_70 : decode cX8_entryOf 70 = .ok (.iload 4, 2) := by decide +kernel
theorem dX8_entryOf_72 : decode cX8_entryOf 72 = .ok (.laload, 1) := by decide +kernel
theorem dX8_entryOf_73 : decode cX8_entryOf 73 = .ok (.aload_n 0, 1) := by decide +kernel
theorem dX8_entryOf_74 : decode cX8_entryOf 74 = .ok (.iload_n 1, 1) := by decide +kernel
theorem dX8_entryOf_75 : decode cX8_entryOf 75 = .ok (.iload_n 2, 1) := by decide +kernel
theorem dX8_entryOf_76 : decode cX8_entryOf 76 = .ok (.invokevirtual 363, 3) := by decide +kernel
theorem dX8_entryOf_79 : decode cX8_entryOf 79 = .ok (.ladd, 1) := by decide +kernel
theorem dX8_entryOf_80 : decode cX8_entryOf 80 = .ok (.aload_n 0, 1) := by decide +kernel
theorem dX8_entryOf_81 : decode cX8_entryOf 81 = .ok (.iload_n 1, 1) := by decide +kernel
theorem dX8_entryOf_82 : decode cX8_entryOf 82 = .ok (.iload_n 2, 1) := by decide +kernel
theorem dX8_entryOf_83 : decode cX8_entryOf 83 = .ok (.invokevirtual 366, 3) := by decide +kernel
theorem dX8_entryOf_86 : decode cX8_entryOf 86 = .ok (.lsub, 1) := by decide +kernel
theorem dX8_entryOf_87 : decode cX8_entryOf 87 = .ok (.lreturn, 1) := by decide +kernel
theorem dX8_entryOf_88 : decode cX8_entryOf 88 = .ok (.aload_n 0, 1) := by decide +kernel
theorem dX8_entryOf_89 : decode cX8_entryOf 89 = .ok (.getfield 35, 3) := by decide +kernel
theorem dX8_entryOf_92 : decode cX8_entryOf 92 = .ok (.getfield 168, 3) := by decide +kernel
theorem dX8_entryOf_95 : decode cX8_entryOf 95 = .ok (.iload 4, 2) := by decide +kernel
theorem dX8_entryOf_97 : decode cX8_entryOf 97 = .ok (.laload, 1) := by decide +kernel
theorem dX8_entryOf_98 : decode cX8_entryOf 98 = .ok (.lreturn, 1) := by decide +kernel
theorem dX8_entryOf_99 : decode cX8_entryOf 99 = .ok (.aload_n 0, 1) := by decide +kernel
theorem dX8_entryOf_100 : decode cX8_entryOf 100 = .ok (.getfield 35, 3) := by decide +kernel
theorem dX8_entryOf_103 : decode cX8_entryOf 103 = .ok (.getfield 170, 3) := by decide +kernel
theorem dX8_entryOf_106 : decode cX8_entryOf 106 = .ok (.iload 4, 2) := by decide +kernel
theorem dX8_entryOf_108 : decode cX8_entryOf 108 = .ok (.laload, 1) := by decide +kernel
theorem dX8_entryOf_109 : decode cX8_entryOf 109 = .ok (.lreturn, 1) := by decide +kernel
theorem dX8_entryOf_110 : decode cX8_entryOf 110 = .ok (.aload_n 0, 1) := by decide +kernel
theorem dX8_entryOf_111 : decode cX8_entryOf 111 = .ok (.getfield 35, 3) := by decide +kernel
theorem dX8_entryOf_114 : decode cX8_entryOf 114 = .ok (.getfield 357, 3) := by decide +kernel
theorem dX8_entryOf_117 : decode cX8_entryOf 117 = .ok (.iload 4, 2) := by decide +kernel
theorem dX8_entryOf_119 : decode cX8_entryOf 119 = .ok (.laload, 1) := by decide +kernel
theorem dX8_entryOf_120 : decode cX8_entryOf 120 = .ok (.lreturn, 1) := by decide +kernel
theorem dX8_entryOf_121 : decode cX8_entryOf 121 = .ok (.aload_n 0, 1) := by decide +kernel
theorem dX8_entryOf_122 : decode cX8_entryOf 122 = .ok (.getfield 35, 3) := by decide +kernel
theorem dX8_entryOf_125 : decode cX8_entryOf 125 = .ok (.getfield 360, 3) := by decide +kernel
theorem dX8_entryOf_128 : decode cX8_entryOf 128 = .ok (.iload 4, 2) := by decide +kernel
theorem dX8_entryOf_130 : decode cX8_entryOf 130 = .ok (.laload, 1) := by decide +kernel
theorem dX8_entryOf_131 : decode cX8_entryOf 131 = .ok (.lreturn, 1) := by decide +kernel
theorem dX8_entryOf_132 : decode cX8_entryOf 132 = .ok (.aload_n 0, 1) := by decide +kernel
theorem dX8_entryOf_133 : decode cX8_entryOf 133 = .ok (.getfield 35, 3) := by decide +kernel
theorem dX8_entryOf_136 : decode cX8_entryOf 136 = .ok (.getfield 346, 3) := by decide +kernel
theorem dX8_entryOf_139 : decode cX8_entryOf 139 = .ok (.iload 4, 2) := by decide +kernel
theorem dX8_entryOf_141 : decode cX8_entryOf 141 = .ok (.laload, 1) := by decide +kernel
theorem dX8_entryOf_142 : decode cX8_entryOf 142 = .ok (.lreturn, 1) := by decide +kernel
theorem dX8_entryOf_143 : decode cX8_entryOf 143 = .ok (.ldc2_w 369, 3) := by decide +kernel
theorem dX8_entryOf_146 : decode cX8_entryOf 146 = .ok (.lreturn, 1) := by decide +kernel
theorem fcX8_363 : q_LV RX8 363 yX8_claimedTo cX8_claimedTo 6 (some .long) 2 8 := ⟨q_tb 1078 (by decide +kernel) rfl, q_tb 1079 (by decide +kernel) rfl, q_tb 1080 (by decide +kernel) rfl, q_tb 5 (by decide +kernel) rfl, q_tb 1081 (by decide +kernel) rfl, ⟨by decide +kernel, by decide +kernel, by decide +kernel⟩, TX8, 9, rfl⟩
theorem fcX8_366 : q_LV RX8 366 yX8_claimedFrom cX8_claimedFrom 6 (some .long) 2 8 := ⟨q_tb 1082 (by decide +kernel) rfl, q_tb 1083 (by decide +kernel) rfl, q_tb 1084 (by decide +kernel) rfl, q_tb 5 (by decide +kernel) rfl, q_tb 1085 (by decide +kernel) rfl, ⟨by decide +kernel, by decide +kernel, by decide +kernel⟩, TX8, 9, rfl⟩
theorem fkX8_369 : Cond.constantLong RX8 369 (-9223372036854775808 : Int64) ∈ q_tbl := q_tb 1086 (by decide +kernel) rfl
def fX8_entryOf (n : Nat) (r0 : Nat) (v1 : Int32) (v2 : Int32) (v3 : Int32) (X : Mm) : Option (Int64 × Mm) :=
bd (fX6_at v1 v2 X) fun w1 X2_2 =>
if v3 = (0 : Int32) then (
if mT X2_2 r0 = 8 then
if mR X2_2 r0 4 ≠ 0 then
if mT X2_2 (mR X2_2 r0 4) = 6 then
if mR X2_2 (mR X2_2 r0 4) 0 ≠ 0 then
if mT X2_2 (mR X2_2 (mR X2_2 r0 4) 0) = 15 then
if q_b X2_2 (mR X2_2 (mR X2_2 r0 4) 0) w1 then
some ((mJ X2_2 (mR X2_2 (mR X2_2 r0 4) 0) (w1).toNatClampNeg), X2_2)
else none
else none
else none
else none
else none
else none
) else (
if v3 = (1 : Int32) then (
if mT X2_2 r0 = 8 then
if mR X2_2 r0 4 ≠ 0 then
if mT X2_2 (mR X2_2 r0 4) = 6 then
if mR X2_2 (mR X2_2 r0 4) 0 ≠ 0 then
if mT X2_2 (mR X2_2 (mR X2_2 r0 4) 0) = 15 then
if q_b X2_2 (mR X2_2 (mR X2_2 r0 4) 0) w1 then
bd (fX8_claimedTo n r0 v1 v2 X2_2) fun w15 X76_16 =>
if mT X76_16 r0 = 8 then
bd (fX8_claimedFrom n r0 v1 v2 X76_16) fun w17 X83_18 =>
some ((((mJ X2_2 (mR X2_2 (mR X2_2 r0 4) 0) (w1).toNatClampNeg) + w15) - w17), X83_18)
else none
else none
else none
else none
else none
else none
else none
) else (
if v3 = (2 : Int32) then (
if mT X2_2 r0 = 8 then
if mR X2_2 r0 4 ≠ 0 then
if mT X2_2 (mR X2_2 r0 4) = 6 then
if mR X2_2 (mR X2_2 r0 4) 1 ≠ 0 then
if mT X2_2 (mR X2_2 (mR X2_2 r0 4) 1) = 15 then
if q_b X2_2 (mR X2_2 (mR X2_2 r0 4) 1) w1 then
some ((mJ X2_2 (mR X2_2 (mR X2_2 r0 4) 1) (w1).toNatClampNeg), X2_2)
else none
else none
else none
else none
else none
else none
) else (
if v3 = (3 : Int32) then (
if mT X2_2 r0 = 8 then
if mR X2_2 r0 4 ≠ 0 then
if mT X2_2 (mR X2_2 r0 4) = 6 then
if mR X2_2 (mR X2_2 r0 4) 2 ≠ 0 then
if mT X2_2 (mR X2_2 (mR X2_2 r0 4) 2) = 15 then
if q_b X2_2 (mR X2_2 (mR X2_2 r0 4) 2) w1 then
some ((mJ X2_2 (mR X2_2 (mR X2_2 r0 4) 2) (w1).toNatClampNeg), X2_2)
else none
else none
else none
else none
else none
else none
) else (
if v3 = (4 : Int32) then (
if mT X2_2 r0 = 8 then
if mR X2_2 r0 4 ≠ 0 then
if mT X2_2 (mR X2_2 r0 4) = 6 then
if mR X2_2 (mR X2_2 r0 4) 3 ≠ 0 then
if mT X2_2 (mR X2_2 (mR X2_2 r0 4) 3) = 15 then
if q_b X2_2 (mR X2_2 (mR X2_2 r0 4) 3) w1 then
some ((mJ X2_2 (mR X2_2 (mR X2_2 r0 4) 3) (w1).toNatClampNeg), X2_2)
else none
else none
else none
else none
else none
else none
) else (
if v3 = (5 : Int32) then (
if mT X2_2 r0 = 8 then
if mR X2_2 r0 4 ≠ 0 then
if mT X2_2 (mR X2_2 r0 4) = 6 then
if mR X2_2 (mR X2_2 r0 4) 4 ≠ 0 then
if mT X2_2 (mR X2_2 (mR X2_2 r0 4) 4) = 15 then
if q_b X2_2 (mR X2_2 (mR X2_2 r0 4) 4) w1 then
some ((mJ X2_2 (mR X2_2 (mR X2_2 r0 4) 4) (w1).toNatClampNeg), X2_2)
else none
else none
else none
else none
else none
else none
) else (
if v3 = (6 : Int32) then (
if mT X2_2 r0 = 8 then
if mR X2_2 r0 4 ≠ 0 then
if mT X2_2 (mR X2_2 r0 4) = 6 then
if mR X2_2 (mR X2_2 r0 4) 5 ≠ 0 then
if mT X2_2 (mR X2_2 (mR X2_2 r0 4) 5) = 15 then
if q_b X2_2 (mR X2_2 (mR X2_2 r0 4) 5) w1 then
some ((mJ X2_2 (mR X2_2 (mR X2_2 r0 4) 5) (w1).toNatClampNeg), X2_2)
else none
else none
else none
else none
else none
else none
) else (
some ((-9223372036854775808 : Int64), X2_2)
)
)
)
)
)
)
)
theorem sX8_entryOf (n : Nat) (r0 : Nat) (v1 : Int32) (v2 : Int32) (v3 : Int32) : q_Ct yX8_entryOf cX8_entryOf 5 (some .long) 2 46 0 0 q_eL (fun P => [.ref (P + r0), .int v1, .int v2, .int v3]) (fX8_entryOf n r0 v1 v2 v3) := by
  refine q_meth (by decide +kernel) (fun P => Nat.le_of_ble_eq_true rfl) (fun E X C hn => ?_)
  show Sm E (q_fin E q_eL X 0 0) 0 0 0 [(0, .ref (q_P E + r0)), (1, .int v1), (2, .int v2), (3, .int v3)] [] X _
  unfold fX8_entryOf
  refine q_iload_n C 1 dX8_entryOf_0 rfl rfl ?_
  refine q_iload_n C 2 dX8_entryOf_1 rfl rfl ?_
  refine q_cSI (As := (fun P => [.int v1, .int v2])) C [] (sX6_at v1 v2) fcX8_164 rfl (fun _ => rfl) ⟨Nat.le_of_ble_eq_true rfl, Nat.le_of_ble_eq_true rfl⟩ ⟨Nat.le_of_ble_eq_true rfl, Nat.le_of_ble_eq_true rfl⟩ (Nat.le_of_ble_eq_true rfl) dX8_entryOf_2 (fun w1 X2_2 => ?_)
  refine q_istore C [(4, .int w1), (0, .ref (q_P E + r0)), (1, .int v1), (2, .int v2), (3, .int v3)] dX8_entryOf_5 (Nat.le_of_ble_eq_true rfl) rfl ?_
  refine q_iload_n C 4 dX8_entryOf_7 rfl rfl ?_
  refine q_ite (fun e0 => ?_) (fun e0 => ?_)
  · refine q_tabIn C (v := 0) 52 dX8_entryOf_8 (by rw [e0]; rfl) (by decide) (by decide) rfl (by decide) ?_
    refine q_aload_n C 1 dX8_entryOf_52 rfl rfl ?_
    refine q_chk (fun h3 => ?_)
    refine q_chk (fun h4 => ?_)
    refine p_getR C fgX8_35 rfl dX8_entryOf_53 h3 h4 ?_
    refine q_chk (fun h5 => ?_)
    refine q_chk (fun h6 => ?_)
    refine p_getR C fgX8_271 rfl dX8_entryOf_56 h5 h6 ?_
    refine q_iload C 0 dX8_entryOf_59 rfl ?_
    refine q_chk (fun h7 => ?_)
    refine q_chk (fun h8 => ?_)
    refine p_lald C dX8_entryOf_61 h7 h8 ?_
    exact q_lret C dX8_entryOf_62
  · refine q_ite (fun e1 => ?_) (fun e1 => ?_)
    · refine q_tabIn C (v := 1) 63 dX8_entryOf_8 (by rw [e1]; rfl) (by decide) (by decide) rfl (by decide) ?_
      refine q_aload_n C 1 dX8_entryOf_63 rfl rfl ?_
      refine q_chk (fun h9 => ?_)
      refine q_chk (fun h10 => ?_)
      refine p_getR C fgX8_35 rfl dX8_entryOf_64 h9 h10 ?_
      refine q_chk (fun h11 => ?_)
      refine q_chk (fun h12 => ?_)
      refine p_getR C fgX8_271 rfl dX8_entryOf_67 h11 h12 ?_
      refine q_iload C 0 dX8_entryOf_70 rfl ?_
      refine q_chk (fun h13 => ?_)
      refine q_chk (fun h14 => ?_)
      refine p_lald C dX8_entryOf_72 h13 h14 ?_
      refine q_aload_n C 1 dX8_entryOf_73 rfl rfl ?_
      refine q_iload_n C 2 dX8_entryOf_74 rfl rfl ?_
      refine q_iload_n C 3 dX8_entryOf_75 rfl rfl ?_
      refine q_cVL (As := (fun P => [.int v1, .int v2])) C [.long (mJ X2_2 (mR X2_2 (mR X2_2 r0 4) 0) (w1).toNatClampNeg)] (sX8_claimedTo n r0 v1 v2) fcX8_363 rfl (fun _ => rfl) ⟨Nat.le_of_ble_eq_true rfl, Nat.le_of_ble_eq_true rfl⟩ ⟨Nat.le_of_ble_eq_true rfl, Nat.le_of_ble_eq_true rfl⟩ (Nat.le_of_ble_eq_true rfl) dX8_entryOf_76 h9 (fun w15 X76_16 => ?_)
      refine q_ladd C dX8_entryOf_79 ?_
      refine q_aload_n C 1 dX8_entryOf_80 rfl rfl ?_
      refine q_iload_n C 2 dX8_entryOf_81 rfl rfl ?_
      refine q_iload_n C 3 dX8_entryOf_82 rfl rfl ?_
      refine q_chk (fun h19 => ?_)
      refine q_cVL (As := (fun P => [.int v1, .int v2])) C [.long ((mJ X2_2 (mR X2_2 (mR X2_2 r0 4) 0) (w1).toNatClampNeg) + w15)] (sX8_claimedFrom n r0 v1 v2) fcX8_366 rfl (fun _ => rfl) ⟨Nat.le_of_ble_eq_true rfl, Nat.le_of_ble_eq_true rfl⟩ ⟨Nat.le_of_ble_eq_true rfl, Nat.le_of_ble_eq_true rfl⟩ (Nat.le_of_ble_eq_true rfl) dX8_entryOf_83 h19 (fun w17 X83_18 => ?_)
      refine q_lsub C dX8_entryOf_86 ?_
      exact q_lret C dX8_entryOf_87
    · refine q_ite (fun e2 => ?_) (fun e2 => ?_)
      · refine q_tabIn C (v := 2) 88 dX8_entryOf_8 (by rw [e2]; rfl) (by decide) (by decide) rfl (by decide) ?_
        refine q_aload_n C 1 dX8_entryOf_88 rfl rfl ?_
        refine q_chk (fun h20 => ?_)
        refine q_chk (fun h21 => ?_)
        refine p_getR C fgX8_35 rfl dX8_entryOf_89 h20 h21 ?_
        refine q_chk (fun h22 => ?_)
        refine q_chk (fun h23 => ?_)
        refine p_getR C fgX8_168 rfl dX8_entryOf_92 h22 h23 ?_
        refine q_iload C 0 dX8_entryOf_95 rfl ?_
        refine q_chk (fun h24 => ?_)
        refine q_chk (fun h25 => ?_)
        refine p_lald C dX8_entryOf_97 h24 h25 ?_
        exact q_lret C dX8_entryOf_98
      · refine q_ite (fun e3 => ?_) (fun e3 => ?_)
        · refine q_tabIn C (v := 3) 99 dX8_entryOf_8 (by rw [e3]; rfl) (by decide) (by decide) rfl (by decide) ?_
          refine q_aload_n C 1 dX8_entryOf_99 rfl rfl ?_
          refine q_chk (fun h26 => ?_)
          refine q_chk (fun h27 => ?_)
          refine p_getR C fgX8_35 rfl dX8_entryOf_100 h26 h27 ?_
          refine q_chk (fun h28 => ?_)
          refine q_chk (fun h29 => ?_)
          refine p_getR C fgX8_170 rfl dX8_entryOf_103 h28 h29 ?_
          refine q_iload C 0 dX8_entryOf_106 rfl ?_
          refine q_chk (fun h30 => ?_)
          refine q_chk (fun h31 => ?_)
          refine p_lald C dX8_entryOf_108 h30 h31 ?_
          exact q_lret C dX8_entryOf_109
        · refine q_ite (fun e4 => ?_) (fun e4 => ?_)
          · refine q_tabIn C (v := 4) 110 dX8_entryOf_8 (by rw [e4]; rfl) (by decide) (by decide) rfl (by decide) ?_
            refine q_aload_n C 1 dX8_entryOf_110 rfl rfl ?_
            refine q_chk (fun h32 => ?_)
            refine q_chk (fun h33 => ?_)
            refine p_getR C fgX8_35 rfl dX8_entryOf_111 h32 h33 ?_
            refine q_chk (fun h34 => ?_)
            refine q_chk (fun h35 => ?_)
            refine p_getR C fgX8_357 rfl dX8_entryOf_114 h34 h35 ?_
            refine q_iload C 0 dX8_entryOf_117 rfl ?_
            refine q_chk (fun h36 => ?_)
            refine q_chk (fun h37 => ?_)
            refine p_lald C dX8_entryOf_119 h36 h37 ?_
            exact q_lret C dX8_entryOf_120
          · refine q_ite (fun e5 => ?_) (fun e5 => ?_)
            · refine q_tabIn C (v := 5) 121 dX8_entryOf_8 (by rw [e5]; rfl) (by decide) (by decide) rfl (by decide) ?_
              refine q_aload_n C 1 dX8_entryOf_121 rfl rfl ?_
              refine q_chk (fun h38 => ?_)
              refine q_chk (fun h39 => ?_)
              refine p_getR C fgX8_35 rfl dX8_entryOf_122 h38 h39 ?_
              refine q_chk (fun h40 => ?_)
              refine q_chk (fun h41 => ?_)
              refine p_getR C fgX8_360 rfl dX8_entryOf_125 h40 h41 ?_
              refine q_iload C 0 dX8_entryOf_128 rfl ?_
              refine q_chk (fun h42 => ?_)
              refine q_chk (fun h43 => ?_)
              refine p_lald C dX8_entryOf_130 h42 h43 ?_
              exact q_lret C dX8_entryOf_131
            · refine q_ite (fun e6 => ?_) (fun e6 => ?_)
              · refine q_tabIn C (v := 6) 132 dX8_entryOf_8 (by rw [e6]; rfl) (by decide) (by decide) rfl (by decide) ?_
                refine q_aload_n C 1 dX8_entryOf_132 rfl rfl ?_
                refine q_chk (fun h44 => ?_)
                refine q_chk (fun h45 => ?_)
                refine p_getR C fgX8_35 rfl dX8_entryOf_133 h44 h45 ?_
                refine q_chk (fun h46 => ?_)
                refine q_chk (fun h47 => ?_)
                refine p_getR C fgX8_346 rfl dX8_entryOf_136 h46 h47 ?_
                refine q_iload C 0 dX8_entryOf_139 rfl ?_
                refine q_chk (fun h48 => ?_)
                refine q_chk (fun h49 => ?_)
                refine p_lald C dX8_entryOf_141 h48 h49 ?_
                exact q_lret C dX8_entryOf_142
              · have n0 := q_ne e0 (i := 0) rfl
                have n1 := q_ne e1 (i := 1) rfl
                have n2 := q_ne e2 (i := 2) rfl
                have n3 := q_ne e3 (i := 3) rfl
                have n4 := q_ne e4 (i := 4) rfl
                have n5 := q_ne e5 (i := 5) rfl
                have n6 := q_ne e6 (i := 6) rfl
                refine q_tabOut C 143 dX8_entryOf_8 (by omega) (by decide) ?_
                refine q_ldc2 C dX8_entryOf_143 fkX8_369 ?_
                exact q_lret C dX8_entryOf_146
/-! RecordClaims$State.claimPart(III)J -/
abbrev cX8_claimPart : ByteArray := prog_10_method_36_code
def yX8_claimPart : MethodName := ⟨RX8, "claimPart", "(III)J"⟩
theorem dX8_claimPart_0 : decode cX8_claimPart 0 = .ok (.iload_n 1, 1) := by decide +kernel
theorem dX8_claimPart_1 : decode cX8_claimPart 1 = .ok (.iload_n 2, 1) := by decide +kernel
theorem dX8_claimPart_2 : decode cX8_claimPart 2 = .ok (.invokestatic 284, 3) := by decide +kernel
theorem dX8_claimPart_5 : decode cX8_claimPart 5 = .ok (.istore 4, 2) := by decide +kernel
theorem dX8_claimPart_7 : decode cX8_claimPart 7 = .ok (.iload_n 3, 1) := by decide +kernel
theorem dX8_claimPart_8 : decode cX8_claimPart 8 = .ok (.tableswitch 141 0 6 #[44, 56, 68, 79, 91, 103, 122], 44) := by decide +kernel
theorem dX8_claimPart_52 : decode cX8_claimPart 52 = .ok (.aload_n 0, 1) := by decide +kernel
theorem dX8_claimPart_53 : decode cX8_claimPart 53 = .ok (.getfield 42, 3) := by decide +kernel
theorem dX8_claimPart_56 : decode cX8_claimPart 56 = .ok (.getfield 328, 3) := by decide +kernel
theorem dX8_claimPart_59 : decode cX8_claimPart 59 = .ok (.iload 4, 2) := by decide +kernel
theorem dX8_claimPart_61 : decode cX8_claimPart 61 = .ok (.iaload, 1) := by decide +kernel
theorem dX8_claimPart_62 : decode cX8_claimPart 62 = .ok (.i2l, 1) := by decide +kernel
theorem dX8_claimPart_63 : decode cX8_claimPart 63 = .ok (.lreturn, 1) := by decide +kernel
theorem dX8_claimPart_64 : decode cX8_claimPart 64 = .ok (.aload_n 0, 1) := by decide +kernel
theorem dX8_claimPart_65 : decode cX8_claimPart 65 = .ok (.getfield 42, 3) := by decide +kernel
theorem dX8_claimPart_68 : decode cX8_claimPart 68 = .ok (.getfield 331, 3) := by decide +kernel
theorem dX8_claimPart_71 : decode cX8_claimPart 71 = .ok (.iload 4, 2) := by decide +kernel
theorem dX8_claimPart_73 : decode cX8_claimPart 73 = .ok (.iaload, 1) := by decide +kernel
theorem dX8_claimPart_74 : decode cX8_claimPart 74 = .ok (.i2l, 1) := by decide +kernel
theorem dX8_claimPart_75 : decode cX8_claimPart 75 = .ok (.lreturn, 1) := by decide +kernel
theorem dX8_claimPart_76 : decode cX8_claimPart 76 = .ok (.aload_n 0, 1) := by decide +kernel
theorem dX8_claimPart_77 : decode cX8_claimPart 77 = .ok (.getfield 42, 3) := by decide +kernel
theorem dX8_claimPart_80 : decode cX8_claimPart 80 = .ok (.getfield 334, 3) := by decide +kernel
theorem dX8_claimPart_83 : decode cX8_claimPart 83 = .ok (.iload 4, 2) := by decide +kernel
theorem dX8_claimPart_85 : decode cX8_claimPart 85 = .ok (.laload, 1) := by decide +kernel
theorem dX8_claimPart_86 : decode cX8_claimPart 86 = .ok (.lreturn, 1) := by decide +kernel
theorem dX8_claimPart_87 : decode cX8_claimPart 87 = .ok (.aload_n 0, 1) := by decide +kernel
theorem dX8_claimPart_88 : decode cX8_claimPart 88 = .ok (.getfield 42, 3) := by decide +kernel
theorem dX8_claimPart_91 : decode cX8_claimPart 91 = .ok (.getfield 371, 3) := by decide +kernel
theorem dX8_claimPart_94 : decode cX8_claimPart 94 = .ok (.iload 4, 2) := by decide +kernel
theorem dX8_claimPart_96 : decode cX8_claimPart 96 = .ok (.iaload, 1) := by decide +kernel
theorem dX8_claimPart_97 : decode cX8_claimPart 97 = .ok (.i2l, 1) := by decide +kernel
theorem dX8_claimPart_98 : decode cX8_claimPart 98 = .ok (.lreturn, 1) := by decide +kernel
theorem dX8_claimPart_99 : decode cX8_claimPart 99 = .ok (.aload_n 0, 1) := by decide +kernel
theorem dX8_claimPart_100 : decode cX8_claimPart 100 = .ok (.getfield 42, 3) := by decide +kernel
theorem dX8_claimPart_103 : decode cX8_claimPart 103 = .ok (.getfield 324, 3) := by decide +kernel
theorem dX8_claimPart_106 : decode cX8_claimPart 106 = .ok (.iload 4, 2) := by decide +kernel
theorem dX8_claimPart_108 : decode cX8_claimPart 108 = .ok (.iaload, 1) := by decide +kernel
theorem dX8_claimPart_109 : decode cX8_claimPart 109 = .ok (.i2l, 1) := by decide +kernel
theorem dX8_claimPart_110 : decode cX8_claimPart 110 = .ok (.lreturn, 1) := by decide +kernel
theorem dX8_claimPart_111 : decode cX8_claimPart 111 = .ok (.aload_n 0, 1) := by decide +kernel
theorem dX8_claimPart_112 : decode cX8_claimPart 112 = .ok (.getfield 28, 3) := by decide +kernel
theorem dX8_claimPart_115 : decode cX8_claimPart 115 = .ok (.iload_n 1, 1) := by decide +kernel
theorem dX8_claimPart_116 : decode cX8_claimPart 116 = .ok (.aload_n 0, 1) := by decide +kernel
theorem dX8_claimPart_117 : decode cX8_claimPart 117 = .ok (.getfield 42, 3) := by decide +kernel
theorem dX8_claimPart_120 : decode cX8_claimPart 120 = .ok (.getfield 334, 3) := by decide +kernel
theorem dX8_claimPart_123 : decode cX8_claimPart 123 = .ok (.iload 4, 2) := by decide +kernel
theorem dX8_claimPart_125 : decode cX8_claimPart 125 = .ok (.laload, 1) := by decide +kernel
theorem dX8_claimPart_126 : decode cX8_claimPart 126 = .ok (.invokevirtual 302, 3) := by decide +kernel
theorem dX8_claimPart_129 : decode cX8_claimPart 129 = .ok (.lreturn, 1) := by decide +kernel
theorem dX8_claimPart_130 : decode cX8_claimPart 130 = .ok (.aload_n 0, 1) := by decide +kernel
theorem dX8_claimPart_131 : decode cX8_claimPart 131 = .ok (.getfield 28, 3) := by decide +kernel
theorem dX8_claimPart_134 : decode cX8_claimPart 134 = .ok (.iload_n 1, 1) := by decide +kernel
theorem dX8_claimPart_135 : decode cX8_claimPart 135 = .ok (.aload_n 0, 1) := by decide +kernel
theorem dX8_claimPart_136 : decode cX8_claimPart 136 = .ok (.getfield 42, 3) := by decide +kernel
theorem dX8_claimPart_139 : decode cX8_claimPart 139 = .ok (.getfield 334, 3) := by decide +kernel
theorem dX8_claimPart_142 : decode cX8_claimPart 142 = .ok (.iload 4, 2) := by decide +kernel
theorem dX8_claimPart_144 : decode cX8_claimPart 144 = .ok (.laload, 1) := by decide +kernel
theorem dX8_claimPart_145 : decode cX8_claimPart 145 = .ok (.invokevirtual 306, 3) := by decide +kernel
theorem dX8_claimPart_148 : decode cX8_claimPart 148 = .ok (.lreturn, 1) := by decide +kernel
theorem dX8_claimPart_149 : decode cX8_claimPart 149 = .ok (.ldc2_w 374, 3) := by decide +kernel
theorem dX8_claimPart_152 : decode cX8_claimPart 152 = .ok (.lreturn, 1) := by decide +kernel
theorem fgX8_371 : q_Fg RX8 371 1 3 := q_Fg.of (C := RX1) (T := TX1) (N := 5) rfl (by decide) inX1 382 (by decide +kernel) rfl rfl
theorem fkX8_374 : Cond.constantLong RX8 374 (-1 : Int64) ∈ q_tbl := q_tb 1099 (by decide +kernel) rfl
def fX8_claimPart (r0 : Nat) (v1 : Int32) (v2 : Int32) (v3 : Int32) (X : Mm) : Option (Int64 × Mm) :=
bd (fX1_at v1 v2 X) fun w1 X2_2 =>
if v3 = (0 : Int32) then (
if mT X2_2 r0 = 8 then
if mR X2_2 r0 5 ≠ 0 then
if mT X2_2 (mR X2_2 r0 5) = 1 then
if mR X2_2 (mR X2_2 r0 5) 0 ≠ 0 then
if mT X2_2 (mR X2_2 (mR X2_2 r0 5) 0) = 14 then
if q_b X2_2 (mR X2_2 (mR X2_2 r0 5) 0) w1 then
some ((((mI X2_2 (mR X2_2 (mR X2_2 r0 5) 0) (w1).toNatClampNeg)).toInt64), X2_2)
else none
else none
else none
else none
else none
else none
) else (
if v3 = (1 : Int32) then (
if mT X2_2 r0 = 8 then
if mR X2_2 r0 5 ≠ 0 then
if mT X2_2 (mR X2_2 r0 5) = 1 then
if mR X2_2 (mR X2_2 r0 5) 1 ≠ 0 then
if mT X2_2 (mR X2_2 (mR X2_2 r0 5) 1) = 14 then
if q_b X2_2 (mR X2_2 (mR X2_2 r0 5) 1) w1 then
some ((((mI X2_2 (mR X2_2 (mR X2_2 r0 5) 1) (w1).toNatClampNeg)).toInt64), X2_2)
else none
else none
else none
else none
else none
else none
) else (
if v3 = (2 : Int32) then (
if mT X2_2 r0 = 8 then
if mR X2_2 r0 5 ≠ 0 then
if mT X2_2 (mR X2_2 r0 5) = 1 then
if mR X2_2 (mR X2_2 r0 5) 2 ≠ 0 then
if mT X2_2 (mR X2_2 (mR X2_2 r0 5) 2) = 15 then
if q_b X2_2 (mR X2_2 (mR X2_2 r0 5) 2) w1 then
some ((mJ X2_2 (mR X2_2 (mR X2_2 r0 5) 2) (w1).toNatClampNeg), X2_2)
else none
else none
else none
else none
else none
else none
) else (
if v3 = (3 : Int32) then (
if mT X2_2 r0 = 8 then
if mR X2_2 r0 5 ≠ 0 then
if mT X2_2 (mR X2_2 r0 5) = 1 then
if mR X2_2 (mR X2_2 r0 5) 3 ≠ 0 then
if mT X2_2 (mR X2_2 (mR X2_2 r0 5) 3) = 14 then
if q_b X2_2 (mR X2_2 (mR X2_2 r0 5) 3) w1 then
some ((((mI X2_2 (mR X2_2 (mR X2_2 r0 5) 3) (w1).toNatClampNeg)).toInt64), X2_2)
else none
else none
else none
else none
else none
else none
) else (
if v3 = (4 : Int32) then (
if mT X2_2 r0 = 8 then
if mR X2_2 r0 5 ≠ 0 then
if mT X2_2 (mR X2_2 r0 5) = 1 then
if mR X2_2 (mR X2_2 r0 5) 4 ≠ 0 then
if mT X2_2 (mR X2_2 (mR X2_2 r0 5) 4) = 14 then
if q_b X2_2 (mR X2_2 (mR X2_2 r0 5) 4) w1 then
some ((((mI X2_2 (mR X2_2 (mR X2_2 r0 5) 4) (w1).toNatClampNeg)).toInt64), X2_2)
else none
else none
else none
else none
else none
else none
) else (
if v3 = (5 : Int32) then (
if mT X2_2 r0 = 8 then
if mR X2_2 r0 3 ≠ 0 then
if mR X2_2 r0 5 ≠ 0 then
if mT X2_2 (mR X2_2 r0 5) = 1 then
if mR X2_2 (mR X2_2 r0 5) 2 ≠ 0 then
if mT X2_2 (mR X2_2 (mR X2_2 r0 5) 2) = 15 then
if q_b X2_2 (mR X2_2 (mR X2_2 r0 5) 2) w1 then
if mT X2_2 (mR X2_2 r0 3) = 3 then
bd (fX3_sharesFor ((mR X2_2 r0 3)) v1 ((mJ X2_2 (mR X2_2 (mR X2_2 r0 5) 2) (w1).toNatClampNeg)) X2_2) fun w40 X126_41 =>
some (w40, X126_41)
else none
else none
else none
else none
else none
else none
else none
else none
) else (
if v3 = (6 : Int32) then (
if mT X2_2 r0 = 8 then
if mR X2_2 r0 3 ≠ 0 then
if mR X2_2 r0 5 ≠ 0 then
if mT X2_2 (mR X2_2 r0 5) = 1 then
if mR X2_2 (mR X2_2 r0 5) 2 ≠ 0 then
if mT X2_2 (mR X2_2 (mR X2_2 r0 5) 2) = 15 then
if q_b X2_2 (mR X2_2 (mR X2_2 r0 5) 2) w1 then
if mT X2_2 (mR X2_2 r0 3) = 3 then
bd (fX3_moneyFor ((mR X2_2 r0 3)) v1 ((mJ X2_2 (mR X2_2 (mR X2_2 r0 5) 2) (w1).toNatClampNeg)) X2_2) fun w50 X145_51 =>
some (w50, X145_51)
else none
else none
else none
else none
else none
else none
else none
else none
) else (
some ((-1 : Int64), X2_2)
)
)
)
)
)
)
)
theorem sX8_claimPart (r0 : Nat) (v1 : Int32) (v2 : Int32) (v3 : Int32) : q_Ct yX8_claimPart cX8_claimPart 5 (some .long) 1 24 0 0 q_eL (fun P => [.ref (P + r0), .int v1, .int v2, .int v3]) (fX8_claimPart r0 v1 v2 v3) := by
  refine q_meth (by decide +kernel) (fun P => Nat.le_of_ble_eq_true rfl) (fun E X C hn => ?_)
  show Sm E (q_fin E q_eL X 0 0) 0 0 0 [(0, .ref (q_P E + r0)), (1, .int v1), (2, .int v2), (3, .int v3)] [] X _
  unfold fX8_claimPart
  refine q_iload_n C 1 dX8_claimPart_0 rfl rfl ?_
  refine q_iload_n C 2 dX8_claimPart_1 rfl rfl ?_
  refine q_cSI (As := (fun P => [.int v1, .int v2])) C [] (sX1_at v1 v2) fcX8_284 rfl (fun _ => rfl) ⟨Nat.le_of_ble_eq_true rfl, Nat.le_of_ble_eq_true rfl⟩ ⟨Nat.le_of_ble_eq_true rfl, Nat.le_of_ble_eq_true rfl⟩ (Nat.le_of_ble_eq_true rfl) dX8_claimPart_2 (fun w1 X2_2 => ?_)
  refine q_istore C [(4, .int w1), (0, .ref (q_P E + r0)), (1, .int v1), (2, .int v2), (3, .int v3)] dX8_claimPart_5 (Nat.le_of_ble_eq_true rfl) rfl ?_
  refine q_iload_n C 4 dX8_claimPart_7 rfl rfl ?_
  refine q_ite (fun e0 => ?_) (fun e0 => ?_)
  · refine q_tabIn C (v := 0) 52 dX8_claimPart_8 (by rw [e0]; rfl) (by decide) (by decide) rfl (by decide) ?_
    refine q_aload_n C 1 dX8_claimPart_52 rfl rfl ?_
    refine q_chk (fun h3 => ?_)
    refine q_chk (fun h4 => ?_)
    refine p_getR C fgX8_42 rfl dX8_claimPart_53 h3 h4 ?_
    refine q_chk (fun h5 => ?_)
    refine q_chk (fun h6 => ?_)
    refine p_getR C fgX8_328 rfl dX8_claimPart_56 h5 h6 ?_
    refine q_iload C 0 dX8_claimPart_59 rfl ?_
    refine q_chk (fun h7 => ?_)
    refine q_chk (fun h8 => ?_)
    refine p_iald C dX8_claimPart_61 h7 h8 ?_
    refine q_i2l C dX8_claimPart_62 ?_
    exact q_lret C dX8_claimPart_63
  · refine q_ite (fun e1 => ?_) (fun e1 => ?_)
    · refine q_tabIn C (v := 1) 64 dX8_claimPart_8 (by rw [e1]; rfl) (by decide) (by decide) rfl (by decide) ?_
      refine q_aload_n C 1 dX8_claimPart_64 rfl rfl ?_
      refine q_chk (fun h9 => ?_)
      refine q_chk (fun h10 => ?_)
      refine p_getR C fgX8_42 rfl dX8_claimPart_65 h9 h10 ?_
      refine q_chk (fun h11 => ?_)
      refine q_chk (fun h12 => ?_)
      refine p_getR C fgX8_331 rfl dX8_claimPart_68 h11 h12 ?_
      refine q_iload C 0 dX8_claimPart_71 rfl ?_
      refine q_chk (fun h13 => ?_)
      refine q_chk (fun h14 => ?_)
      refine p_iald C dX8_claimPart_73 h13 h14 ?_
      refine q_i2l C dX8_claimPart_74 ?_
      exact q_lret C dX8_claimPart_75
    · refine q_ite (fun e2 => ?_) (fun e2 => ?_)
      · refine q_tabIn C (v := 2) 76 dX8_claimPart_8 (by rw [e2]; rfl) (by decide) (by decide) rfl (by decide) ?_
        refine q_aload_n C 1 dX8_claimPart_76 rfl rfl ?_
        refine q_chk (fun h15 => ?_)
        refine q_chk (fun h16 => ?_)
        refine p_getR C fgX8_42 rfl dX8_claimPart_77 h15 h16 ?_
        refine q_chk (fun h17 => ?_)
        refine q_chk (fun h18 => ?_)
        refine p_getR C fgX8_334 rfl dX8_claimPart_80 h17 h18 ?_
        refine q_iload C 0 dX8_claimPart_83 rfl ?_
        refine q_chk (fun h19 => ?_)
        refine q_chk (fun h20 => ?_)
        refine p_lald C dX8_claimPart_85 h19 h20 ?_
        exact q_lret C dX8_claimPart_86
      · refine q_ite (fun e3 => ?_) (fun e3 => ?_)
        · refine q_tabIn C (v := 3) 87 dX8_claimPart_8 (by rw [e3]; rfl) (by decide) (by decide) rfl (by decide) ?_
          refine q_aload_n C 1 dX8_claimPart_87 rfl rfl ?_
          refine q_chk (fun h21 => ?_)
          refine q_chk (fun h22 => ?_)
          refine p_getR C fgX8_42 rfl dX8_claimPart_88 h21 h22 ?_
          refine q_chk (fun h23 => ?_)
          refine q_chk (fun h24 => ?_)
          refine p_getR C fgX8_371 rfl dX8_claimPart_91 h23 h24 ?_
          refine q_iload C 0 dX8_claimPart_94 rfl ?_
          refine q_chk (fun h25 => ?_)
          refine q_chk (fun h26 => ?_)
          refine p_iald C dX8_claimPart_96 h25 h26 ?_
          refine q_i2l C dX8_claimPart_97 ?_
          exact q_lret C dX8_claimPart_98
        · refine q_ite (fun e4 => ?_) (fun e4 => ?_)
          · refine q_tabIn C (v := 4) 99 dX8_claimPart_8 (by rw [e4]; rfl) (by decide) (by decide) rfl (by decide) ?_
            refine q_aload_n C 1 dX8_claimPart_99 rfl rfl ?_
            refine q_chk (fun h27 => ?_)
            refine q_chk (fun h28 => ?_)
            refine p_getR C fgX8_42 rfl dX8_claimPart_100 h27 h28 ?_
            refine q_chk (fun h29 => ?_)
            refine q_chk (fun h30 => ?_)
            refine p_getR C fgX8_324 rfl dX8_claimPart_103 h29 h30 ?_
            refine q_iload C 0 dX8_claimPart_106 rfl ?_
            refine q_chk (fun h31 => ?_)
            refine q_chk (fun h32 => ?_)
            refine p_iald C dX8_claimPart_108 h31 h32 ?_
            refine q_i2l C dX8_claimPart_109 ?_
            exact q_lret C dX8_claimPart_110
          · refine q_ite (fun e5 => ?_) (fun e5 => ?_)
            · refine q_tabIn C (v := 5) 111 dX8_claimPart_8 (by rw [e5]; rfl) (by decide) (by decide) rfl (by decide) ?_
              refine q_aload_n C 1 dX8_claimPart_111 rfl rfl ?_
              refine q_chk (fun h33 => ?_)
              refine q_chk (fun h34 => ?_)
              refine p_getR C fgX8_28 rfl dX8_claimPart_112 h33 h34 ?_
              refine q_iload_n C 2 dX8_claimPart_115 rfl rfl ?_
              refine q_aload_n C 1 dX8_claimPart_116 rfl rfl ?_
              refine q_chk (fun h35 => ?_)
              refine p_getR C fgX8_42 rfl dX8_claimPart_117 h33 h35 ?_
              refine q_chk (fun h36 => ?_)
              refine q_chk (fun h37 => ?_)
              refine p_getR C fgX8_334 rfl dX8_claimPart_120 h36 h37 ?_
              refine q_iload C 0 dX8_claimPart_123 rfl ?_
              refine q_chk (fun h38 => ?_)
              refine q_chk (fun h39 => ?_)
              refine p_lald C dX8_claimPart_125 h38 h39 ?_
              refine q_chk (fun h42 => ?_)
              refine q_cVL (As := (fun P => [.int v1, .long (mJ X2_2 (mR X2_2 (mR X2_2 r0 5) 2) (w1).toNatClampNeg)])) C [] (sX3_sharesFor ((mR X2_2 r0 3)) v1 ((mJ X2_2 (mR X2_2 (mR X2_2 r0 5) 2) (w1).toNatClampNeg))) fcX8_302 rfl (fun _ => rfl) ⟨Nat.le_of_ble_eq_true rfl, Nat.le_of_ble_eq_true rfl⟩ ⟨Nat.le_of_ble_eq_true rfl, Nat.le_of_ble_eq_true rfl⟩ (Nat.le_of_ble_eq_true rfl) dX8_claimPart_126 h42 (fun w40 X126_41 => ?_)
              exact q_lret C dX8_claimPart_129
            · refine q_ite (fun e6 => ?_) (fun e6 => ?_)
              · refine q_tabIn C (v := 6) 130 dX8_claimPart_8 (by rw [e6]; rfl) (by decide) (by decide) rfl (by decide) ?_
                refine q_aload_n C 1 dX8_claimPart_130 rfl rfl ?_
                refine q_chk (fun h43 => ?_)
                refine q_chk (fun h44 => ?_)
                refine p_getR C fgX8_28 rfl dX8_claimPart_131 h43 h44 ?_
                refine q_iload_n C 2 dX8_claimPart_134 rfl rfl ?_
                refine q_aload_n C 1 dX8_claimPart_135 rfl rfl ?_
                refine q_chk (fun h45 => ?_)
                refine p_getR C fgX8_42 rfl dX8_claimPart_136 h43 h45 ?_
                refine q_chk (fun h46 => ?_)
                refine q_chk (fun h47 => ?_)
                refine p_getR C fgX8_334 rfl dX8_claimPart_139 h46 h47 ?_
                refine q_iload C 0 dX8_claimPart_142 rfl ?_
                refine q_chk (fun h48 => ?_)
                refine q_chk (fun h49 => ?_)
                refine p_lald C dX8_claimPart_144 h48 h49 ?_
                refine q_chk (fun h52 => ?_)
                refine q_cVL (As := (fun P => [.int v1, .long (mJ X2_2 (mR X2_2 (mR X2_2 r0 5) 2) (w1).toNatClampNeg)])) C [] (sX3_moneyFor ((mR X2_2 r0 3)) v1 ((mJ X2_2 (mR X2_2 (mR X2_2 r0 5) 2) (w1).toNatClampNeg))) fcX8_306 rfl (fun _ => rfl) ⟨Nat.le_of_ble_eq_true rfl, Nat.le_of_ble_eq_true rfl⟩ ⟨Nat.le_of_ble_eq_true rfl, Nat.le_of_ble_eq_true rfl⟩ (Nat.le_of_ble_eq_true rfl) dX8_claimPart_145 h52 (fun w50 X145_51 => ?_)
                exact q_lret C dX8_claimPart_148
              · have n0 := q_ne e0 (i := 0) rfl
                have n1 := q_ne e1 (i := 1) rfl
                have n2 := q_ne e2 (i := 2) rfl
                have n3 := q_ne e3 (i := 3) rfl
                have n4 := q_ne e4 (i := 4) rfl
                have n5 := q_ne e5 (i := 5) rfl
                have n6 := q_ne e6 (i := 6) rfl
                refine q_tabOut C 149 dX8_claimPart_8 (by omega) (by decide) ?_
                refine q_ldc2 C dX8_claimPart_149 fkX8_374 ?_
                exact q_lret C dX8_claimPart_152
/-! RecordClaims$State.worstOf(I)I -/
abbrev cX8_worstOf : ByteArray := prog_10_method_39_code
def yX8_worstOf : MethodName := ⟨RX8, "worstOf", "(I)I"⟩
theorem dX8_worstOf_0 : decode cX8_worstOf 0 = .ok (.iconst 0, 1) := by decide +kernel
theorem dX8_worstOf_1 : decode cX8_worstOf 1 = .ok (.istore_n 2, 1) := by decide +kernel
theorem dX8_worstOf_2 : decode cX8_worstOf 2 = .ok (.iconst 1, 1) := by decide +kernel
theorem dX8_worstOf_3 : decode cX8_worstOf 3 = .ok (.istore_n 3, 1) := by decide +kernel
theorem dX8_worstOf_4 : decode cX8_worstOf 4 = .ok (.iload_n 3, 1) := by decide +kernel
theorem dX8_worstOf_5 : decode cX8_worstOf 5 = .ok (.aload_n 0, 1) := by decide +kernel
theorem dX8_worstOf_6 : decode cX8_worstOf 6 = .ok (.getfield 63, 3) := by decide +kernel
theorem dX8_worstOf_9 : decode cX8_worstOf 9 = .ok (.if_icmp .ge 27, 3) := by decide +kernel
theorem dX8_worstOf_12 : decode cX8_worstOf 12 = .ok (.aload_n 0, 1) := by decide +kernel
theorem dX8_worstOf_13 : decode cX8_worstOf 13 = .ok (.iload_n 1, 1) := by decide +kernel
theorem dX8_worstOf_14 : decode cX8_worstOf 14 = .ok (.iload_n 3, 1) := by decide +kernel
theorem dX8_worstOf_15 : decode cX8_worstOf 15 = .ok (.invokevirtual 366, 3) := by decide +kernel
theorem dX8_worstOf_18 : decode cX8_worstOf 18 = .ok (.aload_n 0, 1) := by decide +kernel
theorem dX8_worstOf_19 : decode cX8_worstOf 19 = .ok (.iload_n 1, 1) := by decide +kernel
theorem dX8_worstOf_20 : decode cX8_worstOf 20 = .ok (.iload_n 2, 1) := by decide +kernel
theorem dX8_worstOf_21 : decode cX8_worstOf 21 = .ok (.invokevirtual 366, 3) := by decide +kernel
theorem dX8_worstOf_24 : decode cX8_worstOf 24 = .ok (.lcmp, 1) := by decide +kernel
theorem dX8_worstOf_25 : decode cX8_worstOf 25 = .ok (.ifCond .le 5, 3) := by decide +kernel
theorem dX8_worstOf_28 : decode cX8_worstOf 28 = .ok (.iload_n 3, 1) := by decide +kernel
theorem dX8_worstOf_29 : decode cX8_worstOf 29 = .ok (.istore_n 2, 1) := by decide +kernel
theorem dX8_worstOf_30 : decode cX8_worstOf 30 = .ok (.iinc 3 1, 3) := by decide +kernel
theorem dX8_worstOf_33 : decode cX8_worstOf 33 = .ok (.goto (-29), 3) := by decide +kernel
theorem dX8_worstOf_36 : decode cX8_worstOf 36 = .ok (.iload_n 2, 1) := by decide +kernel
theorem dX8_worstOf_37 : decode cX8_worstOf 37 = .ok (.ireturn, 1) := by decide +kernel
def fX8_worstOf_L30 (n : Nat) (k4 : Nat → Int32 → Int32 → Int32 → Mm → Option (Int32 × Mm)) (r0 : Nat) (v1 : Int32) (v2 : Int32) (v3 : Int32) (X : Mm) : Option (Int32 × Mm) :=
nm (v3 + (1 : Int32)) fun v3_30 =>
k4 r0 v1 v2 v3_30 X
def fX8_worstOf_L4 (n : Nat) : Nat → Nat → Int32 → Int32 → Int32 → Mm → Option (Int32 × Mm)
| 0, _, _, _, _, _ => none
| j + 1, r0, v1, v2, v3, X =>
if mT X r0 = 8 then
if (mI X r0 6) ≤ v3 then (
some (v2, X)
) else (
bd (fX8_claimedFrom n r0 v1 v3 X) fun w2 X15_3 =>
if mT X15_3 r0 = 8 then
bd (fX8_claimedFrom n r0 v1 v2 X15_3) fun w4 X21_5 =>
if (lg_cmp w2 w4) ≤ 0 then (
fX8_worstOf_L30 n (fX8_worstOf_L4 n j) r0 v1 v2 v3 X21_5
) else (
fX8_worstOf_L30 n (fX8_worstOf_L4 n j) r0 v1 v3 v3 X21_5
)
else none
)
else none
def fX8_worstOf (n : Nat) (r0 : Nat) (v1 : Int32) (X : Mm) : Option (Int32 × Mm) :=
fX8_worstOf_L4 n n r0 v1 (0 : Int32) (1 : Int32) X
theorem gX8_worstOf_L30 {E : q_E} {X0 : Mm} (C : Cx E cX8_worstOf RX8 4 (some .int) (q_rm 2 46 0 0) X0) (n : Nat) (k4 : Nat → Int32 → Int32 → Int32 → Mm → Option (Int32 × Mm)) (hk4 : ∀ (r0 : Nat) (v1 : Int32) (v2 : Int32) (v3 : Int32) (X : Mm), Sm E (q_fin E q_eI X0 0 0) 0 0 4 [(0, .ref (q_P E + r0)), (1, .int v1), (2, .int v2), (3, .int v3)] [] X (k4 r0 v1 v2 v3 X)) (r0 : Nat) (v1 : Int32) (v2 : Int32) (v3 : Int32) (X : Mm) : Sm E (q_fin E q_eI X0 0 0) 0 0 30 [(0, .ref (q_P E + r0)), (1, .int v1), (2, .int v2), (3, .int v3)] [] X (fX8_worstOf_L30 n k4 r0 v1 v2 v3 X) := by
  unfold fX8_worstOf_L30
  refine q_iincN C (1 : Int32) 3 (fun v3_30 => [(3, .int v3_30), (0, .ref (q_P E + r0)), (1, .int v1), (2, .int v2)]) dX8_worstOf_30 rfl rfl (Nat.le_of_ble_eq_true rfl) (fun _ => rfl) (fun v3_30 => ?_)
  refine q_goto C 4 dX8_worstOf_33 (by decide) ?_
  refine q_sub C [(0, .ref (q_P E + r0)), (1, .int v1), (2, .int v2), (3, .int v3_30)] [1, 2, 3, 0] rfl ?_
  exact hk4 r0 v1 v2 v3_30 X
theorem gX8_worstOf_L4 {E : q_E} {X0 : Mm} (C : Cx E cX8_worstOf RX8 4 (some .int) (q_rm 2 46 0 0) X0) (n : Nat) : ∀ (j : Nat) (r0 : Nat) (v1 : Int32) (v2 : Int32) (v3 : Int32) (X : Mm), Sm E (q_fin E q_eI X0 0 0) 0 0 4 [(0, .ref (q_P E + r0)), (1, .int v1), (2, .int v2), (3, .int v3)] [] X (fX8_worstOf_L4 n j r0 v1 v2 v3 X) := by
  intro j
  induction j with
  | zero => intros; exact Sm.none
  | succ j ih =>
    intro r0 v1 v2 v3 X
    rw [fX8_worstOf_L4]
    refine q_iload_n C 3 dX8_worstOf_4 rfl rfl ?_
    refine q_aload_n C 0 dX8_worstOf_5 rfl rfl ?_
    refine q_chk (fun h1 => ?_)
    refine p_getI C fgX8_63 rfl dX8_worstOf_6 h1 ?_
    refine q_icmp_ge C 36 dX8_worstOf_9 (by decide) (fun _ => ?_) (fun _ => ?_)
    · refine q_iload_n C 2 dX8_worstOf_36 rfl rfl ?_
      exact q_iret C dX8_worstOf_37
    · refine q_aload_n C 0 dX8_worstOf_12 rfl rfl ?_
      refine q_iload_n C 1 dX8_worstOf_13 rfl rfl ?_
      refine q_iload_n C 3 dX8_worstOf_14 rfl rfl ?_
      refine q_cVL (As := (fun P => [.int v1, .int v3])) C [] (sX8_claimedFrom n r0 v1 v3) fcX8_366 rfl (fun _ => rfl) ⟨Nat.le_of_ble_eq_true rfl, Nat.le_of_ble_eq_true rfl⟩ ⟨Nat.le_of_ble_eq_true rfl, Nat.le_of_ble_eq_true rfl⟩ (Nat.le_of_ble_eq_true rfl) dX8_worstOf_15 h1 (fun w2 X15_3 => ?_)
      refine q_aload_n C 0 dX8_worstOf_18 rfl rfl ?_
      refine q_iload_n C 1 dX8_worstOf_19 rfl rfl ?_
      refine q_iload_n C 2 dX8_worstOf_20 rfl rfl ?_
      refine q_chk (fun h6 => ?_)
      refine q_cVL (As := (fun P => [.int v1, .int v2])) C [.long w2] (sX8_claimedFrom n r0 v1 v2) fcX8_366 rfl (fun _ => rfl) ⟨Nat.le_of_ble_eq_true rfl, Nat.le_of_ble_eq_true rfl⟩ ⟨Nat.le_of_ble_eq_true rfl, Nat.le_of_ble_eq_true rfl⟩ (Nat.le_of_ble_eq_true rfl) dX8_worstOf_21 h6 (fun w4 X21_5 => ?_)
      refine q_lcmp C dX8_worstOf_24 ?_
      refine q_if_le C 30 dX8_worstOf_25 (by decide) (fun _ => ?_) (fun _ => ?_)
      · exact gX8_worstOf_L30 C n (fX8_worstOf_L4 n j) ih r0 v1 v2 v3 X21_5
      · refine q_iload_n C 3 dX8_worstOf_28 rfl rfl ?_
        refine q_istore_n C [(2, .int v3), (0, .ref (q_P E + r0)), (1, .int v1), (3, .int v3)] dX8_worstOf_29 rfl (Nat.le_of_ble_eq_true rfl) rfl ?_
        refine q_sub C [(0, .ref (q_P E + r0)), (1, .int v1), (2, .int v3), (3, .int v3)] [1, 2, 0, 3] rfl ?_
        exact gX8_worstOf_L30 C n (fX8_worstOf_L4 n j) ih r0 v1 v3 v3 X21_5
theorem sX8_worstOf (n : Nat) (r0 : Nat) (v1 : Int32) : q_Ct yX8_worstOf cX8_worstOf 4 (some .int) 2 46 0 0 q_eI (fun P => [.ref (P + r0), .int v1]) (fX8_worstOf n r0 v1) := by
  refine q_meth (by decide +kernel) (fun P => Nat.le_of_ble_eq_true rfl) (fun E X C hn => ?_)
  show Sm E (q_fin E q_eI X 0 0) 0 0 0 [(0, .ref (q_P E + r0)), (1, .int v1)] [] X _
  unfold fX8_worstOf
  refine q_iconst C (0 : Int32) dX8_worstOf_0 rfl ?_
  refine q_istore_n C [(2, .int (0 : Int32)), (0, .ref (q_P E + r0)), (1, .int v1)] dX8_worstOf_1 rfl (Nat.le_of_ble_eq_true rfl) rfl ?_
  refine q_iconst C (1 : Int32) dX8_worstOf_2 rfl ?_
  refine q_istore_n C [(3, .int (1 : Int32)), (2, .int (0 : Int32)), (0, .ref (q_P E + r0)), (1, .int v1)] dX8_worstOf_3 rfl (Nat.le_of_ble_eq_true rfl) rfl ?_
  refine q_sub C [(0, .ref (q_P E + r0)), (1, .int v1), (2, .int (0 : Int32)), (3, .int (1 : Int32))] [2, 3, 1, 0] rfl ?_
  exact gX8_worstOf_L4 C n n r0 v1 (0 : Int32) (1 : Int32) X
