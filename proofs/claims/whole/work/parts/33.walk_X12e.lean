/-! RecordClaimsModel.known([JI)I -/
abbrev cX12_known : ByteArray := prog_14_method_61_code
def yX12_known : MethodName := ⟨RX12, "known", "([JI)I"⟩
theorem dX12_known_0 : decode cX12_known 0 = .ok (.aload_n 0, 1) := by decide +kernel
theorem dX12_known_1 : decode cX12_known 1 = .ok (.invokevirtual 287, 3) := by decide +kernel
theorem dX12_known_4 : decode cX12_known 4 = .ok (.ifCond .ne 8, 3) := by decide +kernel
theorem dX12_known_7 : decode cX12_known 7 = .ok (.aload_n 0, 1) := by decide +kernel
theorem dX12_known_8 : decode cX12_known 8 = .ok (.iconst 1, 1) := by decide +kernel
theorem dX12_known_9 : decode cX12_known 9 = .ok (.invokevirtual 284, 3) := by decide +kernel
theorem dX12_known_12 : decode cX12_known 12 = .ok (.aload_n 0, 1) := by decide +kernel
theorem dX12_known_13 : decode cX12_known 13 = .ok (.invokevirtual 274, 3) := by decide +kernel
theorem dX12_known_16 : decode cX12_known 16 = .ok (.ifCond .eq 16, 3) := by decide +kernel
theorem dX12_known_19 : decode cX12_known 19 = .ok (.aload_n 0, 1) := by decide +kernel
theorem dX12_known_20 : decode cX12_known 20 = .ok (.aload_n 1, 1) := by decide +kernel
theorem dX12_known_21 : decode cX12_known 21 = .ok (.iload_n 2, 1) := by decide +kernel
theorem dX12_known_22 : decode cX12_known 22 = .ok (.aload_n 0, 1) := by decide +kernel
theorem dX12_known_23 : decode cX12_known 23 = .ok (.getfield 256, 3) := by decide +kernel
theorem dX12_known_26 : decode cX12_known 26 = .ok (.invokevirtual 290, 3) := by decide +kernel
theorem dX12_known_29 : decode cX12_known 29 = .ok (.goto 4, 3) := by decide +kernel
theorem dX12_known_32 : decode cX12_known 32 = .ok (.iconst (-1), 1) := by decide +kernel
theorem dX12_known_33 : decode cX12_known 33 = .ok (.istore_n 3, 1) := by decide +kernel
theorem dX12_known_34 : decode cX12_known 34 = .ok (.aload_n 0, 1) := by decide +kernel
theorem dX12_known_35 : decode cX12_known 35 = .ok (.invokevirtual 274, 3) := by decide +kernel
theorem dX12_known_38 : decode cX12_known 38 = .ok (.ifCond .eq 13, 3) := by decide +kernel
theorem dX12_known_41 : decode cX12_known 41 = .ok (.iload_n 3, 1) := by decide +kernel
theorem dX12_known_42 : decode cX12_known 42 = .ok (.iconst (-1), 1) := by decide +kernel
theorem dX12_known_43 : decode cX12_known 43 = .ok (.if_icmp .ne 8, 3) := by decide +kernel
theorem dX12_known_46 : decode cX12_known 46 = .ok (.aload_n 0, 1) := by decide +kernel
theorem dX12_known_47 : decode cX12_known 47 = .ok (.iconst 2, 1) := by decide +kernel
theorem dX12_known_48 : decode cX12_known 48 = .ok (.invokevirtual 284, 3) := by decide +kernel
theorem dX12_known_51 : decode cX12_known 51 = .ok (.aload_n 0, 1) := by decide +kernel
theorem dX12_known_52 : decode cX12_known 52 = .ok (.invokevirtual 274, 3) := by decide +kernel
theorem dX12_known_55 : decode cX12_known 55 = .ok (.ifCond .eq 7, 3) := by decide +kernel
theorem dX12_known_58 : decode cX12_known 58 = .ok (.aload_n 0, 1) := by decide +kernel
theorem dX12_known_59 : decode cX12_known 59 = .ok (.invokevirtual 228, 3) := by decide +kernel
theorem dX12_known_62 : decode cX12_known 62 = .ok (.iload_n 3, 1) := by decide +kernel
theorem dX12_known_63 : decode cX12_known 63 = .ok (.ireturn, 1) := by decide +kernel
theorem fcX12_287 : q_LV RX12 287 yX12_isName cX12_isName 1 (some .boolean) 0 12 := ⟨q_tb 1430 (by decide +kernel) rfl, q_tb 1432 (by decide +kernel) rfl, q_tbs (q := (yX12_isName, 35)) 64 (by decide +kernel) rfl, q_tb 13 (by decide +kernel) rfl, q_tb 1433 (by decide +kernel) rfl, ⟨by decide +kernel, by decide +kernel, by decide +kernel⟩, TX12, 35, rfl⟩
theorem fcX12_290 : q_LV RX12 290 yX12_find cX12_find 6 (some .int) 3 12 := ⟨q_tb 1434 (by decide +kernel) rfl, q_tb 1436 (by decide +kernel) rfl, q_tbs (q := (yX12_find, 35)) 65 (by decide +kernel) rfl, q_tb 13 (by decide +kernel) rfl, q_tb 1437 (by decide +kernel) rfl, ⟨by decide +kernel, by decide +kernel, by decide +kernel⟩, TX12, 35, rfl⟩
def fX12_known_L62 (n : Nat) (v3 : Int32) (X : Mm) : Option (Int32 × Mm) :=
some (v3, X)
def fX12_known_L51 (n : Nat) (r0 : Nat) (v3 : Int32) (X : Mm) : Option (Int32 × Mm) :=
if mT X r0 = 12 then
bd (fX12_fine r0 X) fun w13 X52_14 =>
if w13 = 0 then (
fX12_known_L62 n v3 X52_14
) else (
if mT X52_14 r0 = 12 then
bd (fX12_next n r0 X52_14) fun _ X59_17 =>
fX12_known_L62 n v3 X59_17
else none
)
else none
def fX12_known_L33 (n : Nat) (r0 : Nat) (s0 : Int32) (X : Mm) : Option (Int32 × Mm) :=
if mT X r0 = 12 then
bd (fX12_fine r0 X) fun w10 X35_11 =>
if w10 = 0 then (
fX12_known_L51 n r0 s0 X35_11
) else (
if s0 = (-1 : Int32) then (
if mT X35_11 r0 = 12 then
bd (fX12_faulty r0 (2 : Int32) X35_11) fun _ X48_20 =>
fX12_known_L51 n r0 s0 X48_20
else none
) else (
fX12_known_L51 n r0 s0 X35_11
)
)
else none
def fX12_known_L12 (n : Nat) (r0 : Nat) (r1 : Nat) (v2 : Int32) (X : Mm) : Option (Int32 × Mm) :=
if mT X r0 = 12 then
bd (fX12_fine r0 X) fun w7 X13_8 =>
if w7 = 0 then (
fX12_known_L33 n r0 (-1 : Int32) X13_8
) else (
if mT X13_8 r0 = 12 then
bd (fX12_find n r0 r1 v2 ((mJ X13_8 r0 21)) X13_8) fun w23 X26_24 =>
fX12_known_L33 n r0 w23 X26_24
else none
)
else none
def fX12_known (n : Nat) (r0 : Nat) (r1 : Nat) (v2 : Int32) (X : Mm) : Option (Int32 × Mm) :=
if mT X r0 = 12 then
bd (fX12_isName r0 X) fun w1 X1_2 =>
if w1 = 0 then (
if mT X1_2 r0 = 12 then
bd (fX12_faulty r0 (1 : Int32) X1_2) fun _ X9_5 =>
fX12_known_L12 n r0 r1 v2 X9_5
else none
) else (
fX12_known_L12 n r0 r1 v2 X1_2
)
else none
theorem gX12_known_L62 {E : q_E} {X0 : Mm} (C : Cx E cX12_known RX12 4 (some .int) (q_rm 3 68 0 0) X0) (n : Nat) (v3 : Int32) (X : Mm) : Sm E (q_fin E q_eI X0 0 0) 0 0 62 [(3, .int v3)] [] X (fX12_known_L62 n v3 X) := by
  unfold fX12_known_L62
  refine q_iload_n C 0 dX12_known_62 rfl rfl ?_
  exact q_iret C dX12_known_63
theorem gX12_known_L51 {E : q_E} {X0 : Mm} (C : Cx E cX12_known RX12 4 (some .int) (q_rm 3 68 0 0) X0) (n : Nat) (r0 : Nat) (v3 : Int32) (X : Mm) : Sm E (q_fin E q_eI X0 0 0) 0 0 51 [(0, .ref (q_P E + r0)), (3, .int v3)] [] X (fX12_known_L51 n r0 v3 X) := by
  unfold fX12_known_L51
  refine q_aload_n C 0 dX12_known_51 rfl rfl ?_
  refine q_chk (fun h15 => ?_)
  refine q_cVI (As := (fun P => [])) C [] (sX12_fine r0) fcX12_274 rfl (fun _ => rfl) ⟨Nat.le_of_ble_eq_true rfl, Nat.le_of_ble_eq_true rfl⟩ ⟨Nat.le_of_ble_eq_true rfl, Nat.le_of_ble_eq_true rfl⟩ (Nat.le_of_ble_eq_true rfl) dX12_known_52 h15 (fun w13 X52_14 => ?_)
  refine q_if_eq C 62 dX12_known_55 (by decide) (fun _ => ?_) (fun _ => ?_)
  · refine q_sub C [(3, .int v3)] [1] rfl ?_
    exact gX12_known_L62 C n v3 X52_14
  · refine q_aload_n C 0 dX12_known_58 rfl rfl ?_
    refine q_chk (fun h18 => ?_)
    refine q_cVV (As := (fun P => [])) C [] (sX12_next n r0) fcX12_228 rfl (fun _ => rfl) ⟨Nat.le_of_ble_eq_true rfl, Nat.le_of_ble_eq_true rfl⟩ ⟨Nat.le_of_ble_eq_true rfl, Nat.le_of_ble_eq_true rfl⟩ (Nat.le_of_ble_eq_true rfl) dX12_known_59 h18 (fun _ X59_17 => ?_)
    refine q_sub C [(3, .int v3)] [1] rfl ?_
    exact gX12_known_L62 C n v3 X59_17
theorem gX12_known_L33 {E : q_E} {X0 : Mm} (C : Cx E cX12_known RX12 4 (some .int) (q_rm 3 68 0 0) X0) (n : Nat) (r0 : Nat) (s0 : Int32) (X : Mm) : Sm E (q_fin E q_eI X0 0 0) 0 0 33 [(0, .ref (q_P E + r0))] [.int s0] X (fX12_known_L33 n r0 s0 X) := by
  unfold fX12_known_L33
  refine q_istore_n C [(3, .int s0), (0, .ref (q_P E + r0))] dX12_known_33 rfl (Nat.le_of_ble_eq_true rfl) rfl ?_
  refine q_aload_n C 1 dX12_known_34 rfl rfl ?_
  refine q_chk (fun h12 => ?_)
  refine q_cVI (As := (fun P => [])) C [] (sX12_fine r0) fcX12_274 rfl (fun _ => rfl) ⟨Nat.le_of_ble_eq_true rfl, Nat.le_of_ble_eq_true rfl⟩ ⟨Nat.le_of_ble_eq_true rfl, Nat.le_of_ble_eq_true rfl⟩ (Nat.le_of_ble_eq_true rfl) dX12_known_35 h12 (fun w10 X35_11 => ?_)
  refine q_if_eq C 51 dX12_known_38 (by decide) (fun _ => ?_) (fun _ => ?_)
  · refine q_sub C [(0, .ref (q_P E + r0)), (3, .int s0)] [1, 0] rfl ?_
    exact gX12_known_L51 C n r0 s0 X35_11
  · refine q_iload_n C 0 dX12_known_41 rfl rfl ?_
    refine q_iconst C (-1 : Int32) dX12_known_42 rfl ?_
    refine q_icmp_ne C 51 dX12_known_43 (by decide) (fun _ => ?_) (fun _ => ?_)
    · refine q_aload_n C 1 dX12_known_46 rfl rfl ?_
      refine q_iconst C (2 : Int32) dX12_known_47 rfl ?_
      refine q_chk (fun h21 => ?_)
      refine q_cVV (As := (fun P => [.int (2 : Int32)])) C [] (sX12_faulty r0 (2 : Int32)) fcX12_284 rfl (fun _ => rfl) ⟨Nat.le_of_ble_eq_true rfl, Nat.le_of_ble_eq_true rfl⟩ ⟨Nat.le_of_ble_eq_true rfl, Nat.le_of_ble_eq_true rfl⟩ (Nat.le_of_ble_eq_true rfl) dX12_known_48 h21 (fun _ X48_20 => ?_)
      refine q_sub C [(0, .ref (q_P E + r0)), (3, .int s0)] [1, 0] rfl ?_
      exact gX12_known_L51 C n r0 s0 X48_20
    · refine q_sub C [(0, .ref (q_P E + r0)), (3, .int s0)] [1, 0] rfl ?_
      exact gX12_known_L51 C n r0 s0 X35_11
theorem gX12_known_L12 {E : q_E} {X0 : Mm} (C : Cx E cX12_known RX12 4 (some .int) (q_rm 3 68 0 0) X0) (n : Nat) (r0 : Nat) (r1 : Nat) (v2 : Int32) (X : Mm) : Sm E (q_fin E q_eI X0 0 0) 0 0 12 [(0, .ref (q_P E + r0)), (1, .ref (q_P E + r1)), (2, .int v2)] [] X (fX12_known_L12 n r0 r1 v2 X) := by
  unfold fX12_known_L12
  refine q_aload_n C 0 dX12_known_12 rfl rfl ?_
  refine q_chk (fun h9 => ?_)
  refine q_cVI (As := (fun P => [])) C [] (sX12_fine r0) fcX12_274 rfl (fun _ => rfl) ⟨Nat.le_of_ble_eq_true rfl, Nat.le_of_ble_eq_true rfl⟩ ⟨Nat.le_of_ble_eq_true rfl, Nat.le_of_ble_eq_true rfl⟩ (Nat.le_of_ble_eq_true rfl) dX12_known_13 h9 (fun w7 X13_8 => ?_)
  refine q_if_eq C 32 dX12_known_16 (by decide) (fun _ => ?_) (fun _ => ?_)
  · refine q_iconst C (-1 : Int32) dX12_known_32 rfl ?_
    refine q_sub C [(0, .ref (q_P E + r0))] [0] rfl ?_
    exact gX12_known_L33 C n r0 (-1 : Int32) X13_8
  · refine q_aload_n C 0 dX12_known_19 rfl rfl ?_
    refine q_aload_n C 1 dX12_known_20 rfl rfl ?_
    refine q_iload_n C 2 dX12_known_21 rfl rfl ?_
    refine q_aload_n C 0 dX12_known_22 rfl rfl ?_
    refine q_chk (fun h22 => ?_)
    refine p_getJ C fgX12_256 rfl dX12_known_23 h22 ?_
    refine q_cVI (As := (fun P => [.ref (P + r1), .int v2, .long (mJ X13_8 r0 21)])) C [] (sX12_find n r0 r1 v2 ((mJ X13_8 r0 21))) fcX12_290 rfl (fun _ => rfl) ⟨Nat.le_of_ble_eq_true rfl, Nat.le_of_ble_eq_true rfl⟩ ⟨Nat.le_of_ble_eq_true rfl, Nat.le_of_ble_eq_true rfl⟩ (Nat.le_of_ble_eq_true rfl) dX12_known_26 h22 (fun w23 X26_24 => ?_)
    refine q_goto C 33 dX12_known_29 (by decide) ?_
    refine q_sub C [(0, .ref (q_P E + r0))] [0] rfl ?_
    exact gX12_known_L33 C n r0 w23 X26_24
theorem sX12_known (n : Nat) (r0 : Nat) (r1 : Nat) (v2 : Int32) : q_Ct yX12_known cX12_known 4 (some .int) 3 68 0 0 q_eI (fun P => [.ref (P + r0), .ref (P + r1), .int v2]) (fX12_known n r0 r1 v2) := by
  refine q_meth (by decide +kernel) (fun P => Nat.le_of_ble_eq_true rfl) (fun E X C hn => ?_)
  show Sm E (q_fin E q_eI X 0 0) 0 0 0 [(0, .ref (q_P E + r0)), (1, .ref (q_P E + r1)), (2, .int v2)] [] X _
  unfold fX12_known
  refine q_aload_n C 0 dX12_known_0 rfl rfl ?_
  refine q_chk (fun h3 => ?_)
  refine q_cVI (As := (fun P => [])) C [] (sX12_isName r0) fcX12_287 rfl (fun _ => rfl) ⟨Nat.le_of_ble_eq_true rfl, Nat.le_of_ble_eq_true rfl⟩ ⟨Nat.le_of_ble_eq_true rfl, Nat.le_of_ble_eq_true rfl⟩ (Nat.le_of_ble_eq_true rfl) dX12_known_1 h3 (fun w1 X1_2 => ?_)
  refine q_if_ne C 12 dX12_known_4 (by decide) (fun _ => ?_) (fun _ => ?_)
  · refine q_aload_n C 0 dX12_known_7 rfl rfl ?_
    refine q_iconst C (1 : Int32) dX12_known_8 rfl ?_
    refine q_chk (fun h6 => ?_)
    refine q_cVV (As := (fun P => [.int (1 : Int32)])) C [] (sX12_faulty r0 (1 : Int32)) fcX12_284 rfl (fun _ => rfl) ⟨Nat.le_of_ble_eq_true rfl, Nat.le_of_ble_eq_true rfl⟩ ⟨Nat.le_of_ble_eq_true rfl, Nat.le_of_ble_eq_true rfl⟩ (Nat.le_of_ble_eq_true rfl) dX12_known_9 h6 (fun _ X9_5 => ?_)
    exact gX12_known_L12 C n r0 r1 v2 X9_5
  · exact gX12_known_L12 C n r0 r1 v2 X1_2
/-! RecordClaimsModel.n()I -/
abbrev cX12_n : ByteArray := prog_14_method_62_code
def yX12_n : MethodName := ⟨RX12, "n", "()I"⟩
theorem dX12_n_0 : decode cX12_n 0 = .ok (.aload_n 0, 1) := by decide +kernel
theorem dX12_n_1 : decode cX12_n 1 = .ok (.invokevirtual 274, 3) := by decide +kernel
theorem dX12_n_4 : decode cX12_n 4 = .ok (.ifCond .eq 25, 3) := by decide +kernel
theorem dX12_n_7 : decode cX12_n 7 = .ok (.aload_n 0, 1) := by decide +kernel
theorem dX12_n_8 : decode cX12_n 8 = .ok (.getfield 253, 3) := by decide +kernel
theorem dX12_n_11 : decode cX12_n 11 = .ok (.iconst 2, 1) := by decide +kernel
theorem dX12_n_12 : decode cX12_n 12 = .ok (.if_icmp .ne 12, 3) := by decide +kernel
theorem dX12_n_15 : decode cX12_n 15 = .ok (.aload_n 0, 1) := by decide +kernel
theorem dX12_n_16 : decode cX12_n 16 = .ok (.getfield 268, 3) := by decide +kernel
theorem dX12_n_19 : decode cX12_n 19 = .ok (.bipush 9, 2) := by decide +kernel
theorem dX12_n_21 : decode cX12_n 21 = .ok (.if_icmp .le 8, 3) := by decide +kernel
theorem dX12_n_24 : decode cX12_n 24 = .ok (.aload_n 0, 1) := by decide +kernel
theorem dX12_n_25 : decode cX12_n 25 = .ok (.iconst 1, 1) := by decide +kernel
theorem dX12_n_26 : decode cX12_n 26 = .ok (.invokevirtual 284, 3) := by decide +kernel
theorem dX12_n_29 : decode cX12_n 29 = .ok (.aload_n 0, 1) := by decide +kernel
theorem dX12_n_30 : decode cX12_n 30 = .ok (.getfield 260, 3) := by decide +kernel
theorem dX12_n_33 : decode cX12_n 33 = .ok (.istore_n 1, 1) := by decide +kernel
theorem dX12_n_34 : decode cX12_n 34 = .ok (.aload_n 0, 1) := by decide +kernel
theorem dX12_n_35 : decode cX12_n 35 = .ok (.invokevirtual 274, 3) := by decide +kernel
theorem dX12_n_38 : decode cX12_n 38 = .ok (.ifCond .eq 7, 3) := by decide +kernel
theorem dX12_n_41 : decode cX12_n 41 = .ok (.aload_n 0, 1) := by decide +kernel
theorem dX12_n_42 : decode cX12_n 42 = .ok (.invokevirtual 228, 3) := by decide +kernel
theorem dX12_n_45 : decode cX12_n 45 = .ok (.iload_n 1, 1) := by decide +kernel
theorem dX12_n_46 : decode cX12_n 46 = .ok (.ireturn, 1) := by decide +kernel
def fX12_n_L45 (n : Nat) (v1 : Int32) (X : Mm) : Option (Int32 × Mm) :=
some (v1, X)
def fX12_n_L29 (n : Nat) (r0 : Nat) (X : Mm) : Option (Int32 × Mm) :=
if mT X r0 = 12 then
nm ((mI X r0 19)) fun v1_33 =>
bd (fX12_fine r0 X) fun w6 X35_7 =>
if w6 = 0 then (
fX12_n_L45 n v1_33 X35_7
) else (
if mT X35_7 r0 = 12 then
bd (fX12_next n r0 X35_7) fun _ X42_9 =>
fX12_n_L45 n v1_33 X42_9
else none
)
else none
def fX12_n_L24 (n : Nat) (r0 : Nat) (X : Mm) : Option (Int32 × Mm) :=
if mT X r0 = 12 then
bd (fX12_faulty r0 (1 : Int32) X) fun _ X26_13 =>
fX12_n_L29 n r0 X26_13
else none
def fX12_n (n : Nat) (r0 : Nat) (X : Mm) : Option (Int32 × Mm) :=
if mT X r0 = 12 then
bd (fX12_fine r0 X) fun w1 X1_2 =>
if w1 = 0 then (
fX12_n_L29 n r0 X1_2
) else (
if mT X1_2 r0 = 12 then
if (mI X1_2 r0 16) = (2 : Int32) then (
if (mI X1_2 r0 18) ≤ (9 : Int32) then (
fX12_n_L29 n r0 X1_2
) else (
fX12_n_L24 n r0 X1_2
)
) else (
fX12_n_L24 n r0 X1_2
)
else none
)
else none
theorem gX12_n_L45 {E : q_E} {X0 : Mm} (C : Cx E cX12_n RX12 2 (some .int) (q_rm 3 68 0 0) X0) (n : Nat) (v1 : Int32) (X : Mm) : Sm E (q_fin E q_eI X0 0 0) 0 0 45 [(1, .int v1)] [] X (fX12_n_L45 n v1 X) := by
  unfold fX12_n_L45
  refine q_iload_n C 0 dX12_n_45 rfl rfl ?_
  exact q_iret C dX12_n_46
theorem gX12_n_L29 {E : q_E} {X0 : Mm} (C : Cx E cX12_n RX12 2 (some .int) (q_rm 3 68 0 0) X0) (n : Nat) (r0 : Nat) (X : Mm) : Sm E (q_fin E q_eI X0 0 0) 0 0 29 [(0, .ref (q_P E + r0))] [] X (fX12_n_L29 n r0 X) := by
  unfold fX12_n_L29
  refine q_aload_n C 0 dX12_n_29 rfl rfl ?_
  refine q_chk (fun h4 => ?_)
  refine p_getI C fgX12_260 rfl dX12_n_30 h4 ?_
  refine q_nmi (fun v1_33 => ?_)
  refine q_istore_n C [(1, .int v1_33), (0, .ref (q_P E + r0))] dX12_n_33 rfl (Nat.le_of_ble_eq_true rfl) rfl ?_
  refine q_aload_n C 1 dX12_n_34 rfl rfl ?_
  refine q_cVI (As := (fun P => [])) C [] (sX12_fine r0) fcX12_274 rfl (fun _ => rfl) ⟨Nat.le_of_ble_eq_true rfl, Nat.le_of_ble_eq_true rfl⟩ ⟨Nat.le_of_ble_eq_true rfl, Nat.le_of_ble_eq_true rfl⟩ (Nat.le_of_ble_eq_true rfl) dX12_n_35 h4 (fun w6 X35_7 => ?_)
  refine q_if_eq C 45 dX12_n_38 (by decide) (fun _ => ?_) (fun _ => ?_)
  · refine q_sub C [(1, .int v1_33)] [0] rfl ?_
    exact gX12_n_L45 C n v1_33 X35_7
  · refine q_aload_n C 1 dX12_n_41 rfl rfl ?_
    refine q_chk (fun h10 => ?_)
    refine q_cVV (As := (fun P => [])) C [] (sX12_next n r0) fcX12_228 rfl (fun _ => rfl) ⟨Nat.le_of_ble_eq_true rfl, Nat.le_of_ble_eq_true rfl⟩ ⟨Nat.le_of_ble_eq_true rfl, Nat.le_of_ble_eq_true rfl⟩ (Nat.le_of_ble_eq_true rfl) dX12_n_42 h10 (fun _ X42_9 => ?_)
    refine q_sub C [(1, .int v1_33)] [0] rfl ?_
    exact gX12_n_L45 C n v1_33 X42_9
theorem gX12_n_L24 {E : q_E} {X0 : Mm} (C : Cx E cX12_n RX12 2 (some .int) (q_rm 3 68 0 0) X0) (n : Nat) (r0 : Nat) (X : Mm) : Sm E (q_fin E q_eI X0 0 0) 0 0 24 [(0, .ref (q_P E + r0))] [] X (fX12_n_L24 n r0 X) := by
  unfold fX12_n_L24
  refine q_aload_n C 0 dX12_n_24 rfl rfl ?_
  refine q_iconst C (1 : Int32) dX12_n_25 rfl ?_
  refine q_chk (fun h14 => ?_)
  refine q_cVV (As := (fun P => [.int (1 : Int32)])) C [] (sX12_faulty r0 (1 : Int32)) fcX12_284 rfl (fun _ => rfl) ⟨Nat.le_of_ble_eq_true rfl, Nat.le_of_ble_eq_true rfl⟩ ⟨Nat.le_of_ble_eq_true rfl, Nat.le_of_ble_eq_true rfl⟩ (Nat.le_of_ble_eq_true rfl) dX12_n_26 h14 (fun _ X26_13 => ?_)
  exact gX12_n_L29 C n r0 X26_13
theorem sX12_n (n : Nat) (r0 : Nat) : q_Ct yX12_n cX12_n 2 (some .int) 3 68 0 0 q_eI (fun P => [.ref (P + r0)]) (fX12_n n r0) := by
  refine q_meth (by decide +kernel) (fun P => Nat.le_of_ble_eq_true rfl) (fun E X C hn => ?_)
  show Sm E (q_fin E q_eI X 0 0) 0 0 0 [(0, .ref (q_P E + r0))] [] X _
  unfold fX12_n
  refine q_aload_n C 0 dX12_n_0 rfl rfl ?_
  refine q_chk (fun h3 => ?_)
  refine q_cVI (As := (fun P => [])) C [] (sX12_fine r0) fcX12_274 rfl (fun _ => rfl) ⟨Nat.le_of_ble_eq_true rfl, Nat.le_of_ble_eq_true rfl⟩ ⟨Nat.le_of_ble_eq_true rfl, Nat.le_of_ble_eq_true rfl⟩ (Nat.le_of_ble_eq_true rfl) dX12_n_1 h3 (fun w1 X1_2 => ?_)
  refine q_if_eq C 29 dX12_n_4 (by decide) (fun _ => ?_) (fun _ => ?_)
  · exact gX12_n_L29 C n r0 X1_2
  · refine q_aload_n C 0 dX12_n_7 rfl rfl ?_
    refine q_chk (fun h11 => ?_)
    refine p_getI C fgX12_253 rfl dX12_n_8 h11 ?_
    refine q_iconst C (2 : Int32) dX12_n_11 rfl ?_
    refine q_icmp_ne C 24 dX12_n_12 (by decide) (fun _ => ?_) (fun _ => ?_)
    · refine q_aload_n C 0 dX12_n_15 rfl rfl ?_
      refine p_getI C fgX12_268 rfl dX12_n_16 h11 ?_
      refine q_bipush C (9 : Int32) dX12_n_19 rfl ?_
      refine q_icmp_le C 29 dX12_n_21 (by decide) (fun _ => ?_) (fun _ => ?_)
      · exact gX12_n_L29 C n r0 X1_2
      · exact gX12_n_L24 C n r0 X1_2
    · exact gX12_n_L24 C n r0 X1_2
/-! RecordClaimsModel.after(I)I -/
abbrev cX12_after : ByteArray := prog_14_method_63_code
def yX12_after : MethodName := ⟨RX12, "after", "(I)I"⟩
theorem dX12_after_0 : decode cX12_after 0 = .ok (.aload_n 0, 1) := by decide +kernel
theorem dX12_after_1 : decode cX12_after 1 = .ok (.iload_n 1, 1) := by decide +kernel
theorem dX12_after_2 : decode cX12_after 2 = .ok (.invokevirtual 294, 3) := by decide +kernel
theorem dX12_after_5 : decode cX12_after 5 = .ok (.aload_n 0, 1) := by decide +kernel
theorem dX12_after_6 : decode cX12_after 6 = .ok (.invokevirtual 297, 3) := by decide +kernel
theorem dX12_after_9 : decode cX12_after 9 = .ok (.ireturn, 1) := by decide +kernel
theorem fcX12_294 : q_LV RX12 294 yX12_asksWord cX12_asksWord 2 none 1 12 := ⟨q_tb 1475 (by decide +kernel) rfl, q_tb 1477 (by decide +kernel) rfl, q_tbs (q := (yX12_asksWord, 35)) 74 (by decide +kernel) rfl, q_tb 13 (by decide +kernel) rfl, q_tb 1478 (by decide +kernel) rfl, ⟨by decide +kernel, by decide +kernel, by decide +kernel⟩, TX12, 35, rfl⟩
theorem fcX12_297 : q_LV RX12 297 yX12_n cX12_n 2 (some .int) 0 12 := ⟨q_tb 1447 (by decide +kernel) rfl, q_tb 1449 (by decide +kernel) rfl, q_tbs (q := (yX12_n, 35)) 68 (by decide +kernel) rfl, q_tb 13 (by decide +kernel) rfl, q_tb 1450 (by decide +kernel) rfl, ⟨by decide +kernel, by decide +kernel, by decide +kernel⟩, TX12, 35, rfl⟩
def fX12_after (n : Nat) (r0 : Nat) (v1 : Int32) (X : Mm) : Option (Int32 × Mm) :=
if mT X r0 = 12 then
bd (fX12_asksWord n r0 v1 X) fun _ X2_2 =>
if mT X2_2 r0 = 12 then
bd (fX12_n n r0 X2_2) fun w4 X6_5 =>
some (w4, X6_5)
else none
else none
theorem sX12_after (n : Nat) (r0 : Nat) (v1 : Int32) : q_Ct yX12_after cX12_after 2 (some .int) 5 110 0 0 q_eI (fun P => [.ref (P + r0), .int v1]) (fX12_after n r0 v1) := by
  refine q_meth (by decide +kernel) (fun P => Nat.le_of_ble_eq_true rfl) (fun E X C hn => ?_)
  show Sm E (q_fin E q_eI X 0 0) 0 0 0 [(0, .ref (q_P E + r0)), (1, .int v1)] [] X _
  unfold fX12_after
  refine q_aload_n C 0 dX12_after_0 rfl rfl ?_
  refine q_iload_n C 1 dX12_after_1 rfl rfl ?_
  refine q_chk (fun h3 => ?_)
  refine q_cVV (As := (fun P => [.int v1])) C [] (sX12_asksWord n r0 v1) fcX12_294 rfl (fun _ => rfl) ⟨Nat.le_of_ble_eq_true rfl, Nat.le_of_ble_eq_true rfl⟩ ⟨Nat.le_of_ble_eq_true rfl, Nat.le_of_ble_eq_true rfl⟩ (Nat.le_of_ble_eq_true rfl) dX12_after_2 h3 (fun _ X2_2 => ?_)
  refine q_aload_n C 0 dX12_after_5 rfl rfl ?_
  refine q_chk (fun h6 => ?_)
  refine q_cVI (As := (fun P => [])) C [] (sX12_n n r0) fcX12_297 rfl (fun _ => rfl) ⟨Nat.le_of_ble_eq_true rfl, Nat.le_of_ble_eq_true rfl⟩ ⟨Nat.le_of_ble_eq_true rfl, Nat.le_of_ble_eq_true rfl⟩ (Nat.le_of_ble_eq_true rfl) dX12_after_6 h6 (fun w4 X6_5 => ?_)
  exact q_iret C dX12_after_9
/-! RecordClaimsModel.fresh()J -/
abbrev cX12_fresh : ByteArray := prog_14_method_64_code
def yX12_fresh : MethodName := ⟨RX12, "fresh", "()J"⟩
theorem dX12_fresh_0 : decode cX12_fresh 0 = .ok (.aload_n 0, 1) := by decide +kernel
theorem dX12_fresh_1 : decode cX12_fresh 1 = .ok (.invokevirtual 287, 3) := by decide +kernel
theorem dX12_fresh_4 : decode cX12_fresh 4 = .ok (.ifCond .ne 8, 3) := by decide +kernel
theorem dX12_fresh_7 : decode cX12_fresh 7 = .ok (.aload_n 0, 1) := by decide +kernel
theorem dX12_fresh_8 : decode cX12_fresh 8 = .ok (.iconst 1, 1) := by decide +kernel
theorem dX12_fresh_9 : decode cX12_fresh 9 = .ok (.invokevirtual 284, 3) := by decide +kernel
theorem dX12_fresh_12 : decode cX12_fresh 12 = .ok (.aload_n 0, 1) := by decide +kernel
theorem dX12_fresh_13 : decode cX12_fresh 13 = .ok (.invokevirtual 274, 3) := by decide +kernel
theorem dX12_fresh_16 : decode cX12_fresh 16 = .ok (.ifCond .eq 48, 3) := by decide +kernel
theorem dX12_fresh_19 : decode cX12_fresh 19 = .ok (.aload_n 0, 1) := by decide +kernel
theorem dX12_fresh_20 : decode cX12_fresh 20 = .ok (.aload_n 0, 1) := by decide +kernel
theorem dX12_fresh_21 : decode cX12_fresh 21 = .ok (.getfield 41, 3) := by decide +kernel
theorem dX12_fresh_24 : decode cX12_fresh 24 = .ok (.aload_n 0, 1) := by decide +kernel
theorem dX12_fresh_25 : decode cX12_fresh 25 = .ok (.getfield 300, 3) := by decide +kernel
theorem dX12_fresh_28 : decode cX12_fresh 28 = .ok (.aload_n 0, 1) := by decide +kernel
theorem dX12_fresh_29 : decode cX12_fresh 29 = .ok (.getfield 256, 3) := by decide +kernel
theorem dX12_fresh_32 : decode cX12_fresh 32 = .ok (.invokevirtual 290, 3) := by decide +kernel
theorem dX12_fresh_35 : decode cX12_fresh 35 = .ok (.iconst (-1), 1) := by decide +kernel
theorem dX12_fresh_36 : decode cX12_fresh 36 = .ok (.if_icmp .ne 23, 3) := by decide +kernel
theorem dX12_fresh_39 : decode cX12_fresh 39 = .ok (.aload_n 0, 1) := by decide +kernel
theorem dX12_fresh_40 : decode cX12_fresh 40 = .ok (.aload_n 0, 1) := by decide +kernel
theorem dX12_fresh_41 : decode cX12_fresh 41 = .ok (.getfield 44, 3) := by decide +kernel
theorem dX12_fresh_44 : decode cX12_fresh 44 = .ok (.aload_n 0, 1) := by decide +kernel
theorem dX12_fresh_45 : decode cX12_fresh 45 = .ok (.getfield 303, 3) := by decide +kernel
theorem dX12_fresh_48 : decode cX12_fresh 48 = .ok (.aload_n 0, 1) := by decide +kernel
theorem dX12_fresh_49 : decode cX12_fresh 49 = .ok (.getfield 256, 3) := by decide +kernel
theorem dX12_fresh_52 : decode cX12_fresh 52 = .ok (.invokevirtual 290, 3) := by decide +kernel
theorem dX12_fresh_55 : decode cX12_fresh 55 = .ok (.iconst (-1), 1) := by decide +kernel
theorem dX12_fresh_56 : decode cX12_fresh 56 = .ok (.if_icmp .eq 8, 3) := by decide +kernel
theorem dX12_fresh_59 : decode cX12_fresh 59 = .ok (.aload_n 0, 1) := by decide +kernel
theorem dX12_fresh_60 : decode cX12_fresh 60 = .ok (.iconst 2, 1) := by decide +kernel
theorem dX12_fresh_61 : decode cX12_fresh 61 = .ok (.invokevirtual 284, 3) := by decide +kernel
theorem dX12_fresh_64 : decode cX12_fresh 64 = .ok (.aload_n 0, 1) := by decide +kernel
theorem dX12_fresh_65 : decode cX12_fresh 65 = .ok (.getfield 256, 3) := by decide +kernel
theorem dX12_fresh_68 : decode cX12_fresh 68 = .ok (.lstore_n 1, 1) := by decide +kernel
theorem dX12_fresh_69 : decode cX12_fresh 69 = .ok (.aload_n 0, 1) := by decide +kernel
theorem dX12_fresh_70 : decode cX12_fresh 70 = .ok (.invokevirtual 274, 3) := by decide +kernel
theorem dX12_fresh_73 : decode cX12_fresh 73 = .ok (.ifCond .eq 7, 3) := by decide +kernel
theorem dX12_fresh_76 : decode cX12_fresh 76 = .ok (.aload_n 0, 1) := by decide +kernel
theorem dX12_fresh_77 : decode cX12_fresh 77 = .ok (.invokevirtual 228, 3) := by decide +kernel
theorem dX12_fresh_80 : decode cX12_fresh 80 = .ok (.lload_n 1, 1) := by decide +kernel
theorem dX12_fresh_81 : decode cX12_fresh 81 = .ok (.lreturn, 1) := by decide +kernel
theorem fgX12_41 : q_Fg RX12 41 12 24 := q_Fg.of (C := RX12) (T := TX12) (N := 35) rfl (by decide) inX12 1275 (by decide +kernel) rfl rfl
theorem fgX12_300 : q_Fg RX12 300 12 27 := q_Fg.of (C := RX12) (T := TX12) (N := 35) rfl (by decide) inX12 1278 (by decide +kernel) rfl rfl
theorem fgX12_44 : q_Fg RX12 44 12 25 := q_Fg.of (C := RX12) (T := TX12) (N := 35) rfl (by decide) inX12 1276 (by decide +kernel) rfl rfl
theorem fgX12_303 : q_Fg RX12 303 12 28 := q_Fg.of (C := RX12) (T := TX12) (N := 35) rfl (by decide) inX12 1279 (by decide +kernel) rfl rfl
def fX12_fresh_L80 (n : Nat) (v1 : Int64) (X : Mm) : Option (Int64 × Mm) :=
some (v1, X)
def fX12_fresh_L64 (n : Nat) (r0 : Nat) (X : Mm) : Option (Int64 × Mm) :=
if mT X r0 = 12 then
nm ((mJ X r0 21)) fun v1_68 =>
bd (fX12_fine r0 X) fun w12 X70_13 =>
if w12 = 0 then (
fX12_fresh_L80 n v1_68 X70_13
) else (
if mT X70_13 r0 = 12 then
bd (fX12_next n r0 X70_13) fun _ X77_15 =>
fX12_fresh_L80 n v1_68 X77_15
else none
)
else none
def fX12_fresh_L59 (n : Nat) (r0 : Nat) (X : Mm) : Option (Int64 × Mm) :=
if mT X r0 = 12 then
bd (fX12_faulty r0 (2 : Int32) X) fun _ X61_26 =>
fX12_fresh_L64 n r0 X61_26
else none
def fX12_fresh_L12 (n : Nat) (r0 : Nat) (X : Mm) : Option (Int64 × Mm) :=
if mT X r0 = 12 then
bd (fX12_fine r0 X) fun w7 X13_8 =>
if w7 = 0 then (
fX12_fresh_L64 n r0 X13_8
) else (
if mT X13_8 r0 = 12 then
if mR X13_8 r0 24 ≠ 0 then
bd (fX12_find n r0 ((mR X13_8 r0 24)) ((mI X13_8 r0 27)) ((mJ X13_8 r0 21)) X13_8) fun w19 X32_20 =>
if w19 = (-1 : Int32) then (
if mT X32_20 r0 = 12 then
if mR X32_20 r0 25 ≠ 0 then
bd (fX12_find n r0 ((mR X32_20 r0 25)) ((mI X32_20 r0 28)) ((mJ X32_20 r0 21)) X32_20) fun w23 X52_24 =>
if w23 = (-1 : Int32) then (
fX12_fresh_L64 n r0 X52_24
) else (
fX12_fresh_L59 n r0 X52_24
)
else none
else none
) else (
fX12_fresh_L59 n r0 X32_20
)
else none
else none
)
else none
def fX12_fresh (n : Nat) (r0 : Nat) (X : Mm) : Option (Int64 × Mm) :=
if mT X r0 = 12 then
bd (fX12_isName r0 X) fun w1 X1_2 =>
if w1 = 0 then (
if mT X1_2 r0 = 12 then
bd (fX12_faulty r0 (1 : Int32) X1_2) fun _ X9_5 =>
fX12_fresh_L12 n r0 X9_5
else none
) else (
fX12_fresh_L12 n r0 X1_2
)
else none
theorem gX12_fresh_L80 {E : q_E} {X0 : Mm} (C : Cx E cX12_fresh RX12 3 (some .long) (q_rm 3 68 0 0) X0) (n : Nat) (v1 : Int64) (X : Mm) : Sm E (q_fin E q_eL X0 0 0) 0 0 80 [(1, .long v1)] [] X (fX12_fresh_L80 n v1 X) := by
  unfold fX12_fresh_L80
  refine q_lload_n C 0 dX12_fresh_80 rfl rfl ?_
  exact q_lret C dX12_fresh_81
theorem gX12_fresh_L64 {E : q_E} {X0 : Mm} (C : Cx E cX12_fresh RX12 3 (some .long) (q_rm 3 68 0 0) X0) (n : Nat) (r0 : Nat) (X : Mm) : Sm E (q_fin E q_eL X0 0 0) 0 0 64 [(0, .ref (q_P E + r0))] [] X (fX12_fresh_L64 n r0 X) := by
  unfold fX12_fresh_L64
  refine q_aload_n C 0 dX12_fresh_64 rfl rfl ?_
  refine q_chk (fun h10 => ?_)
  refine p_getJ C fgX12_256 rfl dX12_fresh_65 h10 ?_
  refine q_nml (fun v1_68 => ?_)
  refine q_lstore_n C [(1, .long v1_68), (0, .ref (q_P E + r0))] dX12_fresh_68 rfl (Nat.le_of_ble_eq_true rfl) rfl ?_
  refine q_aload_n C 1 dX12_fresh_69 rfl rfl ?_
  refine q_cVI (As := (fun P => [])) C [] (sX12_fine r0) fcX12_274 rfl (fun _ => rfl) ⟨Nat.le_of_ble_eq_true rfl, Nat.le_of_ble_eq_true rfl⟩ ⟨Nat.le_of_ble_eq_true rfl, Nat.le_of_ble_eq_true rfl⟩ (Nat.le_of_ble_eq_true rfl) dX12_fresh_70 h10 (fun w12 X70_13 => ?_)
  refine q_if_eq C 80 dX12_fresh_73 (by decide) (fun _ => ?_) (fun _ => ?_)
  · refine q_sub C [(1, .long v1_68)] [0] rfl ?_
    exact gX12_fresh_L80 C n v1_68 X70_13
  · refine q_aload_n C 1 dX12_fresh_76 rfl rfl ?_
    refine q_chk (fun h16 => ?_)
    refine q_cVV (As := (fun P => [])) C [] (sX12_next n r0) fcX12_228 rfl (fun _ => rfl) ⟨Nat.le_of_ble_eq_true rfl, Nat.le_of_ble_eq_true rfl⟩ ⟨Nat.le_of_ble_eq_true rfl, Nat.le_of_ble_eq_true rfl⟩ (Nat.le_of_ble_eq_true rfl) dX12_fresh_77 h16 (fun _ X77_15 => ?_)
    refine q_sub C [(1, .long v1_68)] [0] rfl ?_
    exact gX12_fresh_L80 C n v1_68 X77_15
theorem gX12_fresh_L59 {E : q_E} {X0 : Mm} (C : Cx E cX12_fresh RX12 3 (some .long) (q_rm 3 68 0 0) X0) (n : Nat) (r0 : Nat) (X : Mm) : Sm E (q_fin E q_eL X0 0 0) 0 0 59 [(0, .ref (q_P E + r0))] [] X (fX12_fresh_L59 n r0 X) := by
  unfold fX12_fresh_L59
  refine q_aload_n C 0 dX12_fresh_59 rfl rfl ?_
  refine q_iconst C (2 : Int32) dX12_fresh_60 rfl ?_
  refine q_chk (fun h27 => ?_)
  refine q_cVV (As := (fun P => [.int (2 : Int32)])) C [] (sX12_faulty r0 (2 : Int32)) fcX12_284 rfl (fun _ => rfl) ⟨Nat.le_of_ble_eq_true rfl, Nat.le_of_ble_eq_true rfl⟩ ⟨Nat.le_of_ble_eq_true rfl, Nat.le_of_ble_eq_true rfl⟩ (Nat.le_of_ble_eq_true rfl) dX12_fresh_61 h27 (fun _ X61_26 => ?_)
  exact gX12_fresh_L64 C n r0 X61_26
theorem gX12_fresh_L12 {E : q_E} {X0 : Mm} (C : Cx E cX12_fresh RX12 3 (some .long) (q_rm 3 68 0 0) X0) (n : Nat) (r0 : Nat) (X : Mm) : Sm E (q_fin E q_eL X0 0 0) 0 0 12 [(0, .ref (q_P E + r0))] [] X (fX12_fresh_L12 n r0 X) := by
  unfold fX12_fresh_L12
  refine q_aload_n C 0 dX12_fresh_12 rfl rfl ?_
  refine q_chk (fun h9 => ?_)
  refine q_cVI (As := (fun P => [])) C [] (sX12_fine r0) fcX12_274 rfl (fun _ => rfl) ⟨Nat.le_of_ble_eq_true rfl, Nat.le_of_ble_eq_true rfl⟩ ⟨Nat.le_of_ble_eq_true rfl, Nat.le_of_ble_eq_true rfl⟩ (Nat.le_of_ble_eq_true rfl) dX12_fresh_13 h9 (fun w7 X13_8 => ?_)
  refine q_if_eq C 64 dX12_fresh_16 (by decide) (fun _ => ?_) (fun _ => ?_)
  · exact gX12_fresh_L64 C n r0 X13_8
  · refine q_aload_n C 0 dX12_fresh_19 rfl rfl ?_
    refine q_aload_n C 0 dX12_fresh_20 rfl rfl ?_
    refine q_chk (fun h17 => ?_)
    refine q_chk (fun h18 => ?_)
    refine p_getR C fgX12_41 rfl dX12_fresh_21 h17 h18 ?_
    refine q_aload_n C 0 dX12_fresh_24 rfl rfl ?_
    refine p_getI C fgX12_300 rfl dX12_fresh_25 h17 ?_
    refine q_aload_n C 0 dX12_fresh_28 rfl rfl ?_
    refine p_getJ C fgX12_256 rfl dX12_fresh_29 h17 ?_
    refine q_cVI (As := (fun P => [.ref (P + (mR X13_8 r0 24)), .int (mI X13_8 r0 27), .long (mJ X13_8 r0 21)])) C [] (sX12_find n r0 ((mR X13_8 r0 24)) ((mI X13_8 r0 27)) ((mJ X13_8 r0 21))) fcX12_290 rfl (fun _ => rfl) ⟨Nat.le_of_ble_eq_true rfl, Nat.le_of_ble_eq_true rfl⟩ ⟨Nat.le_of_ble_eq_true rfl, Nat.le_of_ble_eq_true rfl⟩ (Nat.le_of_ble_eq_true rfl) dX12_fresh_32 h17 (fun w19 X32_20 => ?_)
    refine q_iconst C (-1 : Int32) dX12_fresh_35 rfl ?_
    refine q_icmp_ne C 59 dX12_fresh_36 (by decide) (fun _ => ?_) (fun _ => ?_)
    · refine q_aload_n C 0 dX12_fresh_39 rfl rfl ?_
      refine q_aload_n C 0 dX12_fresh_40 rfl rfl ?_
      refine q_chk (fun h21 => ?_)
      refine q_chk (fun h22 => ?_)
      refine p_getR C fgX12_44 rfl dX12_fresh_41 h21 h22 ?_
      refine q_aload_n C 0 dX12_fresh_44 rfl rfl ?_
      refine p_getI C fgX12_303 rfl dX12_fresh_45 h21 ?_
      refine q_aload_n C 0 dX12_fresh_48 rfl rfl ?_
      refine p_getJ C fgX12_256 rfl dX12_fresh_49 h21 ?_
      refine q_cVI (As := (fun P => [.ref (P + (mR X32_20 r0 25)), .int (mI X32_20 r0 28), .long (mJ X32_20 r0 21)])) C [] (sX12_find n r0 ((mR X32_20 r0 25)) ((mI X32_20 r0 28)) ((mJ X32_20 r0 21))) fcX12_290 rfl (fun _ => rfl) ⟨Nat.le_of_ble_eq_true rfl, Nat.le_of_ble_eq_true rfl⟩ ⟨Nat.le_of_ble_eq_true rfl, Nat.le_of_ble_eq_true rfl⟩ (Nat.le_of_ble_eq_true rfl) dX12_fresh_52 h21 (fun w23 X52_24 => ?_)
      refine q_iconst C (-1 : Int32) dX12_fresh_55 rfl ?_
      refine q_icmp_eq C 64 dX12_fresh_56 (by decide) (fun _ => ?_) (fun _ => ?_)
      · exact gX12_fresh_L64 C n r0 X52_24
      · exact gX12_fresh_L59 C n r0 X52_24
    · exact gX12_fresh_L59 C n r0 X32_20
theorem sX12_fresh (n : Nat) (r0 : Nat) : q_Ct yX12_fresh cX12_fresh 3 (some .long) 3 68 0 0 q_eL (fun P => [.ref (P + r0)]) (fX12_fresh n r0) := by
  refine q_meth (by decide +kernel) (fun P => Nat.le_of_ble_eq_true rfl) (fun E X C hn => ?_)
  show Sm E (q_fin E q_eL X 0 0) 0 0 0 [(0, .ref (q_P E + r0))] [] X _
  unfold fX12_fresh
  refine q_aload_n C 0 dX12_fresh_0 rfl rfl ?_
  refine q_chk (fun h3 => ?_)
  refine q_cVI (As := (fun P => [])) C [] (sX12_isName r0) fcX12_287 rfl (fun _ => rfl) ⟨Nat.le_of_ble_eq_true rfl, Nat.le_of_ble_eq_true rfl⟩ ⟨Nat.le_of_ble_eq_true rfl, Nat.le_of_ble_eq_true rfl⟩ (Nat.le_of_ble_eq_true rfl) dX12_fresh_1 h3 (fun w1 X1_2 => ?_)
  refine q_if_ne C 12 dX12_fresh_4 (by decide) (fun _ => ?_) (fun _ => ?_)
  · refine q_aload_n C 0 dX12_fresh_7 rfl rfl ?_
    refine q_iconst C (1 : Int32) dX12_fresh_8 rfl ?_
    refine q_chk (fun h6 => ?_)
    refine q_cVV (As := (fun P => [.int (1 : Int32)])) C [] (sX12_faulty r0 (1 : Int32)) fcX12_284 rfl (fun _ => rfl) ⟨Nat.le_of_ble_eq_true rfl, Nat.le_of_ble_eq_true rfl⟩ ⟨Nat.le_of_ble_eq_true rfl, Nat.le_of_ble_eq_true rfl⟩ (Nat.le_of_ble_eq_true rfl) dX12_fresh_9 h6 (fun _ X9_5 => ?_)
    exact gX12_fresh_L12 C n r0 X9_5
  · exact gX12_fresh_L12 C n r0 X1_2
/-! RecordClaimsModel.readsHas()V -/
abbrev cX12_readsHas : ByteArray := prog_14_method_65_code
def yX12_readsHas : MethodName := ⟨RX12, "readsHas", "()V"⟩
theorem dX12_readsHas_0 : decode cX12_readsHas 0 = .ok (.aload_n 0, 1) := by decide +kernel
theorem dX12_readsHas_1 : decode cX12_readsHas 1 = .ok (.invokevirtual 228, 3) := by decide +kernel
theorem dX12_readsHas_4 : decode cX12_readsHas 4 = .ok (.aload_n 0, 1) := by decide +kernel
theorem dX12_readsHas_5 : decode cX12_readsHas 5 = .ok (.aload_n 0, 1) := by decide +kernel
theorem dX12_readsHas_6 : decode cX12_readsHas 6 = .ok (.getfield 41, 3) := by decide +kernel
theorem dX12_readsHas_9 : decode cX12_readsHas 9 = .ok (.aload_n 0, 1) := by decide +kernel
theorem dX12_readsHas_10 : decode cX12_readsHas 10 = .ok (.getfield 300, 3) := by decide +kernel
theorem dX12_readsHas_13 : decode cX12_readsHas 13 = .ok (.invokevirtual 306, 3) := by decide +kernel
theorem dX12_readsHas_16 : decode cX12_readsHas 16 = .ok (.istore_n 1, 1) := by decide +kernel
theorem dX12_readsHas_17 : decode cX12_readsHas 17 = .ok (.aload_n 0, 1) := by decide +kernel
theorem dX12_readsHas_18 : decode cX12_readsHas 18 = .ok (.aload_n 0, 1) := by decide +kernel
theorem dX12_readsHas_19 : decode cX12_readsHas 19 = .ok (.getfield 44, 3) := by decide +kernel
theorem dX12_readsHas_22 : decode cX12_readsHas 22 = .ok (.aload_n 0, 1) := by decide +kernel
theorem dX12_readsHas_23 : decode cX12_readsHas 23 = .ok (.getfield 303, 3) := by decide +kernel
theorem dX12_readsHas_26 : decode cX12_readsHas 26 = .ok (.invokevirtual 306, 3) := by decide +kernel
theorem dX12_readsHas_29 : decode cX12_readsHas 29 = .ok (.istore_n 2, 1) := by decide +kernel
theorem dX12_readsHas_30 : decode cX12_readsHas 30 = .ok (.aload_n 0, 1) := by decide +kernel
theorem dX12_readsHas_31 : decode cX12_readsHas 31 = .ok (.invokevirtual 274, 3) := by decide +kernel
theorem dX12_readsHas_34 : decode cX12_readsHas 34 = .ok (.ifCond .eq 35, 3) := by decide +kernel
theorem dX12_readsHas_37 : decode cX12_readsHas 37 = .ok (.aload_n 0, 1) := by decide +kernel
theorem dX12_readsHas_38 : decode cX12_readsHas 38 = .ok (.getfield 253, 3) := by decide +kernel
theorem dX12_readsHas_41 : decode cX12_readsHas 41 = .ok (.iconst 2, 1) := by decide +kernel
theorem dX12_readsHas_42 : decode cX12_readsHas 42 = .ok (.if_icmp .ne 27, 3) := by decide +kernel
theorem dX12_readsHas_45 : decode cX12_readsHas 45 = .ok (.aload_n 0, 1) := by decide +kernel
theorem dX12_readsHas_46 : decode cX12_readsHas 46 = .ok (.getfield 268, 3) := by decide +kernel
theorem dX12_readsHas_49 : decode cX12_readsHas 49 = .ok (.bipush 9, 2) := by decide +kernel
theorem dX12_readsHas_51 : decode cX12_readsHas 51 = .ok (.if_icmp .gt 18, 3) := by decide +kernel
theorem dX12_readsHas_54 : decode cX12_readsHas 54 = .ok (.aload_n 0, 1) := by decide +kernel
theorem dX12_readsHas_55 : decode cX12_readsHas 55 = .ok (.getfield 260, 3) := by decide +kernel
theorem dX12_readsHas_58 : decode cX12_readsHas 58 = .ok (.ldc_w 310, 3) := by decide +kernel
theorem dX12_readsHas_61 : decode cX12_readsHas 61 = .ok (.if_icmp .le 8, 3) := by decide +kernel
theorem dX12_readsHas_64 : decode cX12_readsHas 64 = .ok (.aload_n 0, 1) := by decide +kernel
theorem dX12_readsHas_65 : decode cX12_readsHas 65 = .ok (.iconst 3, 1) := by decide +kernel
theorem dX12_readsHas_66 : decode cX12_readsHas 66 = .ok (.invokevirtual 284, 3) := by decide +kernel
theorem dX12_readsHas_69 : decode cX12_readsHas 69 = .ok (.aload_n 0, 1) := by decide +kernel
theorem dX12_readsHas_70 : decode cX12_readsHas 70 = .ok (.invokevirtual 297, 3) := by decide +kernel
theorem dX12_readsHas_73 : decode cX12_readsHas 73 = .ok (.istore_n 3, 1) := by decide +kernel
theorem dX12_readsHas_74 : decode cX12_readsHas 74 = .ok (.aload_n 0, 1) := by decide +kernel
theorem dX12_readsHas_75 : decode cX12_readsHas 75 = .ok (.invokevirtual 274, 3) := by decide +kernel
theorem dX12_readsHas_78 : decode cX12_readsHas 78 = .ok (.ifCond .eq 14, 3) := by decide +kernel
theorem dX12_readsHas_81 : decode cX12_readsHas 81 = .ok (.aload_n 0, 1) := by decide +kernel
theorem dX12_readsHas_82 : decode cX12_readsHas 82 = .ok (.getfield 47, 3) := by decide +kernel
theorem dX12_readsHas_85 : decode cX12_readsHas 85 = .ok (.iconst 5, 1) := by decide +kernel
theorem dX12_readsHas_86 : decode cX12_readsHas 86 = .ok (.iload_n 1, 1) := by decide +kernel
theorem dX12_readsHas_87 : decode cX12_readsHas 87 = .ok (.imul, 1) := by decide +kernel
theorem dX12_readsHas_88 : decode cX12_readsHas 88 = .ok (.iload_n 2, 1) := by decide +kernel
theorem dX12_readsHas_89 : decode cX12_readsHas 89 = .ok (.iadd, 1) := by decide +kernel
theorem dX12_readsHas_90 : decode cX12_readsHas 90 = .ok (.iload_n 3, 1) := by decide +kernel
theorem dX12_readsHas_91 : decode cX12_readsHas 91 = .ok (.iastore, 1) := by decide +kernel
theorem dX12_readsHas_92 : decode cX12_readsHas 92 = .ok (.return_, 1) := by decide +kernel
theorem fcX12_306 : q_LV RX12 306 yX12_known cX12_known 4 (some .int) 2 12 := ⟨q_tb 1442 (by decide +kernel) rfl, q_tb 1444 (by decide +kernel) rfl, q_tbs (q := (yX12_known, 35)) 67 (by decide +kernel) rfl, q_tb 13 (by decide +kernel) rfl, q_tb 1445 (by decide +kernel) rfl, ⟨by decide +kernel, by decide +kernel, by decide +kernel⟩, TX12, 35, rfl⟩
theorem fgX12_47 : q_Fg RX12 47 12 26 := q_Fg.of (C := RX12) (T := TX12) (N := 35) rfl (by decide) inX12 1277 (by decide +kernel) rfl rfl
theorem fkX12_310 : Cond.constant RX12 310 (100000 : Int32) ∈ q_tbl := q_tb 1446 (by decide +kernel) rfl
def fX12_readsHas_L69 (n : Nat) (r0 : Nat) (v1 : Int32) (v2 : Int32) (X : Mm) : Option (Unit × Mm) :=
if mT X r0 = 12 then
bd (fX12_n n r0 X) fun w15 X70_16 =>
if mT X70_16 r0 = 12 then
bd (fX12_fine r0 X70_16) fun w18 X75_19 =>
if w18 = 0 then (
some ((), X75_19)
) else (
if mT X75_19 r0 = 12 then
if mR X75_19 r0 26 ≠ 0 then
if mT X75_19 (mR X75_19 r0 26) = 14 then
if q_b X75_19 (mR X75_19 r0 26) (((5 : Int32) * v1) + v2) then
nm (sI X75_19 (mR X75_19 r0 26) ((((5 : Int32) * v1) + v2)).toNatClampNeg w15) fun X91_23 =>
some ((), X91_23)
else none
else none
else none
else none
)
else none
else none
def fX12_readsHas (n : Nat) (r0 : Nat) (X : Mm) : Option (Unit × Mm) :=
if mT X r0 = 12 then
bd (fX12_next n r0 X) fun _ X1_2 =>
if mT X1_2 r0 = 12 then
if mR X1_2 r0 24 ≠ 0 then
bd (fX12_known n r0 ((mR X1_2 r0 24)) ((mI X1_2 r0 27)) X1_2) fun w6 X13_7 =>
if mT X13_7 r0 = 12 then
if mR X13_7 r0 25 ≠ 0 then
bd (fX12_known n r0 ((mR X13_7 r0 25)) ((mI X13_7 r0 28)) X13_7) fun w10 X26_11 =>
if mT X26_11 r0 = 12 then
bd (fX12_fine r0 X26_11) fun w12 X31_13 =>
if w12 = 0 then (
fX12_readsHas_L69 n r0 w6 w10 X31_13
) else (
if mT X31_13 r0 = 12 then
if (mI X31_13 r0 16) = (2 : Int32) then (
if (9 : Int32) < (mI X31_13 r0 18) then (
fX12_readsHas_L69 n r0 w6 w10 X31_13
) else (
if (mI X31_13 r0 19) ≤ (100000 : Int32) then (
fX12_readsHas_L69 n r0 w6 w10 X31_13
) else (
bd (fX12_faulty r0 (3 : Int32) X31_13) fun _ X66_28 =>
fX12_readsHas_L69 n r0 w6 w10 X66_28
)
)
) else (
fX12_readsHas_L69 n r0 w6 w10 X31_13
)
else none
)
else none
else none
else none
else none
else none
else none
theorem gX12_readsHas_L69 {E : q_E} {X0 : Mm} (C : Cx E cX12_readsHas RX12 4 none (q_rm 4 91 0 0) X0) (n : Nat) (r0 : Nat) (v1 : Int32) (v2 : Int32) (X : Mm) : Sm E (q_fin E q_eV X0 0 0) 0 0 69 [(0, .ref (q_P E + r0)), (1, .int v1), (2, .int v2)] [] X (fX12_readsHas_L69 n r0 v1 v2 X) := by
  unfold fX12_readsHas_L69
  refine q_aload_n C 0 dX12_readsHas_69 rfl rfl ?_
  refine q_chk (fun h17 => ?_)
  refine q_cVI (As := (fun P => [])) C [] (sX12_n n r0) fcX12_297 rfl (fun _ => rfl) ⟨Nat.le_of_ble_eq_true rfl, Nat.le_of_ble_eq_true rfl⟩ ⟨Nat.le_of_ble_eq_true rfl, Nat.le_of_ble_eq_true rfl⟩ (Nat.le_of_ble_eq_true rfl) dX12_readsHas_70 h17 (fun w15 X70_16 => ?_)
  refine q_istore_n C [(3, .int w15), (0, .ref (q_P E + r0)), (1, .int v1), (2, .int v2)] dX12_readsHas_73 rfl (Nat.le_of_ble_eq_true rfl) rfl ?_
  refine q_aload_n C 1 dX12_readsHas_74 rfl rfl ?_
  refine q_chk (fun h20 => ?_)
  refine q_cVI (As := (fun P => [])) C [] (sX12_fine r0) fcX12_274 rfl (fun _ => rfl) ⟨Nat.le_of_ble_eq_true rfl, Nat.le_of_ble_eq_true rfl⟩ ⟨Nat.le_of_ble_eq_true rfl, Nat.le_of_ble_eq_true rfl⟩ (Nat.le_of_ble_eq_true rfl) dX12_readsHas_75 h20 (fun w18 X75_19 => ?_)
  refine q_if_eq C 92 dX12_readsHas_78 (by decide) (fun _ => ?_) (fun _ => ?_)
  · exact q_vret C dX12_readsHas_92
  · refine q_aload_n C 1 dX12_readsHas_81 rfl rfl ?_
    refine q_chk (fun h21 => ?_)
    refine q_chk (fun h22 => ?_)
    refine p_getR C fgX12_47 rfl dX12_readsHas_82 h21 h22 ?_
    refine q_iconst C (5 : Int32) dX12_readsHas_85 rfl ?_
    refine q_iload_n C 2 dX12_readsHas_86 rfl rfl ?_
    refine q_imul C dX12_readsHas_87 ?_
    refine q_iload_n C 3 dX12_readsHas_88 rfl rfl ?_
    refine q_iadd C dX12_readsHas_89 ?_
    refine q_iload_n C 0 dX12_readsHas_90 rfl rfl ?_
    refine q_chk (fun h24 => ?_)
    refine q_chk (fun h25 => ?_)
    refine p_iast C dX12_readsHas_91 h24 h25 ?_
    refine q_nmX (fun X91_23 => ?_)
    exact q_vret C dX12_readsHas_92
theorem sX12_readsHas (n : Nat) (r0 : Nat) : q_Ct yX12_readsHas cX12_readsHas 4 none 4 91 0 0 q_eV (fun P => [.ref (P + r0)]) (fX12_readsHas n r0) := by
  refine q_meth (by decide +kernel) (fun P => Nat.le_of_ble_eq_true rfl) (fun E X C hn => ?_)
  show Sm E (q_fin E q_eV X 0 0) 0 0 0 [(0, .ref (q_P E + r0))] [] X _
  unfold fX12_readsHas
  refine q_aload_n C 0 dX12_readsHas_0 rfl rfl ?_
  refine q_chk (fun h3 => ?_)
  refine q_cVV (As := (fun P => [])) C [] (sX12_next n r0) fcX12_228 rfl (fun _ => rfl) ⟨Nat.le_of_ble_eq_true rfl, Nat.le_of_ble_eq_true rfl⟩ ⟨Nat.le_of_ble_eq_true rfl, Nat.le_of_ble_eq_true rfl⟩ (Nat.le_of_ble_eq_true rfl) dX12_readsHas_1 h3 (fun _ X1_2 => ?_)
  refine q_aload_n C 0 dX12_readsHas_4 rfl rfl ?_
  refine q_aload_n C 0 dX12_readsHas_5 rfl rfl ?_
  refine q_chk (fun h4 => ?_)
  refine q_chk (fun h5 => ?_)
  refine p_getR C fgX12_41 rfl dX12_readsHas_6 h4 h5 ?_
  refine q_aload_n C 0 dX12_readsHas_9 rfl rfl ?_
  refine p_getI C fgX12_300 rfl dX12_readsHas_10 h4 ?_
  refine q_cVI (As := (fun P => [.ref (P + (mR X1_2 r0 24)), .int (mI X1_2 r0 27)])) C [] (sX12_known n r0 ((mR X1_2 r0 24)) ((mI X1_2 r0 27))) fcX12_306 rfl (fun _ => rfl) ⟨Nat.le_of_ble_eq_true rfl, Nat.le_of_ble_eq_true rfl⟩ ⟨Nat.le_of_ble_eq_true rfl, Nat.le_of_ble_eq_true rfl⟩ (Nat.le_of_ble_eq_true rfl) dX12_readsHas_13 h4 (fun w6 X13_7 => ?_)
  refine q_istore_n C [(1, .int w6), (0, .ref (q_P E + r0))] dX12_readsHas_16 rfl (Nat.le_of_ble_eq_true rfl) rfl ?_
  refine q_aload_n C 1 dX12_readsHas_17 rfl rfl ?_
  refine q_aload_n C 1 dX12_readsHas_18 rfl rfl ?_
  refine q_chk (fun h8 => ?_)
  refine q_chk (fun h9 => ?_)
  refine p_getR C fgX12_44 rfl dX12_readsHas_19 h8 h9 ?_
  refine q_aload_n C 1 dX12_readsHas_22 rfl rfl ?_
  refine p_getI C fgX12_303 rfl dX12_readsHas_23 h8 ?_
  refine q_cVI (As := (fun P => [.ref (P + (mR X13_7 r0 25)), .int (mI X13_7 r0 28)])) C [] (sX12_known n r0 ((mR X13_7 r0 25)) ((mI X13_7 r0 28))) fcX12_306 rfl (fun _ => rfl) ⟨Nat.le_of_ble_eq_true rfl, Nat.le_of_ble_eq_true rfl⟩ ⟨Nat.le_of_ble_eq_true rfl, Nat.le_of_ble_eq_true rfl⟩ (Nat.le_of_ble_eq_true rfl) dX12_readsHas_26 h8 (fun w10 X26_11 => ?_)
  refine q_istore_n C [(2, .int w10), (1, .int w6), (0, .ref (q_P E + r0))] dX12_readsHas_29 rfl (Nat.le_of_ble_eq_true rfl) rfl ?_
  refine q_aload_n C 2 dX12_readsHas_30 rfl rfl ?_
  refine q_chk (fun h14 => ?_)
  refine q_cVI (As := (fun P => [])) C [] (sX12_fine r0) fcX12_274 rfl (fun _ => rfl) ⟨Nat.le_of_ble_eq_true rfl, Nat.le_of_ble_eq_true rfl⟩ ⟨Nat.le_of_ble_eq_true rfl, Nat.le_of_ble_eq_true rfl⟩ (Nat.le_of_ble_eq_true rfl) dX12_readsHas_31 h14 (fun w12 X31_13 => ?_)
  refine q_if_eq C 69 dX12_readsHas_34 (by decide) (fun _ => ?_) (fun _ => ?_)
  · refine q_sub C [(0, .ref (q_P E + r0)), (1, .int w6), (2, .int w10)] [2, 1, 0] rfl ?_
    exact gX12_readsHas_L69 C n r0 w6 w10 X31_13
  · refine q_aload_n C 2 dX12_readsHas_37 rfl rfl ?_
    refine q_chk (fun h26 => ?_)
    refine p_getI C fgX12_253 rfl dX12_readsHas_38 h26 ?_
    refine q_iconst C (2 : Int32) dX12_readsHas_41 rfl ?_
    refine q_icmp_ne C 69 dX12_readsHas_42 (by decide) (fun _ => ?_) (fun _ => ?_)
    · refine q_aload_n C 2 dX12_readsHas_45 rfl rfl ?_
      refine p_getI C fgX12_268 rfl dX12_readsHas_46 h26 ?_
      refine q_bipush C (9 : Int32) dX12_readsHas_49 rfl ?_
      refine q_icmp_gt C 69 dX12_readsHas_51 (by decide) (fun _ => ?_) (fun _ => ?_)
      · refine q_sub C [(0, .ref (q_P E + r0)), (1, .int w6), (2, .int w10)] [2, 1, 0] rfl ?_
        exact gX12_readsHas_L69 C n r0 w6 w10 X31_13
      · refine q_aload_n C 2 dX12_readsHas_54 rfl rfl ?_
        refine p_getI C fgX12_260 rfl dX12_readsHas_55 h26 ?_
        refine q_ldcw C dX12_readsHas_58 fkX12_310 ?_
        refine q_icmp_le C 69 dX12_readsHas_61 (by decide) (fun _ => ?_) (fun _ => ?_)
        · refine q_sub C [(0, .ref (q_P E + r0)), (1, .int w6), (2, .int w10)] [2, 1, 0] rfl ?_
          exact gX12_readsHas_L69 C n r0 w6 w10 X31_13
        · refine q_aload_n C 2 dX12_readsHas_64 rfl rfl ?_
          refine q_iconst C (3 : Int32) dX12_readsHas_65 rfl ?_
          refine q_cVV (As := (fun P => [.int (3 : Int32)])) C [] (sX12_faulty r0 (3 : Int32)) fcX12_284 rfl (fun _ => rfl) ⟨Nat.le_of_ble_eq_true rfl, Nat.le_of_ble_eq_true rfl⟩ ⟨Nat.le_of_ble_eq_true rfl, Nat.le_of_ble_eq_true rfl⟩ (Nat.le_of_ble_eq_true rfl) dX12_readsHas_66 h26 (fun _ X66_28 => ?_)
          refine q_sub C [(0, .ref (q_P E + r0)), (1, .int w6), (2, .int w10)] [2, 1, 0] rfl ?_
          exact gX12_readsHas_L69 C n r0 w6 w10 X66_28
    · refine q_sub C [(0, .ref (q_P E + r0)), (1, .int w6), (2, .int w10)] [2, 1, 0] rfl ?_
      exact gX12_readsHas_L69 C n r0 w6 w10 X31_13
/-! RecordClaimsModel.readsLine()V -/
abbrev cX12_readsLine : ByteArray := prog_14_method_66_code
def yX12_readsLine : MethodName := ⟨RX12, "readsLine", "()V"⟩
theorem dX12_readsLine_0 : decode cX12_readsLine 0 = .ok (.aload_n 0, 1) := by decide +kernel
theorem dX12_readsLine_1 : decode cX12_readsLine 1 = .ok (.iconst 0, 1) := by decide +kernel
theorem dX12_readsLine_2 : decode cX12_readsLine 2 = .ok (.invokevirtual 278, 3) := by decide +kernel
theorem dX12_readsLine_5 : decode cX12_readsLine 5 = .ok (.ifCond .eq 62, 3) := by decide +kernel
theorem dX12_readsLine_8 : decode cX12_readsLine 8 = .ok (.aload_n 0, 1) := by decide +kernel
theorem dX12_readsLine_9 : decode cX12_readsLine 9 = .ok (.getfield 300, 3) := by decide +kernel
theorem dX12_readsLine_12 : decode cX12_readsLine 12 = .ok (.bipush 10, 2) := by decide +kernel
theorem dX12_readsLine_14 : decode cX12_readsLine 14 = .ok (.if_icmp .ne 8, 3) := by decide +kernel
theorem dX12_readsLine_17 : decode cX12_readsLine 17 = .ok (.aload_n 0, 1) := by decide +kernel
theorem dX12_readsLine_18 : decode cX12_readsLine 18 = .ok (.iconst 4, 1) := by decide +kernel
theorem dX12_readsLine_19 : decode cX12_readsLine 19 = .ok (.invokevirtual 284, 3) := by decide +kernel
theorem dX12_readsLine_22 : decode cX12_readsLine 22 = .ok (.aload_n 0, 1) := by decide +kernel
theorem dX12_readsLine_23 : decode cX12_readsLine 23 = .ok (.iconst 0, 1) := by decide +kernel
theorem dX12_readsLine_24 : decode cX12_readsLine 24 = .ok (.invokevirtual 281, 3) := by decide +kernel
theorem dX12_readsLine_27 : decode cX12_readsLine 27 = .ok (.ifCond .ne 4, 3) := by decide +kernel
theorem dX12_readsLine_30 : decode cX12_readsLine 30 = .ok (.return_, 1) := by decide +kernel
theorem dX12_readsLine_31 : decode cX12_readsLine 31 = .ok (.aload_n 0, 1) := by decide +kernel
theorem dX12_readsLine_32 : decode cX12_readsLine 32 = .ok (.invokevirtual 311, 3) := by decide +kernel
theorem dX12_readsLine_35 : decode cX12_readsLine 35 = .ok (.lstore_n 1, 1) := by decide +kernel
theorem dX12_readsLine_36 : decode cX12_readsLine 36 = .ok (.aload_n 0, 1) := by decide +kernel
theorem dX12_readsLine_37 : decode cX12_readsLine 37 = .ok (.invokevirtual 274, 3) := by decide +kernel
theorem dX12_readsLine_40 : decode cX12_readsLine 40 = .ok (.ifCond .ne 4, 3) := by decide +kernel
theorem dX12_readsLine_43 : decode cX12_readsLine 43 = .ok (.return_, 1) := by decide +kernel
theorem dX12_readsLine_44 : decode cX12_readsLine 44 = .ok (.aload_n 0, 1) := by decide +kernel
theorem dX12_readsLine_45 : decode cX12_readsLine 45 = .ok (.getfield 41, 3) := by decide +kernel
theorem dX12_readsLine_48 : decode cX12_readsLine 48 = .ok (.aload_n 0, 1) := by decide +kernel
theorem dX12_readsLine_49 : decode cX12_readsLine 49 = .ok (.getfield 300, 3) := by decide +kernel
theorem dX12_readsLine_52 : decode cX12_readsLine 52 = .ok (.lload_n 1, 1) := by decide +kernel
theorem dX12_readsLine_53 : decode cX12_readsLine 53 = .ok (.lastore, 1) := by decide +kernel
theorem dX12_readsLine_54 : decode cX12_readsLine 54 = .ok (.aload_n 0, 1) := by decide +kernel
theorem dX12_readsLine_55 : decode cX12_readsLine 55 = .ok (.aload_n 0, 1) := by decide +kernel
theorem dX12_readsLine_56 : decode cX12_readsLine 56 = .ok (.getfield 300, 3) := by decide +kernel
theorem dX12_readsLine_59 : decode cX12_readsLine 59 = .ok (.iconst 1, 1) := by decide +kernel
theorem dX12_readsLine_60 : decode cX12_readsLine 60 = .ok (.iadd, 1) := by decide +kernel
theorem dX12_readsLine_61 : decode cX12_readsLine 61 = .ok (.putfield 300, 3) := by decide +kernel
theorem dX12_readsLine_64 : decode cX12_readsLine 64 = .ok (.goto 89, 3) := by decide +kernel
theorem dX12_readsLine_67 : decode cX12_readsLine 67 = .ok (.aload_n 0, 1) := by decide +kernel
theorem dX12_readsLine_68 : decode cX12_readsLine 68 = .ok (.iconst 1, 1) := by decide +kernel
theorem dX12_readsLine_69 : decode cX12_readsLine 69 = .ok (.invokevirtual 278, 3) := by decide +kernel
theorem dX12_readsLine_72 : decode cX12_readsLine 72 = .ok (.ifCond .eq 61, 3) := by decide +kernel
theorem dX12_readsLine_75 : decode cX12_readsLine 75 = .ok (.aload_n 0, 1) := by decide +kernel
theorem dX12_readsLine_76 : decode cX12_readsLine 76 = .ok (.getfield 303, 3) := by decide +kernel
theorem dX12_readsLine_79 : decode cX12_readsLine 79 = .ok (.iconst 5, 1) := by decide +kernel
theorem dX12_readsLine_80 : decode cX12_readsLine 80 = .ok (.if_icmp .ne 8, 3) := by decide +kernel
theorem dX12_readsLine_83 : decode cX12_readsLine 83 = .ok (.aload_n 0, 1) := by decide +kernel
theorem dX12_readsLine_84 : decode cX12_readsLine 84 = .ok (.iconst 4, 1) := by decide +kernel
theorem dX12_readsLine_85 : decode cX12_readsLine 85 = .ok (.invokevirtual 284, 3) := by decide +kernel
theorem dX12_readsLine_88 : decode cX12_readsLine 88 = .ok (.aload_n 0, 1) := by decide +kernel
theorem dX12_readsLine_89 : decode cX12_readsLine 89 = .ok (.iconst 1, 1) := by decide +kernel
theorem dX12_readsLine_90 : decode cX12_readsLine 90 = .ok (.invokevirtual 281, 3) := by decide +kernel
theorem dX12_readsLine_93 : decode cX12_readsLine 93 = .ok (.ifCond .ne 4, 3) := by decide +kernel
theorem dX12_readsLine_96 : decode cX12_readsLine 96 = .ok (.return_, 1) := by decide +kernel
theorem dX12_readsLine_97 : decode cX12_readsLine 97 = .ok (.aload_n 0, 1) := by decide +kernel
theorem dX12_readsLine_98 : decode cX12_readsLine 98 = .ok (.invokevirtual 311, 3) := by decide +kernel
theorem dX12_readsLine_101 : decode cX12_readsLine 101 = .ok (.lstore_n 1, 1) := by decide +kernel
theorem dX12_readsLine_102 : decode cX12_readsLine 102 = .ok (.aload_n 0, 1) := by decide +kernel
theorem dX12_readsLine_103 : decode cX12_readsLine 103 = .ok (.invokevirtual 274, 3) := by decide +kernel
theorem dX12_readsLine_106 : decode cX12_readsLine 106 = .ok (.ifCond .ne 4, 3) := by decide +kernel
theorem dX12_readsLine_109 : decode cX12_readsLine 109 = .ok (.return_, 1) := by decide +kernel
theorem dX12_readsLine_110 : decode cX12_readsLine 110 = .ok (.aload_n 0, 1) := by decide +kernel
theorem dX12_readsLine_111 : decode cX12_readsLine 111 = .ok (.getfield 44, 3) := by decide +kernel
theorem dX12_readsLine_114 : decode cX12_readsLine 114 = .ok (.aload_n 0, 1) := by decide +kernel
theorem dX12_readsLine_115 : decode cX12_readsLine 115 = .ok (.getfield 303, 3) := by decide +kernel
theorem dX12_readsLine_118 : decode cX12_readsLine 118 = .ok (.lload_n 1, 1) := by decide +kernel
theorem dX12_readsLine_119 : decode cX12_readsLine 119 = .ok (.lastore, 1) := by decide +kernel
theorem dX12_readsLine_120 : decode cX12_readsLine 120 = .ok (.aload_n 0, 1) := by decide +kernel
theorem dX12_readsLine_121 : decode cX12_readsLine 121 = .ok (.aload_n 0, 1) := by decide +kernel
theorem dX12_readsLine_122 : decode cX12_readsLine 122 = .ok (.getfield 303, 3) := by decide +kernel
theorem dX12_readsLine_125 : decode cX12_readsLine 125 = .ok (.iconst 1, 1) := by decide +kernel
theorem dX12_readsLine_126 : decode cX12_readsLine 126 = .ok (.iadd, 1) := by decide +kernel
theorem dX12_readsLine_127 : decode cX12_readsLine 127 = .ok (.putfield 303, 3) := by decide +kernel
theorem dX12_readsLine_130 : decode cX12_readsLine 130 = .ok (.goto 23, 3) := by decide +kernel
theorem dX12_readsLine_133 : decode cX12_readsLine 133 = .ok (.aload_n 0, 1) := by decide +kernel
theorem dX12_readsLine_134 : decode cX12_readsLine 134 = .ok (.iconst 2, 1) := by decide +kernel
theorem dX12_readsLine_135 : decode cX12_readsLine 135 = .ok (.invokevirtual 278, 3) := by decide +kernel
theorem dX12_readsLine_138 : decode cX12_readsLine 138 = .ok (.ifCond .eq 10, 3) := by decide +kernel
theorem dX12_readsLine_141 : decode cX12_readsLine 141 = .ok (.aload_n 0, 1) := by decide +kernel
theorem dX12_readsLine_142 : decode cX12_readsLine 142 = .ok (.invokevirtual 315, 3) := by decide +kernel
theorem dX12_readsLine_145 : decode cX12_readsLine 145 = .ok (.goto 8, 3) := by decide +kernel
theorem dX12_readsLine_148 : decode cX12_readsLine 148 = .ok (.aload_n 0, 1) := by decide +kernel
theorem dX12_readsLine_149 : decode cX12_readsLine 149 = .ok (.iconst 1, 1) := by decide +kernel
theorem dX12_readsLine_150 : decode cX12_readsLine 150 = .ok (.invokevirtual 284, 3) := by decide +kernel
theorem dX12_readsLine_153 : decode cX12_readsLine 153 = .ok (.return_, 1) := by decide +kernel
theorem fcX12_315 : q_LV RX12 315 yX12_readsHas cX12_readsHas 4 none 0 12 := ⟨q_tb 1438 (by decide +kernel) rfl, q_tb 1440 (by decide +kernel) rfl, q_tbs (q := (yX12_readsHas, 35)) 66 (by decide +kernel) rfl, q_tb 13 (by decide +kernel) rfl, q_tb 1441 (by decide +kernel) rfl, ⟨by decide +kernel, by decide +kernel, by decide +kernel⟩, TX12, 35, rfl⟩
theorem fcX12_311 : q_LV RX12 311 yX12_fresh cX12_fresh 3 (some .long) 0 12 := ⟨q_tb 1426 (by decide +kernel) rfl, q_tb 1428 (by decide +kernel) rfl, q_tbs (q := (yX12_fresh, 35)) 63 (by decide +kernel) rfl, q_tb 13 (by decide +kernel) rfl, q_tb 1429 (by decide +kernel) rfl, ⟨by decide +kernel, by decide +kernel, by decide +kernel⟩, TX12, 35, rfl⟩
theorem fpX12_303 : q_Fp RX12 303 12 28 .int false := ⟨RX12, TX12, 35, tyX12, rfl, by decide, inX12, q_tb 1279 (by decide +kernel) rfl, tyX12_ok, nmX12, rfl, rfl, fun h => by first | rfl | cases h⟩
theorem fpX12_300 : q_Fp RX12 300 12 27 .int false := ⟨RX12, TX12, 35, tyX12, rfl, by decide, inX12, q_tb 1278 (by decide +kernel) rfl, tyX12_ok, nmX12, rfl, rfl, fun h => by first | rfl | cases h⟩
def fX12_readsLine_L88 (n : Nat) (r0 : Nat) (X : Mm) : Option (Unit × Mm) :=
if mT X r0 = 12 then
bd (fX12_passesWord n r0 (1 : Int32) X) fun w19 X90_20 =>
if w19 = 0 then (
some ((), X90_20)
) else (
if mT X90_20 r0 = 12 then
bd (fX12_fresh n r0 X90_20) fun w22 X98_23 =>
if mT X98_23 r0 = 12 then
bd (fX12_fine r0 X98_23) fun w25 X103_26 =>
if w25 = 0 then (
some ((), X103_26)
) else (
if mT X103_26 r0 = 12 then
if mR X103_26 r0 25 ≠ 0 then
if mT X103_26 (mR X103_26 r0 25) = 15 then
if q_b X103_26 (mR X103_26 r0 25) (mI X103_26 r0 28) then
nm (sJ X103_26 (mR X103_26 r0 25) ((mI X103_26 r0 28)).toNatClampNeg w22) fun X119_30 =>
if mT X119_30 r0 = 12 then
nm (sI X119_30 r0 28 ((mI X119_30 r0 28) + (1 : Int32))) fun X127_34 =>
some ((), X127_34)
else none
else none
else none
else none
else none
)
else none
else none
)
else none
def fX12_readsLine_L22 (n : Nat) (r0 : Nat) (X : Mm) : Option (Unit × Mm) :=
if mT X r0 = 12 then
bd (fX12_passesWord n r0 (0 : Int32) X) fun w38 X24_39 =>
if w38 = 0 then (
some ((), X24_39)
) else (
if mT X24_39 r0 = 12 then
bd (fX12_fresh n r0 X24_39) fun w41 X32_42 =>
if mT X32_42 r0 = 12 then
bd (fX12_fine r0 X32_42) fun w44 X37_45 =>
if w44 = 0 then (
some ((), X37_45)
) else (
if mT X37_45 r0 = 12 then
if mR X37_45 r0 24 ≠ 0 then
if mT X37_45 (mR X37_45 r0 24) = 15 then
if q_b X37_45 (mR X37_45 r0 24) (mI X37_45 r0 27) then
nm (sJ X37_45 (mR X37_45 r0 24) ((mI X37_45 r0 27)).toNatClampNeg w41) fun X53_49 =>
if mT X53_49 r0 = 12 then
nm (sI X53_49 r0 27 ((mI X53_49 r0 27) + (1 : Int32))) fun X61_53 =>
some ((), X61_53)
else none
else none
else none
else none
else none
)
else none
else none
)
else none
def fX12_readsLine (n : Nat) (r0 : Nat) (X : Mm) : Option (Unit × Mm) :=
if mT X r0 = 12 then
bd (fX12_isWord r0 (0 : Int32) X) fun w1 X2_2 =>
if w1 = 0 then (
if mT X2_2 r0 = 12 then
bd (fX12_isWord r0 (1 : Int32) X2_2) fun w4 X69_5 =>
if w4 = 0 then (
if mT X69_5 r0 = 12 then
bd (fX12_isWord r0 (2 : Int32) X69_5) fun w7 X135_8 =>
if w7 = 0 then (
if mT X135_8 r0 = 12 then
bd (fX12_faulty r0 (1 : Int32) X135_8) fun _ X150_11 =>
some ((), X150_11)
else none
) else (
if mT X135_8 r0 = 12 then
bd (fX12_readsHas n r0 X135_8) fun _ X142_14 =>
some ((), X142_14)
else none
)
else none
) else (
if mT X69_5 r0 = 12 then
if (mI X69_5 r0 28) = (5 : Int32) then (
bd (fX12_faulty r0 (4 : Int32) X69_5) fun _ X85_18 =>
fX12_readsLine_L88 n r0 X85_18
) else (
fX12_readsLine_L88 n r0 X69_5
)
else none
)
else none
) else (
if mT X2_2 r0 = 12 then
if (mI X2_2 r0 27) = (10 : Int32) then (
bd (fX12_faulty r0 (4 : Int32) X2_2) fun _ X19_37 =>
fX12_readsLine_L22 n r0 X19_37
) else (
fX12_readsLine_L22 n r0 X2_2
)
else none
)
else none
theorem gX12_readsLine_L88 {E : q_E} {X0 : Mm} (C : Cx E cX12_readsLine RX12 3 none (q_rm 5 114 0 0) X0) (n : Nat) (r0 : Nat) (X : Mm) : Sm E (q_fin E q_eV X0 0 0) 0 0 88 [(0, .ref (q_P E + r0))] [] X (fX12_readsLine_L88 n r0 X) := by
  unfold fX12_readsLine_L88
  refine q_aload_n C 0 dX12_readsLine_88 rfl rfl ?_
  refine q_iconst C (1 : Int32) dX12_readsLine_89 rfl ?_
  refine q_chk (fun h21 => ?_)
  refine q_cVI (As := (fun P => [.int (1 : Int32)])) C [] (sX12_passesWord n r0 (1 : Int32)) fcX12_281 rfl (fun _ => rfl) ⟨Nat.le_of_ble_eq_true rfl, Nat.le_of_ble_eq_true rfl⟩ ⟨Nat.le_of_ble_eq_true rfl, Nat.le_of_ble_eq_true rfl⟩ (Nat.le_of_ble_eq_true rfl) dX12_readsLine_90 h21 (fun w19 X90_20 => ?_)
  refine q_if_ne C 97 dX12_readsLine_93 (by decide) (fun _ => ?_) (fun _ => ?_)
  · exact q_vret C dX12_readsLine_96
  · refine q_aload_n C 0 dX12_readsLine_97 rfl rfl ?_
    refine q_chk (fun h24 => ?_)
    refine q_cVL (As := (fun P => [])) C [] (sX12_fresh n r0) fcX12_311 rfl (fun _ => rfl) ⟨Nat.le_of_ble_eq_true rfl, Nat.le_of_ble_eq_true rfl⟩ ⟨Nat.le_of_ble_eq_true rfl, Nat.le_of_ble_eq_true rfl⟩ (Nat.le_of_ble_eq_true rfl) dX12_readsLine_98 h24 (fun w22 X98_23 => ?_)
    refine q_lstore_n C [(1, .long w22), (0, .ref (q_P E + r0))] dX12_readsLine_101 rfl (Nat.le_of_ble_eq_true rfl) rfl ?_
    refine q_aload_n C 1 dX12_readsLine_102 rfl rfl ?_
    refine q_chk (fun h27 => ?_)
    refine q_cVI (As := (fun P => [])) C [] (sX12_fine r0) fcX12_274 rfl (fun _ => rfl) ⟨Nat.le_of_ble_eq_true rfl, Nat.le_of_ble_eq_true rfl⟩ ⟨Nat.le_of_ble_eq_true rfl, Nat.le_of_ble_eq_true rfl⟩ (Nat.le_of_ble_eq_true rfl) dX12_readsLine_103 h27 (fun w25 X103_26 => ?_)
    refine q_if_ne C 110 dX12_readsLine_106 (by decide) (fun _ => ?_) (fun _ => ?_)
    · exact q_vret C dX12_readsLine_109
    · refine q_aload_n C 1 dX12_readsLine_110 rfl rfl ?_
      refine q_chk (fun h28 => ?_)
      refine q_chk (fun h29 => ?_)
      refine p_getR C fgX12_44 rfl dX12_readsLine_111 h28 h29 ?_
      refine q_aload_n C 1 dX12_readsLine_114 rfl rfl ?_
      refine p_getI C fgX12_303 rfl dX12_readsLine_115 h28 ?_
      refine q_lload_n C 0 dX12_readsLine_118 rfl rfl ?_
      refine q_chk (fun h31 => ?_)
      refine q_chk (fun h32 => ?_)
      refine p_last C dX12_readsLine_119 h31 h32 ?_
      refine q_nmX (fun X119_30 => ?_)
      refine q_aload_n C 1 dX12_readsLine_120 rfl rfl ?_
      refine q_aload_n C 1 dX12_readsLine_121 rfl rfl ?_
      refine q_chk (fun h33 => ?_)
      refine p_getI C fgX12_303 rfl dX12_readsLine_122 h33 ?_
      refine q_iconst C (1 : Int32) dX12_readsLine_125 rfl ?_
      refine q_iadd C dX12_readsLine_126 ?_
      refine p_putI C fpX12_303 rfl dX12_readsLine_127 h33 ?_
      refine q_nmX (fun X127_34 => ?_)
      refine q_goto C 153 dX12_readsLine_130 (by decide) ?_
      exact q_vret C dX12_readsLine_153
theorem gX12_readsLine_L22 {E : q_E} {X0 : Mm} (C : Cx E cX12_readsLine RX12 3 none (q_rm 5 114 0 0) X0) (n : Nat) (r0 : Nat) (X : Mm) : Sm E (q_fin E q_eV X0 0 0) 0 0 22 [(0, .ref (q_P E + r0))] [] X (fX12_readsLine_L22 n r0 X) := by
  unfold fX12_readsLine_L22
  refine q_aload_n C 0 dX12_readsLine_22 rfl rfl ?_
  refine q_iconst C (0 : Int32) dX12_readsLine_23 rfl ?_
  refine q_chk (fun h40 => ?_)
  refine q_cVI (As := (fun P => [.int (0 : Int32)])) C [] (sX12_passesWord n r0 (0 : Int32)) fcX12_281 rfl (fun _ => rfl) ⟨Nat.le_of_ble_eq_true rfl, Nat.le_of_ble_eq_true rfl⟩ ⟨Nat.le_of_ble_eq_true rfl, Nat.le_of_ble_eq_true rfl⟩ (Nat.le_of_ble_eq_true rfl) dX12_readsLine_24 h40 (fun w38 X24_39 => ?_)
  refine q_if_ne C 31 dX12_readsLine_27 (by decide) (fun _ => ?_) (fun _ => ?_)
  · exact q_vret C dX12_readsLine_30
  · refine q_aload_n C 0 dX12_readsLine_31 rfl rfl ?_
    refine q_chk (fun h43 => ?_)
    refine q_cVL (As := (fun P => [])) C [] (sX12_fresh n r0) fcX12_311 rfl (fun _ => rfl) ⟨Nat.le_of_ble_eq_true rfl, Nat.le_of_ble_eq_true rfl⟩ ⟨Nat.le_of_ble_eq_true rfl, Nat.le_of_ble_eq_true rfl⟩ (Nat.le_of_ble_eq_true rfl) dX12_readsLine_32 h43 (fun w41 X32_42 => ?_)
    refine q_lstore_n C [(1, .long w41), (0, .ref (q_P E + r0))] dX12_readsLine_35 rfl (Nat.le_of_ble_eq_true rfl) rfl ?_
    refine q_aload_n C 1 dX12_readsLine_36 rfl rfl ?_
    refine q_chk (fun h46 => ?_)
    refine q_cVI (As := (fun P => [])) C [] (sX12_fine r0) fcX12_274 rfl (fun _ => rfl) ⟨Nat.le_of_ble_eq_true rfl, Nat.le_of_ble_eq_true rfl⟩ ⟨Nat.le_of_ble_eq_true rfl, Nat.le_of_ble_eq_true rfl⟩ (Nat.le_of_ble_eq_true rfl) dX12_readsLine_37 h46 (fun w44 X37_45 => ?_)
    refine q_if_ne C 44 dX12_readsLine_40 (by decide) (fun _ => ?_) (fun _ => ?_)
    · exact q_vret C dX12_readsLine_43
    · refine q_aload_n C 1 dX12_readsLine_44 rfl rfl ?_
      refine q_chk (fun h47 => ?_)
      refine q_chk (fun h48 => ?_)
      refine p_getR C fgX12_41 rfl dX12_readsLine_45 h47 h48 ?_
      refine q_aload_n C 1 dX12_readsLine_48 rfl rfl ?_
      refine p_getI C fgX12_300 rfl dX12_readsLine_49 h47 ?_
      refine q_lload_n C 0 dX12_readsLine_52 rfl rfl ?_
      refine q_chk (fun h50 => ?_)
      refine q_chk (fun h51 => ?_)
      refine p_last C dX12_readsLine_53 h50 h51 ?_
      refine q_nmX (fun X53_49 => ?_)
      refine q_aload_n C 1 dX12_readsLine_54 rfl rfl ?_
      refine q_aload_n C 1 dX12_readsLine_55 rfl rfl ?_
      refine q_chk (fun h52 => ?_)
      refine p_getI C fgX12_300 rfl dX12_readsLine_56 h52 ?_
      refine q_iconst C (1 : Int32) dX12_readsLine_59 rfl ?_
      refine q_iadd C dX12_readsLine_60 ?_
      refine p_putI C fpX12_300 rfl dX12_readsLine_61 h52 ?_
      refine q_nmX (fun X61_53 => ?_)
      refine q_goto C 153 dX12_readsLine_64 (by decide) ?_
      exact q_vret C dX12_readsLine_153
theorem sX12_readsLine (n : Nat) (r0 : Nat) : q_Ct yX12_readsLine cX12_readsLine 3 none 5 114 0 0 q_eV (fun P => [.ref (P + r0)]) (fX12_readsLine n r0) := by
  refine q_meth (by decide +kernel) (fun P => Nat.le_of_ble_eq_true rfl) (fun E X C hn => ?_)
  show Sm E (q_fin E q_eV X 0 0) 0 0 0 [(0, .ref (q_P E + r0))] [] X _
  unfold fX12_readsLine
  refine q_aload_n C 0 dX12_readsLine_0 rfl rfl ?_
  refine q_iconst C (0 : Int32) dX12_readsLine_1 rfl ?_
  refine q_chk (fun h3 => ?_)
  refine q_cVI (As := (fun P => [.int (0 : Int32)])) C [] (sX12_isWord r0 (0 : Int32)) fcX12_278 rfl (fun _ => rfl) ⟨Nat.le_of_ble_eq_true rfl, Nat.le_of_ble_eq_true rfl⟩ ⟨Nat.le_of_ble_eq_true rfl, Nat.le_of_ble_eq_true rfl⟩ (Nat.le_of_ble_eq_true rfl) dX12_readsLine_2 h3 (fun w1 X2_2 => ?_)
  refine q_if_eq C 67 dX12_readsLine_5 (by decide) (fun _ => ?_) (fun _ => ?_)
  · refine q_aload_n C 0 dX12_readsLine_67 rfl rfl ?_
    refine q_iconst C (1 : Int32) dX12_readsLine_68 rfl ?_
    refine q_chk (fun h6 => ?_)
    refine q_cVI (As := (fun P => [.int (1 : Int32)])) C [] (sX12_isWord r0 (1 : Int32)) fcX12_278 rfl (fun _ => rfl) ⟨Nat.le_of_ble_eq_true rfl, Nat.le_of_ble_eq_true rfl⟩ ⟨Nat.le_of_ble_eq_true rfl, Nat.le_of_ble_eq_true rfl⟩ (Nat.le_of_ble_eq_true rfl) dX12_readsLine_69 h6 (fun w4 X69_5 => ?_)
    refine q_if_eq C 133 dX12_readsLine_72 (by decide) (fun _ => ?_) (fun _ => ?_)
    · refine q_aload_n C 0 dX12_readsLine_133 rfl rfl ?_
      refine q_iconst C (2 : Int32) dX12_readsLine_134 rfl ?_
      refine q_chk (fun h9 => ?_)
      refine q_cVI (As := (fun P => [.int (2 : Int32)])) C [] (sX12_isWord r0 (2 : Int32)) fcX12_278 rfl (fun _ => rfl) ⟨Nat.le_of_ble_eq_true rfl, Nat.le_of_ble_eq_true rfl⟩ ⟨Nat.le_of_ble_eq_true rfl, Nat.le_of_ble_eq_true rfl⟩ (Nat.le_of_ble_eq_true rfl) dX12_readsLine_135 h9 (fun w7 X135_8 => ?_)
      refine q_if_eq C 148 dX12_readsLine_138 (by decide) (fun _ => ?_) (fun _ => ?_)
      · refine q_aload_n C 0 dX12_readsLine_148 rfl rfl ?_
        refine q_iconst C (1 : Int32) dX12_readsLine_149 rfl ?_
        refine q_chk (fun h12 => ?_)
        refine q_cVV (As := (fun P => [.int (1 : Int32)])) C [] (sX12_faulty r0 (1 : Int32)) fcX12_284 rfl (fun _ => rfl) ⟨Nat.le_of_ble_eq_true rfl, Nat.le_of_ble_eq_true rfl⟩ ⟨Nat.le_of_ble_eq_true rfl, Nat.le_of_ble_eq_true rfl⟩ (Nat.le_of_ble_eq_true rfl) dX12_readsLine_150 h12 (fun _ X150_11 => ?_)
        exact q_vret C dX12_readsLine_153
      · refine q_aload_n C 0 dX12_readsLine_141 rfl rfl ?_
        refine q_chk (fun h15 => ?_)
        refine q_cVV (As := (fun P => [])) C [] (sX12_readsHas n r0) fcX12_315 rfl (fun _ => rfl) ⟨Nat.le_of_ble_eq_true rfl, Nat.le_of_ble_eq_true rfl⟩ ⟨Nat.le_of_ble_eq_true rfl, Nat.le_of_ble_eq_true rfl⟩ (Nat.le_of_ble_eq_true rfl) dX12_readsLine_142 h15 (fun _ X142_14 => ?_)
        refine q_goto C 153 dX12_readsLine_145 (by decide) ?_
        exact q_vret C dX12_readsLine_153
    · refine q_aload_n C 0 dX12_readsLine_75 rfl rfl ?_
      refine q_chk (fun h16 => ?_)
      refine p_getI C fgX12_303 rfl dX12_readsLine_76 h16 ?_
      refine q_iconst C (5 : Int32) dX12_readsLine_79 rfl ?_
      refine q_icmp_ne C 88 dX12_readsLine_80 (by decide) (fun _ => ?_) (fun _ => ?_)
      · refine q_aload_n C 0 dX12_readsLine_83 rfl rfl ?_
        refine q_iconst C (4 : Int32) dX12_readsLine_84 rfl ?_
        refine q_cVV (As := (fun P => [.int (4 : Int32)])) C [] (sX12_faulty r0 (4 : Int32)) fcX12_284 rfl (fun _ => rfl) ⟨Nat.le_of_ble_eq_true rfl, Nat.le_of_ble_eq_true rfl⟩ ⟨Nat.le_of_ble_eq_true rfl, Nat.le_of_ble_eq_true rfl⟩ (Nat.le_of_ble_eq_true rfl) dX12_readsLine_85 h16 (fun _ X85_18 => ?_)
        exact gX12_readsLine_L88 C n r0 X85_18
      · exact gX12_readsLine_L88 C n r0 X69_5
  · refine q_aload_n C 0 dX12_readsLine_8 rfl rfl ?_
    refine q_chk (fun h35 => ?_)
    refine p_getI C fgX12_300 rfl dX12_readsLine_9 h35 ?_
    refine q_bipush C (10 : Int32) dX12_readsLine_12 rfl ?_
    refine q_icmp_ne C 22 dX12_readsLine_14 (by decide) (fun _ => ?_) (fun _ => ?_)
    · refine q_aload_n C 0 dX12_readsLine_17 rfl rfl ?_
      refine q_iconst C (4 : Int32) dX12_readsLine_18 rfl ?_
      refine q_cVV (As := (fun P => [.int (4 : Int32)])) C [] (sX12_faulty r0 (4 : Int32)) fcX12_284 rfl (fun _ => rfl) ⟨Nat.le_of_ble_eq_true rfl, Nat.le_of_ble_eq_true rfl⟩ ⟨Nat.le_of_ble_eq_true rfl, Nat.le_of_ble_eq_true rfl⟩ (Nat.le_of_ble_eq_true rfl) dX12_readsLine_19 h35 (fun _ X19_37 => ?_)
      exact gX12_readsLine_L22 C n r0 X19_37
    · exact gX12_readsLine_L22 C n r0 X2_2
/-! RecordClaimsModel.book()I -/
abbrev cX12_book : ByteArray := prog_14_method_67_code
def yX12_book : MethodName := ⟨RX12, "book", "()I"⟩
theorem dX12_book_0 : decode cX12_book 0 = .ok (.aload_n 0, 1) := by decide +kernel
theorem dX12_book_1 : decode cX12_book 1 = .ok (.iconst 0, 1) := by decide +kernel
theorem dX12_book_2 : decode cX12_book 2 = .ok (.putfield 63, 3) := by decide +kernel
theorem dX12_book_5 : decode cX12_book 5 = .ok (.aload_n 0, 1) := by decide +kernel
theorem dX12_book_6 : decode cX12_book 6 = .ok (.iconst 0, 1) := by decide +kernel
theorem dX12_book_7 : decode cX12_book 7 = .ok (.putfield 300, 3) := by decide +kernel
theorem dX12_book_10 : decode cX12_book 10 = .ok (.aload_n 0, 1) := by decide +kernel
theorem dX12_book_11 : decode cX12_book 11 = .ok (.iconst 0, 1) := by decide +kernel
theorem dX12_book_12 : decode cX12_book 12 = .ok (.putfield 303, 3) := by decide +kernel
theorem dX12_book_15 : decode cX12_book 15 = .ok (.iconst 0, 1) := by decide +kernel
theorem dX12_book_16 : decode cX12_book 16 = .ok (.istore_n 1, 1) := by decide +kernel
theorem dX12_book_17 : decode cX12_book 17 = .ok (.iload_n 1, 1) := by decide +kernel
theorem dX12_book_18 : decode cX12_book 18 = .ok (.bipush 50, 2) := by decide +kernel
theorem dX12_book_20 : decode cX12_book 20 = .ok (.if_icmp .ge 16, 3) := by decide +kernel
theorem dX12_book_23 : decode cX12_book 23 = .ok (.aload_n 0, 1) := by decide +kernel
theorem dX12_book_24 : decode cX12_book 24 = .ok (.getfield 47, 3) := by decide +kernel
theorem dX12_book_27 : decode cX12_book 27 = .ok (.iload_n 1, 1) := by decide +kernel
theorem dX12_book_28 : decode cX12_book 28 = .ok (.iconst 0, 1) := by decide +kernel
theorem dX12_book_29 : decode cX12_book 29 = .ok (.iastore, 1) := by decide +kernel
theorem dX12_book_30 : decode cX12_book 30 = .ok (.iinc 1 1, 3) := by decide +kernel
theorem dX12_book_33 : decode cX12_book 33 = .ok (.goto (-16), 3) := by decide +kernel
theorem dX12_book_36 : decode cX12_book 36 = .ok (.aload_n 0, 1) := by decide +kernel
theorem dX12_book_37 : decode cX12_book 37 = .ok (.invokevirtual 318, 3) := by decide +kernel
theorem dX12_book_40 : decode cX12_book 40 = .ok (.iconst 0, 1) := by decide +kernel
theorem dX12_book_41 : decode cX12_book 41 = .ok (.istore_n 1, 1) := by decide +kernel
theorem dX12_book_42 : decode cX12_book 42 = .ok (.aload_n 0, 1) := by decide +kernel
theorem dX12_book_43 : decode cX12_book 43 = .ok (.invokevirtual 274, 3) := by decide +kernel
theorem dX12_book_46 : decode cX12_book 46 = .ok (.ifCond .eq 25, 3) := by decide +kernel
theorem dX12_book_49 : decode cX12_book 49 = .ok (.aload_n 0, 1) := by decide +kernel
theorem dX12_book_50 : decode cX12_book 50 = .ok (.getfield 253, 3) := by decide +kernel
theorem dX12_book_53 : decode cX12_book 53 = .ok (.ifCond .eq 18, 3) := by decide +kernel
theorem dX12_book_56 : decode cX12_book 56 = .ok (.aload_n 0, 1) := by decide +kernel
theorem dX12_book_57 : decode cX12_book 57 = .ok (.invokevirtual 321, 3) := by decide +kernel
theorem dX12_book_60 : decode cX12_book 60 = .ok (.aload_n 0, 1) := by decide +kernel
theorem dX12_book_61 : decode cX12_book 61 = .ok (.invokevirtual 324, 3) := by decide +kernel
theorem dX12_book_64 : decode cX12_book 64 = .ok (.iload_n 1, 1) := by decide +kernel
theorem dX12_book_65 : decode cX12_book 65 = .ok (.iconst 1, 1) := by decide +kernel
theorem dX12_book_66 : decode cX12_book 66 = .ok (.iadd, 1) := by decide +kernel
theorem dX12_book_67 : decode cX12_book 67 = .ok (.istore_n 1, 1) := by decide +kernel
theorem dX12_book_68 : decode cX12_book 68 = .ok (.goto (-26), 3) := by decide +kernel
theorem dX12_book_71 : decode cX12_book 71 = .ok (.aload_n 0, 1) := by decide +kernel
theorem dX12_book_72 : decode cX12_book 72 = .ok (.invokevirtual 274, 3) := by decide +kernel
theorem dX12_book_75 : decode cX12_book 75 = .ok (.ifCond .ne 5, 3) := by decide +kernel
theorem dX12_book_78 : decode cX12_book 78 = .ok (.iconst (-1), 1) := by decide +kernel
theorem dX12_book_79 : decode cX12_book 79 = .ok (.ireturn, 1) := by decide +kernel
theorem dX12_book_80 : decode cX12_book 80 = .ok (.iconst 0, 1) := by decide +kernel
theorem dX12_book_81 : decode cX12_book 81 = .ok (.istore_n 2, 1) := by decide +kernel
theorem dX12_book_82 : decode cX12_book 82 = .ok (.iload_n 2, 1) := by decide +kernel
theorem dX12_book_83 : decode cX12_book 83 = .ok (.sipush 4604, 3) := by decide +kernel
theorem dX12_book_86 : decode cX12_book 86 = .ok (.if_icmp .ge 16, 3) := by decide +kernel
theorem dX12_book_89 : decode cX12_book 89 = .ok (.aload_n 0, 1) := by decide +kernel
theorem dX12_book_90 : decode cX12_book 90 = .ok (.getfield 11, 3) := by decide +kernel
theorem dX12_book_93 : decode cX12_book 93 = .ok (.iload_n 2, 1) := by decide +kernel
theorem dX12_book_94 : decode cX12_book 94 = .ok (.lconst 0, 1) := by decide +kernel
theorem dX12_book_95 : decode cX12_book 95 = .ok (.lastore, 1) := by decide +kernel
theorem dX12_book_96 : decode cX12_book 96 = .ok (.iinc 2 1, 3) := by decide +kernel
theorem dX12_book_99 : decode cX12_book 99 = .ok (.goto (-17), 3) := by decide +kernel
theorem dX12_book_102 : decode cX12_book 102 = .ok (.iconst 0, 1) := by decide +kernel
theorem dX12_book_103 : decode cX12_book 103 = .ok (.istore_n 2, 1) := by decide +kernel
theorem dX12_book_104 : decode cX12_book 104 = .ok (.iload_n 2, 1) := by decide +kernel
theorem dX12_book_105 : decode cX12_book 105 = .ok (.bipush 50, 2) := by decide +kernel
theorem dX12_book_107 : decode cX12_book 107 = .ok (.if_icmp .ge 22, 3) := by decide +kernel
theorem dX12_book_110 : decode cX12_book 110 = .ok (.aload_n 0, 1) := by decide +kernel
theorem dX12_book_111 : decode cX12_book 111 = .ok (.getfield 11, 3) := by decide +kernel
theorem dX12_book_114 : decode cX12_book 114 = .ok (.iload_n 2, 1) := by decide +kernel
theorem dX12_book_115 : decode cX12_book 115 = .ok (.aload_n 0, 1) := by decide +kernel
theorem dX12_book_116 : decode cX12_book 116 = .ok (.getfield 47, 3) := by decide +kernel
theorem dX12_book_119 : decode cX12_book 119 = .ok (.iload_n 2, 1) := by decide +kernel
theorem dX12_book_120 : decode cX12_book 120 = .ok (.iaload, 1) := by decide +kernel
theorem dX12_book_121 : decode cX12_book 121 = .ok (.i2l, 1) := by decide +kernel
theorem dX12_book_122 : decode cX12_book 122 = .ok (.lastore, 1) := by decide +kernel
theorem dX12_book_123 : decode cX12_book 123 = .ok (.iinc 2 1, 3) := by decide +kernel
theorem dX12_book_126 : decode cX12_book 126 = .ok (.goto (-22), 3) := by decide +kernel
theorem dX12_book_129 : decode cX12_book 129 = .ok (.aload_n 0, 1) := by decide +kernel
theorem dX12_book_130 : decode cX12_book 130 = .ok (.aload_n 0, 1) := by decide +kernel
theorem dX12_book_131 : decode cX12_book 131 = .ok (.getfield 300, 3) := by decide +kernel
theorem dX12_book_134 : decode cX12_book 134 = .ok (.putfield 77, 3) := by decide +kernel
theorem dX12_book_137 : decode cX12_book 137 = .ok (.aload_n 0, 1) := by decide +kernel
theorem dX12_book_138 : decode cX12_book 138 = .ok (.aload_n 0, 1) := by decide +kernel
theorem dX12_book_139 : decode cX12_book 139 = .ok (.getfield 303, 3) := by decide +kernel
theorem dX12_book_142 : decode cX12_book 142 = .ok (.putfield 84, 3) := by decide +kernel
theorem dX12_book_145 : decode cX12_book 145 = .ok (.iconst 0, 1) := by decide +kernel
theorem dX12_book_146 : decode cX12_book 146 = .ok (.istore_n 2, 1) := by decide +kernel
theorem dX12_book_147 : decode cX12_book 147 = .ok (.iload_n 2, 1) := by decide +kernel
theorem dX12_book_148 : decode cX12_book 148 = .ok (.bipush 10, 2) := by decide +kernel
theorem dX12_book_150 : decode cX12_book 150 = .ok (.if_icmp .ge 21, 3) := by decide +kernel
theorem dX12_book_153 : decode cX12_book 153 = .ok (.aload_n 0, 1) := by decide +kernel
theorem dX12_book_154 : decode cX12_book 154 = .ok (.getfield 24, 3) := by decide +kernel
theorem dX12_book_157 : decode cX12_book 157 = .ok (.iload_n 2, 1) := by decide +kernel
theorem dX12_book_158 : decode cX12_book 158 = .ok (.aload_n 0, 1) := by decide +kernel
theorem dX12_book_159 : decode cX12_book 159 = .ok (.getfield 41, 3) := by decide +kernel
theorem dX12_book_162 : decode cX12_book 162 = .ok (.iload_n 2, 1) := by decide +kernel
theorem dX12_book_163 : decode cX12_book 163 = .ok (.laload, 1) := by decide +kernel
theorem dX12_book_164 : decode cX12_book 164 = .ok (.lastore, 1) := by decide +kernel
theorem dX12_book_165 : decode cX12_book 165 = .ok (.iinc 2 1, 3) := by decide +kernel
theorem dX12_book_168 : decode cX12_book 168 = .ok (.goto (-21), 3) := by decide +kernel
theorem dX12_book_171 : decode cX12_book 171 = .ok (.iconst 0, 1) := by decide +kernel
theorem dX12_book_172 : decode cX12_book 172 = .ok (.istore_n 2, 1) := by decide +kernel
theorem dX12_book_173 : decode cX12_book 173 = .ok (.iload_n 2, 1) := by decide +kernel
theorem dX12_book_174 : decode cX12_book 174 = .ok (.iconst 5, 1) := by decide +kernel
theorem dX12_book_175 : decode cX12_book 175 = .ok (.if_icmp .ge 21, 3) := by decide +kernel
theorem dX12_book_178 : decode cX12_book 178 = .ok (.aload_n 0, 1) := by decide +kernel
theorem dX12_book_179 : decode cX12_book 179 = .ok (.getfield 27, 3) := by decide +kernel
theorem dX12_book_182 : decode cX12_book 182 = .ok (.iload_n 2, 1) := by decide +kernel
theorem dX12_book_183 : decode cX12_book 183 = .ok (.aload_n 0, 1) := by decide +kernel
theorem dX12_book_184 : decode cX12_book 184 = .ok (.getfield 44, 3) := by decide +kernel
theorem dX12_book_187 : decode cX12_book 187 = .ok (.iload_n 2, 1) := by decide +kernel
theorem dX12_book_188 : decode cX12_book 188 = .ok (.laload, 1) := by decide +kernel
theorem dX12_book_189 : decode cX12_book 189 = .ok (.lastore, 1) := by decide +kernel
theorem dX12_book_190 : decode cX12_book 190 = .ok (.iinc 2 1, 3) := by decide +kernel
theorem dX12_book_193 : decode cX12_book 193 = .ok (.goto (-20), 3) := by decide +kernel
theorem dX12_book_196 : decode cX12_book 196 = .ok (.aload_n 0, 1) := by decide +kernel
theorem dX12_book_197 : decode cX12_book 197 = .ok (.iconst 0, 1) := by decide +kernel
theorem dX12_book_198 : decode cX12_book 198 = .ok (.putfield 70, 3) := by decide +kernel
theorem dX12_book_201 : decode cX12_book 201 = .ok (.iload_n 1, 1) := by decide +kernel
theorem dX12_book_202 : decode cX12_book 202 = .ok (.ireturn, 1) := by decide +kernel
theorem fcX12_318 : q_LV RX12 318 yX12_begins cX12_begins 1 none 0 12 := ⟨q_tb 1373 (by decide +kernel) rfl, q_tb 1375 (by decide +kernel) rfl, q_tbs (q := (yX12_begins, 35)) 51 (by decide +kernel) rfl, q_tb 13 (by decide +kernel) rfl, q_tb 1376 (by decide +kernel) rfl, ⟨by decide +kernel, by decide +kernel, by decide +kernel⟩, TX12, 35, rfl⟩
theorem fpX12_77 : q_Fp RX12 77 12 6 .int false := ⟨RX12, TX12, 35, tyX12, rfl, by decide, inX12, q_tb 1257 (by decide +kernel) rfl, tyX12_ok, nmX12, rfl, rfl, fun h => by first | rfl | cases h⟩
theorem fpX12_84 : q_Fp RX12 84 12 7 .int false := ⟨RX12, TX12, 35, tyX12, rfl, by decide, inX12, q_tb 1258 (by decide +kernel) rfl, tyX12_ok, nmX12, rfl, rfl, fun h => by first | rfl | cases h⟩
theorem fgX12_27 : q_Fg RX12 27 12 9 := q_Fg.of (C := RX12) (T := TX12) (N := 35) rfl (by decide) inX12 1260 (by decide +kernel) rfl rfl
theorem fgX12_24 : q_Fg RX12 24 12 8 := q_Fg.of (C := RX12) (T := TX12) (N := 35) rfl (by decide) inX12 1259 (by decide +kernel) rfl rfl
theorem fcX12_321 : q_LV RX12 321 yX12_readsLine cX12_readsLine 3 none 0 12 := ⟨q_tb 1410 (by decide +kernel) rfl, q_tb 1412 (by decide +kernel) rfl, q_tbs (q := (yX12_readsLine, 35)) 59 (by decide +kernel) rfl, q_tb 13 (by decide +kernel) rfl, q_tb 1413 (by decide +kernel) rfl, ⟨by decide +kernel, by decide +kernel, by decide +kernel⟩, TX12, 35, rfl⟩
theorem fcX12_324 : q_LV RX12 324 yX12_asksEnd cX12_asksEnd 1 none 0 12 := ⟨q_tb 1451 (by decide +kernel) rfl, q_tb 1453 (by decide +kernel) rfl, q_tbs (q := (yX12_asksEnd, 35)) 69 (by decide +kernel) rfl, q_tb 13 (by decide +kernel) rfl, q_tb 1454 (by decide +kernel) rfl, ⟨by decide +kernel, by decide +kernel, by decide +kernel⟩, TX12, 35, rfl⟩
def fX12_book_L173 (n : Nat) : Nat → Nat → Int32 → Int32 → Mm → Option (Int32 × Mm)
| 0, _, _, _, _ => none
| j + 1, r0, v1, v2, X =>
if (5 : Int32) ≤ v2 then (
if mT X r0 = 12 then
nm (sI X r0 5 (0 : Int32)) fun X198_20 =>
some (v1, X198_20)
else none
) else (
if mT X r0 = 12 then
if mR X r0 9 ≠ 0 then
if mR X r0 25 ≠ 0 then
if mT X (mR X r0 25) = 15 then
if q_b X (mR X r0 25) v2 then
if mT X (mR X r0 9) = 15 then
if q_b X (mR X r0 9) v2 then
nm (sJ X (mR X r0 9) (v2).toNatClampNeg (mJ X (mR X r0 25) (v2).toNatClampNeg)) fun X189_27 =>
nm (v2 + (1 : Int32)) fun v2_190 =>
(fX12_book_L173 n j) r0 v1 v2_190 X189_27
else none
else none
else none
else none
else none
else none
else none
)
def fX12_book_L147 (n : Nat) : Nat → Nat → Int32 → Int32 → Mm → Option (Int32 × Mm)
| 0, _, _, _, _ => none
| j + 1, r0, v1, v2, X =>
if (10 : Int32) ≤ v2 then (
fX12_book_L173 n n r0 v1 (0 : Int32) X
) else (
if mT X r0 = 12 then
if mR X r0 8 ≠ 0 then
if mR X r0 24 ≠ 0 then
if mT X (mR X r0 24) = 15 then
if q_b X (mR X r0 24) v2 then
if mT X (mR X r0 8) = 15 then
if q_b X (mR X r0 8) v2 then
nm (sJ X (mR X r0 8) (v2).toNatClampNeg (mJ X (mR X r0 24) (v2).toNatClampNeg)) fun X164_35 =>
nm (v2 + (1 : Int32)) fun v2_165 =>
(fX12_book_L147 n j) r0 v1 v2_165 X164_35
else none
else none
else none
else none
else none
else none
else none
)
def fX12_book_L104 (n : Nat) : Nat → Nat → Int32 → Int32 → Mm → Option (Int32 × Mm)
| 0, _, _, _, _ => none
| j + 1, r0, v1, v2, X =>
if (50 : Int32) ≤ v2 then (
if mT X r0 = 12 then
nm (sI X r0 6 (mI X r0 27)) fun X134_17 =>
if mT X134_17 r0 = 12 then
nm (sI X134_17 r0 7 (mI X134_17 r0 28)) fun X142_19 =>
fX12_book_L147 n n r0 v1 (0 : Int32) X142_19
else none
else none
) else (
if mT X r0 = 12 then
if mR X r0 1 ≠ 0 then
if mR X r0 26 ≠ 0 then
if mT X (mR X r0 26) = 14 then
if q_b X (mR X r0 26) v2 then
if mT X (mR X r0 1) = 15 then
if q_b X (mR X r0 1) v2 then
nm (sJ X (mR X r0 1) (v2).toNatClampNeg (((mI X (mR X r0 26) (v2).toNatClampNeg)).toInt64)) fun X122_43 =>
nm (v2 + (1 : Int32)) fun v2_123 =>
(fX12_book_L104 n j) r0 v1 v2_123 X122_43
else none
else none
else none
else none
else none
else none
else none
)
def fX12_book_L82 (n : Nat) : Nat → Nat → Int32 → Int32 → Mm → Option (Int32 × Mm)
| 0, _, _, _, _ => none
| j + 1, r0, v1, v2, X =>
if (4604 : Int32) ≤ v2 then (
fX12_book_L104 n n r0 v1 (0 : Int32) X
) else (
if mT X r0 = 12 then
if mR X r0 1 ≠ 0 then
if mT X (mR X r0 1) = 15 then
if q_b X (mR X r0 1) v2 then
nm (sJ X (mR X r0 1) (v2).toNatClampNeg (0 : Int64)) fun X95_48 =>
nm (v2 + (1 : Int32)) fun v2_96 =>
(fX12_book_L82 n j) r0 v1 v2_96 X95_48
else none
else none
else none
else none
)
def fX12_book_L71 (n : Nat) (r0 : Nat) (v1 : Int32) (X : Mm) : Option (Int32 × Mm) :=
if mT X r0 = 12 then
bd (fX12_fine r0 X) fun w13 X72_14 =>
if w13 = 0 then (
some ((-1 : Int32), X72_14)
) else (
fX12_book_L82 n n r0 v1 (0 : Int32) X72_14
)
else none
def fX12_book_L42 (n : Nat) : Nat → Nat → Int32 → Mm → Option (Int32 × Mm)
| 0, _, _, _ => none
| j + 1, r0, v1, X =>
if mT X r0 = 12 then
bd (fX12_fine r0 X) fun w10 X43_11 =>
if w10 = 0 then (
fX12_book_L71 n r0 v1 X43_11
) else (
if mT X43_11 r0 = 12 then
if (mI X43_11 r0 16) = 0 then (
fX12_book_L71 n r0 v1 X43_11
) else (
bd (fX12_readsLine n r0 X43_11) fun _ X57_53 =>
if mT X57_53 r0 = 12 then
bd (fX12_asksEnd n r0 X57_53) fun _ X61_55 =>
nm ((v1 + (1 : Int32))) fun v1_67 =>
(fX12_book_L42 n j) r0 v1_67 X61_55
else none
)
else none
)
else none
def fX12_book_L17 (n : Nat) : Nat → Nat → Int32 → Mm → Option (Int32 × Mm)
| 0, _, _, _ => none
| j + 1, r0, v1, X =>
if (50 : Int32) ≤ v1 then (
if mT X r0 = 12 then
bd (fX12_begins n r0 X) fun _ X37_8 =>
fX12_book_L42 n n r0 (0 : Int32) X37_8
else none
) else (
if mT X r0 = 12 then
if mR X r0 26 ≠ 0 then
if mT X (mR X r0 26) = 14 then
if q_b X (mR X r0 26) v1 then
nm (sI X (mR X r0 26) (v1).toNatClampNeg (0 : Int32)) fun X29_60 =>
nm (v1 + (1 : Int32)) fun v1_30 =>
(fX12_book_L17 n j) r0 v1_30 X29_60
else none
else none
else none
else none
)
def fX12_book (n : Nat) (r0 : Nat) (X : Mm) : Option (Int32 × Mm) :=
if mT X r0 = 12 then
nm (sI X r0 0 (0 : Int32)) fun X2_1 =>
if mT X2_1 r0 = 12 then
nm (sI X2_1 r0 27 (0 : Int32)) fun X7_3 =>
if mT X7_3 r0 = 12 then
nm (sI X7_3 r0 28 (0 : Int32)) fun X12_5 =>
fX12_book_L17 n n r0 (0 : Int32) X12_5
else none
else none
else none
theorem gX12_book_L173 {E : q_E} {X0 : Mm} (C : Cx E cX12_book RX12 3 (some .int) (q_rm 6 136 0 0) X0) (n : Nat) : ∀ (j : Nat) (r0 : Nat) (v1 : Int32) (v2 : Int32) (X : Mm), Sm E (q_fin E q_eI X0 0 0) 0 0 173 [(0, .ref (q_P E + r0)), (1, .int v1), (2, .int v2)] [] X (fX12_book_L173 n j r0 v1 v2 X) := by
  intro j
  induction j with
  | zero => intros; exact Sm.none
  | succ j ih =>
    intro r0 v1 v2 X
    rw [fX12_book_L173]
    refine q_iload_n C 2 dX12_book_173 rfl rfl ?_
    refine q_iconst C (5 : Int32) dX12_book_174 rfl ?_
    refine q_icmp_ge C 196 dX12_book_175 (by decide) (fun _ => ?_) (fun _ => ?_)
    · refine q_aload_n C 0 dX12_book_196 rfl rfl ?_
      refine q_iconst C (0 : Int32) dX12_book_197 rfl ?_
      refine q_chk (fun h21 => ?_)
      refine p_putI C fpX12_70 rfl dX12_book_198 h21 ?_
      refine q_nmX (fun X198_20 => ?_)
      refine q_iload_n C 1 dX12_book_201 rfl rfl ?_
      exact q_iret C dX12_book_202
    · refine q_aload_n C 0 dX12_book_178 rfl rfl ?_
      refine q_chk (fun h22 => ?_)
      refine q_chk (fun h23 => ?_)
      refine p_getR C fgX12_27 rfl dX12_book_179 h22 h23 ?_
      refine q_iload_n C 2 dX12_book_182 rfl rfl ?_
      refine q_aload_n C 0 dX12_book_183 rfl rfl ?_
      refine q_chk (fun h24 => ?_)
      refine p_getR C fgX12_44 rfl dX12_book_184 h22 h24 ?_
      refine q_iload_n C 2 dX12_book_187 rfl rfl ?_
      refine q_chk (fun h25 => ?_)
      refine q_chk (fun h26 => ?_)
      refine p_lald C dX12_book_188 h25 h26 ?_
      refine q_chk (fun h28 => ?_)
      refine q_chk (fun h29 => ?_)
      refine p_last C dX12_book_189 h28 h29 ?_
      refine q_nmX (fun X189_27 => ?_)
      refine q_iincN C (1 : Int32) 2 (fun v2_190 => [(2, .int v2_190), (0, .ref (q_P E + r0)), (1, .int v1)]) dX12_book_190 rfl rfl (Nat.le_of_ble_eq_true rfl) (fun _ => rfl) (fun v2_190 => ?_)
      refine q_goto C 173 dX12_book_193 (by decide) ?_
      refine q_sub C [(0, .ref (q_P E + r0)), (1, .int v1), (2, .int v2_190)] [1, 2, 0] rfl ?_
      exact ih r0 v1 v2_190 X189_27
theorem gX12_book_L147 {E : q_E} {X0 : Mm} (C : Cx E cX12_book RX12 3 (some .int) (q_rm 6 136 0 0) X0) (n : Nat) : ∀ (j : Nat) (r0 : Nat) (v1 : Int32) (v2 : Int32) (X : Mm), Sm E (q_fin E q_eI X0 0 0) 0 0 147 [(0, .ref (q_P E + r0)), (1, .int v1), (2, .int v2)] [] X (fX12_book_L147 n j r0 v1 v2 X) := by
  intro j
  induction j with
  | zero => intros; exact Sm.none
  | succ j ih =>
    intro r0 v1 v2 X
    rw [fX12_book_L147]
    refine q_iload_n C 2 dX12_book_147 rfl rfl ?_
    refine q_bipush C (10 : Int32) dX12_book_148 rfl ?_
    refine q_icmp_ge C 171 dX12_book_150 (by decide) (fun _ => ?_) (fun _ => ?_)
    · refine q_iconst C (0 : Int32) dX12_book_171 rfl ?_
      refine q_istore_n C [(2, .int (0 : Int32)), (0, .ref (q_P E + r0)), (1, .int v1)] dX12_book_172 rfl (Nat.le_of_ble_eq_true rfl) rfl ?_
      refine q_sub C [(0, .ref (q_P E + r0)), (1, .int v1), (2, .int (0 : Int32))] [1, 2, 0] rfl ?_
      exact gX12_book_L173 C n n r0 v1 (0 : Int32) X
    · refine q_aload_n C 0 dX12_book_153 rfl rfl ?_
      refine q_chk (fun h30 => ?_)
      refine q_chk (fun h31 => ?_)
      refine p_getR C fgX12_24 rfl dX12_book_154 h30 h31 ?_
      refine q_iload_n C 2 dX12_book_157 rfl rfl ?_
      refine q_aload_n C 0 dX12_book_158 rfl rfl ?_
      refine q_chk (fun h32 => ?_)
      refine p_getR C fgX12_41 rfl dX12_book_159 h30 h32 ?_
      refine q_iload_n C 2 dX12_book_162 rfl rfl ?_
      refine q_chk (fun h33 => ?_)
      refine q_chk (fun h34 => ?_)
      refine p_lald C dX12_book_163 h33 h34 ?_
      refine q_chk (fun h36 => ?_)
      refine q_chk (fun h37 => ?_)
      refine p_last C dX12_book_164 h36 h37 ?_
      refine q_nmX (fun X164_35 => ?_)
      refine q_iincN C (1 : Int32) 2 (fun v2_165 => [(2, .int v2_165), (0, .ref (q_P E + r0)), (1, .int v1)]) dX12_book_165 rfl rfl (Nat.le_of_ble_eq_true rfl) (fun _ => rfl) (fun v2_165 => ?_)
      refine q_goto C 147 dX12_book_168 (by decide) ?_
      refine q_sub C [(0, .ref (q_P E + r0)), (1, .int v1), (2, .int v2_165)] [1, 2, 0] rfl ?_
      exact ih r0 v1 v2_165 X164_35
theorem gX12_book_L104 {E : q_E} {X0 : Mm} (C : Cx E cX12_book RX12 3 (some .int) (q_rm 6 136 0 0) X0) (n : Nat) : ∀ (j : Nat) (r0 : Nat) (v1 : Int32) (v2 : Int32) (X : Mm), Sm E (q_fin E q_eI X0 0 0) 0 0 104 [(0, .ref (q_P E + r0)), (1, .int v1), (2, .int v2)] [] X (fX12_book_L104 n j r0 v1 v2 X) := by
  intro j
  induction j with
  | zero => intros; exact Sm.none
  | succ j ih =>
    intro r0 v1 v2 X
    rw [fX12_book_L104]
    refine q_iload_n C 2 dX12_book_104 rfl rfl ?_
    refine q_bipush C (50 : Int32) dX12_book_105 rfl ?_
    refine q_icmp_ge C 129 dX12_book_107 (by decide) (fun _ => ?_) (fun _ => ?_)
    · refine q_aload_n C 0 dX12_book_129 rfl rfl ?_
      refine q_aload_n C 0 dX12_book_130 rfl rfl ?_
      refine q_chk (fun h16 => ?_)
      refine p_getI C fgX12_300 rfl dX12_book_131 h16 ?_
      refine p_putI C fpX12_77 rfl dX12_book_134 h16 ?_
      refine q_nmX (fun X134_17 => ?_)
      refine q_aload_n C 0 dX12_book_137 rfl rfl ?_
      refine q_aload_n C 0 dX12_book_138 rfl rfl ?_
      refine q_chk (fun h18 => ?_)
      refine p_getI C fgX12_303 rfl dX12_book_139 h18 ?_
      refine p_putI C fpX12_84 rfl dX12_book_142 h18 ?_
      refine q_nmX (fun X142_19 => ?_)
      refine q_iconst C (0 : Int32) dX12_book_145 rfl ?_
      refine q_istore_n C [(2, .int (0 : Int32)), (0, .ref (q_P E + r0)), (1, .int v1)] dX12_book_146 rfl (Nat.le_of_ble_eq_true rfl) rfl ?_
      refine q_sub C [(0, .ref (q_P E + r0)), (1, .int v1), (2, .int (0 : Int32))] [1, 2, 0] rfl ?_
      exact gX12_book_L147 C n n r0 v1 (0 : Int32) X142_19
    · refine q_aload_n C 0 dX12_book_110 rfl rfl ?_
      refine q_chk (fun h38 => ?_)
      refine q_chk (fun h39 => ?_)
      refine p_getR C fgX12_11 rfl dX12_book_111 h38 h39 ?_
      refine q_iload_n C 2 dX12_book_114 rfl rfl ?_
      refine q_aload_n C 0 dX12_book_115 rfl rfl ?_
      refine q_chk (fun h40 => ?_)
      refine p_getR C fgX12_47 rfl dX12_book_116 h38 h40 ?_
      refine q_iload_n C 2 dX12_book_119 rfl rfl ?_
      refine q_chk (fun h41 => ?_)
      refine q_chk (fun h42 => ?_)
      refine p_iald C dX12_book_120 h41 h42 ?_
      refine q_i2l C dX12_book_121 ?_
      refine q_chk (fun h44 => ?_)
      refine q_chk (fun h45 => ?_)
      refine p_last C dX12_book_122 h44 h45 ?_
      refine q_nmX (fun X122_43 => ?_)
      refine q_iincN C (1 : Int32) 2 (fun v2_123 => [(2, .int v2_123), (0, .ref (q_P E + r0)), (1, .int v1)]) dX12_book_123 rfl rfl (Nat.le_of_ble_eq_true rfl) (fun _ => rfl) (fun v2_123 => ?_)
      refine q_goto C 104 dX12_book_126 (by decide) ?_
      refine q_sub C [(0, .ref (q_P E + r0)), (1, .int v1), (2, .int v2_123)] [1, 2, 0] rfl ?_
      exact ih r0 v1 v2_123 X122_43
theorem gX12_book_L82 {E : q_E} {X0 : Mm} (C : Cx E cX12_book RX12 3 (some .int) (q_rm 6 136 0 0) X0) (n : Nat) : ∀ (j : Nat) (r0 : Nat) (v1 : Int32) (v2 : Int32) (X : Mm), Sm E (q_fin E q_eI X0 0 0) 0 0 82 [(0, .ref (q_P E + r0)), (1, .int v1), (2, .int v2)] [] X (fX12_book_L82 n j r0 v1 v2 X) := by
  intro j
  induction j with
  | zero => intros; exact Sm.none
  | succ j ih =>
    intro r0 v1 v2 X
    rw [fX12_book_L82]
    refine q_iload_n C 2 dX12_book_82 rfl rfl ?_
    refine q_sipush C (4604 : Int32) dX12_book_83 rfl ?_
    refine q_icmp_ge C 102 dX12_book_86 (by decide) (fun _ => ?_) (fun _ => ?_)
    · refine q_iconst C (0 : Int32) dX12_book_102 rfl ?_
      refine q_istore_n C [(2, .int (0 : Int32)), (0, .ref (q_P E + r0)), (1, .int v1)] dX12_book_103 rfl (Nat.le_of_ble_eq_true rfl) rfl ?_
      refine q_sub C [(0, .ref (q_P E + r0)), (1, .int v1), (2, .int (0 : Int32))] [1, 2, 0] rfl ?_
      exact gX12_book_L104 C n n r0 v1 (0 : Int32) X
    · refine q_aload_n C 0 dX12_book_89 rfl rfl ?_
      refine q_chk (fun h46 => ?_)
      refine q_chk (fun h47 => ?_)
      refine p_getR C fgX12_11 rfl dX12_book_90 h46 h47 ?_
      refine q_iload_n C 2 dX12_book_93 rfl rfl ?_
      refine q_lconst C (0 : Int64) dX12_book_94 rfl ?_
      refine q_chk (fun h49 => ?_)
      refine q_chk (fun h50 => ?_)
      refine p_last C dX12_book_95 h49 h50 ?_
      refine q_nmX (fun X95_48 => ?_)
      refine q_iincN C (1 : Int32) 2 (fun v2_96 => [(2, .int v2_96), (0, .ref (q_P E + r0)), (1, .int v1)]) dX12_book_96 rfl rfl (Nat.le_of_ble_eq_true rfl) (fun _ => rfl) (fun v2_96 => ?_)
      refine q_goto C 82 dX12_book_99 (by decide) ?_
      refine q_sub C [(0, .ref (q_P E + r0)), (1, .int v1), (2, .int v2_96)] [1, 2, 0] rfl ?_
      exact ih r0 v1 v2_96 X95_48
theorem gX12_book_L71 {E : q_E} {X0 : Mm} (C : Cx E cX12_book RX12 3 (some .int) (q_rm 6 136 0 0) X0) (n : Nat) (r0 : Nat) (v1 : Int32) (X : Mm) : Sm E (q_fin E q_eI X0 0 0) 0 0 71 [(0, .ref (q_P E + r0)), (1, .int v1)] [] X (fX12_book_L71 n r0 v1 X) := by
  unfold fX12_book_L71
  refine q_aload_n C 0 dX12_book_71 rfl rfl ?_
  refine q_chk (fun h15 => ?_)
  refine q_cVI (As := (fun P => [])) C [] (sX12_fine r0) fcX12_274 rfl (fun _ => rfl) ⟨Nat.le_of_ble_eq_true rfl, Nat.le_of_ble_eq_true rfl⟩ ⟨Nat.le_of_ble_eq_true rfl, Nat.le_of_ble_eq_true rfl⟩ (Nat.le_of_ble_eq_true rfl) dX12_book_72 h15 (fun w13 X72_14 => ?_)
  refine q_if_ne C 80 dX12_book_75 (by decide) (fun _ => ?_) (fun _ => ?_)
  · refine q_iconst C (-1 : Int32) dX12_book_78 rfl ?_
    exact q_iret C dX12_book_79
  · refine q_iconst C (0 : Int32) dX12_book_80 rfl ?_
    refine q_istore_n C [(2, .int (0 : Int32)), (0, .ref (q_P E + r0)), (1, .int v1)] dX12_book_81 rfl (Nat.le_of_ble_eq_true rfl) rfl ?_
    refine q_sub C [(0, .ref (q_P E + r0)), (1, .int v1), (2, .int (0 : Int32))] [1, 2, 0] rfl ?_
    exact gX12_book_L82 C n n r0 v1 (0 : Int32) X72_14
theorem gX12_book_L42 {E : q_E} {X0 : Mm} (C : Cx E cX12_book RX12 3 (some .int) (q_rm 6 136 0 0) X0) (n : Nat) : ∀ (j : Nat) (r0 : Nat) (v1 : Int32) (X : Mm), Sm E (q_fin E q_eI X0 0 0) 0 0 42 [(0, .ref (q_P E + r0)), (1, .int v1)] [] X (fX12_book_L42 n j r0 v1 X) := by
  intro j
  induction j with
  | zero => intros; exact Sm.none
  | succ j ih =>
    intro r0 v1 X
    rw [fX12_book_L42]
    refine q_aload_n C 0 dX12_book_42 rfl rfl ?_
    refine q_chk (fun h12 => ?_)
    refine q_cVI (As := (fun P => [])) C [] (sX12_fine r0) fcX12_274 rfl (fun _ => rfl) ⟨Nat.le_of_ble_eq_true rfl, Nat.le_of_ble_eq_true rfl⟩ ⟨Nat.le_of_ble_eq_true rfl, Nat.le_of_ble_eq_true rfl⟩ (Nat.le_of_ble_eq_true rfl) dX12_book_43 h12 (fun w10 X43_11 => ?_)
    refine q_if_eq C 71 dX12_book_46 (by decide) (fun _ => ?_) (fun _ => ?_)
    · exact gX12_book_L71 C n r0 v1 X43_11
    · refine q_aload_n C 0 dX12_book_49 rfl rfl ?_
      refine q_chk (fun h51 => ?_)
      refine p_getI C fgX12_253 rfl dX12_book_50 h51 ?_
      refine q_if_eq C 71 dX12_book_53 (by decide) (fun _ => ?_) (fun _ => ?_)
      · exact gX12_book_L71 C n r0 v1 X43_11
      · refine q_aload_n C 0 dX12_book_56 rfl rfl ?_
        refine q_cVV (As := (fun P => [])) C [] (sX12_readsLine n r0) fcX12_321 rfl (fun _ => rfl) ⟨Nat.le_of_ble_eq_true rfl, Nat.le_of_ble_eq_true rfl⟩ ⟨Nat.le_of_ble_eq_true rfl, Nat.le_of_ble_eq_true rfl⟩ (Nat.le_of_ble_eq_true rfl) dX12_book_57 h51 (fun _ X57_53 => ?_)
        refine q_aload_n C 0 dX12_book_60 rfl rfl ?_
        refine q_chk (fun h56 => ?_)
        refine q_cVV (As := (fun P => [])) C [] (sX12_asksEnd n r0) fcX12_324 rfl (fun _ => rfl) ⟨Nat.le_of_ble_eq_true rfl, Nat.le_of_ble_eq_true rfl⟩ ⟨Nat.le_of_ble_eq_true rfl, Nat.le_of_ble_eq_true rfl⟩ (Nat.le_of_ble_eq_true rfl) dX12_book_61 h56 (fun _ X61_55 => ?_)
        refine q_iload_n C 1 dX12_book_64 rfl rfl ?_
        refine q_iconst C (1 : Int32) dX12_book_65 rfl ?_
        refine q_iadd C dX12_book_66 ?_
        refine q_nmi (fun v1_67 => ?_)
        refine q_istore_n C [(1, .int v1_67), (0, .ref (q_P E + r0))] dX12_book_67 rfl (Nat.le_of_ble_eq_true rfl) rfl ?_
        refine q_goto C 42 dX12_book_68 (by decide) ?_
        refine q_sub C [(0, .ref (q_P E + r0)), (1, .int v1_67)] [1, 0] rfl ?_
        exact ih r0 v1_67 X61_55
theorem gX12_book_L17 {E : q_E} {X0 : Mm} (C : Cx E cX12_book RX12 3 (some .int) (q_rm 6 136 0 0) X0) (n : Nat) : ∀ (j : Nat) (r0 : Nat) (v1 : Int32) (X : Mm), Sm E (q_fin E q_eI X0 0 0) 0 0 17 [(0, .ref (q_P E + r0)), (1, .int v1)] [] X (fX12_book_L17 n j r0 v1 X) := by
  intro j
  induction j with
  | zero => intros; exact Sm.none
  | succ j ih =>
    intro r0 v1 X
    rw [fX12_book_L17]
    refine q_iload_n C 1 dX12_book_17 rfl rfl ?_
    refine q_bipush C (50 : Int32) dX12_book_18 rfl ?_
    refine q_icmp_ge C 36 dX12_book_20 (by decide) (fun _ => ?_) (fun _ => ?_)
    · refine q_aload_n C 0 dX12_book_36 rfl rfl ?_
      refine q_chk (fun h9 => ?_)
      refine q_cVV (As := (fun P => [])) C [] (sX12_begins n r0) fcX12_318 rfl (fun _ => rfl) ⟨Nat.le_of_ble_eq_true rfl, Nat.le_of_ble_eq_true rfl⟩ ⟨Nat.le_of_ble_eq_true rfl, Nat.le_of_ble_eq_true rfl⟩ (Nat.le_of_ble_eq_true rfl) dX12_book_37 h9 (fun _ X37_8 => ?_)
      refine q_iconst C (0 : Int32) dX12_book_40 rfl ?_
      refine q_istore_n C [(1, .int (0 : Int32)), (0, .ref (q_P E + r0))] dX12_book_41 rfl (Nat.le_of_ble_eq_true rfl) rfl ?_
      refine q_sub C [(0, .ref (q_P E + r0)), (1, .int (0 : Int32))] [1, 0] rfl ?_
      exact gX12_book_L42 C n n r0 (0 : Int32) X37_8
    · refine q_aload_n C 0 dX12_book_23 rfl rfl ?_
      refine q_chk (fun h58 => ?_)
      refine q_chk (fun h59 => ?_)
      refine p_getR C fgX12_47 rfl dX12_book_24 h58 h59 ?_
      refine q_iload_n C 1 dX12_book_27 rfl rfl ?_
      refine q_iconst C (0 : Int32) dX12_book_28 rfl ?_
      refine q_chk (fun h61 => ?_)
      refine q_chk (fun h62 => ?_)
      refine p_iast C dX12_book_29 h61 h62 ?_
      refine q_nmX (fun X29_60 => ?_)
      refine q_iincN C (1 : Int32) 1 (fun v1_30 => [(1, .int v1_30), (0, .ref (q_P E + r0))]) dX12_book_30 rfl rfl (Nat.le_of_ble_eq_true rfl) (fun _ => rfl) (fun v1_30 => ?_)
      refine q_goto C 17 dX12_book_33 (by decide) ?_
      refine q_sub C [(0, .ref (q_P E + r0)), (1, .int v1_30)] [1, 0] rfl ?_
      exact ih r0 v1_30 X29_60
theorem sX12_book (n : Nat) (r0 : Nat) : q_Ct yX12_book cX12_book 3 (some .int) 6 136 0 0 q_eI (fun P => [.ref (P + r0)]) (fX12_book n r0) := by
  refine q_meth (by decide +kernel) (fun P => Nat.le_of_ble_eq_true rfl) (fun E X C hn => ?_)
  show Sm E (q_fin E q_eI X 0 0) 0 0 0 [(0, .ref (q_P E + r0))] [] X _
  unfold fX12_book
  refine q_aload_n C 0 dX12_book_0 rfl rfl ?_
  refine q_iconst C (0 : Int32) dX12_book_1 rfl ?_
  refine q_chk (fun h2 => ?_)
  refine p_putI C fpX12_63 rfl dX12_book_2 h2 ?_
  refine q_nmX (fun X2_1 => ?_)
  refine q_aload_n C 0 dX12_book_5 rfl rfl ?_
  refine q_iconst C (0 : Int32) dX12_book_6 rfl ?_
  refine q_chk (fun h4 => ?_)
  refine p_putI C fpX12_300 rfl dX12_book_7 h4 ?_
  refine q_nmX (fun X7_3 => ?_)
  refine q_aload_n C 0 dX12_book_10 rfl rfl ?_
  refine q_iconst C (0 : Int32) dX12_book_11 rfl ?_
  refine q_chk (fun h6 => ?_)
  refine p_putI C fpX12_303 rfl dX12_book_12 h6 ?_
  refine q_nmX (fun X12_5 => ?_)
  refine q_iconst C (0 : Int32) dX12_book_15 rfl ?_
  refine q_istore_n C [(1, .int (0 : Int32)), (0, .ref (q_P E + r0))] dX12_book_16 rfl (Nat.le_of_ble_eq_true rfl) rfl ?_
  refine q_sub C [(0, .ref (q_P E + r0)), (1, .int (0 : Int32))] [1, 0] rfl ?_
  exact gX12_book_L17 C n n r0 (0 : Int32) X12_5
/-! RecordClaimsModel.arg(II)V -/
abbrev cX12_arg : ByteArray := prog_14_method_68_code
def yX12_arg : MethodName := ⟨RX12, "arg", "(II)V"⟩
theorem dX12_arg_0 : decode cX12_arg 0 = .ok (.aload_n 0, 1) := by decide +kernel
theorem dX12_arg_1 : decode cX12_arg 1 = .ok (.getfield 54, 3) := by decide +kernel
theorem dX12_arg_4 : decode cX12_arg 4 = .ok (.bipush 10, 2) := by decide +kernel
theorem dX12_arg_6 : decode cX12_arg 6 = .ok (.aload_n 0, 1) := by decide +kernel
theorem dX12_arg_7 : decode cX12_arg 7 = .ok (.getfield 327, 3) := by decide +kernel
theorem dX12_arg_10 : decode cX12_arg 10 = .ok (.imul, 1) := by decide +kernel
theorem dX12_arg_11 : decode cX12_arg 11 = .ok (.iload_n 1, 1) := by decide +kernel
theorem dX12_arg_12 : decode cX12_arg 12 = .ok (.iadd, 1) := by decide +kernel
theorem dX12_arg_13 : decode cX12_arg 13 = .ok (.iload_n 2, 1) := by decide +kernel
theorem dX12_arg_14 : decode cX12_arg 14 = .ok (.iastore, 1) := by decide +kernel
theorem dX12_arg_15 : decode cX12_arg 15 = .ok (.return_, 1) := by decide +kernel
theorem fgX12_54 : q_Fg RX12 54 12 30 := q_Fg.of (C := RX12) (T := TX12) (N := 35) rfl (by decide) inX12 1281 (by decide +kernel) rfl rfl
theorem fgX12_327 : q_Fg RX12 327 12 31 := q_Fg.of (C := RX12) (T := TX12) (N := 35) rfl (by decide) inX12 1282 (by decide +kernel) rfl rfl
def fX12_arg (r0 : Nat) (v1 : Int32) (v2 : Int32) (X : Mm) : Option (Unit × Mm) :=
if mT X r0 = 12 then
if mR X r0 30 ≠ 0 then
if mT X (mR X r0 30) = 14 then
if q_b X (mR X r0 30) (((10 : Int32) * (mI X r0 31)) + v1) then
nm (sI X (mR X r0 30) ((((10 : Int32) * (mI X r0 31)) + v1)).toNatClampNeg v2) fun X14_3 =>
some ((), X14_3)
else none
else none
else none
else none
theorem sX12_arg (r0 : Nat) (v1 : Int32) (v2 : Int32) : q_Ct yX12_arg cX12_arg 3 none 0 0 0 0 q_eV (fun P => [.ref (P + r0), .int v1, .int v2]) (fX12_arg r0 v1 v2) := by
  refine q_meth (by decide +kernel) (fun P => Nat.le_of_ble_eq_true rfl) (fun E X C hn => ?_)
  show Sm E (q_fin E q_eV X 0 0) 0 0 0 [(0, .ref (q_P E + r0)), (1, .int v1), (2, .int v2)] [] X _
  unfold fX12_arg
  refine q_aload_n C 0 dX12_arg_0 rfl rfl ?_
  refine q_chk (fun h1 => ?_)
  refine q_chk (fun h2 => ?_)
  refine p_getR C fgX12_54 rfl dX12_arg_1 h1 h2 ?_
  refine q_bipush C (10 : Int32) dX12_arg_4 rfl ?_
  refine q_aload_n C 0 dX12_arg_6 rfl rfl ?_
  refine p_getI C fgX12_327 rfl dX12_arg_7 h1 ?_
  refine q_imul C dX12_arg_10 ?_
  refine q_iload_n C 1 dX12_arg_11 rfl rfl ?_
  refine q_iadd C dX12_arg_12 ?_
  refine q_iload_n C 2 dX12_arg_13 rfl rfl ?_
  refine q_chk (fun h4 => ?_)
  refine q_chk (fun h5 => ?_)
  refine p_iast C dX12_arg_14 h4 h5 ?_
  refine q_nmX (fun X14_3 => ?_)
  exact q_vret C dX12_arg_15
/-! RecordClaimsModel.readsWhen(I)V -/
abbrev cX12_readsWhen : ByteArray := prog_14_method_69_code
def yX12_readsWhen : MethodName := ⟨RX12, "readsWhen", "(I)V"⟩
theorem dX12_readsWhen_0 : decode cX12_readsWhen 0 = .ok (.aload_n 0, 1) := by decide +kernel
theorem dX12_readsWhen_1 : decode cX12_readsWhen 1 = .ok (.iload_n 1, 1) := by decide +kernel
theorem dX12_readsWhen_2 : decode cX12_readsWhen 2 = .ok (.aload_n 0, 1) := by decide +kernel
theorem dX12_readsWhen_3 : decode cX12_readsWhen 3 = .ok (.bipush 16, 2) := by decide +kernel
theorem dX12_readsWhen_5 : decode cX12_readsWhen 5 = .ok (.invokevirtual 330, 3) := by decide +kernel
theorem dX12_readsWhen_8 : decode cX12_readsWhen 8 = .ok (.invokevirtual 333, 3) := by decide +kernel
theorem dX12_readsWhen_11 : decode cX12_readsWhen 11 = .ok (.aload_n 0, 1) := by decide +kernel
theorem dX12_readsWhen_12 : decode cX12_readsWhen 12 = .ok (.iload_n 1, 1) := by decide +kernel
theorem dX12_readsWhen_13 : decode cX12_readsWhen 13 = .ok (.iconst 1, 1) := by decide +kernel
theorem dX12_readsWhen_14 : decode cX12_readsWhen 14 = .ok (.iadd, 1) := by decide +kernel
theorem dX12_readsWhen_15 : decode cX12_readsWhen 15 = .ok (.aload_n 0, 1) := by decide +kernel
theorem dX12_readsWhen_16 : decode cX12_readsWhen 16 = .ok (.bipush 17, 2) := by decide +kernel
theorem dX12_readsWhen_18 : decode cX12_readsWhen 18 = .ok (.invokevirtual 330, 3) := by decide +kernel
theorem dX12_readsWhen_21 : decode cX12_readsWhen 21 = .ok (.invokevirtual 333, 3) := by decide +kernel
theorem dX12_readsWhen_24 : decode cX12_readsWhen 24 = .ok (.aload_n 0, 1) := by decide +kernel
theorem dX12_readsWhen_25 : decode cX12_readsWhen 25 = .ok (.iload_n 1, 1) := by decide +kernel
theorem dX12_readsWhen_26 : decode cX12_readsWhen 26 = .ok (.iconst 2, 1) := by decide +kernel
theorem dX12_readsWhen_27 : decode cX12_readsWhen 27 = .ok (.iadd, 1) := by decide +kernel
theorem dX12_readsWhen_28 : decode cX12_readsWhen 28 = .ok (.aload_n 0, 1) := by decide +kernel
theorem dX12_readsWhen_29 : decode cX12_readsWhen 29 = .ok (.bipush 18, 2) := by decide +kernel
theorem dX12_readsWhen_31 : decode cX12_readsWhen 31 = .ok (.invokevirtual 330, 3) := by decide +kernel
theorem dX12_readsWhen_34 : decode cX12_readsWhen 34 = .ok (.invokevirtual 333, 3) := by decide +kernel
theorem dX12_readsWhen_37 : decode cX12_readsWhen 37 = .ok (.return_, 1) := by decide +kernel
theorem fcX12_330 : q_LV RX12 330 yX12_after cX12_after 2 (some .int) 1 12 := ⟨q_tb 1471 (by decide +kernel) rfl, q_tb 1473 (by decide +kernel) rfl, q_tbs (q := (yX12_after, 35)) 73 (by decide +kernel) rfl, q_tb 13 (by decide +kernel) rfl, q_tb 1474 (by decide +kernel) rfl, ⟨by decide +kernel, by decide +kernel, by decide +kernel⟩, TX12, 35, rfl⟩
theorem fcX12_333 : q_LV RX12 333 yX12_arg cX12_arg 3 none 2 12 := ⟨q_tb 1463 (by decide +kernel) rfl, q_tb 1465 (by decide +kernel) rfl, q_tbs (q := (yX12_arg, 35)) 71 (by decide +kernel) rfl, q_tb 13 (by decide +kernel) rfl, q_tb 1466 (by decide +kernel) rfl, ⟨by decide +kernel, by decide +kernel, by decide +kernel⟩, TX12, 35, rfl⟩
def fX12_readsWhen (n : Nat) (r0 : Nat) (v1 : Int32) (X : Mm) : Option (Unit × Mm) :=
if mT X r0 = 12 then
bd (fX12_after n r0 (16 : Int32) X) fun w1 X5_2 =>
if mT X5_2 r0 = 12 then
bd (fX12_arg r0 v1 w1 X5_2) fun _ X8_5 =>
if mT X8_5 r0 = 12 then
bd (fX12_after n r0 (17 : Int32) X8_5) fun w7 X18_8 =>
if mT X18_8 r0 = 12 then
bd (fX12_arg r0 ((v1 + (1 : Int32))) w7 X18_8) fun _ X21_11 =>
if mT X21_11 r0 = 12 then
bd (fX12_after n r0 (18 : Int32) X21_11) fun w13 X31_14 =>
if mT X31_14 r0 = 12 then
bd (fX12_arg r0 ((v1 + (2 : Int32))) w13 X31_14) fun _ X34_17 =>
some ((), X34_17)
else none
else none
else none
else none
else none
else none
theorem sX12_readsWhen (n : Nat) (r0 : Nat) (v1 : Int32) : q_Ct yX12_readsWhen cX12_readsWhen 2 none 6 131 0 0 q_eV (fun P => [.ref (P + r0), .int v1]) (fX12_readsWhen n r0 v1) := by
  refine q_meth (by decide +kernel) (fun P => Nat.le_of_ble_eq_true rfl) (fun E X C hn => ?_)
  show Sm E (q_fin E q_eV X 0 0) 0 0 0 [(0, .ref (q_P E + r0)), (1, .int v1)] [] X _
  unfold fX12_readsWhen
  refine q_aload_n C 0 dX12_readsWhen_0 rfl rfl ?_
  refine q_iload_n C 1 dX12_readsWhen_1 rfl rfl ?_
  refine q_aload_n C 0 dX12_readsWhen_2 rfl rfl ?_
  refine q_bipush C (16 : Int32) dX12_readsWhen_3 rfl ?_
  refine q_chk (fun h3 => ?_)
  refine q_cVI (As := (fun P => [.int (16 : Int32)])) C [.int v1, .ref (q_P E + r0)] (sX12_after n r0 (16 : Int32)) fcX12_330 rfl (fun _ => rfl) ⟨Nat.le_of_ble_eq_true rfl, Nat.le_of_ble_eq_true rfl⟩ ⟨Nat.le_of_ble_eq_true rfl, Nat.le_of_ble_eq_true rfl⟩ (Nat.le_of_ble_eq_true rfl) dX12_readsWhen_5 h3 (fun w1 X5_2 => ?_)
  refine q_chk (fun h6 => ?_)
  refine q_cVV (As := (fun P => [.int v1, .int w1])) C [] (sX12_arg r0 v1 w1) fcX12_333 rfl (fun _ => rfl) ⟨Nat.le_of_ble_eq_true rfl, Nat.le_of_ble_eq_true rfl⟩ ⟨Nat.le_of_ble_eq_true rfl, Nat.le_of_ble_eq_true rfl⟩ (Nat.le_of_ble_eq_true rfl) dX12_readsWhen_8 h6 (fun _ X8_5 => ?_)
  refine q_aload_n C 0 dX12_readsWhen_11 rfl rfl ?_
  refine q_iload_n C 1 dX12_readsWhen_12 rfl rfl ?_
  refine q_iconst C (1 : Int32) dX12_readsWhen_13 rfl ?_
  refine q_iadd C dX12_readsWhen_14 ?_
  refine q_aload_n C 0 dX12_readsWhen_15 rfl rfl ?_
  refine q_bipush C (17 : Int32) dX12_readsWhen_16 rfl ?_
  refine q_chk (fun h9 => ?_)
  refine q_cVI (As := (fun P => [.int (17 : Int32)])) C [.int (v1 + (1 : Int32)), .ref (q_P E + r0)] (sX12_after n r0 (17 : Int32)) fcX12_330 rfl (fun _ => rfl) ⟨Nat.le_of_ble_eq_true rfl, Nat.le_of_ble_eq_true rfl⟩ ⟨Nat.le_of_ble_eq_true rfl, Nat.le_of_ble_eq_true rfl⟩ (Nat.le_of_ble_eq_true rfl) dX12_readsWhen_18 h9 (fun w7 X18_8 => ?_)
  refine q_chk (fun h12 => ?_)
  refine q_cVV (As := (fun P => [.int (v1 + (1 : Int32)), .int w7])) C [] (sX12_arg r0 ((v1 + (1 : Int32))) w7) fcX12_333 rfl (fun _ => rfl) ⟨Nat.le_of_ble_eq_true rfl, Nat.le_of_ble_eq_true rfl⟩ ⟨Nat.le_of_ble_eq_true rfl, Nat.le_of_ble_eq_true rfl⟩ (Nat.le_of_ble_eq_true rfl) dX12_readsWhen_21 h12 (fun _ X21_11 => ?_)
  refine q_aload_n C 0 dX12_readsWhen_24 rfl rfl ?_
  refine q_iload_n C 1 dX12_readsWhen_25 rfl rfl ?_
  refine q_iconst C (2 : Int32) dX12_readsWhen_26 rfl ?_
  refine q_iadd C dX12_readsWhen_27 ?_
  refine q_aload_n C 0 dX12_readsWhen_28 rfl rfl ?_
  refine q_bipush C (18 : Int32) dX12_readsWhen_29 rfl ?_
  refine q_chk (fun h15 => ?_)
  refine q_cVI (As := (fun P => [.int (18 : Int32)])) C [.int (v1 + (2 : Int32)), .ref (q_P E + r0)] (sX12_after n r0 (18 : Int32)) fcX12_330 rfl (fun _ => rfl) ⟨Nat.le_of_ble_eq_true rfl, Nat.le_of_ble_eq_true rfl⟩ ⟨Nat.le_of_ble_eq_true rfl, Nat.le_of_ble_eq_true rfl⟩ (Nat.le_of_ble_eq_true rfl) dX12_readsWhen_31 h15 (fun w13 X31_14 => ?_)
  refine q_chk (fun h18 => ?_)
  refine q_cVV (As := (fun P => [.int (v1 + (2 : Int32)), .int w13])) C [] (sX12_arg r0 ((v1 + (2 : Int32))) w13) fcX12_333 rfl (fun _ => rfl) ⟨Nat.le_of_ble_eq_true rfl, Nat.le_of_ble_eq_true rfl⟩ ⟨Nat.le_of_ble_eq_true rfl, Nat.le_of_ble_eq_true rfl⟩ (Nat.le_of_ble_eq_true rfl) dX12_readsWhen_34 h18 (fun _ X34_17 => ?_)
  exact q_vret C dX12_readsWhen_37
/-! RecordClaimsModel.readsOther(I)V -/
abbrev cX12_readsOther : ByteArray := prog_14_method_71_code
def yX12_readsOther : MethodName := ⟨RX12, "readsOther", "(I)V"⟩
theorem dX12_readsOther_0 : decode cX12_readsOther 0 = .ok (.aload_n 0, 1) := by decide +kernel
theorem dX12_readsOther_1 : decode cX12_readsOther 1 = .ok (.iconst 0, 1) := by decide +kernel
theorem dX12_readsOther_2 : decode cX12_readsOther 2 = .ok (.aload_n 0, 1) := by decide +kernel
theorem dX12_readsOther_3 : decode cX12_readsOther 3 = .ok (.aload_n 0, 1) := by decide +kernel
theorem dX12_readsOther_4 : decode cX12_readsOther 4 = .ok (.getfield 27, 3) := by decide +kernel
theorem dX12_readsOther_7 : decode cX12_readsOther 7 = .ok (.aload_n 0, 1) := by decide +kernel
theorem dX12_readsOther_8 : decode cX12_readsOther 8 = .ok (.getfield 84, 3) := by decide +kernel
theorem dX12_readsOther_11 : decode cX12_readsOther 11 = .ok (.invokevirtual 306, 3) := by decide +kernel
theorem dX12_readsOther_14 : decode cX12_readsOther 14 = .ok (.invokevirtual 333, 3) := by decide +kernel
theorem dX12_readsOther_17 : decode cX12_readsOther 17 = .ok (.iload_n 1, 1) := by decide +kernel
theorem dX12_readsOther_18 : decode cX12_readsOther 18 = .ok (.bipush 8, 2) := by decide +kernel
theorem dX12_readsOther_20 : decode cX12_readsOther 20 = .ok (.if_icmp .ne 81, 3) := by decide +kernel
theorem dX12_readsOther_23 : decode cX12_readsOther 23 = .ok (.aload_n 0, 1) := by decide +kernel
theorem dX12_readsOther_24 : decode cX12_readsOther 24 = .ok (.bipush 9, 2) := by decide +kernel
theorem dX12_readsOther_26 : decode cX12_readsOther 26 = .ok (.invokevirtual 294, 3) := by decide +kernel
theorem dX12_readsOther_29 : decode cX12_readsOther 29 = .ok (.aload_n 0, 1) := by decide +kernel
theorem dX12_readsOther_30 : decode cX12_readsOther 30 = .ok (.iconst 1, 1) := by decide +kernel
theorem dX12_readsOther_31 : decode cX12_readsOther 31 = .ok (.aload_n 0, 1) := by decide +kernel
theorem dX12_readsOther_32 : decode cX12_readsOther 32 = .ok (.aload_n 0, 1) := by decide +kernel
theorem dX12_readsOther_33 : decode cX12_readsOther 33 = .ok (.getfield 27, 3) := by decide +kernel
theorem dX12_readsOther_36 : decode cX12_readsOther 36 = .ok (.aload_n 0, 1) := by decide +kernel
theorem dX12_readsOther_37 : decode cX12_readsOther 37 = .ok (.getfield 84, 3) := by decide +kernel
theorem dX12_readsOther_40 : decode cX12_readsOther 40 = .ok (.invokevirtual 306, 3) := by decide +kernel
theorem dX12_readsOther_43 : decode cX12_readsOther 43 = .ok (.invokevirtual 333, 3) := by decide +kernel
theorem dX12_readsOther_46 : decode cX12_readsOther 46 = .ok (.aload_n 0, 1) := by decide +kernel
theorem dX12_readsOther_47 : decode cX12_readsOther 47 = .ok (.iconst 2, 1) := by decide +kernel
theorem dX12_readsOther_48 : decode cX12_readsOther 48 = .ok (.aload_n 0, 1) := by decide +kernel
theorem dX12_readsOther_49 : decode cX12_readsOther 49 = .ok (.invokevirtual 297, 3) := by decide +kernel
theorem dX12_readsOther_52 : decode cX12_readsOther 52 = .ok (.invokevirtual 333, 3) := by decide +kernel
theorem dX12_readsOther_55 : decode cX12_readsOther 55 = .ok (.aload_n 0, 1) := by decide +kernel
theorem dX12_readsOther_56 : decode cX12_readsOther 56 = .ok (.iconst 3, 1) := by decide +kernel
theorem dX12_readsOther_57 : decode cX12_readsOther 57 = .ok (.aload_n 0, 1) := by decide +kernel
theorem dX12_readsOther_58 : decode cX12_readsOther 58 = .ok (.bipush 10, 2) := by decide +kernel
theorem dX12_readsOther_60 : decode cX12_readsOther 60 = .ok (.invokevirtual 330, 3) := by decide +kernel
theorem dX12_readsOther_63 : decode cX12_readsOther 63 = .ok (.invokevirtual 333, 3) := by decide +kernel
theorem dX12_readsOther_66 : decode cX12_readsOther 66 = .ok (.aload_n 0, 1) := by decide +kernel
theorem dX12_readsOther_67 : decode cX12_readsOther 67 = .ok (.iconst 4, 1) := by decide +kernel
theorem dX12_readsOther_68 : decode cX12_readsOther 68 = .ok (.aload_n 0, 1) := by decide +kernel
theorem dX12_readsOther_69 : decode cX12_readsOther 69 = .ok (.bipush 14, 2) := by decide +kernel
theorem dX12_readsOther_71 : decode cX12_readsOther 71 = .ok (.invokevirtual 330, 3) := by decide +kernel
theorem dX12_readsOther_74 : decode cX12_readsOther 74 = .ok (.invokevirtual 333, 3) := by decide +kernel
theorem dX12_readsOther_77 : decode cX12_readsOther 77 = .ok (.aload_n 0, 1) := by decide +kernel
theorem dX12_readsOther_78 : decode cX12_readsOther 78 = .ok (.iconst 5, 1) := by decide +kernel
theorem dX12_readsOther_79 : decode cX12_readsOther 79 = .ok (.aload_n 0, 1) := by decide +kernel
theorem dX12_readsOther_80 : decode cX12_readsOther 80 = .ok (.bipush 15, 2) := by decide +kernel
theorem dX12_readsOther_82 : decode cX12_readsOther 82 = .ok (.invokevirtual 330, 3) := by decide +kernel
theorem dX12_readsOther_85 : decode cX12_readsOther 85 = .ok (.invokevirtual 333, 3) := by decide +kernel
theorem dX12_readsOther_88 : decode cX12_readsOther 88 = .ok (.aload_n 0, 1) := by decide +kernel
theorem dX12_readsOther_89 : decode cX12_readsOther 89 = .ok (.bipush 6, 2) := by decide +kernel
theorem dX12_readsOther_91 : decode cX12_readsOther 91 = .ok (.aload_n 0, 1) := by decide +kernel
theorem dX12_readsOther_92 : decode cX12_readsOther 92 = .ok (.bipush 17, 2) := by decide +kernel
theorem dX12_readsOther_94 : decode cX12_readsOther 94 = .ok (.invokevirtual 330, 3) := by decide +kernel
theorem dX12_readsOther_97 : decode cX12_readsOther 97 = .ok (.invokevirtual 333, 3) := by decide +kernel
theorem dX12_readsOther_100 : decode cX12_readsOther 100 = .ok (.return_, 1) := by decide +kernel
theorem dX12_readsOther_101 : decode cX12_readsOther 101 = .ok (.aload_n 0, 1) := by decide +kernel
theorem dX12_readsOther_102 : decode cX12_readsOther 102 = .ok (.iconst 1, 1) := by decide +kernel
theorem dX12_readsOther_103 : decode cX12_readsOther 103 = .ok (.aload_n 0, 1) := by decide +kernel
theorem dX12_readsOther_104 : decode cX12_readsOther 104 = .ok (.invokevirtual 297, 3) := by decide +kernel
theorem dX12_readsOther_107 : decode cX12_readsOther 107 = .ok (.invokevirtual 333, 3) := by decide +kernel
theorem dX12_readsOther_110 : decode cX12_readsOther 110 = .ok (.aload_n 0, 1) := by decide +kernel
theorem dX12_readsOther_111 : decode cX12_readsOther 111 = .ok (.iconst 2, 1) := by decide +kernel
theorem dX12_readsOther_112 : decode cX12_readsOther 112 = .ok (.aload_n 0, 1) := by decide +kernel
theorem dX12_readsOther_113 : decode cX12_readsOther 113 = .ok (.bipush 10, 2) := by decide +kernel
theorem dX12_readsOther_115 : decode cX12_readsOther 115 = .ok (.invokevirtual 330, 3) := by decide +kernel
theorem dX12_readsOther_118 : decode cX12_readsOther 118 = .ok (.invokevirtual 333, 3) := by decide +kernel
theorem dX12_readsOther_121 : decode cX12_readsOther 121 = .ok (.iload_n 1, 1) := by decide +kernel
theorem dX12_readsOther_122 : decode cX12_readsOther 122 = .ok (.bipush 6, 2) := by decide +kernel
theorem dX12_readsOther_124 : decode cX12_readsOther 124 = .ok (.if_icmp .ne 20, 3) := by decide +kernel
theorem dX12_readsOther_127 : decode cX12_readsOther 127 = .ok (.aload_n 0, 1) := by decide +kernel
theorem dX12_readsOther_128 : decode cX12_readsOther 128 = .ok (.iconst 3, 1) := by decide +kernel
theorem dX12_readsOther_129 : decode cX12_readsOther 129 = .ok (.aload_n 0, 1) := by decide +kernel
theorem dX12_readsOther_130 : decode cX12_readsOther 130 = .ok (.bipush 15, 2) := by decide +kernel
theorem dX12_readsOther_132 : decode cX12_readsOther 132 = .ok (.invokevirtual 330, 3) := by decide +kernel
theorem dX12_readsOther_135 : decode cX12_readsOther 135 = .ok (.invokevirtual 333, 3) := by decide +kernel
theorem dX12_readsOther_138 : decode cX12_readsOther 138 = .ok (.aload_n 0, 1) := by decide +kernel
theorem dX12_readsOther_139 : decode cX12_readsOther 139 = .ok (.iconst 4, 1) := by decide +kernel
theorem dX12_readsOther_140 : decode cX12_readsOther 140 = .ok (.invokevirtual 336, 3) := by decide +kernel
theorem dX12_readsOther_143 : decode cX12_readsOther 143 = .ok (.return_, 1) := by decide +kernel
theorem dX12_readsOther_144 : decode cX12_readsOther 144 = .ok (.aload_n 0, 1) := by decide +kernel
theorem dX12_readsOther_145 : decode cX12_readsOther 145 = .ok (.iconst 3, 1) := by decide +kernel
theorem dX12_readsOther_146 : decode cX12_readsOther 146 = .ok (.aload_n 0, 1) := by decide +kernel
theorem dX12_readsOther_147 : decode cX12_readsOther 147 = .ok (.bipush 11, 2) := by decide +kernel
theorem dX12_readsOther_149 : decode cX12_readsOther 149 = .ok (.invokevirtual 330, 3) := by decide +kernel
theorem dX12_readsOther_152 : decode cX12_readsOther 152 = .ok (.invokevirtual 333, 3) := by decide +kernel
theorem dX12_readsOther_155 : decode cX12_readsOther 155 = .ok (.aload_n 0, 1) := by decide +kernel
theorem dX12_readsOther_156 : decode cX12_readsOther 156 = .ok (.iconst 4, 1) := by decide +kernel
theorem dX12_readsOther_157 : decode cX12_readsOther 157 = .ok (.aload_n 0, 1) := by decide +kernel
theorem dX12_readsOther_158 : decode cX12_readsOther 158 = .ok (.bipush 12, 2) := by decide +kernel
theorem dX12_readsOther_160 : decode cX12_readsOther 160 = .ok (.invokevirtual 330, 3) := by decide +kernel
theorem dX12_readsOther_163 : decode cX12_readsOther 163 = .ok (.invokevirtual 333, 3) := by decide +kernel
theorem dX12_readsOther_166 : decode cX12_readsOther 166 = .ok (.aload_n 0, 1) := by decide +kernel
theorem dX12_readsOther_167 : decode cX12_readsOther 167 = .ok (.iconst 5, 1) := by decide +kernel
theorem dX12_readsOther_168 : decode cX12_readsOther 168 = .ok (.aload_n 0, 1) := by decide +kernel
theorem dX12_readsOther_169 : decode cX12_readsOther 169 = .ok (.bipush 13, 2) := by decide +kernel
theorem dX12_readsOther_171 : decode cX12_readsOther 171 = .ok (.invokevirtual 330, 3) := by decide +kernel
theorem dX12_readsOther_174 : decode cX12_readsOther 174 = .ok (.invokevirtual 333, 3) := by decide +kernel
theorem dX12_readsOther_177 : decode cX12_readsOther 177 = .ok (.aload_n 0, 1) := by decide +kernel
theorem dX12_readsOther_178 : decode cX12_readsOther 178 = .ok (.bipush 6, 2) := by decide +kernel
theorem dX12_readsOther_180 : decode cX12_readsOther 180 = .ok (.invokevirtual 336, 3) := by decide +kernel
theorem dX12_readsOther_183 : decode cX12_readsOther 183 = .ok (.return_, 1) := by decide +kernel
theorem fcX12_336 : q_LV RX12 336 yX12_readsWhen cX12_readsWhen 2 none 1 12 := ⟨q_tb 1467 (by decide +kernel) rfl, q_tb 1469 (by decide +kernel) rfl, q_tbs (q := (yX12_readsWhen, 35)) 72 (by decide +kernel) rfl, q_tb 13 (by decide +kernel) rfl, q_tb 1470 (by decide +kernel) rfl, ⟨by decide +kernel, by decide +kernel, by decide +kernel⟩, TX12, 35, rfl⟩
def fX12_readsOther (n : Nat) (r0 : Nat) (v1 : Int32) (X : Mm) : Option (Unit × Mm) :=
if mT X r0 = 12 then
if mR X r0 9 ≠ 0 then
bd (fX12_known n r0 ((mR X r0 9)) ((mI X r0 7)) X) fun w3 X11_4 =>
if mT X11_4 r0 = 12 then
bd (fX12_arg r0 (0 : Int32) w3 X11_4) fun _ X14_6 =>
if v1 = (8 : Int32) then (
if mT X14_6 r0 = 12 then
bd (fX12_asksWord n r0 (9 : Int32) X14_6) fun _ X26_9 =>
if mT X26_9 r0 = 12 then
if mR X26_9 r0 9 ≠ 0 then
bd (fX12_known n r0 ((mR X26_9 r0 9)) ((mI X26_9 r0 7)) X26_9) fun w13 X40_14 =>
if mT X40_14 r0 = 12 then
bd (fX12_arg r0 (1 : Int32) w13 X40_14) fun _ X43_16 =>
if mT X43_16 r0 = 12 then
bd (fX12_n n r0 X43_16) fun w18 X49_19 =>
if mT X49_19 r0 = 12 then
bd (fX12_arg r0 (2 : Int32) w18 X49_19) fun _ X52_22 =>
if mT X52_22 r0 = 12 then
bd (fX12_after n r0 (10 : Int32) X52_22) fun w24 X60_25 =>
if mT X60_25 r0 = 12 then
bd (fX12_arg r0 (3 : Int32) w24 X60_25) fun _ X63_28 =>
if mT X63_28 r0 = 12 then
bd (fX12_after n r0 (14 : Int32) X63_28) fun w30 X71_31 =>
if mT X71_31 r0 = 12 then
bd (fX12_arg r0 (4 : Int32) w30 X71_31) fun _ X74_34 =>
if mT X74_34 r0 = 12 then
bd (fX12_after n r0 (15 : Int32) X74_34) fun w36 X82_37 =>
if mT X82_37 r0 = 12 then
bd (fX12_arg r0 (5 : Int32) w36 X82_37) fun _ X85_40 =>
if mT X85_40 r0 = 12 then
bd (fX12_after n r0 (17 : Int32) X85_40) fun w42 X94_43 =>
if mT X94_43 r0 = 12 then
bd (fX12_arg r0 (6 : Int32) w42 X94_43) fun _ X97_46 =>
some ((), X97_46)
else none
else none
else none
else none
else none
else none
else none
else none
else none
else none
else none
else none
else none
else none
) else (
if mT X14_6 r0 = 12 then
bd (fX12_n n r0 X14_6) fun w48 X104_49 =>
if mT X104_49 r0 = 12 then
bd (fX12_arg r0 (1 : Int32) w48 X104_49) fun _ X107_52 =>
if mT X107_52 r0 = 12 then
bd (fX12_after n r0 (10 : Int32) X107_52) fun w54 X115_55 =>
if mT X115_55 r0 = 12 then
bd (fX12_arg r0 (2 : Int32) w54 X115_55) fun _ X118_58 =>
if v1 = (6 : Int32) then (
if mT X118_58 r0 = 12 then
bd (fX12_after n r0 (15 : Int32) X118_58) fun w60 X132_61 =>
if mT X132_61 r0 = 12 then
bd (fX12_arg r0 (3 : Int32) w60 X132_61) fun _ X135_64 =>
if mT X135_64 r0 = 12 then
bd (fX12_readsWhen n r0 (4 : Int32) X135_64) fun _ X140_67 =>
some ((), X140_67)
else none
else none
else none
) else (
if mT X118_58 r0 = 12 then
bd (fX12_after n r0 (11 : Int32) X118_58) fun w69 X149_70 =>
if mT X149_70 r0 = 12 then
bd (fX12_arg r0 (3 : Int32) w69 X149_70) fun _ X152_73 =>
if mT X152_73 r0 = 12 then
bd (fX12_after n r0 (12 : Int32) X152_73) fun w75 X160_76 =>
if mT X160_76 r0 = 12 then
bd (fX12_arg r0 (4 : Int32) w75 X160_76) fun _ X163_79 =>
if mT X163_79 r0 = 12 then
bd (fX12_after n r0 (13 : Int32) X163_79) fun w81 X171_82 =>
if mT X171_82 r0 = 12 then
bd (fX12_arg r0 (5 : Int32) w81 X171_82) fun _ X174_85 =>
if mT X174_85 r0 = 12 then
bd (fX12_readsWhen n r0 (6 : Int32) X174_85) fun _ X180_88 =>
some ((), X180_88)
else none
else none
else none
else none
else none
else none
else none
)
else none
else none
else none
else none
)
else none
else none
else none
theorem sX12_readsOther (n : Nat) (r0 : Nat) (v1 : Int32) : q_Ct yX12_readsOther cX12_readsOther 2 none 7 152 0 0 q_eV (fun P => [.ref (P + r0), .int v1]) (fX12_readsOther n r0 v1) := by
  refine q_meth (by decide +kernel) (fun P => Nat.le_of_ble_eq_true rfl) (fun E X C hn => ?_)
  show Sm E (q_fin E q_eV X 0 0) 0 0 0 [(0, .ref (q_P E + r0)), (1, .int v1)] [] X _
  unfold fX12_readsOther
  refine q_aload_n C 0 dX12_readsOther_0 rfl rfl ?_
  refine q_iconst C (0 : Int32) dX12_readsOther_1 rfl ?_
  refine q_aload_n C 0 dX12_readsOther_2 rfl rfl ?_
  refine q_aload_n C 0 dX12_readsOther_3 rfl rfl ?_
  refine q_chk (fun h1 => ?_)
  refine q_chk (fun h2 => ?_)
  refine p_getR C fgX12_27 rfl dX12_readsOther_4 h1 h2 ?_
  refine q_aload_n C 0 dX12_readsOther_7 rfl rfl ?_
  refine p_getI C fgX12_84 rfl dX12_readsOther_8 h1 ?_
  refine q_cVI (As := (fun P => [.ref (P + (mR X r0 9)), .int (mI X r0 7)])) C [.int (0 : Int32), .ref (q_P E + r0)] (sX12_known n r0 ((mR X r0 9)) ((mI X r0 7))) fcX12_306 rfl (fun _ => rfl) ⟨Nat.le_of_ble_eq_true rfl, Nat.le_of_ble_eq_true rfl⟩ ⟨Nat.le_of_ble_eq_true rfl, Nat.le_of_ble_eq_true rfl⟩ (Nat.le_of_ble_eq_true rfl) dX12_readsOther_11 h1 (fun w3 X11_4 => ?_)
  refine q_chk (fun h7 => ?_)
  refine q_cVV (As := (fun P => [.int (0 : Int32), .int w3])) C [] (sX12_arg r0 (0 : Int32) w3) fcX12_333 rfl (fun _ => rfl) ⟨Nat.le_of_ble_eq_true rfl, Nat.le_of_ble_eq_true rfl⟩ ⟨Nat.le_of_ble_eq_true rfl, Nat.le_of_ble_eq_true rfl⟩ (Nat.le_of_ble_eq_true rfl) dX12_readsOther_14 h7 (fun _ X14_6 => ?_)
  refine q_iload_n C 1 dX12_readsOther_17 rfl rfl ?_
  refine q_bipush C (8 : Int32) dX12_readsOther_18 rfl ?_
  refine q_icmp_ne C 101 dX12_readsOther_20 (by decide) (fun _ => ?_) (fun _ => ?_)
  · refine q_aload_n C 0 dX12_readsOther_23 rfl rfl ?_
    refine q_bipush C (9 : Int32) dX12_readsOther_24 rfl ?_
    refine q_chk (fun h10 => ?_)
    refine q_cVV (As := (fun P => [.int (9 : Int32)])) C [] (sX12_asksWord n r0 (9 : Int32)) fcX12_294 rfl (fun _ => rfl) ⟨Nat.le_of_ble_eq_true rfl, Nat.le_of_ble_eq_true rfl⟩ ⟨Nat.le_of_ble_eq_true rfl, Nat.le_of_ble_eq_true rfl⟩ (Nat.le_of_ble_eq_true rfl) dX12_readsOther_26 h10 (fun _ X26_9 => ?_)
    refine q_aload_n C 0 dX12_readsOther_29 rfl rfl ?_
    refine q_iconst C (1 : Int32) dX12_readsOther_30 rfl ?_
    refine q_aload_n C 0 dX12_readsOther_31 rfl rfl ?_
    refine q_aload_n C 0 dX12_readsOther_32 rfl rfl ?_
    refine q_chk (fun h11 => ?_)
    refine q_chk (fun h12 => ?_)
    refine p_getR C fgX12_27 rfl dX12_readsOther_33 h11 h12 ?_
    refine q_aload_n C 0 dX12_readsOther_36 rfl rfl ?_
    refine p_getI C fgX12_84 rfl dX12_readsOther_37 h11 ?_
    refine q_cVI (As := (fun P => [.ref (P + (mR X26_9 r0 9)), .int (mI X26_9 r0 7)])) C [.int (1 : Int32), .ref (q_P E + r0)] (sX12_known n r0 ((mR X26_9 r0 9)) ((mI X26_9 r0 7))) fcX12_306 rfl (fun _ => rfl) ⟨Nat.le_of_ble_eq_true rfl, Nat.le_of_ble_eq_true rfl⟩ ⟨Nat.le_of_ble_eq_true rfl, Nat.le_of_ble_eq_true rfl⟩ (Nat.le_of_ble_eq_true rfl) dX12_readsOther_40 h11 (fun w13 X40_14 => ?_)
    refine q_chk (fun h17 => ?_)
    refine q_cVV (As := (fun P => [.int (1 : Int32), .int w13])) C [] (sX12_arg r0 (1 : Int32) w13) fcX12_333 rfl (fun _ => rfl) ⟨Nat.le_of_ble_eq_true rfl, Nat.le_of_ble_eq_true rfl⟩ ⟨Nat.le_of_ble_eq_true rfl, Nat.le_of_ble_eq_true rfl⟩ (Nat.le_of_ble_eq_true rfl) dX12_readsOther_43 h17 (fun _ X43_16 => ?_)
    refine q_aload_n C 0 dX12_readsOther_46 rfl rfl ?_
    refine q_iconst C (2 : Int32) dX12_readsOther_47 rfl ?_
    refine q_aload_n C 0 dX12_readsOther_48 rfl rfl ?_
    refine q_chk (fun h20 => ?_)
    refine q_cVI (As := (fun P => [])) C [.int (2 : Int32), .ref (q_P E + r0)] (sX12_n n r0) fcX12_297 rfl (fun _ => rfl) ⟨Nat.le_of_ble_eq_true rfl, Nat.le_of_ble_eq_true rfl⟩ ⟨Nat.le_of_ble_eq_true rfl, Nat.le_of_ble_eq_true rfl⟩ (Nat.le_of_ble_eq_true rfl) dX12_readsOther_49 h20 (fun w18 X49_19 => ?_)
    refine q_chk (fun h23 => ?_)
    refine q_cVV (As := (fun P => [.int (2 : Int32), .int w18])) C [] (sX12_arg r0 (2 : Int32) w18) fcX12_333 rfl (fun _ => rfl) ⟨Nat.le_of_ble_eq_true rfl, Nat.le_of_ble_eq_true rfl⟩ ⟨Nat.le_of_ble_eq_true rfl, Nat.le_of_ble_eq_true rfl⟩ (Nat.le_of_ble_eq_true rfl) dX12_readsOther_52 h23 (fun _ X52_22 => ?_)
    refine q_aload_n C 0 dX12_readsOther_55 rfl rfl ?_
    refine q_iconst C (3 : Int32) dX12_readsOther_56 rfl ?_
    refine q_aload_n C 0 dX12_readsOther_57 rfl rfl ?_
    refine q_bipush C (10 : Int32) dX12_readsOther_58 rfl ?_
    refine q_chk (fun h26 => ?_)
    refine q_cVI (As := (fun P => [.int (10 : Int32)])) C [.int (3 : Int32), .ref (q_P E + r0)] (sX12_after n r0 (10 : Int32)) fcX12_330 rfl (fun _ => rfl) ⟨Nat.le_of_ble_eq_true rfl, Nat.le_of_ble_eq_true rfl⟩ ⟨Nat.le_of_ble_eq_true rfl, Nat.le_of_ble_eq_true rfl⟩ (Nat.le_of_ble_eq_true rfl) dX12_readsOther_60 h26 (fun w24 X60_25 => ?_)
    refine q_chk (fun h29 => ?_)
    refine q_cVV (As := (fun P => [.int (3 : Int32), .int w24])) C [] (sX12_arg r0 (3 : Int32) w24) fcX12_333 rfl (fun _ => rfl) ⟨Nat.le_of_ble_eq_true rfl, Nat.le_of_ble_eq_true rfl⟩ ⟨Nat.le_of_ble_eq_true rfl, Nat.le_of_ble_eq_true rfl⟩ (Nat.le_of_ble_eq_true rfl) dX12_readsOther_63 h29 (fun _ X63_28 => ?_)
    refine q_aload_n C 0 dX12_readsOther_66 rfl rfl ?_
    refine q_iconst C (4 : Int32) dX12_readsOther_67 rfl ?_
    refine q_aload_n C 0 dX12_readsOther_68 rfl rfl ?_
    refine q_bipush C (14 : Int32) dX12_readsOther_69 rfl ?_
    refine q_chk (fun h32 => ?_)
    refine q_cVI (As := (fun P => [.int (14 : Int32)])) C [.int (4 : Int32), .ref (q_P E + r0)] (sX12_after n r0 (14 : Int32)) fcX12_330 rfl (fun _ => rfl) ⟨Nat.le_of_ble_eq_true rfl, Nat.le_of_ble_eq_true rfl⟩ ⟨Nat.le_of_ble_eq_true rfl, Nat.le_of_ble_eq_true rfl⟩ (Nat.le_of_ble_eq_true rfl) dX12_readsOther_71 h32 (fun w30 X71_31 => ?_)
    refine q_chk (fun h35 => ?_)
    refine q_cVV (As := (fun P => [.int (4 : Int32), .int w30])) C [] (sX12_arg r0 (4 : Int32) w30) fcX12_333 rfl (fun _ => rfl) ⟨Nat.le_of_ble_eq_true rfl, Nat.le_of_ble_eq_true rfl⟩ ⟨Nat.le_of_ble_eq_true rfl, Nat.le_of_ble_eq_true rfl⟩ (Nat.le_of_ble_eq_true rfl) dX12_readsOther_74 h35 (fun _ X74_34 => ?_)
    refine q_aload_n C 0 dX12_readsOther_77 rfl rfl ?_
    refine q_iconst C (5 : Int32) dX12_readsOther_78 rfl ?_
    refine q_aload_n C 0 dX12_readsOther_79 rfl rfl ?_
    refine q_bipush C (15 : Int32) dX12_readsOther_80 rfl ?_
    refine q_chk (fun h38 => ?_)
    refine q_cVI (As := (fun P => [.int (15 : Int32)])) C [.int (5 : Int32), .ref (q_P E + r0)] (sX12_after n r0 (15 : Int32)) fcX12_330 rfl (fun _ => rfl) ⟨Nat.le_of_ble_eq_true rfl, Nat.le_of_ble_eq_true rfl⟩ ⟨Nat.le_of_ble_eq_true rfl, Nat.le_of_ble_eq_true rfl⟩ (Nat.le_of_ble_eq_true rfl) dX12_readsOther_82 h38 (fun w36 X82_37 => ?_)
    refine q_chk (fun h41 => ?_)
    refine q_cVV (As := (fun P => [.int (5 : Int32), .int w36])) C [] (sX12_arg r0 (5 : Int32) w36) fcX12_333 rfl (fun _ => rfl) ⟨Nat.le_of_ble_eq_true rfl, Nat.le_of_ble_eq_true rfl⟩ ⟨Nat.le_of_ble_eq_true rfl, Nat.le_of_ble_eq_true rfl⟩ (Nat.le_of_ble_eq_true rfl) dX12_readsOther_85 h41 (fun _ X85_40 => ?_)
    refine q_aload_n C 0 dX12_readsOther_88 rfl rfl ?_
    refine q_bipush C (6 : Int32) dX12_readsOther_89 rfl ?_
    refine q_aload_n C 0 dX12_readsOther_91 rfl rfl ?_
    refine q_bipush C (17 : Int32) dX12_readsOther_92 rfl ?_
    refine q_chk (fun h44 => ?_)
    refine q_cVI (As := (fun P => [.int (17 : Int32)])) C [.int (6 : Int32), .ref (q_P E + r0)] (sX12_after n r0 (17 : Int32)) fcX12_330 rfl (fun _ => rfl) ⟨Nat.le_of_ble_eq_true rfl, Nat.le_of_ble_eq_true rfl⟩ ⟨Nat.le_of_ble_eq_true rfl, Nat.le_of_ble_eq_true rfl⟩ (Nat.le_of_ble_eq_true rfl) dX12_readsOther_94 h44 (fun w42 X94_43 => ?_)
    refine q_chk (fun h47 => ?_)
    refine q_cVV (As := (fun P => [.int (6 : Int32), .int w42])) C [] (sX12_arg r0 (6 : Int32) w42) fcX12_333 rfl (fun _ => rfl) ⟨Nat.le_of_ble_eq_true rfl, Nat.le_of_ble_eq_true rfl⟩ ⟨Nat.le_of_ble_eq_true rfl, Nat.le_of_ble_eq_true rfl⟩ (Nat.le_of_ble_eq_true rfl) dX12_readsOther_97 h47 (fun _ X97_46 => ?_)
    exact q_vret C dX12_readsOther_100
  · refine q_aload_n C 0 dX12_readsOther_101 rfl rfl ?_
    refine q_iconst C (1 : Int32) dX12_readsOther_102 rfl ?_
    refine q_aload_n C 0 dX12_readsOther_103 rfl rfl ?_
    refine q_chk (fun h50 => ?_)
    refine q_cVI (As := (fun P => [])) C [.int (1 : Int32), .ref (q_P E + r0)] (sX12_n n r0) fcX12_297 rfl (fun _ => rfl) ⟨Nat.le_of_ble_eq_true rfl, Nat.le_of_ble_eq_true rfl⟩ ⟨Nat.le_of_ble_eq_true rfl, Nat.le_of_ble_eq_true rfl⟩ (Nat.le_of_ble_eq_true rfl) dX12_readsOther_104 h50 (fun w48 X104_49 => ?_)
    refine q_chk (fun h53 => ?_)
    refine q_cVV (As := (fun P => [.int (1 : Int32), .int w48])) C [] (sX12_arg r0 (1 : Int32) w48) fcX12_333 rfl (fun _ => rfl) ⟨Nat.le_of_ble_eq_true rfl, Nat.le_of_ble_eq_true rfl⟩ ⟨Nat.le_of_ble_eq_true rfl, Nat.le_of_ble_eq_true rfl⟩ (Nat.le_of_ble_eq_true rfl) dX12_readsOther_107 h53 (fun _ X107_52 => ?_)
    refine q_aload_n C 0 dX12_readsOther_110 rfl rfl ?_
    refine q_iconst C (2 : Int32) dX12_readsOther_111 rfl ?_
    refine q_aload_n C 0 dX12_readsOther_112 rfl rfl ?_
    refine q_bipush C (10 : Int32) dX12_readsOther_113 rfl ?_
    refine q_chk (fun h56 => ?_)
    refine q_cVI (As := (fun P => [.int (10 : Int32)])) C [.int (2 : Int32), .ref (q_P E + r0)] (sX12_after n r0 (10 : Int32)) fcX12_330 rfl (fun _ => rfl) ⟨Nat.le_of_ble_eq_true rfl, Nat.le_of_ble_eq_true rfl⟩ ⟨Nat.le_of_ble_eq_true rfl, Nat.le_of_ble_eq_true rfl⟩ (Nat.le_of_ble_eq_true rfl) dX12_readsOther_115 h56 (fun w54 X115_55 => ?_)
    refine q_chk (fun h59 => ?_)
    refine q_cVV (As := (fun P => [.int (2 : Int32), .int w54])) C [] (sX12_arg r0 (2 : Int32) w54) fcX12_333 rfl (fun _ => rfl) ⟨Nat.le_of_ble_eq_true rfl, Nat.le_of_ble_eq_true rfl⟩ ⟨Nat.le_of_ble_eq_true rfl, Nat.le_of_ble_eq_true rfl⟩ (Nat.le_of_ble_eq_true rfl) dX12_readsOther_118 h59 (fun _ X118_58 => ?_)
    refine q_iload_n C 1 dX12_readsOther_121 rfl rfl ?_
    refine q_bipush C (6 : Int32) dX12_readsOther_122 rfl ?_
    refine q_icmp_ne C 144 dX12_readsOther_124 (by decide) (fun _ => ?_) (fun _ => ?_)
    · refine q_aload_n C 0 dX12_readsOther_127 rfl rfl ?_
      refine q_iconst C (3 : Int32) dX12_readsOther_128 rfl ?_
      refine q_aload_n C 0 dX12_readsOther_129 rfl rfl ?_
      refine q_bipush C (15 : Int32) dX12_readsOther_130 rfl ?_
      refine q_chk (fun h62 => ?_)
      refine q_cVI (As := (fun P => [.int (15 : Int32)])) C [.int (3 : Int32), .ref (q_P E + r0)] (sX12_after n r0 (15 : Int32)) fcX12_330 rfl (fun _ => rfl) ⟨Nat.le_of_ble_eq_true rfl, Nat.le_of_ble_eq_true rfl⟩ ⟨Nat.le_of_ble_eq_true rfl, Nat.le_of_ble_eq_true rfl⟩ (Nat.le_of_ble_eq_true rfl) dX12_readsOther_132 h62 (fun w60 X132_61 => ?_)
      refine q_chk (fun h65 => ?_)
      refine q_cVV (As := (fun P => [.int (3 : Int32), .int w60])) C [] (sX12_arg r0 (3 : Int32) w60) fcX12_333 rfl (fun _ => rfl) ⟨Nat.le_of_ble_eq_true rfl, Nat.le_of_ble_eq_true rfl⟩ ⟨Nat.le_of_ble_eq_true rfl, Nat.le_of_ble_eq_true rfl⟩ (Nat.le_of_ble_eq_true rfl) dX12_readsOther_135 h65 (fun _ X135_64 => ?_)
      refine q_aload_n C 0 dX12_readsOther_138 rfl rfl ?_
      refine q_iconst C (4 : Int32) dX12_readsOther_139 rfl ?_
      refine q_chk (fun h68 => ?_)
      refine q_cVV (As := (fun P => [.int (4 : Int32)])) C [] (sX12_readsWhen n r0 (4 : Int32)) fcX12_336 rfl (fun _ => rfl) ⟨Nat.le_of_ble_eq_true rfl, Nat.le_of_ble_eq_true rfl⟩ ⟨Nat.le_of_ble_eq_true rfl, Nat.le_of_ble_eq_true rfl⟩ (Nat.le_of_ble_eq_true rfl) dX12_readsOther_140 h68 (fun _ X140_67 => ?_)
      exact q_vret C dX12_readsOther_143
    · refine q_aload_n C 0 dX12_readsOther_144 rfl rfl ?_
      refine q_iconst C (3 : Int32) dX12_readsOther_145 rfl ?_
      refine q_aload_n C 0 dX12_readsOther_146 rfl rfl ?_
      refine q_bipush C (11 : Int32) dX12_readsOther_147 rfl ?_
      refine q_chk (fun h71 => ?_)
      refine q_cVI (As := (fun P => [.int (11 : Int32)])) C [.int (3 : Int32), .ref (q_P E + r0)] (sX12_after n r0 (11 : Int32)) fcX12_330 rfl (fun _ => rfl) ⟨Nat.le_of_ble_eq_true rfl, Nat.le_of_ble_eq_true rfl⟩ ⟨Nat.le_of_ble_eq_true rfl, Nat.le_of_ble_eq_true rfl⟩ (Nat.le_of_ble_eq_true rfl) dX12_readsOther_149 h71 (fun w69 X149_70 => ?_)
      refine q_chk (fun h74 => ?_)
      refine q_cVV (As := (fun P => [.int (3 : Int32), .int w69])) C [] (sX12_arg r0 (3 : Int32) w69) fcX12_333 rfl (fun _ => rfl) ⟨Nat.le_of_ble_eq_true rfl, Nat.le_of_ble_eq_true rfl⟩ ⟨Nat.le_of_ble_eq_true rfl, Nat.le_of_ble_eq_true rfl⟩ (Nat.le_of_ble_eq_true rfl) dX12_readsOther_152 h74 (fun _ X152_73 => ?_)
      refine q_aload_n C 0 dX12_readsOther_155 rfl rfl ?_
      refine q_iconst C (4 : Int32) dX12_readsOther_156 rfl ?_
      refine q_aload_n C 0 dX12_readsOther_157 rfl rfl ?_
      refine q_bipush C (12 : Int32) dX12_readsOther_158 rfl ?_
      refine q_chk (fun h77 => ?_)
      refine q_cVI (As := (fun P => [.int (12 : Int32)])) C [.int (4 : Int32), .ref (q_P E + r0)] (sX12_after n r0 (12 : Int32)) fcX12_330 rfl (fun _ => rfl) ⟨Nat.le_of_ble_eq_true rfl, Nat.le_of_ble_eq_true rfl⟩ ⟨Nat.le_of_ble_eq_true rfl, Nat.le_of_ble_eq_true rfl⟩ (Nat.le_of_ble_eq_true rfl) dX12_readsOther_160 h77 (fun w75 X160_76 => ?_)
      refine q_chk (fun h80 => ?_)
      refine q_cVV (As := (fun P => [.int (4 : Int32), .int w75])) C [] (sX12_arg r0 (4 : Int32) w75) fcX12_333 rfl (fun _ => rfl) ⟨Nat.le_of_ble_eq_true rfl, Nat.le_of_ble_eq_true rfl⟩ ⟨Nat.le_of_ble_eq_true rfl, Nat.le_of_ble_eq_true rfl⟩ (Nat.le_of_ble_eq_true rfl) dX12_readsOther_163 h80 (fun _ X163_79 => ?_)
      refine q_aload_n C 0 dX12_readsOther_166 rfl rfl ?_
      refine q_iconst C (5 : Int32) dX12_readsOther_167 rfl ?_
      refine q_aload_n C 0 dX12_readsOther_168 rfl rfl ?_
      refine q_bipush C (13 : Int32) dX12_readsOther_169 rfl ?_
      refine q_chk (fun h83 => ?_)
      refine q_cVI (As := (fun P => [.int (13 : Int32)])) C [.int (5 : Int32), .ref (q_P E + r0)] (sX12_after n r0 (13 : Int32)) fcX12_330 rfl (fun _ => rfl) ⟨Nat.le_of_ble_eq_true rfl, Nat.le_of_ble_eq_true rfl⟩ ⟨Nat.le_of_ble_eq_true rfl, Nat.le_of_ble_eq_true rfl⟩ (Nat.le_of_ble_eq_true rfl) dX12_readsOther_171 h83 (fun w81 X171_82 => ?_)
      refine q_chk (fun h86 => ?_)
      refine q_cVV (As := (fun P => [.int (5 : Int32), .int w81])) C [] (sX12_arg r0 (5 : Int32) w81) fcX12_333 rfl (fun _ => rfl) ⟨Nat.le_of_ble_eq_true rfl, Nat.le_of_ble_eq_true rfl⟩ ⟨Nat.le_of_ble_eq_true rfl, Nat.le_of_ble_eq_true rfl⟩ (Nat.le_of_ble_eq_true rfl) dX12_readsOther_174 h86 (fun _ X174_85 => ?_)
      refine q_aload_n C 0 dX12_readsOther_177 rfl rfl ?_
      refine q_bipush C (6 : Int32) dX12_readsOther_178 rfl ?_
      refine q_chk (fun h89 => ?_)
      refine q_cVV (As := (fun P => [.int (6 : Int32)])) C [] (sX12_readsWhen n r0 (6 : Int32)) fcX12_336 rfl (fun _ => rfl) ⟨Nat.le_of_ble_eq_true rfl, Nat.le_of_ble_eq_true rfl⟩ ⟨Nat.le_of_ble_eq_true rfl, Nat.le_of_ble_eq_true rfl⟩ (Nat.le_of_ble_eq_true rfl) dX12_readsOther_180 h89 (fun _ X180_88 => ?_)
      exact q_vret C dX12_readsOther_183
/-! RecordClaimsModel.readsDeed()V -/
abbrev cX12_readsDeed : ByteArray := prog_14_method_70_code
def yX12_readsDeed : MethodName := ⟨RX12, "readsDeed", "()V"⟩
theorem dX12_readsDeed_0 : decode cX12_readsDeed 0 = .ok (.aload_n 0, 1) := by decide +kernel
theorem dX12_readsDeed_1 : decode cX12_readsDeed 1 = .ok (.invokevirtual 274, 3) := by decide +kernel
theorem dX12_readsDeed_4 : decode cX12_readsDeed 4 = .ok (.ifCond .eq 18, 3) := by decide +kernel
theorem dX12_readsDeed_7 : decode cX12_readsDeed 7 = .ok (.aload_n 0, 1) := by decide +kernel
theorem dX12_readsDeed_8 : decode cX12_readsDeed 8 = .ok (.getfield 253, 3) := by decide +kernel
theorem dX12_readsDeed_11 : decode cX12_readsDeed 11 = .ok (.iconst 1, 1) := by decide +kernel
theorem dX12_readsDeed_12 : decode cX12_readsDeed 12 = .ok (.if_icmp .ne 10, 3) := by decide +kernel
theorem dX12_readsDeed_15 : decode cX12_readsDeed 15 = .ok (.aload_n 0, 1) := by decide +kernel
theorem dX12_readsDeed_16 : decode cX12_readsDeed 16 = .ok (.getfield 244, 3) := by decide +kernel
theorem dX12_readsDeed_19 : decode cX12_readsDeed 19 = .ok (.goto 4, 3) := by decide +kernel
theorem dX12_readsDeed_22 : decode cX12_readsDeed 22 = .ok (.iconst (-1), 1) := by decide +kernel
theorem dX12_readsDeed_23 : decode cX12_readsDeed 23 = .ok (.istore_n 1, 1) := by decide +kernel
theorem dX12_readsDeed_24 : decode cX12_readsDeed 24 = .ok (.iload_n 1, 1) := by decide +kernel
theorem dX12_readsDeed_25 : decode cX12_readsDeed 25 = .ok (.iconst 3, 1) := by decide +kernel
theorem dX12_readsDeed_26 : decode cX12_readsDeed 26 = .ok (.if_icmp .lt 20, 3) := by decide +kernel
theorem dX12_readsDeed_29 : decode cX12_readsDeed 29 = .ok (.iload_n 1, 1) := by decide +kernel
theorem dX12_readsDeed_30 : decode cX12_readsDeed 30 = .ok (.iconst 4, 1) := by decide +kernel
theorem dX12_readsDeed_31 : decode cX12_readsDeed 31 = .ok (.if_icmp .eq 15, 3) := by decide +kernel
theorem dX12_readsDeed_34 : decode cX12_readsDeed 34 = .ok (.iload_n 1, 1) := by decide +kernel
theorem dX12_readsDeed_35 : decode cX12_readsDeed 35 = .ok (.bipush 8, 2) := by decide +kernel
theorem dX12_readsDeed_37 : decode cX12_readsDeed 37 = .ok (.if_icmp .le 14, 3) := by decide +kernel
theorem dX12_readsDeed_40 : decode cX12_readsDeed 40 = .ok (.iload_n 1, 1) := by decide +kernel
theorem dX12_readsDeed_41 : decode cX12_readsDeed 41 = .ok (.bipush 19, 2) := by decide +kernel
theorem dX12_readsDeed_43 : decode cX12_readsDeed 43 = .ok (.if_icmp .ge 8, 3) := by decide +kernel
theorem dX12_readsDeed_46 : decode cX12_readsDeed 46 = .ok (.aload_n 0, 1) := by decide +kernel
theorem dX12_readsDeed_47 : decode cX12_readsDeed 47 = .ok (.iconst 1, 1) := by decide +kernel
theorem dX12_readsDeed_48 : decode cX12_readsDeed 48 = .ok (.invokevirtual 284, 3) := by decide +kernel
theorem dX12_readsDeed_51 : decode cX12_readsDeed 51 = .ok (.aload_n 0, 1) := by decide +kernel
theorem dX12_readsDeed_52 : decode cX12_readsDeed 52 = .ok (.invokevirtual 274, 3) := by decide +kernel
theorem dX12_readsDeed_55 : decode cX12_readsDeed 55 = .ok (.ifCond .ne 4, 3) := by decide +kernel
theorem dX12_readsDeed_58 : decode cX12_readsDeed 58 = .ok (.return_, 1) := by decide +kernel
theorem dX12_readsDeed_59 : decode cX12_readsDeed 59 = .ok (.aload_n 0, 1) := by decide +kernel
theorem dX12_readsDeed_60 : decode cX12_readsDeed 60 = .ok (.invokevirtual 228, 3) := by decide +kernel
theorem dX12_readsDeed_63 : decode cX12_readsDeed 63 = .ok (.aload_n 0, 1) := by decide +kernel
theorem dX12_readsDeed_64 : decode cX12_readsDeed 64 = .ok (.getfield 51, 3) := by decide +kernel
theorem dX12_readsDeed_67 : decode cX12_readsDeed 67 = .ok (.aload_n 0, 1) := by decide +kernel
theorem dX12_readsDeed_68 : decode cX12_readsDeed 68 = .ok (.getfield 327, 3) := by decide +kernel
theorem dX12_readsDeed_71 : decode cX12_readsDeed 71 = .ok (.iload_n 1, 1) := by decide +kernel
theorem dX12_readsDeed_72 : decode cX12_readsDeed 72 = .ok (.iastore, 1) := by decide +kernel
theorem dX12_readsDeed_73 : decode cX12_readsDeed 73 = .ok (.iload_n 1, 1) := by decide +kernel
theorem dX12_readsDeed_74 : decode cX12_readsDeed 74 = .ok (.lookupswitch 228 #[(3, 42), (5, 135), (19, 169), (20, 216)], 42) := by decide +kernel
theorem dX12_readsDeed_116 : decode cX12_readsDeed 116 = .ok (.aload_n 0, 1) := by decide +kernel
theorem dX12_readsDeed_117 : decode cX12_readsDeed 117 = .ok (.iconst 0, 1) := by decide +kernel
theorem dX12_readsDeed_118 : decode cX12_readsDeed 118 = .ok (.aload_n 0, 1) := by decide +kernel
theorem dX12_readsDeed_119 : decode cX12_readsDeed 119 = .ok (.aload_n 0, 1) := by decide +kernel
theorem dX12_readsDeed_120 : decode cX12_readsDeed 120 = .ok (.getfield 24, 3) := by decide +kernel
theorem dX12_readsDeed_123 : decode cX12_readsDeed 123 = .ok (.aload_n 0, 1) := by decide +kernel
theorem dX12_readsDeed_124 : decode cX12_readsDeed 124 = .ok (.getfield 77, 3) := by decide +kernel
theorem dX12_readsDeed_127 : decode cX12_readsDeed 127 = .ok (.invokevirtual 306, 3) := by decide +kernel
theorem dX12_readsDeed_130 : decode cX12_readsDeed 130 = .ok (.invokevirtual 333, 3) := by decide +kernel
theorem dX12_readsDeed_133 : decode cX12_readsDeed 133 = .ok (.aload_n 0, 1) := by decide +kernel
theorem dX12_readsDeed_134 : decode cX12_readsDeed 134 = .ok (.iconst 1, 1) := by decide +kernel
theorem dX12_readsDeed_135 : decode cX12_readsDeed 135 = .ok (.aload_n 0, 1) := by decide +kernel
theorem dX12_readsDeed_136 : decode cX12_readsDeed 136 = .ok (.aload_n 0, 1) := by decide +kernel
theorem dX12_readsDeed_137 : decode cX12_readsDeed 137 = .ok (.getfield 24, 3) := by decide +kernel
theorem dX12_readsDeed_140 : decode cX12_readsDeed 140 = .ok (.aload_n 0, 1) := by decide +kernel
theorem dX12_readsDeed_141 : decode cX12_readsDeed 141 = .ok (.getfield 77, 3) := by decide +kernel
theorem dX12_readsDeed_144 : decode cX12_readsDeed 144 = .ok (.invokevirtual 306, 3) := by decide +kernel
theorem dX12_readsDeed_147 : decode cX12_readsDeed 147 = .ok (.invokevirtual 333, 3) := by decide +kernel
theorem dX12_readsDeed_150 : decode cX12_readsDeed 150 = .ok (.aload_n 0, 1) := by decide +kernel
theorem dX12_readsDeed_151 : decode cX12_readsDeed 151 = .ok (.iconst 2, 1) := by decide +kernel
theorem dX12_readsDeed_152 : decode cX12_readsDeed 152 = .ok (.aload_n 0, 1) := by decide +kernel
theorem dX12_readsDeed_153 : decode cX12_readsDeed 153 = .ok (.aload_n 0, 1) := by decide +kernel
theorem dX12_readsDeed_154 : decode cX12_readsDeed 154 = .ok (.getfield 27, 3) := by decide +kernel
theorem dX12_readsDeed_157 : decode cX12_readsDeed 157 = .ok (.aload_n 0, 1) := by decide +kernel
theorem dX12_readsDeed_158 : decode cX12_readsDeed 158 = .ok (.getfield 84, 3) := by decide +kernel
theorem dX12_readsDeed_161 : decode cX12_readsDeed 161 = .ok (.invokevirtual 306, 3) := by decide +kernel
theorem dX12_readsDeed_164 : decode cX12_readsDeed 164 = .ok (.invokevirtual 333, 3) := by decide +kernel
theorem dX12_readsDeed_167 : decode cX12_readsDeed 167 = .ok (.aload_n 0, 1) := by decide +kernel
theorem dX12_readsDeed_168 : decode cX12_readsDeed 168 = .ok (.iconst 3, 1) := by decide +kernel
theorem dX12_readsDeed_169 : decode cX12_readsDeed 169 = .ok (.aload_n 0, 1) := by decide +kernel
theorem dX12_readsDeed_170 : decode cX12_readsDeed 170 = .ok (.invokevirtual 297, 3) := by decide +kernel
theorem dX12_readsDeed_173 : decode cX12_readsDeed 173 = .ok (.invokevirtual 333, 3) := by decide +kernel
theorem dX12_readsDeed_176 : decode cX12_readsDeed 176 = .ok (.aload_n 0, 1) := by decide +kernel
theorem dX12_readsDeed_177 : decode cX12_readsDeed 177 = .ok (.iconst 4, 1) := by decide +kernel
theorem dX12_readsDeed_178 : decode cX12_readsDeed 178 = .ok (.aload_n 0, 1) := by decide +kernel
theorem dX12_readsDeed_179 : decode cX12_readsDeed 179 = .ok (.invokevirtual 297, 3) := by decide +kernel
theorem dX12_readsDeed_182 : decode cX12_readsDeed 182 = .ok (.invokevirtual 333, 3) := by decide +kernel
theorem dX12_readsDeed_185 : decode cX12_readsDeed 185 = .ok (.aload_n 0, 1) := by decide +kernel
theorem dX12_readsDeed_186 : decode cX12_readsDeed 186 = .ok (.iconst 5, 1) := by decide +kernel
theorem dX12_readsDeed_187 : decode cX12_readsDeed 187 = .ok (.aload_n 0, 1) := by decide +kernel
theorem dX12_readsDeed_188 : decode cX12_readsDeed 188 = .ok (.iconst 4, 1) := by decide +kernel
theorem dX12_readsDeed_189 : decode cX12_readsDeed 189 = .ok (.invokevirtual 281, 3) := by decide +kernel
theorem dX12_readsDeed_192 : decode cX12_readsDeed 192 = .ok (.ifCond .eq 10, 3) := by decide +kernel
theorem dX12_readsDeed_195 : decode cX12_readsDeed 195 = .ok (.aload_n 0, 1) := by decide +kernel
theorem dX12_readsDeed_196 : decode cX12_readsDeed 196 = .ok (.invokevirtual 297, 3) := by decide +kernel
theorem dX12_readsDeed_199 : decode cX12_readsDeed 199 = .ok (.goto 4, 3) := by decide +kernel
theorem dX12_readsDeed_202 : decode cX12_readsDeed 202 = .ok (.iconst 2, 1) := by decide +kernel
theorem dX12_readsDeed_203 : decode cX12_readsDeed 203 = .ok (.invokevirtual 333, 3) := by decide +kernel
theorem dX12_readsDeed_206 : decode cX12_readsDeed 206 = .ok (.goto 101, 3) := by decide +kernel
theorem dX12_readsDeed_209 : decode cX12_readsDeed 209 = .ok (.aload_n 0, 1) := by decide +kernel
theorem dX12_readsDeed_210 : decode cX12_readsDeed 210 = .ok (.iconst 0, 1) := by decide +kernel
theorem dX12_readsDeed_211 : decode cX12_readsDeed 211 = .ok (.aload_n 0, 1) := by decide +kernel
theorem dX12_readsDeed_212 : decode cX12_readsDeed 212 = .ok (.aload_n 0, 1) := by decide +kernel
theorem dX12_readsDeed_213 : decode cX12_readsDeed 213 = .ok (.getfield 27, 3) := by decide +kernel
theorem dX12_readsDeed_216 : decode cX12_readsDeed 216 = .ok (.aload_n 0, 1) := by decide +kernel
theorem dX12_readsDeed_217 : decode cX12_readsDeed 217 = .ok (.getfield 84, 3) := by decide +kernel
theorem dX12_readsDeed_220 : decode cX12_readsDeed 220 = .ok (.invokevirtual 306, 3) := by decide +kernel
theorem dX12_readsDeed_223 : decode cX12_readsDeed 223 = .ok (.invokevirtual 333, 3) := by decide +kernel
theorem dX12_readsDeed_226 : decode cX12_readsDeed 226 = .ok (.aload_n 0, 1) := by decide +kernel
theorem dX12_readsDeed_227 : decode cX12_readsDeed 227 = .ok (.iconst 1, 1) := by decide +kernel
theorem dX12_readsDeed_228 : decode cX12_readsDeed 228 = .ok (.aload_n 0, 1) := by decide +kernel
theorem dX12_readsDeed_229 : decode cX12_readsDeed 229 = .ok (.invokevirtual 297, 3) := by decide +kernel
theorem dX12_readsDeed_232 : decode cX12_readsDeed 232 = .ok (.invokevirtual 333, 3) := by decide +kernel
theorem dX12_readsDeed_235 : decode cX12_readsDeed 235 = .ok (.aload_n 0, 1) := by decide +kernel
theorem dX12_readsDeed_236 : decode cX12_readsDeed 236 = .ok (.iconst 2, 1) := by decide +kernel
theorem dX12_readsDeed_237 : decode cX12_readsDeed 237 = .ok (.invokevirtual 336, 3) := by decide +kernel
theorem dX12_readsDeed_240 : decode cX12_readsDeed 240 = .ok (.goto 67, 3) := by decide +kernel
theorem dX12_readsDeed_243 : decode cX12_readsDeed 243 = .ok (.aload_n 0, 1) := by decide +kernel
theorem dX12_readsDeed_244 : decode cX12_readsDeed 244 = .ok (.iconst 0, 1) := by decide +kernel
theorem dX12_readsDeed_245 : decode cX12_readsDeed 245 = .ok (.aload_n 0, 1) := by decide +kernel
theorem dX12_readsDeed_246 : decode cX12_readsDeed 246 = .ok (.invokevirtual 297, 3) := by decide +kernel
theorem dX12_readsDeed_249 : decode cX12_readsDeed 249 = .ok (.invokevirtual 333, 3) := by decide +kernel
theorem dX12_readsDeed_252 : decode cX12_readsDeed 252 = .ok (.aload_n 0, 1) := by decide +kernel
theorem dX12_readsDeed_253 : decode cX12_readsDeed 253 = .ok (.iconst 1, 1) := by decide +kernel
theorem dX12_readsDeed_254 : decode cX12_readsDeed 254 = .ok (.aload_n 0, 1) := by decide +kernel
theorem dX12_readsDeed_255 : decode cX12_readsDeed 255 = .ok (.aload_n 0, 1) := by decide +kernel
theorem dX12_readsDeed_256 : decode cX12_readsDeed 256 = .ok (.getfield 24, 3) := by decide +kernel
theorem dX12_readsDeed_259 : decode cX12_readsDeed 259 = .ok (.aload_n 0, 1) := by decide +kernel
theorem dX12_readsDeed_260 : decode cX12_readsDeed 260 = .ok (.getfield 77, 3) := by decide +kernel
theorem dX12_readsDeed_263 : decode cX12_readsDeed 263 = .ok (.invokevirtual 306, 3) := by decide +kernel
theorem dX12_readsDeed_266 : decode cX12_readsDeed 266 = .ok (.invokevirtual 333, 3) := by decide +kernel
theorem dX12_readsDeed_269 : decode cX12_readsDeed 269 = .ok (.aload_n 0, 1) := by decide +kernel
theorem dX12_readsDeed_270 : decode cX12_readsDeed 270 = .ok (.iconst 2, 1) := by decide +kernel
theorem dX12_readsDeed_271 : decode cX12_readsDeed 271 = .ok (.aload_n 0, 1) := by decide +kernel
theorem dX12_readsDeed_272 : decode cX12_readsDeed 272 = .ok (.invokevirtual 297, 3) := by decide +kernel
theorem dX12_readsDeed_275 : decode cX12_readsDeed 275 = .ok (.invokevirtual 333, 3) := by decide +kernel
theorem dX12_readsDeed_278 : decode cX12_readsDeed 278 = .ok (.aload_n 0, 1) := by decide +kernel
theorem dX12_readsDeed_279 : decode cX12_readsDeed 279 = .ok (.iconst 3, 1) := by decide +kernel
theorem dX12_readsDeed_280 : decode cX12_readsDeed 280 = .ok (.aload_n 0, 1) := by decide +kernel
theorem dX12_readsDeed_281 : decode cX12_readsDeed 281 = .ok (.invokevirtual 297, 3) := by decide +kernel
theorem dX12_readsDeed_284 : decode cX12_readsDeed 284 = .ok (.invokevirtual 333, 3) := by decide +kernel
theorem dX12_readsDeed_287 : decode cX12_readsDeed 287 = .ok (.goto 20, 3) := by decide +kernel
theorem dX12_readsDeed_290 : decode cX12_readsDeed 290 = .ok (.aload_n 0, 1) := by decide +kernel
theorem dX12_readsDeed_291 : decode cX12_readsDeed 291 = .ok (.iconst 0, 1) := by decide +kernel
theorem dX12_readsDeed_292 : decode cX12_readsDeed 292 = .ok (.aload_n 0, 1) := by decide +kernel
theorem dX12_readsDeed_293 : decode cX12_readsDeed 293 = .ok (.invokevirtual 297, 3) := by decide +kernel
theorem dX12_readsDeed_296 : decode cX12_readsDeed 296 = .ok (.invokevirtual 333, 3) := by decide +kernel
theorem dX12_readsDeed_299 : decode cX12_readsDeed 299 = .ok (.goto 8, 3) := by decide +kernel
theorem dX12_readsDeed_302 : decode cX12_readsDeed 302 = .ok (.aload_n 0, 1) := by decide +kernel
theorem dX12_readsDeed_303 : decode cX12_readsDeed 303 = .ok (.iload_n 1, 1) := by decide +kernel
theorem dX12_readsDeed_304 : decode cX12_readsDeed 304 = .ok (.invokevirtual 339, 3) := by decide +kernel
theorem dX12_readsDeed_307 : decode cX12_readsDeed 307 = .ok (.aload_n 0, 1) := by decide +kernel
theorem dX12_readsDeed_308 : decode cX12_readsDeed 308 = .ok (.invokevirtual 274, 3) := by decide +kernel
theorem dX12_readsDeed_311 : decode cX12_readsDeed 311 = .ok (.ifCond .eq 13, 3) := by decide +kernel
theorem dX12_readsDeed_314 : decode cX12_readsDeed 314 = .ok (.aload_n 0, 1) := by decide +kernel
theorem dX12_readsDeed_315 : decode cX12_readsDeed 315 = .ok (.aload_n 0, 1) := by decide +kernel
theorem dX12_readsDeed_316 : decode cX12_readsDeed 316 = .ok (.getfield 327, 3) := by decide +kernel
theorem dX12_readsDeed_319 : decode cX12_readsDeed 319 = .ok (.iconst 1, 1) := by decide +kernel
theorem dX12_readsDeed_320 : decode cX12_readsDeed 320 = .ok (.iadd, 1) := by decide +kernel
theorem dX12_readsDeed_321 : decode cX12_readsDeed 321 = .ok (.putfield 327, 3) := by decide +kernel
theorem dX12_readsDeed_324 : decode cX12_readsDeed 324 = .ok (.return_, 1) := by decide +kernel
theorem fgX12_51 : q_Fg RX12 51 12 29 := q_Fg.of (C := RX12) (T := TX12) (N := 35) rfl (by decide) inX12 1280 (by decide +kernel) rfl rfl
theorem fpX12_327 : q_Fp RX12 327 12 31 .int false := ⟨RX12, TX12, 35, tyX12, rfl, by decide, inX12, q_tb 1282 (by decide +kernel) rfl, tyX12_ok, nmX12, rfl, rfl, fun h => by first | rfl | cases h⟩
theorem fcX12_339 : q_LV RX12 339 yX12_readsOther cX12_readsOther 2 none 1 12 := ⟨q_tb 1479 (by decide +kernel) rfl, q_tb 1481 (by decide +kernel) rfl, q_tbs (q := (yX12_readsOther, 35)) 75 (by decide +kernel) rfl, q_tb 13 (by decide +kernel) rfl, q_tb 1482 (by decide +kernel) rfl, ⟨by decide +kernel, by decide +kernel, by decide +kernel⟩, TX12, 35, rfl⟩
def fX12_readsDeed_L307 (n : Nat) (r0 : Nat) (X : Mm) : Option (Unit × Mm) :=
if mT X r0 = 12 then
bd (fX12_fine r0 X) fun w57 X308_58 =>
if w57 = 0 then (
some ((), X308_58)
) else (
if mT X308_58 r0 = 12 then
nm (sI X308_58 r0 31 ((mI X308_58 r0 31) + (1 : Int32))) fun X321_61 =>
some ((), X321_61)
else none
)
else none
def fX12_readsDeed_L203 (n : Nat) (r0 : Nat) (s0 : Int32) (s1 : Int32) (rs2 : Nat) (X : Mm) : Option (Unit × Mm) :=
if mT X rs2 = 12 then
bd (fX12_arg rs2 s1 s0 X) fun _ X203_55 =>
fX12_readsDeed_L307 n r0 X203_55
else none
def fX12_readsDeed_L51 (n : Nat) (r0 : Nat) (v1 : Int32) (X : Mm) : Option (Unit × Mm) :=
if mT X r0 = 12 then
bd (fX12_fine r0 X) fun w7 X52_8 =>
if w7 = 0 then (
some ((), X52_8)
) else (
if mT X52_8 r0 = 12 then
bd (fX12_next n r0 X52_8) fun _ X60_11 =>
if mT X60_11 r0 = 12 then
if mR X60_11 r0 29 ≠ 0 then
if mT X60_11 (mR X60_11 r0 29) = 14 then
if q_b X60_11 (mR X60_11 r0 29) (mI X60_11 r0 31) then
nm (sI X60_11 (mR X60_11 r0 29) ((mI X60_11 r0 31)).toNatClampNeg v1) fun X72_15 =>
if v1 = (3 : Int32) then (
if mT X72_15 r0 = 12 then
if mR X72_15 r0 8 ≠ 0 then
bd (fX12_known n r0 ((mR X72_15 r0 8)) ((mI X72_15 r0 6)) X72_15) fun w20 X127_21 =>
if mT X127_21 r0 = 12 then
bd (fX12_arg r0 (0 : Int32) w20 X127_21) fun _ X130_23 =>
if mT X130_23 r0 = 12 then
if mR X130_23 r0 8 ≠ 0 then
bd (fX12_known n r0 ((mR X130_23 r0 8)) ((mI X130_23 r0 6)) X130_23) fun w27 X144_28 =>
if mT X144_28 r0 = 12 then
bd (fX12_arg r0 (1 : Int32) w27 X144_28) fun _ X147_30 =>
if mT X147_30 r0 = 12 then
if mR X147_30 r0 9 ≠ 0 then
bd (fX12_known n r0 ((mR X147_30 r0 9)) ((mI X147_30 r0 7)) X147_30) fun w34 X161_35 =>
if mT X161_35 r0 = 12 then
bd (fX12_arg r0 (2 : Int32) w34 X161_35) fun _ X164_37 =>
if mT X164_37 r0 = 12 then
bd (fX12_n n r0 X164_37) fun w39 X170_40 =>
if mT X170_40 r0 = 12 then
bd (fX12_arg r0 (3 : Int32) w39 X170_40) fun _ X173_43 =>
if mT X173_43 r0 = 12 then
bd (fX12_n n r0 X173_43) fun w45 X179_46 =>
if mT X179_46 r0 = 12 then
bd (fX12_arg r0 (4 : Int32) w45 X179_46) fun _ X182_49 =>
if mT X182_49 r0 = 12 then
bd (fX12_passesWord n r0 (4 : Int32) X182_49) fun w51 X189_52 =>
if w51 = 0 then (
fX12_readsDeed_L203 n r0 (2 : Int32) (5 : Int32) r0 X189_52
) else (
if mT X189_52 r0 = 12 then
bd (fX12_n n r0 X189_52) fun w62 X196_63 =>
fX12_readsDeed_L203 n r0 w62 (5 : Int32) r0 X196_63
else none
)
else none
else none
else none
else none
else none
else none
else none
else none
else none
else none
else none
else none
else none
else none
) else (
if v1 = (5 : Int32) then (
if mT X72_15 r0 = 12 then
if mR X72_15 r0 9 ≠ 0 then
bd (fX12_known n r0 ((mR X72_15 r0 9)) ((mI X72_15 r0 7)) X72_15) fun w67 X220_68 =>
if mT X220_68 r0 = 12 then
bd (fX12_arg r0 (0 : Int32) w67 X220_68) fun _ X223_70 =>
if mT X223_70 r0 = 12 then
bd (fX12_n n r0 X223_70) fun w72 X229_73 =>
if mT X229_73 r0 = 12 then
bd (fX12_arg r0 (1 : Int32) w72 X229_73) fun _ X232_76 =>
if mT X232_76 r0 = 12 then
bd (fX12_readsWhen n r0 (2 : Int32) X232_76) fun _ X237_79 =>
fX12_readsDeed_L307 n r0 X237_79
else none
else none
else none
else none
else none
else none
) else (
if v1 = (19 : Int32) then (
if mT X72_15 r0 = 12 then
bd (fX12_n n r0 X72_15) fun w81 X246_82 =>
if mT X246_82 r0 = 12 then
bd (fX12_arg r0 (0 : Int32) w81 X246_82) fun _ X249_85 =>
if mT X249_85 r0 = 12 then
if mR X249_85 r0 8 ≠ 0 then
bd (fX12_known n r0 ((mR X249_85 r0 8)) ((mI X249_85 r0 6)) X249_85) fun w89 X263_90 =>
if mT X263_90 r0 = 12 then
bd (fX12_arg r0 (1 : Int32) w89 X263_90) fun _ X266_92 =>
if mT X266_92 r0 = 12 then
bd (fX12_n n r0 X266_92) fun w94 X272_95 =>
if mT X272_95 r0 = 12 then
bd (fX12_arg r0 (2 : Int32) w94 X272_95) fun _ X275_98 =>
if mT X275_98 r0 = 12 then
bd (fX12_n n r0 X275_98) fun w100 X281_101 =>
if mT X281_101 r0 = 12 then
bd (fX12_arg r0 (3 : Int32) w100 X281_101) fun _ X284_104 =>
fX12_readsDeed_L307 n r0 X284_104
else none
else none
else none
else none
else none
else none
else none
else none
else none
) else (
if v1 = (20 : Int32) then (
if mT X72_15 r0 = 12 then
bd (fX12_n n r0 X72_15) fun w106 X293_107 =>
if mT X293_107 r0 = 12 then
bd (fX12_arg r0 (0 : Int32) w106 X293_107) fun _ X296_110 =>
fX12_readsDeed_L307 n r0 X296_110
else none
else none
) else (
if mT X72_15 r0 = 12 then
bd (fX12_readsOther n r0 v1 X72_15) fun _ X304_113 =>
fX12_readsDeed_L307 n r0 X304_113
else none
)
)
)
)
else none
else none
else none
else none
else none
)
else none
def fX12_readsDeed_L46 (n : Nat) (r0 : Nat) (v1 : Int32) (X : Mm) : Option (Unit × Mm) :=
if mT X r0 = 12 then
bd (fX12_faulty r0 (1 : Int32) X) fun _ X48_5 =>
fX12_readsDeed_L51 n r0 v1 X48_5
else none
def fX12_readsDeed_L23 (n : Nat) (r0 : Nat) (s0 : Int32) (X : Mm) : Option (Unit × Mm) :=
if s0 < (3 : Int32) then (
fX12_readsDeed_L46 n r0 s0 X
) else (
if s0 = (4 : Int32) then (
fX12_readsDeed_L46 n r0 s0 X
) else (
if s0 ≤ (8 : Int32) then (
fX12_readsDeed_L51 n r0 s0 X
) else (
if (19 : Int32) ≤ s0 then (
fX12_readsDeed_L51 n r0 s0 X
) else (
fX12_readsDeed_L46 n r0 s0 X
)
)
)
)
def fX12_readsDeed_L22 (n : Nat) (r0 : Nat) (X : Mm) : Option (Unit × Mm) :=
fX12_readsDeed_L23 n r0 (-1 : Int32) X
def fX12_readsDeed (n : Nat) (r0 : Nat) (X : Mm) : Option (Unit × Mm) :=
if mT X r0 = 12 then
bd (fX12_fine r0 X) fun w1 X1_2 =>
if w1 = 0 then (
fX12_readsDeed_L22 n r0 X1_2
) else (
if mT X1_2 r0 = 12 then
if (mI X1_2 r0 16) = (1 : Int32) then (
fX12_readsDeed_L23 n r0 ((mI X1_2 r0 20)) X1_2
) else (
fX12_readsDeed_L22 n r0 X1_2
)
else none
)
else none
theorem gX12_readsDeed_L307 {E : q_E} {X0 : Mm} (C : Cx E cX12_readsDeed RX12 2 none (q_rm 8 173 0 0) X0) (n : Nat) (r0 : Nat) (X : Mm) : Sm E (q_fin E q_eV X0 0 0) 0 0 307 [(0, .ref (q_P E + r0))] [] X (fX12_readsDeed_L307 n r0 X) := by
  unfold fX12_readsDeed_L307
  refine q_aload_n C 0 dX12_readsDeed_307 rfl rfl ?_
  refine q_chk (fun h59 => ?_)
  refine q_cVI (As := (fun P => [])) C [] (sX12_fine r0) fcX12_274 rfl (fun _ => rfl) ⟨Nat.le_of_ble_eq_true rfl, Nat.le_of_ble_eq_true rfl⟩ ⟨Nat.le_of_ble_eq_true rfl, Nat.le_of_ble_eq_true rfl⟩ (Nat.le_of_ble_eq_true rfl) dX12_readsDeed_308 h59 (fun w57 X308_58 => ?_)
  refine q_if_eq C 324 dX12_readsDeed_311 (by decide) (fun _ => ?_) (fun _ => ?_)
  · exact q_vret C dX12_readsDeed_324
  · refine q_aload_n C 0 dX12_readsDeed_314 rfl rfl ?_
    refine q_aload_n C 0 dX12_readsDeed_315 rfl rfl ?_
    refine q_chk (fun h60 => ?_)
    refine p_getI C fgX12_327 rfl dX12_readsDeed_316 h60 ?_
    refine q_iconst C (1 : Int32) dX12_readsDeed_319 rfl ?_
    refine q_iadd C dX12_readsDeed_320 ?_
    refine p_putI C fpX12_327 rfl dX12_readsDeed_321 h60 ?_
    refine q_nmX (fun X321_61 => ?_)
    exact q_vret C dX12_readsDeed_324
theorem gX12_readsDeed_L203 {E : q_E} {X0 : Mm} (C : Cx E cX12_readsDeed RX12 2 none (q_rm 8 173 0 0) X0) (n : Nat) (r0 : Nat) (s0 : Int32) (s1 : Int32) (rs2 : Nat) (X : Mm) : Sm E (q_fin E q_eV X0 0 0) 0 0 203 [(0, .ref (q_P E + r0))] [.int s0, .int s1, .ref (q_P E + rs2)] X (fX12_readsDeed_L203 n r0 s0 s1 rs2 X) := by
  unfold fX12_readsDeed_L203
  refine q_chk (fun h56 => ?_)
  refine q_cVV (As := (fun P => [.int s1, .int s0])) C [] (sX12_arg rs2 s1 s0) fcX12_333 rfl (fun _ => rfl) ⟨Nat.le_of_ble_eq_true rfl, Nat.le_of_ble_eq_true rfl⟩ ⟨Nat.le_of_ble_eq_true rfl, Nat.le_of_ble_eq_true rfl⟩ (Nat.le_of_ble_eq_true rfl) dX12_readsDeed_203 h56 (fun _ X203_55 => ?_)
  refine q_goto C 307 dX12_readsDeed_206 (by decide) ?_
  exact gX12_readsDeed_L307 C n r0 X203_55
theorem gX12_readsDeed_L51 {E : q_E} {X0 : Mm} (C : Cx E cX12_readsDeed RX12 2 none (q_rm 8 173 0 0) X0) (n : Nat) (r0 : Nat) (v1 : Int32) (X : Mm) : Sm E (q_fin E q_eV X0 0 0) 0 0 51 [(0, .ref (q_P E + r0)), (1, .int v1)] [] X (fX12_readsDeed_L51 n r0 v1 X) := by
  unfold fX12_readsDeed_L51
  refine q_aload_n C 0 dX12_readsDeed_51 rfl rfl ?_
  refine q_chk (fun h9 => ?_)
  refine q_cVI (As := (fun P => [])) C [] (sX12_fine r0) fcX12_274 rfl (fun _ => rfl) ⟨Nat.le_of_ble_eq_true rfl, Nat.le_of_ble_eq_true rfl⟩ ⟨Nat.le_of_ble_eq_true rfl, Nat.le_of_ble_eq_true rfl⟩ (Nat.le_of_ble_eq_true rfl) dX12_readsDeed_52 h9 (fun w7 X52_8 => ?_)
  refine q_if_ne C 59 dX12_readsDeed_55 (by decide) (fun _ => ?_) (fun _ => ?_)
  · exact q_vret C dX12_readsDeed_58
  · refine q_aload_n C 0 dX12_readsDeed_59 rfl rfl ?_
    refine q_chk (fun h12 => ?_)
    refine q_cVV (As := (fun P => [])) C [] (sX12_next n r0) fcX12_228 rfl (fun _ => rfl) ⟨Nat.le_of_ble_eq_true rfl, Nat.le_of_ble_eq_true rfl⟩ ⟨Nat.le_of_ble_eq_true rfl, Nat.le_of_ble_eq_true rfl⟩ (Nat.le_of_ble_eq_true rfl) dX12_readsDeed_60 h12 (fun _ X60_11 => ?_)
    refine q_aload_n C 0 dX12_readsDeed_63 rfl rfl ?_
    refine q_chk (fun h13 => ?_)
    refine q_chk (fun h14 => ?_)
    refine p_getR C fgX12_51 rfl dX12_readsDeed_64 h13 h14 ?_
    refine q_aload_n C 0 dX12_readsDeed_67 rfl rfl ?_
    refine p_getI C fgX12_327 rfl dX12_readsDeed_68 h13 ?_
    refine q_iload_n C 1 dX12_readsDeed_71 rfl rfl ?_
    refine q_chk (fun h16 => ?_)
    refine q_chk (fun h17 => ?_)
    refine p_iast C dX12_readsDeed_72 h16 h17 ?_
    refine q_nmX (fun X72_15 => ?_)
    refine q_iload_n C 1 dX12_readsDeed_73 rfl rfl ?_
    refine q_ite (fun e3 => ?_) (fun e3 => ?_)
    · refine q_lookup C (off := 42) 116 dX12_readsDeed_74 (by decide) (by rw [e3]; rfl) (by decide) ?_
      refine q_aload_n C 0 dX12_readsDeed_116 rfl rfl ?_
      refine q_iconst C (0 : Int32) dX12_readsDeed_117 rfl ?_
      refine q_aload_n C 0 dX12_readsDeed_118 rfl rfl ?_
      refine q_aload_n C 0 dX12_readsDeed_119 rfl rfl ?_
      refine q_chk (fun h18 => ?_)
      refine q_chk (fun h19 => ?_)
      refine p_getR C fgX12_24 rfl dX12_readsDeed_120 h18 h19 ?_
      refine q_aload_n C 0 dX12_readsDeed_123 rfl rfl ?_
      refine p_getI C fgX12_77 rfl dX12_readsDeed_124 h18 ?_
      refine q_cVI (As := (fun P => [.ref (P + (mR X72_15 r0 8)), .int (mI X72_15 r0 6)])) C [.int (0 : Int32), .ref (q_P E + r0)] (sX12_known n r0 ((mR X72_15 r0 8)) ((mI X72_15 r0 6))) fcX12_306 rfl (fun _ => rfl) ⟨Nat.le_of_ble_eq_true rfl, Nat.le_of_ble_eq_true rfl⟩ ⟨Nat.le_of_ble_eq_true rfl, Nat.le_of_ble_eq_true rfl⟩ (Nat.le_of_ble_eq_true rfl) dX12_readsDeed_127 h18 (fun w20 X127_21 => ?_)
      refine q_chk (fun h24 => ?_)
      refine q_cVV (As := (fun P => [.int (0 : Int32), .int w20])) C [] (sX12_arg r0 (0 : Int32) w20) fcX12_333 rfl (fun _ => rfl) ⟨Nat.le_of_ble_eq_true rfl, Nat.le_of_ble_eq_true rfl⟩ ⟨Nat.le_of_ble_eq_true rfl, Nat.le_of_ble_eq_true rfl⟩ (Nat.le_of_ble_eq_true rfl) dX12_readsDeed_130 h24 (fun _ X130_23 => ?_)
      refine q_aload_n C 0 dX12_readsDeed_133 rfl rfl ?_
      refine q_iconst C (1 : Int32) dX12_readsDeed_134 rfl ?_
      refine q_aload_n C 0 dX12_readsDeed_135 rfl rfl ?_
      refine q_aload_n C 0 dX12_readsDeed_136 rfl rfl ?_
      refine q_chk (fun h25 => ?_)
      refine q_chk (fun h26 => ?_)
      refine p_getR C fgX12_24 rfl dX12_readsDeed_137 h25 h26 ?_
      refine q_aload_n C 0 dX12_readsDeed_140 rfl rfl ?_
      refine p_getI C fgX12_77 rfl dX12_readsDeed_141 h25 ?_
      refine q_cVI (As := (fun P => [.ref (P + (mR X130_23 r0 8)), .int (mI X130_23 r0 6)])) C [.int (1 : Int32), .ref (q_P E + r0)] (sX12_known n r0 ((mR X130_23 r0 8)) ((mI X130_23 r0 6))) fcX12_306 rfl (fun _ => rfl) ⟨Nat.le_of_ble_eq_true rfl, Nat.le_of_ble_eq_true rfl⟩ ⟨Nat.le_of_ble_eq_true rfl, Nat.le_of_ble_eq_true rfl⟩ (Nat.le_of_ble_eq_true rfl) dX12_readsDeed_144 h25 (fun w27 X144_28 => ?_)
      refine q_chk (fun h31 => ?_)
      refine q_cVV (As := (fun P => [.int (1 : Int32), .int w27])) C [] (sX12_arg r0 (1 : Int32) w27) fcX12_333 rfl (fun _ => rfl) ⟨Nat.le_of_ble_eq_true rfl, Nat.le_of_ble_eq_true rfl⟩ ⟨Nat.le_of_ble_eq_true rfl, Nat.le_of_ble_eq_true rfl⟩ (Nat.le_of_ble_eq_true rfl) dX12_readsDeed_147 h31 (fun _ X147_30 => ?_)
      refine q_aload_n C 0 dX12_readsDeed_150 rfl rfl ?_
      refine q_iconst C (2 : Int32) dX12_readsDeed_151 rfl ?_
      refine q_aload_n C 0 dX12_readsDeed_152 rfl rfl ?_
      refine q_aload_n C 0 dX12_readsDeed_153 rfl rfl ?_
      refine q_chk (fun h32 => ?_)
      refine q_chk (fun h33 => ?_)
      refine p_getR C fgX12_27 rfl dX12_readsDeed_154 h32 h33 ?_
      refine q_aload_n C 0 dX12_readsDeed_157 rfl rfl ?_
      refine p_getI C fgX12_84 rfl dX12_readsDeed_158 h32 ?_
      refine q_cVI (As := (fun P => [.ref (P + (mR X147_30 r0 9)), .int (mI X147_30 r0 7)])) C [.int (2 : Int32), .ref (q_P E + r0)] (sX12_known n r0 ((mR X147_30 r0 9)) ((mI X147_30 r0 7))) fcX12_306 rfl (fun _ => rfl) ⟨Nat.le_of_ble_eq_true rfl, Nat.le_of_ble_eq_true rfl⟩ ⟨Nat.le_of_ble_eq_true rfl, Nat.le_of_ble_eq_true rfl⟩ (Nat.le_of_ble_eq_true rfl) dX12_readsDeed_161 h32 (fun w34 X161_35 => ?_)
      refine q_chk (fun h38 => ?_)
      refine q_cVV (As := (fun P => [.int (2 : Int32), .int w34])) C [] (sX12_arg r0 (2 : Int32) w34) fcX12_333 rfl (fun _ => rfl) ⟨Nat.le_of_ble_eq_true rfl, Nat.le_of_ble_eq_true rfl⟩ ⟨Nat.le_of_ble_eq_true rfl, Nat.le_of_ble_eq_true rfl⟩ (Nat.le_of_ble_eq_true rfl) dX12_readsDeed_164 h38 (fun _ X164_37 => ?_)
      refine q_aload_n C 0 dX12_readsDeed_167 rfl rfl ?_
      refine q_iconst C (3 : Int32) dX12_readsDeed_168 rfl ?_
      refine q_aload_n C 0 dX12_readsDeed_169 rfl rfl ?_
      refine q_chk (fun h41 => ?_)
      refine q_cVI (As := (fun P => [])) C [.int (3 : Int32), .ref (q_P E + r0)] (sX12_n n r0) fcX12_297 rfl (fun _ => rfl) ⟨Nat.le_of_ble_eq_true rfl, Nat.le_of_ble_eq_true rfl⟩ ⟨Nat.le_of_ble_eq_true rfl, Nat.le_of_ble_eq_true rfl⟩ (Nat.le_of_ble_eq_true rfl) dX12_readsDeed_170 h41 (fun w39 X170_40 => ?_)
      refine q_chk (fun h44 => ?_)
      refine q_cVV (As := (fun P => [.int (3 : Int32), .int w39])) C [] (sX12_arg r0 (3 : Int32) w39) fcX12_333 rfl (fun _ => rfl) ⟨Nat.le_of_ble_eq_true rfl, Nat.le_of_ble_eq_true rfl⟩ ⟨Nat.le_of_ble_eq_true rfl, Nat.le_of_ble_eq_true rfl⟩ (Nat.le_of_ble_eq_true rfl) dX12_readsDeed_173 h44 (fun _ X173_43 => ?_)
      refine q_aload_n C 0 dX12_readsDeed_176 rfl rfl ?_
      refine q_iconst C (4 : Int32) dX12_readsDeed_177 rfl ?_
      refine q_aload_n C 0 dX12_readsDeed_178 rfl rfl ?_
      refine q_chk (fun h47 => ?_)
      refine q_cVI (As := (fun P => [])) C [.int (4 : Int32), .ref (q_P E + r0)] (sX12_n n r0) fcX12_297 rfl (fun _ => rfl) ⟨Nat.le_of_ble_eq_true rfl, Nat.le_of_ble_eq_true rfl⟩ ⟨Nat.le_of_ble_eq_true rfl, Nat.le_of_ble_eq_true rfl⟩ (Nat.le_of_ble_eq_true rfl) dX12_readsDeed_179 h47 (fun w45 X179_46 => ?_)
      refine q_chk (fun h50 => ?_)
      refine q_cVV (As := (fun P => [.int (4 : Int32), .int w45])) C [] (sX12_arg r0 (4 : Int32) w45) fcX12_333 rfl (fun _ => rfl) ⟨Nat.le_of_ble_eq_true rfl, Nat.le_of_ble_eq_true rfl⟩ ⟨Nat.le_of_ble_eq_true rfl, Nat.le_of_ble_eq_true rfl⟩ (Nat.le_of_ble_eq_true rfl) dX12_readsDeed_182 h50 (fun _ X182_49 => ?_)
      refine q_aload_n C 0 dX12_readsDeed_185 rfl rfl ?_
      refine q_iconst C (5 : Int32) dX12_readsDeed_186 rfl ?_
      refine q_aload_n C 0 dX12_readsDeed_187 rfl rfl ?_
      refine q_iconst C (4 : Int32) dX12_readsDeed_188 rfl ?_
      refine q_chk (fun h53 => ?_)
      refine q_cVI (As := (fun P => [.int (4 : Int32)])) C [.int (5 : Int32), .ref (q_P E + r0)] (sX12_passesWord n r0 (4 : Int32)) fcX12_281 rfl (fun _ => rfl) ⟨Nat.le_of_ble_eq_true rfl, Nat.le_of_ble_eq_true rfl⟩ ⟨Nat.le_of_ble_eq_true rfl, Nat.le_of_ble_eq_true rfl⟩ (Nat.le_of_ble_eq_true rfl) dX12_readsDeed_189 h53 (fun w51 X189_52 => ?_)
      refine q_if_eq C 202 dX12_readsDeed_192 (by decide) (fun _ => ?_) (fun _ => ?_)
      · refine q_iconst C (2 : Int32) dX12_readsDeed_202 rfl ?_
        refine q_sub C [(0, .ref (q_P E + r0))] [0] rfl ?_
        exact gX12_readsDeed_L203 C n r0 (2 : Int32) (5 : Int32) r0 X189_52
      · refine q_aload_n C 0 dX12_readsDeed_195 rfl rfl ?_
        refine q_chk (fun h64 => ?_)
        refine q_cVI (As := (fun P => [])) C [.int (5 : Int32), .ref (q_P E + r0)] (sX12_n n r0) fcX12_297 rfl (fun _ => rfl) ⟨Nat.le_of_ble_eq_true rfl, Nat.le_of_ble_eq_true rfl⟩ ⟨Nat.le_of_ble_eq_true rfl, Nat.le_of_ble_eq_true rfl⟩ (Nat.le_of_ble_eq_true rfl) dX12_readsDeed_196 h64 (fun w62 X196_63 => ?_)
        refine q_goto C 203 dX12_readsDeed_199 (by decide) ?_
        refine q_sub C [(0, .ref (q_P E + r0))] [0] rfl ?_
        exact gX12_readsDeed_L203 C n r0 w62 (5 : Int32) r0 X196_63
    · refine q_ite (fun e5 => ?_) (fun e5 => ?_)
      · refine q_lookup C (off := 135) 209 dX12_readsDeed_74 (by decide) (by rw [e5]; rfl) (by decide) ?_
        refine q_aload_n C 0 dX12_readsDeed_209 rfl rfl ?_
        refine q_iconst C (0 : Int32) dX12_readsDeed_210 rfl ?_
        refine q_aload_n C 0 dX12_readsDeed_211 rfl rfl ?_
        refine q_aload_n C 0 dX12_readsDeed_212 rfl rfl ?_
        refine q_chk (fun h65 => ?_)
        refine q_chk (fun h66 => ?_)
        refine p_getR C fgX12_27 rfl dX12_readsDeed_213 h65 h66 ?_
        refine q_aload_n C 0 dX12_readsDeed_216 rfl rfl ?_
        refine p_getI C fgX12_84 rfl dX12_readsDeed_217 h65 ?_
        refine q_cVI (As := (fun P => [.ref (P + (mR X72_15 r0 9)), .int (mI X72_15 r0 7)])) C [.int (0 : Int32), .ref (q_P E + r0)] (sX12_known n r0 ((mR X72_15 r0 9)) ((mI X72_15 r0 7))) fcX12_306 rfl (fun _ => rfl) ⟨Nat.le_of_ble_eq_true rfl, Nat.le_of_ble_eq_true rfl⟩ ⟨Nat.le_of_ble_eq_true rfl, Nat.le_of_ble_eq_true rfl⟩ (Nat.le_of_ble_eq_true rfl) dX12_readsDeed_220 h65 (fun w67 X220_68 => ?_)
        refine q_chk (fun h71 => ?_)
        refine q_cVV (As := (fun P => [.int (0 : Int32), .int w67])) C [] (sX12_arg r0 (0 : Int32) w67) fcX12_333 rfl (fun _ => rfl) ⟨Nat.le_of_ble_eq_true rfl, Nat.le_of_ble_eq_true rfl⟩ ⟨Nat.le_of_ble_eq_true rfl, Nat.le_of_ble_eq_true rfl⟩ (Nat.le_of_ble_eq_true rfl) dX12_readsDeed_223 h71 (fun _ X223_70 => ?_)
        refine q_aload_n C 0 dX12_readsDeed_226 rfl rfl ?_
        refine q_iconst C (1 : Int32) dX12_readsDeed_227 rfl ?_
        refine q_aload_n C 0 dX12_readsDeed_228 rfl rfl ?_
        refine q_chk (fun h74 => ?_)
        refine q_cVI (As := (fun P => [])) C [.int (1 : Int32), .ref (q_P E + r0)] (sX12_n n r0) fcX12_297 rfl (fun _ => rfl) ⟨Nat.le_of_ble_eq_true rfl, Nat.le_of_ble_eq_true rfl⟩ ⟨Nat.le_of_ble_eq_true rfl, Nat.le_of_ble_eq_true rfl⟩ (Nat.le_of_ble_eq_true rfl) dX12_readsDeed_229 h74 (fun w72 X229_73 => ?_)
        refine q_chk (fun h77 => ?_)
        refine q_cVV (As := (fun P => [.int (1 : Int32), .int w72])) C [] (sX12_arg r0 (1 : Int32) w72) fcX12_333 rfl (fun _ => rfl) ⟨Nat.le_of_ble_eq_true rfl, Nat.le_of_ble_eq_true rfl⟩ ⟨Nat.le_of_ble_eq_true rfl, Nat.le_of_ble_eq_true rfl⟩ (Nat.le_of_ble_eq_true rfl) dX12_readsDeed_232 h77 (fun _ X232_76 => ?_)
        refine q_aload_n C 0 dX12_readsDeed_235 rfl rfl ?_
        refine q_iconst C (2 : Int32) dX12_readsDeed_236 rfl ?_
        refine q_chk (fun h80 => ?_)
        refine q_cVV (As := (fun P => [.int (2 : Int32)])) C [] (sX12_readsWhen n r0 (2 : Int32)) fcX12_336 rfl (fun _ => rfl) ⟨Nat.le_of_ble_eq_true rfl, Nat.le_of_ble_eq_true rfl⟩ ⟨Nat.le_of_ble_eq_true rfl, Nat.le_of_ble_eq_true rfl⟩ (Nat.le_of_ble_eq_true rfl) dX12_readsDeed_237 h80 (fun _ X237_79 => ?_)
        refine q_goto C 307 dX12_readsDeed_240 (by decide) ?_
        refine q_sub C [(0, .ref (q_P E + r0))] [0] rfl ?_
        exact gX12_readsDeed_L307 C n r0 X237_79
      · refine q_ite (fun e19 => ?_) (fun e19 => ?_)
        · refine q_lookup C (off := 169) 243 dX12_readsDeed_74 (by decide) (by rw [e19]; rfl) (by decide) ?_
          refine q_aload_n C 0 dX12_readsDeed_243 rfl rfl ?_
          refine q_iconst C (0 : Int32) dX12_readsDeed_244 rfl ?_
          refine q_aload_n C 0 dX12_readsDeed_245 rfl rfl ?_
          refine q_chk (fun h83 => ?_)
          refine q_cVI (As := (fun P => [])) C [.int (0 : Int32), .ref (q_P E + r0)] (sX12_n n r0) fcX12_297 rfl (fun _ => rfl) ⟨Nat.le_of_ble_eq_true rfl, Nat.le_of_ble_eq_true rfl⟩ ⟨Nat.le_of_ble_eq_true rfl, Nat.le_of_ble_eq_true rfl⟩ (Nat.le_of_ble_eq_true rfl) dX12_readsDeed_246 h83 (fun w81 X246_82 => ?_)
          refine q_chk (fun h86 => ?_)
          refine q_cVV (As := (fun P => [.int (0 : Int32), .int w81])) C [] (sX12_arg r0 (0 : Int32) w81) fcX12_333 rfl (fun _ => rfl) ⟨Nat.le_of_ble_eq_true rfl, Nat.le_of_ble_eq_true rfl⟩ ⟨Nat.le_of_ble_eq_true rfl, Nat.le_of_ble_eq_true rfl⟩ (Nat.le_of_ble_eq_true rfl) dX12_readsDeed_249 h86 (fun _ X249_85 => ?_)
          refine q_aload_n C 0 dX12_readsDeed_252 rfl rfl ?_
          refine q_iconst C (1 : Int32) dX12_readsDeed_253 rfl ?_
          refine q_aload_n C 0 dX12_readsDeed_254 rfl rfl ?_
          refine q_aload_n C 0 dX12_readsDeed_255 rfl rfl ?_
          refine q_chk (fun h87 => ?_)
          refine q_chk (fun h88 => ?_)
          refine p_getR C fgX12_24 rfl dX12_readsDeed_256 h87 h88 ?_
          refine q_aload_n C 0 dX12_readsDeed_259 rfl rfl ?_
          refine p_getI C fgX12_77 rfl dX12_readsDeed_260 h87 ?_
          refine q_cVI (As := (fun P => [.ref (P + (mR X249_85 r0 8)), .int (mI X249_85 r0 6)])) C [.int (1 : Int32), .ref (q_P E + r0)] (sX12_known n r0 ((mR X249_85 r0 8)) ((mI X249_85 r0 6))) fcX12_306 rfl (fun _ => rfl) ⟨Nat.le_of_ble_eq_true rfl, Nat.le_of_ble_eq_true rfl⟩ ⟨Nat.le_of_ble_eq_true rfl, Nat.le_of_ble_eq_true rfl⟩ (Nat.le_of_ble_eq_true rfl) dX12_readsDeed_263 h87 (fun w89 X263_90 => ?_)
          refine q_chk (fun h93 => ?_)
          refine q_cVV (As := (fun P => [.int (1 : Int32), .int w89])) C [] (sX12_arg r0 (1 : Int32) w89) fcX12_333 rfl (fun _ => rfl) ⟨Nat.le_of_ble_eq_true rfl, Nat.le_of_ble_eq_true rfl⟩ ⟨Nat.le_of_ble_eq_true rfl, Nat.le_of_ble_eq_true rfl⟩ (Nat.le_of_ble_eq_true rfl) dX12_readsDeed_266 h93 (fun _ X266_92 => ?_)
          refine q_aload_n C 0 dX12_readsDeed_269 rfl rfl ?_
          refine q_iconst C (2 : Int32) dX12_readsDeed_270 rfl ?_
          refine q_aload_n C 0 dX12_readsDeed_271 rfl rfl ?_
          refine q_chk (fun h96 => ?_)
          refine q_cVI (As := (fun P => [])) C [.int (2 : Int32), .ref (q_P E + r0)] (sX12_n n r0) fcX12_297 rfl (fun _ => rfl) ⟨Nat.le_of_ble_eq_true rfl, Nat.le_of_ble_eq_true rfl⟩ ⟨Nat.le_of_ble_eq_true rfl, Nat.le_of_ble_eq_true rfl⟩ (Nat.le_of_ble_eq_true rfl) dX12_readsDeed_272 h96 (fun w94 X272_95 => ?_)
          refine q_chk (fun h99 => ?_)
          refine q_cVV (As := (fun P => [.int (2 : Int32), .int w94])) C [] (sX12_arg r0 (2 : Int32) w94) fcX12_333 rfl (fun _ => rfl) ⟨Nat.le_of_ble_eq_true rfl, Nat.le_of_ble_eq_true rfl⟩ ⟨Nat.le_of_ble_eq_true rfl, Nat.le_of_ble_eq_true rfl⟩ (Nat.le_of_ble_eq_true rfl) dX12_readsDeed_275 h99 (fun _ X275_98 => ?_)
          refine q_aload_n C 0 dX12_readsDeed_278 rfl rfl ?_
          refine q_iconst C (3 : Int32) dX12_readsDeed_279 rfl ?_
          refine q_aload_n C 0 dX12_readsDeed_280 rfl rfl ?_
          refine q_chk (fun h102 => ?_)
          refine q_cVI (As := (fun P => [])) C [.int (3 : Int32), .ref (q_P E + r0)] (sX12_n n r0) fcX12_297 rfl (fun _ => rfl) ⟨Nat.le_of_ble_eq_true rfl, Nat.le_of_ble_eq_true rfl⟩ ⟨Nat.le_of_ble_eq_true rfl, Nat.le_of_ble_eq_true rfl⟩ (Nat.le_of_ble_eq_true rfl) dX12_readsDeed_281 h102 (fun w100 X281_101 => ?_)
          refine q_chk (fun h105 => ?_)
          refine q_cVV (As := (fun P => [.int (3 : Int32), .int w100])) C [] (sX12_arg r0 (3 : Int32) w100) fcX12_333 rfl (fun _ => rfl) ⟨Nat.le_of_ble_eq_true rfl, Nat.le_of_ble_eq_true rfl⟩ ⟨Nat.le_of_ble_eq_true rfl, Nat.le_of_ble_eq_true rfl⟩ (Nat.le_of_ble_eq_true rfl) dX12_readsDeed_284 h105 (fun _ X284_104 => ?_)
          refine q_goto C 307 dX12_readsDeed_287 (by decide) ?_
          refine q_sub C [(0, .ref (q_P E + r0))] [0] rfl ?_
          exact gX12_readsDeed_L307 C n r0 X284_104
        · refine q_ite (fun e20 => ?_) (fun e20 => ?_)
          · refine q_lookup C (off := 216) 290 dX12_readsDeed_74 (by decide) (by rw [e20]; rfl) (by decide) ?_
            refine q_aload_n C 0 dX12_readsDeed_290 rfl rfl ?_
            refine q_iconst C (0 : Int32) dX12_readsDeed_291 rfl ?_
            refine q_aload_n C 0 dX12_readsDeed_292 rfl rfl ?_
            refine q_chk (fun h108 => ?_)
            refine q_cVI (As := (fun P => [])) C [.int (0 : Int32), .ref (q_P E + r0)] (sX12_n n r0) fcX12_297 rfl (fun _ => rfl) ⟨Nat.le_of_ble_eq_true rfl, Nat.le_of_ble_eq_true rfl⟩ ⟨Nat.le_of_ble_eq_true rfl, Nat.le_of_ble_eq_true rfl⟩ (Nat.le_of_ble_eq_true rfl) dX12_readsDeed_293 h108 (fun w106 X293_107 => ?_)
            refine q_chk (fun h111 => ?_)
            refine q_cVV (As := (fun P => [.int (0 : Int32), .int w106])) C [] (sX12_arg r0 (0 : Int32) w106) fcX12_333 rfl (fun _ => rfl) ⟨Nat.le_of_ble_eq_true rfl, Nat.le_of_ble_eq_true rfl⟩ ⟨Nat.le_of_ble_eq_true rfl, Nat.le_of_ble_eq_true rfl⟩ (Nat.le_of_ble_eq_true rfl) dX12_readsDeed_296 h111 (fun _ X296_110 => ?_)
            refine q_goto C 307 dX12_readsDeed_299 (by decide) ?_
            refine q_sub C [(0, .ref (q_P E + r0))] [0] rfl ?_
            exact gX12_readsDeed_L307 C n r0 X296_110
          · have n3 := q_ne e3 (i := 3) rfl
            have n5 := q_ne e5 (i := 5) rfl
            have n19 := q_ne e19 (i := 19) rfl
            have n20 := q_ne e20 (i := 20) rfl
            refine q_lookup C (off := 228) 302 dX12_readsDeed_74 (by decide) (q_lkout (by simp [Op.lookupswitch.offset, n3, Ne.symm n3, n5, Ne.symm n5, n19, Ne.symm n19, n20, Ne.symm n20])) (by decide) ?_
            refine q_aload_n C 0 dX12_readsDeed_302 rfl rfl ?_
            refine q_iload_n C 1 dX12_readsDeed_303 rfl rfl ?_
            refine q_chk (fun h114 => ?_)
            refine q_cVV (As := (fun P => [.int v1])) C [] (sX12_readsOther n r0 v1) fcX12_339 rfl (fun _ => rfl) ⟨Nat.le_of_ble_eq_true rfl, Nat.le_of_ble_eq_true rfl⟩ ⟨Nat.le_of_ble_eq_true rfl, Nat.le_of_ble_eq_true rfl⟩ (Nat.le_of_ble_eq_true rfl) dX12_readsDeed_304 h114 (fun _ X304_113 => ?_)
            refine q_sub C [(0, .ref (q_P E + r0))] [0] rfl ?_
            exact gX12_readsDeed_L307 C n r0 X304_113
theorem gX12_readsDeed_L46 {E : q_E} {X0 : Mm} (C : Cx E cX12_readsDeed RX12 2 none (q_rm 8 173 0 0) X0) (n : Nat) (r0 : Nat) (v1 : Int32) (X : Mm) : Sm E (q_fin E q_eV X0 0 0) 0 0 46 [(0, .ref (q_P E + r0)), (1, .int v1)] [] X (fX12_readsDeed_L46 n r0 v1 X) := by
  unfold fX12_readsDeed_L46
  refine q_aload_n C 0 dX12_readsDeed_46 rfl rfl ?_
  refine q_iconst C (1 : Int32) dX12_readsDeed_47 rfl ?_
  refine q_chk (fun h6 => ?_)
  refine q_cVV (As := (fun P => [.int (1 : Int32)])) C [] (sX12_faulty r0 (1 : Int32)) fcX12_284 rfl (fun _ => rfl) ⟨Nat.le_of_ble_eq_true rfl, Nat.le_of_ble_eq_true rfl⟩ ⟨Nat.le_of_ble_eq_true rfl, Nat.le_of_ble_eq_true rfl⟩ (Nat.le_of_ble_eq_true rfl) dX12_readsDeed_48 h6 (fun _ X48_5 => ?_)
  exact gX12_readsDeed_L51 C n r0 v1 X48_5
theorem gX12_readsDeed_L23 {E : q_E} {X0 : Mm} (C : Cx E cX12_readsDeed RX12 2 none (q_rm 8 173 0 0) X0) (n : Nat) (r0 : Nat) (s0 : Int32) (X : Mm) : Sm E (q_fin E q_eV X0 0 0) 0 0 23 [(0, .ref (q_P E + r0))] [.int s0] X (fX12_readsDeed_L23 n r0 s0 X) := by
  unfold fX12_readsDeed_L23
  refine q_istore_n C [(1, .int s0), (0, .ref (q_P E + r0))] dX12_readsDeed_23 rfl (Nat.le_of_ble_eq_true rfl) rfl ?_
  refine q_iload_n C 0 dX12_readsDeed_24 rfl rfl ?_
  refine q_iconst C (3 : Int32) dX12_readsDeed_25 rfl ?_
  refine q_icmp_lt C 46 dX12_readsDeed_26 (by decide) (fun _ => ?_) (fun _ => ?_)
  · refine q_sub C [(0, .ref (q_P E + r0)), (1, .int s0)] [1, 0] rfl ?_
    exact gX12_readsDeed_L46 C n r0 s0 X
  · refine q_iload_n C 0 dX12_readsDeed_29 rfl rfl ?_
    refine q_iconst C (4 : Int32) dX12_readsDeed_30 rfl ?_
    refine q_icmp_eq C 46 dX12_readsDeed_31 (by decide) (fun _ => ?_) (fun _ => ?_)
    · refine q_sub C [(0, .ref (q_P E + r0)), (1, .int s0)] [1, 0] rfl ?_
      exact gX12_readsDeed_L46 C n r0 s0 X
    · refine q_iload_n C 0 dX12_readsDeed_34 rfl rfl ?_
      refine q_bipush C (8 : Int32) dX12_readsDeed_35 rfl ?_
      refine q_icmp_le C 51 dX12_readsDeed_37 (by decide) (fun _ => ?_) (fun _ => ?_)
      · refine q_sub C [(0, .ref (q_P E + r0)), (1, .int s0)] [1, 0] rfl ?_
        exact gX12_readsDeed_L51 C n r0 s0 X
      · refine q_iload_n C 0 dX12_readsDeed_40 rfl rfl ?_
        refine q_bipush C (19 : Int32) dX12_readsDeed_41 rfl ?_
        refine q_icmp_ge C 51 dX12_readsDeed_43 (by decide) (fun _ => ?_) (fun _ => ?_)
        · refine q_sub C [(0, .ref (q_P E + r0)), (1, .int s0)] [1, 0] rfl ?_
          exact gX12_readsDeed_L51 C n r0 s0 X
        · refine q_sub C [(0, .ref (q_P E + r0)), (1, .int s0)] [1, 0] rfl ?_
          exact gX12_readsDeed_L46 C n r0 s0 X
theorem gX12_readsDeed_L22 {E : q_E} {X0 : Mm} (C : Cx E cX12_readsDeed RX12 2 none (q_rm 8 173 0 0) X0) (n : Nat) (r0 : Nat) (X : Mm) : Sm E (q_fin E q_eV X0 0 0) 0 0 22 [(0, .ref (q_P E + r0))] [] X (fX12_readsDeed_L22 n r0 X) := by
  unfold fX12_readsDeed_L22
  refine q_iconst C (-1 : Int32) dX12_readsDeed_22 rfl ?_
  exact gX12_readsDeed_L23 C n r0 (-1 : Int32) X
theorem sX12_readsDeed (n : Nat) (r0 : Nat) : q_Ct yX12_readsDeed cX12_readsDeed 2 none 8 173 0 0 q_eV (fun P => [.ref (P + r0)]) (fX12_readsDeed n r0) := by
  refine q_meth (by decide +kernel) (fun P => Nat.le_of_ble_eq_true rfl) (fun E X C hn => ?_)
  show Sm E (q_fin E q_eV X 0 0) 0 0 0 [(0, .ref (q_P E + r0))] [] X _
  unfold fX12_readsDeed
  refine q_aload_n C 0 dX12_readsDeed_0 rfl rfl ?_
  refine q_chk (fun h3 => ?_)
  refine q_cVI (As := (fun P => [])) C [] (sX12_fine r0) fcX12_274 rfl (fun _ => rfl) ⟨Nat.le_of_ble_eq_true rfl, Nat.le_of_ble_eq_true rfl⟩ ⟨Nat.le_of_ble_eq_true rfl, Nat.le_of_ble_eq_true rfl⟩ (Nat.le_of_ble_eq_true rfl) dX12_readsDeed_1 h3 (fun w1 X1_2 => ?_)
  refine q_if_eq C 22 dX12_readsDeed_4 (by decide) (fun _ => ?_) (fun _ => ?_)
  · exact gX12_readsDeed_L22 C n r0 X1_2
  · refine q_aload_n C 0 dX12_readsDeed_7 rfl rfl ?_
    refine q_chk (fun h115 => ?_)
    refine p_getI C fgX12_253 rfl dX12_readsDeed_8 h115 ?_
    refine q_iconst C (1 : Int32) dX12_readsDeed_11 rfl ?_
    refine q_icmp_ne C 22 dX12_readsDeed_12 (by decide) (fun _ => ?_) (fun _ => ?_)
    · refine q_aload_n C 0 dX12_readsDeed_15 rfl rfl ?_
      refine p_getI C fgX12_244 rfl dX12_readsDeed_16 h115 ?_
      refine q_goto C 23 dX12_readsDeed_19 (by decide) ?_
      exact gX12_readsDeed_L23 C n r0 ((mI X1_2 r0 20)) X1_2
    · exact gX12_readsDeed_L22 C n r0 X1_2
/-! RecordClaimsModel.a(II)I -/
abbrev cX12_a : ByteArray := prog_14_method_72_code
def yX12_a : MethodName := ⟨RX12, "a", "(II)I"⟩
theorem dX12_a_0 : decode cX12_a 0 = .ok (.aload_n 0, 1) := by decide +kernel
theorem dX12_a_1 : decode cX12_a 1 = .ok (.getfield 54, 3) := by decide +kernel
theorem dX12_a_4 : decode cX12_a 4 = .ok (.bipush 10, 2) := by decide +kernel
theorem dX12_a_6 : decode cX12_a 6 = .ok (.iload_n 1, 1) := by decide +kernel
theorem dX12_a_7 : decode cX12_a 7 = .ok (.imul, 1) := by decide +kernel
theorem dX12_a_8 : decode cX12_a 8 = .ok (.iload_n 2, 1) := by decide +kernel
theorem dX12_a_9 : decode cX12_a 9 = .ok (.iadd, 1) := by decide +kernel
theorem dX12_a_10 : decode cX12_a 10 = .ok (.iaload, 1) := by decide +kernel
theorem dX12_a_11 : decode cX12_a 11 = .ok (.ireturn, 1) := by decide +kernel
def fX12_a (r0 : Nat) (v1 : Int32) (v2 : Int32) (X : Mm) : Option (Int32 × Mm) :=
if mT X r0 = 12 then
if mR X r0 30 ≠ 0 then
if mT X (mR X r0 30) = 14 then
if q_b X (mR X r0 30) (((10 : Int32) * v1) + v2) then
some ((mI X (mR X r0 30) ((((10 : Int32) * v1) + v2)).toNatClampNeg), X)
else none
else none
else none
else none
theorem sX12_a (r0 : Nat) (v1 : Int32) (v2 : Int32) : q_Ct yX12_a cX12_a 3 (some .int) 0 0 0 0 q_eI (fun P => [.ref (P + r0), .int v1, .int v2]) (fX12_a r0 v1 v2) := by
  refine q_meth (by decide +kernel) (fun P => Nat.le_of_ble_eq_true rfl) (fun E X C hn => ?_)
  show Sm E (q_fin E q_eI X 0 0) 0 0 0 [(0, .ref (q_P E + r0)), (1, .int v1), (2, .int v2)] [] X _
  unfold fX12_a
  refine q_aload_n C 0 dX12_a_0 rfl rfl ?_
  refine q_chk (fun h1 => ?_)
  refine q_chk (fun h2 => ?_)
  refine p_getR C fgX12_54 rfl dX12_a_1 h1 h2 ?_
  refine q_bipush C (10 : Int32) dX12_a_4 rfl ?_
  refine q_iload_n C 1 dX12_a_6 rfl rfl ?_
  refine q_imul C dX12_a_7 ?_
  refine q_iload_n C 2 dX12_a_8 rfl rfl ?_
  refine q_iadd C dX12_a_9 ?_
  refine q_chk (fun h3 => ?_)
  refine q_chk (fun h4 => ?_)
  refine p_iald C dX12_a_10 h3 h4 ?_
  exact q_iret C dX12_a_11
