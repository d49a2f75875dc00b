/-! RecordClaimsModel.turnsTrade(IIJ)V -/
abbrev cX12_turnsTrade : ByteArray := prog_14_method_39_code
def yX12_turnsTrade : MethodName := ⟨RX12, "turnsTrade", "(IIJ)V"⟩
theorem dX12_turnsTrade_0 : decode cX12_turnsTrade 0 = .ok (.aload_n 0, 1) := by decide +kernel
theorem dX12_turnsTrade_1 : decode cX12_turnsTrade 1 = .ok (.getfield 11, 3) := by decide +kernel
theorem dX12_turnsTrade_4 : decode cX12_turnsTrade 4 = .ok (.aload_n 0, 1) := by decide +kernel
theorem dX12_turnsTrade_5 : decode cX12_turnsTrade 5 = .ok (.iload_n 2, 1) := by decide +kernel
theorem dX12_turnsTrade_6 : decode cX12_turnsTrade 6 = .ok (.iconst 3, 1) := by decide +kernel
theorem dX12_turnsTrade_7 : decode cX12_turnsTrade 7 = .ok (.invokevirtual 111, 3) := by decide +kernel
theorem dX12_turnsTrade_10 : decode cX12_turnsTrade 10 = .ok (.laload, 1) := by decide +kernel
theorem dX12_turnsTrade_11 : decode cX12_turnsTrade 11 = .ok (.lstore 5, 2) := by decide +kernel
theorem dX12_turnsTrade_13 : decode cX12_turnsTrade 13 = .ok (.aload_n 0, 1) := by decide +kernel
theorem dX12_turnsTrade_14 : decode cX12_turnsTrade 14 = .ok (.getfield 11, 3) := by decide +kernel
theorem dX12_turnsTrade_17 : decode cX12_turnsTrade 17 = .ok (.aload_n 0, 1) := by decide +kernel
theorem dX12_turnsTrade_18 : decode cX12_turnsTrade 18 = .ok (.iload_n 2, 1) := by decide +kernel
theorem dX12_turnsTrade_19 : decode cX12_turnsTrade 19 = .ok (.iconst 2, 1) := by decide +kernel
theorem dX12_turnsTrade_20 : decode cX12_turnsTrade 20 = .ok (.invokevirtual 111, 3) := by decide +kernel
theorem dX12_turnsTrade_23 : decode cX12_turnsTrade 23 = .ok (.lload_n 3, 1) := by decide +kernel
theorem dX12_turnsTrade_24 : decode cX12_turnsTrade 24 = .ok (.lastore, 1) := by decide +kernel
theorem dX12_turnsTrade_25 : decode cX12_turnsTrade 25 = .ok (.aload_n 0, 1) := by decide +kernel
theorem dX12_turnsTrade_26 : decode cX12_turnsTrade 26 = .ok (.getfield 11, 3) := by decide +kernel
theorem dX12_turnsTrade_29 : decode cX12_turnsTrade 29 = .ok (.aload_n 0, 1) := by decide +kernel
theorem dX12_turnsTrade_30 : decode cX12_turnsTrade 30 = .ok (.iload_n 2, 1) := by decide +kernel
theorem dX12_turnsTrade_31 : decode cX12_turnsTrade 31 = .ok (.iconst 3, 1) := by decide +kernel
theorem dX12_turnsTrade_32 : decode cX12_turnsTrade 32 = .ok (.invokevirtual 111, 3) := by decide +kernel
theorem dX12_turnsTrade_35 : decode cX12_turnsTrade 35 = .ok (.aload_n 0, 1) := by decide +kernel
theorem dX12_turnsTrade_36 : decode cX12_turnsTrade 36 = .ok (.iload_n 1, 1) := by decide +kernel
theorem dX12_turnsTrade_37 : decode cX12_turnsTrade 37 = .ok (.lload 5, 2) := by decide +kernel
theorem dX12_turnsTrade_39 : decode cX12_turnsTrade 39 = .ok (.invokevirtual 194, 3) := by decide +kernel
theorem dX12_turnsTrade_42 : decode cX12_turnsTrade 42 = .ok (.lastore, 1) := by decide +kernel
theorem dX12_turnsTrade_43 : decode cX12_turnsTrade 43 = .ok (.aload_n 0, 1) := by decide +kernel
theorem dX12_turnsTrade_44 : decode cX12_turnsTrade 44 = .ok (.getfield 11, 3) := by decide +kernel
theorem dX12_turnsTrade_47 : decode cX12_turnsTrade 47 = .ok (.aload_n 0, 1) := by decide +kernel
theorem dX12_turnsTrade_48 : decode cX12_turnsTrade 48 = .ok (.iload_n 2, 1) := by decide +kernel
theorem dX12_turnsTrade_49 : decode cX12_turnsTrade 49 = .ok (.iconst 4, 1) := by decide +kernel
theorem dX12_turnsTrade_50 : decode cX12_turnsTrade 50 = .ok (.invokevirtual 111, 3) := by decide +kernel
theorem dX12_turnsTrade_53 : decode cX12_turnsTrade 53 = .ok (.aload_n 0, 1) := by decide +kernel
theorem dX12_turnsTrade_54 : decode cX12_turnsTrade 54 = .ok (.getfield 11, 3) := by decide +kernel
theorem dX12_turnsTrade_57 : decode cX12_turnsTrade 57 = .ok (.aload_n 0, 1) := by decide +kernel
theorem dX12_turnsTrade_58 : decode cX12_turnsTrade 58 = .ok (.iload_n 2, 1) := by decide +kernel
theorem dX12_turnsTrade_59 : decode cX12_turnsTrade 59 = .ok (.iconst 4, 1) := by decide +kernel
theorem dX12_turnsTrade_60 : decode cX12_turnsTrade 60 = .ok (.invokevirtual 111, 3) := by decide +kernel
theorem dX12_turnsTrade_63 : decode cX12_turnsTrade 63 = .ok (.laload, 1) := by decide +kernel
theorem dX12_turnsTrade_64 : decode cX12_turnsTrade 64 = .ok (.lload 5, 2) := by decide +kernel
theorem dX12_turnsTrade_66 : decode cX12_turnsTrade 66 = .ok (.aload_n 0, 1) := by decide +kernel
theorem dX12_turnsTrade_67 : decode cX12_turnsTrade 67 = .ok (.getfield 11, 3) := by decide +kernel
theorem dX12_turnsTrade_70 : decode cX12_turnsTrade 70 = .ok (.aload_n 0, 1) := by decide +kernel
theorem dX12_turnsTrade_71 : decode cX12_turnsTrade 71 = .ok (.iload_n 1, 1) := by decide +kernel
theorem dX12_turnsTrade_72 : decode cX12_turnsTrade 72 = .ok (.bipush 10, 2) := by decide +kernel
theorem dX12_turnsTrade_74 : decode cX12_turnsTrade 74 = .ok (.invokevirtual 66, 3) := by decide +kernel
theorem dX12_turnsTrade_77 : decode cX12_turnsTrade 77 = .ok (.laload, 1) := by decide +kernel
theorem dX12_turnsTrade_78 : decode cX12_turnsTrade 78 = .ok (.lmul, 1) := by decide +kernel
theorem dX12_turnsTrade_79 : decode cX12_turnsTrade 79 = .ok (.lsub, 1) := by decide +kernel
theorem dX12_turnsTrade_80 : decode cX12_turnsTrade 80 = .ok (.aload_n 0, 1) := by decide +kernel
theorem dX12_turnsTrade_81 : decode cX12_turnsTrade 81 = .ok (.iload_n 1, 1) := by decide +kernel
theorem dX12_turnsTrade_82 : decode cX12_turnsTrade 82 = .ok (.lload 5, 2) := by decide +kernel
theorem dX12_turnsTrade_84 : decode cX12_turnsTrade 84 = .ok (.invokevirtual 190, 3) := by decide +kernel
theorem dX12_turnsTrade_87 : decode cX12_turnsTrade 87 = .ok (.lsub, 1) := by decide +kernel
theorem dX12_turnsTrade_88 : decode cX12_turnsTrade 88 = .ok (.lastore, 1) := by decide +kernel
theorem dX12_turnsTrade_89 : decode cX12_turnsTrade 89 = .ok (.aload_n 0, 1) := by decide +kernel
theorem dX12_turnsTrade_90 : decode cX12_turnsTrade 90 = .ok (.getfield 11, 3) := by decide +kernel
theorem dX12_turnsTrade_93 : decode cX12_turnsTrade 93 = .ok (.aload_n 0, 1) := by decide +kernel
theorem dX12_turnsTrade_94 : decode cX12_turnsTrade 94 = .ok (.iload_n 2, 1) := by decide +kernel
theorem dX12_turnsTrade_95 : decode cX12_turnsTrade 95 = .ok (.iconst 3, 1) := by decide +kernel
theorem dX12_turnsTrade_96 : decode cX12_turnsTrade 96 = .ok (.invokevirtual 111, 3) := by decide +kernel
theorem dX12_turnsTrade_99 : decode cX12_turnsTrade 99 = .ok (.laload, 1) := by decide +kernel
theorem dX12_turnsTrade_100 : decode cX12_turnsTrade 100 = .ok (.lconst 0, 1) := by decide +kernel
theorem dX12_turnsTrade_101 : decode cX12_turnsTrade 101 = .ok (.lcmp, 1) := by decide +kernel
theorem dX12_turnsTrade_102 : decode cX12_turnsTrade 102 = .ok (.ifCond .ne 9, 3) := by decide +kernel
theorem dX12_turnsTrade_105 : decode cX12_turnsTrade 105 = .ok (.aload_n 0, 1) := by decide +kernel
theorem dX12_turnsTrade_106 : decode cX12_turnsTrade 106 = .ok (.iload_n 2, 1) := by decide +kernel
theorem dX12_turnsTrade_107 : decode cX12_turnsTrade 107 = .ok (.iconst 2, 1) := by decide +kernel
theorem dX12_turnsTrade_108 : decode cX12_turnsTrade 108 = .ok (.invokevirtual 179, 3) := by decide +kernel
theorem dX12_turnsTrade_111 : decode cX12_turnsTrade 111 = .ok (.return_, 1) := by decide +kernel
theorem fcX12_194 : q_LV RX12 194 yX12_wholeOf cX12_wholeOf 4 (some .long) 2 12 := ⟨q_tb 1614 (by decide +kernel) rfl, q_tb 1616 (by decide +kernel) rfl, q_tbs (q := (yX12_wholeOf, 35)) 106 (by decide +kernel) rfl, q_tb 13 (by decide +kernel) rfl, q_tb 1617 (by decide +kernel) rfl, ⟨by decide +kernel, by decide +kernel, by decide +kernel⟩, TX12, 35, rfl⟩
theorem fcX12_190 : q_LV RX12 190 yX12_cashOf cX12_cashOf 4 (some .long) 2 12 := ⟨q_tb 1610 (by decide +kernel) rfl, q_tb 1612 (by decide +kernel) rfl, q_tbs (q := (yX12_cashOf, 35)) 105 (by decide +kernel) rfl, q_tb 13 (by decide +kernel) rfl, q_tb 1613 (by decide +kernel) rfl, ⟨by decide +kernel, by decide +kernel, by decide +kernel⟩, TX12, 35, rfl⟩
def fX12_turnsTrade (r0 : Nat) (v1 : Int32) (v2 : Int32) (v3 : Int64) (X : Mm) : Option (Unit × Mm) :=
if mT X r0 = 12 then
if mR X r0 1 ≠ 0 then
bd (fX12_at r0 v2 (3 : Int32) X) fun w3 X7_4 =>
if mT X7_4 (mR X r0 1) = 15 then
if q_b X7_4 (mR X r0 1) w3 then
nm ((mJ X7_4 (mR X r0 1) (w3).toNatClampNeg)) fun v5_11 =>
if mT X7_4 r0 = 12 then
if mR X7_4 r0 1 ≠ 0 then
bd (fX12_at r0 v2 (2 : Int32) X7_4) fun w10 X20_11 =>
if mT X20_11 (mR X7_4 r0 1) = 15 then
if q_b X20_11 (mR X7_4 r0 1) w10 then
nm (sJ X20_11 (mR X7_4 r0 1) (w10).toNatClampNeg v3) fun X24_12 =>
if mT X24_12 r0 = 12 then
if mR X24_12 r0 1 ≠ 0 then
bd (fX12_at r0 v2 (3 : Int32) X24_12) fun w17 X32_18 =>
if mT X32_18 r0 = 12 then
bd (fX12_wholeOf r0 v1 v5_11 X32_18) fun w19 X39_20 =>
if mT X39_20 (mR X24_12 r0 1) = 15 then
if q_b X39_20 (mR X24_12 r0 1) w17 then
nm (sJ X39_20 (mR X24_12 r0 1) (w17).toNatClampNeg w19) fun X42_22 =>
if mT X42_22 r0 = 12 then
if mR X42_22 r0 1 ≠ 0 then
bd (fX12_at r0 v2 (4 : Int32) X42_22) fun w27 X50_28 =>
if mT X50_28 r0 = 12 then
if mR X50_28 r0 1 ≠ 0 then
bd (fX12_at r0 v2 (4 : Int32) X50_28) fun w31 X60_32 =>
if mT X60_32 (mR X50_28 r0 1) = 15 then
if q_b X60_32 (mR X50_28 r0 1) w31 then
if mT X60_32 r0 = 12 then
if mR X60_32 r0 1 ≠ 0 then
bd (fX12_of r0 v1 (10 : Int32) X60_32) fun w37 X74_38 =>
if mT X74_38 (mR X60_32 r0 1) = 15 then
if q_b X74_38 (mR X60_32 r0 1) w37 then
if mT X74_38 r0 = 12 then
bd (fX12_cashOf r0 v1 v5_11 X74_38) fun w41 X84_42 =>
if mT X84_42 (mR X42_22 r0 1) = 15 then
if q_b X84_42 (mR X42_22 r0 1) w27 then
nm (sJ X84_42 (mR X42_22 r0 1) (w27).toNatClampNeg (((mJ X60_32 (mR X50_28 r0 1) (w31).toNatClampNeg) - (v5_11 * (mJ X74_38 (mR X60_32 r0 1) (w37).toNatClampNeg))) - w41)) fun X88_44 =>
if mT X88_44 r0 = 12 then
if mR X88_44 r0 1 ≠ 0 then
bd (fX12_at r0 v2 (3 : Int32) X88_44) fun w49 X96_50 =>
if mT X96_50 (mR X88_44 r0 1) = 15 then
if q_b X96_50 (mR X88_44 r0 1) w49 then
if (lg_cmp (mJ X96_50 (mR X88_44 r0 1) (w49).toNatClampNeg) (0 : Int64)) = 0 then (
if mT X96_50 r0 = 12 then
bd (fX12_paysFor r0 v2 (2 : Int32) X96_50) fun _ X108_54 =>
some ((), X108_54)
else none
) else (
some ((), X96_50)
)
else none
else none
else none
else none
else none
else none
else none
else none
else none
else none
else none
else none
else none
else none
else none
else none
else none
else none
else none
else none
else none
else none
else none
else none
else none
else none
else none
else none
else none
else none
theorem sX12_turnsTrade (r0 : Nat) (v1 : Int32) (v2 : Int32) (v3 : Int64) : q_Ct yX12_turnsTrade cX12_turnsTrade 7 none 2 46 0 0 q_eV (fun P => [.ref (P + r0), .int v1, .int v2, .long v3]) (fX12_turnsTrade r0 v1 v2 v3) := by
  refine q_meth (by decide +kernel) (fun P => Nat.le_of_ble_eq_true rfl) (fun E X C hn => ?_)
  show Sm E (q_fin E q_eV X 0 0) 0 0 0 [(0, .ref (q_P E + r0)), (1, .int v1), (2, .int v2), (3, .long v3)] [] X _
  unfold fX12_turnsTrade
  refine q_aload_n C 0 dX12_turnsTrade_0 rfl rfl ?_
  refine q_chk (fun h1 => ?_)
  refine q_chk (fun h2 => ?_)
  refine p_getR C fgX12_11 rfl dX12_turnsTrade_1 h1 h2 ?_
  refine q_aload_n C 0 dX12_turnsTrade_4 rfl rfl ?_
  refine q_iload_n C 2 dX12_turnsTrade_5 rfl rfl ?_
  refine q_iconst C (3 : Int32) dX12_turnsTrade_6 rfl ?_
  refine q_cVI (As := (fun P => [.int v2, .int (3 : Int32)])) C [.ref (q_P E + (mR X r0 1))] (sX12_at r0 v2 (3 : Int32)) fcX12_111 rfl (fun _ => rfl) ⟨Nat.le_of_ble_eq_true rfl, Nat.le_of_ble_eq_true rfl⟩ ⟨Nat.le_of_ble_eq_true rfl, Nat.le_of_ble_eq_true rfl⟩ (Nat.le_of_ble_eq_true rfl) dX12_turnsTrade_7 h1 (fun w3 X7_4 => ?_)
  refine q_chk (fun h5 => ?_)
  refine q_chk (fun h6 => ?_)
  refine p_lald C dX12_turnsTrade_10 h5 h6 ?_
  refine q_nml (fun v5_11 => ?_)
  refine q_lstore C [(5, .long v5_11), (0, .ref (q_P E + r0)), (1, .int v1), (2, .int v2), (3, .long v3)] dX12_turnsTrade_11 (Nat.le_of_ble_eq_true rfl) rfl ?_
  refine q_aload_n C 1 dX12_turnsTrade_13 rfl rfl ?_
  refine q_chk (fun h8 => ?_)
  refine q_chk (fun h9 => ?_)
  refine p_getR C fgX12_11 rfl dX12_turnsTrade_14 h8 h9 ?_
  refine q_aload_n C 1 dX12_turnsTrade_17 rfl rfl ?_
  refine q_iload_n C 3 dX12_turnsTrade_18 rfl rfl ?_
  refine q_iconst C (2 : Int32) dX12_turnsTrade_19 rfl ?_
  refine q_cVI (As := (fun P => [.int v2, .int (2 : Int32)])) C [.ref (q_P E + (mR X7_4 r0 1))] (sX12_at r0 v2 (2 : Int32)) fcX12_111 rfl (fun _ => rfl) ⟨Nat.le_of_ble_eq_true rfl, Nat.le_of_ble_eq_true rfl⟩ ⟨Nat.le_of_ble_eq_true rfl, Nat.le_of_ble_eq_true rfl⟩ (Nat.le_of_ble_eq_true rfl) dX12_turnsTrade_20 h8 (fun w10 X20_11 => ?_)
  refine q_lload_n C 4 dX12_turnsTrade_23 rfl rfl ?_
  refine q_chk (fun h13 => ?_)
  refine q_chk (fun h14 => ?_)
  refine p_last C dX12_turnsTrade_24 h13 h14 ?_
  refine q_nmX (fun X24_12 => ?_)
  refine q_aload_n C 1 dX12_turnsTrade_25 rfl rfl ?_
  refine q_chk (fun h15 => ?_)
  refine q_chk (fun h16 => ?_)
  refine p_getR C fgX12_11 rfl dX12_turnsTrade_26 h15 h16 ?_
  refine q_aload_n C 1 dX12_turnsTrade_29 rfl rfl ?_
  refine q_iload_n C 3 dX12_turnsTrade_30 rfl rfl ?_
  refine q_iconst C (3 : Int32) dX12_turnsTrade_31 rfl ?_
  refine q_cVI (As := (fun P => [.int v2, .int (3 : Int32)])) C [.ref (q_P E + (mR X24_12 r0 1))] (sX12_at r0 v2 (3 : Int32)) fcX12_111 rfl (fun _ => rfl) ⟨Nat.le_of_ble_eq_true rfl, Nat.le_of_ble_eq_true rfl⟩ ⟨Nat.le_of_ble_eq_true rfl, Nat.le_of_ble_eq_true rfl⟩ (Nat.le_of_ble_eq_true rfl) dX12_turnsTrade_32 h15 (fun w17 X32_18 => ?_)
  refine q_aload_n C 1 dX12_turnsTrade_35 rfl rfl ?_
  refine q_iload_n C 2 dX12_turnsTrade_36 rfl rfl ?_
  refine q_lload C 0 dX12_turnsTrade_37 rfl ?_
  refine q_chk (fun h21 => ?_)
  refine q_cVL (As := (fun P => [.int v1, .long v5_11])) C [.int w17, .ref (q_P E + (mR X24_12 r0 1))] (sX12_wholeOf r0 v1 v5_11) fcX12_194 rfl (fun _ => rfl) ⟨Nat.le_of_ble_eq_true rfl, Nat.le_of_ble_eq_true rfl⟩ ⟨Nat.le_of_ble_eq_true rfl, Nat.le_of_ble_eq_true rfl⟩ (Nat.le_of_ble_eq_true rfl) dX12_turnsTrade_39 h21 (fun w19 X39_20 => ?_)
  refine q_chk (fun h23 => ?_)
  refine q_chk (fun h24 => ?_)
  refine p_last C dX12_turnsTrade_42 h23 h24 ?_
  refine q_nmX (fun X42_22 => ?_)
  refine q_aload_n C 1 dX12_turnsTrade_43 rfl rfl ?_
  refine q_chk (fun h25 => ?_)
  refine q_chk (fun h26 => ?_)
  refine p_getR C fgX12_11 rfl dX12_turnsTrade_44 h25 h26 ?_
  refine q_aload_n C 1 dX12_turnsTrade_47 rfl rfl ?_
  refine q_iload_n C 3 dX12_turnsTrade_48 rfl rfl ?_
  refine q_iconst C (4 : Int32) dX12_turnsTrade_49 rfl ?_
  refine q_cVI (As := (fun P => [.int v2, .int (4 : Int32)])) C [.ref (q_P E + (mR X42_22 r0 1))] (sX12_at r0 v2 (4 : Int32)) fcX12_111 rfl (fun _ => rfl) ⟨Nat.le_of_ble_eq_true rfl, Nat.le_of_ble_eq_true rfl⟩ ⟨Nat.le_of_ble_eq_true rfl, Nat.le_of_ble_eq_true rfl⟩ (Nat.le_of_ble_eq_true rfl) dX12_turnsTrade_50 h25 (fun w27 X50_28 => ?_)
  refine q_aload_n C 1 dX12_turnsTrade_53 rfl rfl ?_
  refine q_chk (fun h29 => ?_)
  refine q_chk (fun h30 => ?_)
  refine p_getR C fgX12_11 rfl dX12_turnsTrade_54 h29 h30 ?_
  refine q_aload_n C 1 dX12_turnsTrade_57 rfl rfl ?_
  refine q_iload_n C 3 dX12_turnsTrade_58 rfl rfl ?_
  refine q_iconst C (4 : Int32) dX12_turnsTrade_59 rfl ?_
  refine q_cVI (As := (fun P => [.int v2, .int (4 : Int32)])) C [.ref (q_P E + (mR X50_28 r0 1)), .int w27, .ref (q_P E + (mR X42_22 r0 1))] (sX12_at r0 v2 (4 : Int32)) fcX12_111 rfl (fun _ => rfl) ⟨Nat.le_of_ble_eq_true rfl, Nat.le_of_ble_eq_true rfl⟩ ⟨Nat.le_of_ble_eq_true rfl, Nat.le_of_ble_eq_true rfl⟩ (Nat.le_of_ble_eq_true rfl) dX12_turnsTrade_60 h29 (fun w31 X60_32 => ?_)
  refine q_chk (fun h33 => ?_)
  refine q_chk (fun h34 => ?_)
  refine p_lald C dX12_turnsTrade_63 h33 h34 ?_
  refine q_lload C 0 dX12_turnsTrade_64 rfl ?_
  refine q_aload_n C 1 dX12_turnsTrade_66 rfl rfl ?_
  refine q_chk (fun h35 => ?_)
  refine q_chk (fun h36 => ?_)
  refine p_getR C fgX12_11 rfl dX12_turnsTrade_67 h35 h36 ?_
  refine q_aload_n C 1 dX12_turnsTrade_70 rfl rfl ?_
  refine q_iload_n C 2 dX12_turnsTrade_71 rfl rfl ?_
  refine q_bipush C (10 : Int32) dX12_turnsTrade_72 rfl ?_
  refine q_cVI (As := (fun P => [.int v1, .int (10 : Int32)])) C [.ref (q_P E + (mR X60_32 r0 1)), .long v5_11, .long (mJ X60_32 (mR X50_28 r0 1) (w31).toNatClampNeg), .int w27, .ref (q_P E + (mR X42_22 r0 1))] (sX12_of r0 v1 (10 : Int32)) fcX12_66 rfl (fun _ => rfl) ⟨Nat.le_of_ble_eq_true rfl, Nat.le_of_ble_eq_true rfl⟩ ⟨Nat.le_of_ble_eq_true rfl, Nat.le_of_ble_eq_true rfl⟩ (Nat.le_of_ble_eq_true rfl) dX12_turnsTrade_74 h35 (fun w37 X74_38 => ?_)
  refine q_chk (fun h39 => ?_)
  refine q_chk (fun h40 => ?_)
  refine p_lald C dX12_turnsTrade_77 h39 h40 ?_
  refine q_lmul C dX12_turnsTrade_78 ?_
  refine q_lsub C dX12_turnsTrade_79 ?_
  refine q_aload_n C 1 dX12_turnsTrade_80 rfl rfl ?_
  refine q_iload_n C 2 dX12_turnsTrade_81 rfl rfl ?_
  refine q_lload C 0 dX12_turnsTrade_82 rfl ?_
  refine q_chk (fun h43 => ?_)
  refine q_cVL (As := (fun P => [.int v1, .long v5_11])) C [.long ((mJ X60_32 (mR X50_28 r0 1) (w31).toNatClampNeg) - (v5_11 * (mJ X74_38 (mR X60_32 r0 1) (w37).toNatClampNeg))), .int w27, .ref (q_P E + (mR X42_22 r0 1))] (sX12_cashOf r0 v1 v5_11) fcX12_190 rfl (fun _ => rfl) ⟨Nat.le_of_ble_eq_true rfl, Nat.le_of_ble_eq_true rfl⟩ ⟨Nat.le_of_ble_eq_true rfl, Nat.le_of_ble_eq_true rfl⟩ (Nat.le_of_ble_eq_true rfl) dX12_turnsTrade_84 h43 (fun w41 X84_42 => ?_)
  refine q_lsub C dX12_turnsTrade_87 ?_
  refine q_chk (fun h45 => ?_)
  refine q_chk (fun h46 => ?_)
  refine p_last C dX12_turnsTrade_88 h45 h46 ?_
  refine q_nmX (fun X88_44 => ?_)
  refine q_aload_n C 1 dX12_turnsTrade_89 rfl rfl ?_
  refine q_chk (fun h47 => ?_)
  refine q_chk (fun h48 => ?_)
  refine p_getR C fgX12_11 rfl dX12_turnsTrade_90 h47 h48 ?_
  refine q_aload_n C 1 dX12_turnsTrade_93 rfl rfl ?_
  refine q_iload_n C 3 dX12_turnsTrade_94 rfl rfl ?_
  refine q_iconst C (3 : Int32) dX12_turnsTrade_95 rfl ?_
  refine q_cVI (As := (fun P => [.int v2, .int (3 : Int32)])) C [.ref (q_P E + (mR X88_44 r0 1))] (sX12_at r0 v2 (3 : Int32)) fcX12_111 rfl (fun _ => rfl) ⟨Nat.le_of_ble_eq_true rfl, Nat.le_of_ble_eq_true rfl⟩ ⟨Nat.le_of_ble_eq_true rfl, Nat.le_of_ble_eq_true rfl⟩ (Nat.le_of_ble_eq_true rfl) dX12_turnsTrade_96 h47 (fun w49 X96_50 => ?_)
  refine q_chk (fun h51 => ?_)
  refine q_chk (fun h52 => ?_)
  refine p_lald C dX12_turnsTrade_99 h51 h52 ?_
  refine q_lconst C (0 : Int64) dX12_turnsTrade_100 rfl ?_
  refine q_lcmp C dX12_turnsTrade_101 ?_
  refine q_if_ne C 111 dX12_turnsTrade_102 (by decide) (fun _ => ?_) (fun _ => ?_)
  · refine q_aload_n C 1 dX12_turnsTrade_105 rfl rfl ?_
    refine q_iload_n C 3 dX12_turnsTrade_106 rfl rfl ?_
    refine q_iconst C (2 : Int32) dX12_turnsTrade_107 rfl ?_
    refine q_chk (fun h55 => ?_)
    refine q_cVV (As := (fun P => [.int v2, .int (2 : Int32)])) C [] (sX12_paysFor r0 v2 (2 : Int32)) fcX12_179 rfl (fun _ => rfl) ⟨Nat.le_of_ble_eq_true rfl, Nat.le_of_ble_eq_true rfl⟩ ⟨Nat.le_of_ble_eq_true rfl, Nat.le_of_ble_eq_true rfl⟩ (Nat.le_of_ble_eq_true rfl) dX12_turnsTrade_108 h55 (fun _ X108_54 => ?_)
    exact q_vret C dX12_turnsTrade_111
  · exact q_vret C dX12_turnsTrade_111
/-! RecordClaimsModel.turnsAll(I)V -/
abbrev cX12_turnsAll : ByteArray := prog_14_method_38_code
def yX12_turnsAll : MethodName := ⟨RX12, "turnsAll", "(I)V"⟩
theorem dX12_turnsAll_0 : decode cX12_turnsAll 0 = .ok (.aload_n 0, 1) := by decide +kernel
theorem dX12_turnsAll_1 : decode cX12_turnsAll 1 = .ok (.getfield 11, 3) := by decide +kernel
theorem dX12_turnsAll_4 : decode cX12_turnsAll 4 = .ok (.aload_n 0, 1) := by decide +kernel
theorem dX12_turnsAll_5 : decode cX12_turnsAll 5 = .ok (.iload_n 1, 1) := by decide +kernel
theorem dX12_turnsAll_6 : decode cX12_turnsAll 6 = .ok (.iconst 1, 1) := by decide +kernel
theorem dX12_turnsAll_7 : decode cX12_turnsAll 7 = .ok (.invokevirtual 66, 3) := by decide +kernel
theorem dX12_turnsAll_10 : decode cX12_turnsAll 10 = .ok (.laload, 1) := by decide +kernel
theorem dX12_turnsAll_11 : decode cX12_turnsAll 11 = .ok (.lstore_n 2, 1) := by decide +kernel
theorem dX12_turnsAll_12 : decode cX12_turnsAll 12 = .ok (.aload_n 0, 1) := by decide +kernel
theorem dX12_turnsAll_13 : decode cX12_turnsAll 13 = .ok (.getfield 11, 3) := by decide +kernel
theorem dX12_turnsAll_16 : decode cX12_turnsAll 16 = .ok (.aload_n 0, 1) := by decide +kernel
theorem dX12_turnsAll_17 : decode cX12_turnsAll 17 = .ok (.iload_n 1, 1) := by decide +kernel
theorem dX12_turnsAll_18 : decode cX12_turnsAll 18 = .ok (.bipush 7, 2) := by decide +kernel
theorem dX12_turnsAll_20 : decode cX12_turnsAll 20 = .ok (.invokevirtual 66, 3) := by decide +kernel
theorem dX12_turnsAll_23 : decode cX12_turnsAll 23 = .ok (.laload, 1) := by decide +kernel
theorem dX12_turnsAll_24 : decode cX12_turnsAll 24 = .ok (.lstore 4, 2) := by decide +kernel
theorem dX12_turnsAll_26 : decode cX12_turnsAll 26 = .ok (.aload_n 0, 1) := by decide +kernel
theorem dX12_turnsAll_27 : decode cX12_turnsAll 27 = .ok (.getfield 11, 3) := by decide +kernel
theorem dX12_turnsAll_30 : decode cX12_turnsAll 30 = .ok (.aload_n 0, 1) := by decide +kernel
theorem dX12_turnsAll_31 : decode cX12_turnsAll 31 = .ok (.iload_n 1, 1) := by decide +kernel
theorem dX12_turnsAll_32 : decode cX12_turnsAll 32 = .ok (.iconst 5, 1) := by decide +kernel
theorem dX12_turnsAll_33 : decode cX12_turnsAll 33 = .ok (.invokevirtual 66, 3) := by decide +kernel
theorem dX12_turnsAll_36 : decode cX12_turnsAll 36 = .ok (.ldc2_w 136, 3) := by decide +kernel
theorem dX12_turnsAll_39 : decode cX12_turnsAll 39 = .ok (.lastore, 1) := by decide +kernel
theorem dX12_turnsAll_40 : decode cX12_turnsAll 40 = .ok (.iconst 0, 1) := by decide +kernel
theorem dX12_turnsAll_41 : decode cX12_turnsAll 41 = .ok (.istore 6, 2) := by decide +kernel
theorem dX12_turnsAll_43 : decode cX12_turnsAll 43 = .ok (.iload 6, 2) := by decide +kernel
theorem dX12_turnsAll_45 : decode cX12_turnsAll 45 = .ok (.aload_n 0, 1) := by decide +kernel
theorem dX12_turnsAll_46 : decode cX12_turnsAll 46 = .ok (.getfield 77, 3) := by decide +kernel
theorem dX12_turnsAll_49 : decode cX12_turnsAll 49 = .ok (.if_icmp .ge 109, 3) := by decide +kernel
theorem dX12_turnsAll_52 : decode cX12_turnsAll 52 = .ok (.aload_n 0, 1) := by decide +kernel
theorem dX12_turnsAll_53 : decode cX12_turnsAll 53 = .ok (.iload 6, 2) := by decide +kernel
theorem dX12_turnsAll_55 : decode cX12_turnsAll 55 = .ok (.i2l, 1) := by decide +kernel
theorem dX12_turnsAll_56 : decode cX12_turnsAll 56 = .ok (.lload_n 2, 1) := by decide +kernel
theorem dX12_turnsAll_57 : decode cX12_turnsAll 57 = .ok (.invokevirtual 171, 3) := by decide +kernel
theorem dX12_turnsAll_60 : decode cX12_turnsAll 60 = .ok (.lstore 7, 2) := by decide +kernel
theorem dX12_turnsAll_62 : decode cX12_turnsAll 62 = .ok (.lload 7, 2) := by decide +kernel
theorem dX12_turnsAll_64 : decode cX12_turnsAll 64 = .ok (.aload_n 0, 1) := by decide +kernel
theorem dX12_turnsAll_65 : decode cX12_turnsAll 65 = .ok (.getfield 11, 3) := by decide +kernel
theorem dX12_turnsAll_68 : decode cX12_turnsAll 68 = .ok (.aload_n 0, 1) := by decide +kernel
theorem dX12_turnsAll_69 : decode cX12_turnsAll 69 = .ok (.iload_n 1, 1) := by decide +kernel
theorem dX12_turnsAll_70 : decode cX12_turnsAll 70 = .ok (.bipush 10, 2) := by decide +kernel
theorem dX12_turnsAll_72 : decode cX12_turnsAll 72 = .ok (.invokevirtual 66, 3) := by decide +kernel
theorem dX12_turnsAll_75 : decode cX12_turnsAll 75 = .ok (.laload, 1) := by decide +kernel
theorem dX12_turnsAll_76 : decode cX12_turnsAll 76 = .ok (.lmul, 1) := by decide +kernel
theorem dX12_turnsAll_77 : decode cX12_turnsAll 77 = .ok (.aload_n 0, 1) := by decide +kernel
theorem dX12_turnsAll_78 : decode cX12_turnsAll 78 = .ok (.iload_n 1, 1) := by decide +kernel
theorem dX12_turnsAll_79 : decode cX12_turnsAll 79 = .ok (.lload 7, 2) := by decide +kernel
theorem dX12_turnsAll_81 : decode cX12_turnsAll 81 = .ok (.invokevirtual 190, 3) := by decide +kernel
theorem dX12_turnsAll_84 : decode cX12_turnsAll 84 = .ok (.ladd, 1) := by decide +kernel
theorem dX12_turnsAll_85 : decode cX12_turnsAll 85 = .ok (.lstore 9, 2) := by decide +kernel
theorem dX12_turnsAll_87 : decode cX12_turnsAll 87 = .ok (.aload_n 0, 1) := by decide +kernel
theorem dX12_turnsAll_88 : decode cX12_turnsAll 88 = .ok (.getfield 11, 3) := by decide +kernel
theorem dX12_turnsAll_91 : decode cX12_turnsAll 91 = .ok (.aload_n 0, 1) := by decide +kernel
theorem dX12_turnsAll_92 : decode cX12_turnsAll 92 = .ok (.iload_n 1, 1) := by decide +kernel
theorem dX12_turnsAll_93 : decode cX12_turnsAll 93 = .ok (.iload 6, 2) := by decide +kernel
theorem dX12_turnsAll_95 : decode cX12_turnsAll 95 = .ok (.iconst 0, 1) := by decide +kernel
theorem dX12_turnsAll_96 : decode cX12_turnsAll 96 = .ok (.invokevirtual 140, 3) := by decide +kernel
theorem dX12_turnsAll_99 : decode cX12_turnsAll 99 = .ok (.lload 7, 2) := by decide +kernel
theorem dX12_turnsAll_101 : decode cX12_turnsAll 101 = .ok (.lastore, 1) := by decide +kernel
theorem dX12_turnsAll_102 : decode cX12_turnsAll 102 = .ok (.aload_n 0, 1) := by decide +kernel
theorem dX12_turnsAll_103 : decode cX12_turnsAll 103 = .ok (.iload 6, 2) := by decide +kernel
theorem dX12_turnsAll_105 : decode cX12_turnsAll 105 = .ok (.i2l, 1) := by decide +kernel
theorem dX12_turnsAll_106 : decode cX12_turnsAll 106 = .ok (.lload_n 2, 1) := by decide +kernel
theorem dX12_turnsAll_107 : decode cX12_turnsAll 107 = .ok (.lload 7, 2) := by decide +kernel
theorem dX12_turnsAll_109 : decode cX12_turnsAll 109 = .ok (.lneg, 1) := by decide +kernel
theorem dX12_turnsAll_110 : decode cX12_turnsAll 110 = .ok (.invokevirtual 175, 3) := by decide +kernel
theorem dX12_turnsAll_113 : decode cX12_turnsAll 113 = .ok (.aload_n 0, 1) := by decide +kernel
theorem dX12_turnsAll_114 : decode cX12_turnsAll 114 = .ok (.iload 6, 2) := by decide +kernel
theorem dX12_turnsAll_116 : decode cX12_turnsAll 116 = .ok (.i2l, 1) := by decide +kernel
theorem dX12_turnsAll_117 : decode cX12_turnsAll 117 = .ok (.lload 4, 2) := by decide +kernel
theorem dX12_turnsAll_119 : decode cX12_turnsAll 119 = .ok (.aload_n 0, 1) := by decide +kernel
theorem dX12_turnsAll_120 : decode cX12_turnsAll 120 = .ok (.iload_n 1, 1) := by decide +kernel
theorem dX12_turnsAll_121 : decode cX12_turnsAll 121 = .ok (.lload 7, 2) := by decide +kernel
theorem dX12_turnsAll_123 : decode cX12_turnsAll 123 = .ok (.invokevirtual 194, 3) := by decide +kernel
theorem dX12_turnsAll_126 : decode cX12_turnsAll 126 = .ok (.invokevirtual 175, 3) := by decide +kernel
theorem dX12_turnsAll_129 : decode cX12_turnsAll 129 = .ok (.aload_n 0, 1) := by decide +kernel
theorem dX12_turnsAll_130 : decode cX12_turnsAll 130 = .ok (.iload 6, 2) := by decide +kernel
theorem dX12_turnsAll_132 : decode cX12_turnsAll 132 = .ok (.i2l, 1) := by decide +kernel
theorem dX12_turnsAll_133 : decode cX12_turnsAll 133 = .ok (.lload 9, 2) := by decide +kernel
theorem dX12_turnsAll_135 : decode cX12_turnsAll 135 = .ok (.invokevirtual 182, 3) := by decide +kernel
theorem dX12_turnsAll_138 : decode cX12_turnsAll 138 = .ok (.aload_n 0, 1) := by decide +kernel
theorem dX12_turnsAll_139 : decode cX12_turnsAll 139 = .ok (.iload_n 1, 1) := by decide +kernel
theorem dX12_turnsAll_140 : decode cX12_turnsAll 140 = .ok (.aload_n 0, 1) := by decide +kernel
theorem dX12_turnsAll_141 : decode cX12_turnsAll 141 = .ok (.iload_n 1, 1) := by decide +kernel
theorem dX12_turnsAll_142 : decode cX12_turnsAll 142 = .ok (.lload 7, 2) := by decide +kernel
theorem dX12_turnsAll_144 : decode cX12_turnsAll 144 = .ok (.invokevirtual 194, 3) := by decide +kernel
theorem dX12_turnsAll_147 : decode cX12_turnsAll 147 = .ok (.lload 9, 2) := by decide +kernel
theorem dX12_turnsAll_149 : decode cX12_turnsAll 149 = .ok (.invokevirtual 197, 3) := by decide +kernel
theorem dX12_turnsAll_152 : decode cX12_turnsAll 152 = .ok (.iinc 6 1, 3) := by decide +kernel
theorem dX12_turnsAll_155 : decode cX12_turnsAll 155 = .ok (.goto (-112), 3) := by decide +kernel
theorem dX12_turnsAll_158 : decode cX12_turnsAll 158 = .ok (.iconst 0, 1) := by decide +kernel
theorem dX12_turnsAll_159 : decode cX12_turnsAll 159 = .ok (.istore 6, 2) := by decide +kernel
theorem dX12_turnsAll_161 : decode cX12_turnsAll 161 = .ok (.iload 6, 2) := by decide +kernel
theorem dX12_turnsAll_163 : decode cX12_turnsAll 163 = .ok (.aload_n 0, 1) := by decide +kernel
theorem dX12_turnsAll_164 : decode cX12_turnsAll 164 = .ok (.invokevirtual 87, 3) := by decide +kernel
theorem dX12_turnsAll_167 : decode cX12_turnsAll 167 = .ok (.if_icmp .ge 53, 3) := by decide +kernel
theorem dX12_turnsAll_170 : decode cX12_turnsAll 170 = .ok (.aload_n 0, 1) := by decide +kernel
theorem dX12_turnsAll_171 : decode cX12_turnsAll 171 = .ok (.getfield 11, 3) := by decide +kernel
theorem dX12_turnsAll_174 : decode cX12_turnsAll 174 = .ok (.aload_n 0, 1) := by decide +kernel
theorem dX12_turnsAll_175 : decode cX12_turnsAll 175 = .ok (.iload 6, 2) := by decide +kernel
theorem dX12_turnsAll_177 : decode cX12_turnsAll 177 = .ok (.bipush 7, 2) := by decide +kernel
theorem dX12_turnsAll_179 : decode cX12_turnsAll 179 = .ok (.invokevirtual 111, 3) := by decide +kernel
theorem dX12_turnsAll_182 : decode cX12_turnsAll 182 = .ok (.laload, 1) := by decide +kernel
theorem dX12_turnsAll_183 : decode cX12_turnsAll 183 = .ok (.lconst 0, 1) := by decide +kernel
theorem dX12_turnsAll_184 : decode cX12_turnsAll 184 = .ok (.lcmp, 1) := by decide +kernel
theorem dX12_turnsAll_185 : decode cX12_turnsAll 185 = .ok (.ifCond .ne 29, 3) := by decide +kernel
theorem dX12_turnsAll_188 : decode cX12_turnsAll 188 = .ok (.aload_n 0, 1) := by decide +kernel
theorem dX12_turnsAll_189 : decode cX12_turnsAll 189 = .ok (.getfield 11, 3) := by decide +kernel
theorem dX12_turnsAll_192 : decode cX12_turnsAll 192 = .ok (.aload_n 0, 1) := by decide +kernel
theorem dX12_turnsAll_193 : decode cX12_turnsAll 193 = .ok (.iload 6, 2) := by decide +kernel
theorem dX12_turnsAll_195 : decode cX12_turnsAll 195 = .ok (.iconst 2, 1) := by decide +kernel
theorem dX12_turnsAll_196 : decode cX12_turnsAll 196 = .ok (.invokevirtual 111, 3) := by decide +kernel
theorem dX12_turnsAll_199 : decode cX12_turnsAll 199 = .ok (.laload, 1) := by decide +kernel
theorem dX12_turnsAll_200 : decode cX12_turnsAll 200 = .ok (.lload_n 2, 1) := by decide +kernel
theorem dX12_turnsAll_201 : decode cX12_turnsAll 201 = .ok (.lcmp, 1) := by decide +kernel
theorem dX12_turnsAll_202 : decode cX12_turnsAll 202 = .ok (.ifCond .ne 12, 3) := by decide +kernel
theorem dX12_turnsAll_205 : decode cX12_turnsAll 205 = .ok (.aload_n 0, 1) := by decide +kernel
theorem dX12_turnsAll_206 : decode cX12_turnsAll 206 = .ok (.iload_n 1, 1) := by decide +kernel
theorem dX12_turnsAll_207 : decode cX12_turnsAll 207 = .ok (.iload 6, 2) := by decide +kernel
theorem dX12_turnsAll_209 : decode cX12_turnsAll 209 = .ok (.lload 4, 2) := by decide +kernel
theorem dX12_turnsAll_211 : decode cX12_turnsAll 211 = .ok (.invokevirtual 201, 3) := by decide +kernel
theorem dX12_turnsAll_214 : decode cX12_turnsAll 214 = .ok (.iinc 6 1, 3) := by decide +kernel
theorem dX12_turnsAll_217 : decode cX12_turnsAll 217 = .ok (.goto (-56), 3) := by decide +kernel
theorem dX12_turnsAll_220 : decode cX12_turnsAll 220 = .ok (.iconst 0, 1) := by decide +kernel
theorem dX12_turnsAll_221 : decode cX12_turnsAll 221 = .ok (.istore 6, 2) := by decide +kernel
theorem dX12_turnsAll_223 : decode cX12_turnsAll 223 = .ok (.iload 6, 2) := by decide +kernel
theorem dX12_turnsAll_225 : decode cX12_turnsAll 225 = .ok (.aload_n 0, 1) := by decide +kernel
theorem dX12_turnsAll_226 : decode cX12_turnsAll 226 = .ok (.invokevirtual 91, 3) := by decide +kernel
theorem dX12_turnsAll_229 : decode cX12_turnsAll 229 = .ok (.if_icmp .ge 122, 3) := by decide +kernel
theorem dX12_turnsAll_232 : decode cX12_turnsAll 232 = .ok (.aload_n 0, 1) := by decide +kernel
theorem dX12_turnsAll_233 : decode cX12_turnsAll 233 = .ok (.getfield 11, 3) := by decide +kernel
theorem dX12_turnsAll_236 : decode cX12_turnsAll 236 = .ok (.aload_n 0, 1) := by decide +kernel
theorem dX12_turnsAll_237 : decode cX12_turnsAll 237 = .ok (.iload 6, 2) := by decide +kernel
theorem dX12_turnsAll_239 : decode cX12_turnsAll 239 = .ok (.iconst 3, 1) := by decide +kernel
theorem dX12_turnsAll_240 : decode cX12_turnsAll 240 = .ok (.invokevirtual 66, 3) := by decide +kernel
theorem dX12_turnsAll_243 : decode cX12_turnsAll 243 = .ok (.laload, 1) := by decide +kernel
theorem dX12_turnsAll_244 : decode cX12_turnsAll 244 = .ok (.aload_n 0, 1) := by decide +kernel
theorem dX12_turnsAll_245 : decode cX12_turnsAll 245 = .ok (.getfield 11, 3) := by decide +kernel
theorem dX12_turnsAll_248 : decode cX12_turnsAll 248 = .ok (.bipush 62, 2) := by decide +kernel
theorem dX12_turnsAll_250 : decode cX12_turnsAll 250 = .ok (.laload, 1) := by decide +kernel
theorem dX12_turnsAll_251 : decode cX12_turnsAll 251 = .ok (.lcmp, 1) := by decide +kernel
theorem dX12_turnsAll_252 : decode cX12_turnsAll 252 = .ok (.ifCond .gt 32, 3) := by decide +kernel
theorem dX12_turnsAll_255 : decode cX12_turnsAll 255 = .ok (.aload_n 0, 1) := by decide +kernel
theorem dX12_turnsAll_256 : decode cX12_turnsAll 256 = .ok (.getfield 11, 3) := by decide +kernel
theorem dX12_turnsAll_259 : decode cX12_turnsAll 259 = .ok (.aload_n 0, 1) := by decide +kernel
theorem dX12_turnsAll_260 : decode cX12_turnsAll 260 = .ok (.iload 6, 2) := by decide +kernel
theorem dX12_turnsAll_262 : decode cX12_turnsAll 262 = .ok (.iconst 3, 1) := by decide +kernel
theorem dX12_turnsAll_263 : decode cX12_turnsAll 263 = .ok (.invokevirtual 66, 3) := by decide +kernel
theorem dX12_turnsAll_266 : decode cX12_turnsAll 266 = .ok (.laload, 1) := by decide +kernel
theorem dX12_turnsAll_267 : decode cX12_turnsAll 267 = .ok (.aload_n 0, 1) := by decide +kernel
theorem dX12_turnsAll_268 : decode cX12_turnsAll 268 = .ok (.getfield 11, 3) := by decide +kernel
theorem dX12_turnsAll_271 : decode cX12_turnsAll 271 = .ok (.bipush 62, 2) := by decide +kernel
theorem dX12_turnsAll_273 : decode cX12_turnsAll 273 = .ok (.laload, 1) := by decide +kernel
theorem dX12_turnsAll_274 : decode cX12_turnsAll 274 = .ok (.lcmp, 1) := by decide +kernel
theorem dX12_turnsAll_275 : decode cX12_turnsAll 275 = .ok (.ifCond .ne 13, 3) := by decide +kernel
theorem dX12_turnsAll_278 : decode cX12_turnsAll 278 = .ok (.iload 6, 2) := by decide +kernel
theorem dX12_turnsAll_280 : decode cX12_turnsAll 280 = .ok (.iload_n 1, 1) := by decide +kernel
theorem dX12_turnsAll_281 : decode cX12_turnsAll 281 = .ok (.if_icmp .le 7, 3) := by decide +kernel
theorem dX12_turnsAll_284 : decode cX12_turnsAll 284 = .ok (.iconst 1, 1) := by decide +kernel
theorem dX12_turnsAll_285 : decode cX12_turnsAll 285 = .ok (.goto 4, 3) := by decide +kernel
theorem dX12_turnsAll_288 : decode cX12_turnsAll 288 = .ok (.iconst 0, 1) := by decide +kernel
theorem dX12_turnsAll_289 : decode cX12_turnsAll 289 = .ok (.istore 7, 2) := by decide +kernel
theorem dX12_turnsAll_291 : decode cX12_turnsAll 291 = .ok (.aload_n 0, 1) := by decide +kernel
theorem dX12_turnsAll_292 : decode cX12_turnsAll 292 = .ok (.getfield 11, 3) := by decide +kernel
theorem dX12_turnsAll_295 : decode cX12_turnsAll 295 = .ok (.aload_n 0, 1) := by decide +kernel
theorem dX12_turnsAll_296 : decode cX12_turnsAll 296 = .ok (.iload 6, 2) := by decide +kernel
theorem dX12_turnsAll_298 : decode cX12_turnsAll 298 = .ok (.iconst 5, 1) := by decide +kernel
theorem dX12_turnsAll_299 : decode cX12_turnsAll 299 = .ok (.invokevirtual 66, 3) := by decide +kernel
theorem dX12_turnsAll_302 : decode cX12_turnsAll 302 = .ok (.laload, 1) := by decide +kernel
theorem dX12_turnsAll_303 : decode cX12_turnsAll 303 = .ok (.lconst 0, 1) := by decide +kernel
theorem dX12_turnsAll_304 : decode cX12_turnsAll 304 = .ok (.lcmp, 1) := by decide +kernel
theorem dX12_turnsAll_305 : decode cX12_turnsAll 305 = .ok (.ifCond .ne 40, 3) := by decide +kernel
theorem dX12_turnsAll_308 : decode cX12_turnsAll 308 = .ok (.aload_n 0, 1) := by decide +kernel
theorem dX12_turnsAll_309 : decode cX12_turnsAll 309 = .ok (.getfield 11, 3) := by decide +kernel
theorem dX12_turnsAll_312 : decode cX12_turnsAll 312 = .ok (.aload_n 0, 1) := by decide +kernel
theorem dX12_turnsAll_313 : decode cX12_turnsAll 313 = .ok (.iload 6, 2) := by decide +kernel
theorem dX12_turnsAll_315 : decode cX12_turnsAll 315 = .ok (.iconst 1, 1) := by decide +kernel
theorem dX12_turnsAll_316 : decode cX12_turnsAll 316 = .ok (.invokevirtual 66, 3) := by decide +kernel
theorem dX12_turnsAll_319 : decode cX12_turnsAll 319 = .ok (.laload, 1) := by decide +kernel
theorem dX12_turnsAll_320 : decode cX12_turnsAll 320 = .ok (.lload_n 2, 1) := by decide +kernel
theorem dX12_turnsAll_321 : decode cX12_turnsAll 321 = .ok (.lcmp, 1) := by decide +kernel
theorem dX12_turnsAll_322 : decode cX12_turnsAll 322 = .ok (.ifCond .ne 23, 3) := by decide +kernel
theorem dX12_turnsAll_325 : decode cX12_turnsAll 325 = .ok (.iload 7, 2) := by decide +kernel
theorem dX12_turnsAll_327 : decode cX12_turnsAll 327 = .ok (.ifCond .eq 18, 3) := by decide +kernel
theorem dX12_turnsAll_330 : decode cX12_turnsAll 330 = .ok (.aload_n 0, 1) := by decide +kernel
theorem dX12_turnsAll_331 : decode cX12_turnsAll 331 = .ok (.getfield 11, 3) := by decide +kernel
theorem dX12_turnsAll_334 : decode cX12_turnsAll 334 = .ok (.aload_n 0, 1) := by decide +kernel
theorem dX12_turnsAll_335 : decode cX12_turnsAll 335 = .ok (.iload 6, 2) := by decide +kernel
theorem dX12_turnsAll_337 : decode cX12_turnsAll 337 = .ok (.iconst 5, 1) := by decide +kernel
theorem dX12_turnsAll_338 : decode cX12_turnsAll 338 = .ok (.invokevirtual 66, 3) := by decide +kernel
theorem dX12_turnsAll_341 : decode cX12_turnsAll 341 = .ok (.ldc2_w 153, 3) := by decide +kernel
theorem dX12_turnsAll_344 : decode cX12_turnsAll 344 = .ok (.lastore, 1) := by decide +kernel
theorem dX12_turnsAll_345 : decode cX12_turnsAll 345 = .ok (.iinc 6 1, 3) := by decide +kernel
theorem dX12_turnsAll_348 : decode cX12_turnsAll 348 = .ok (.goto (-125), 3) := by decide +kernel
theorem dX12_turnsAll_351 : decode cX12_turnsAll 351 = .ok (.return_, 1) := by decide +kernel
theorem fkX12_153 : Cond.constantLong RX12 153 (3 : Int64) ∈ q_tbl := q_tb 1605 (by decide +kernel) rfl
theorem fcX12_201 : q_LV RX12 201 yX12_turnsTrade cX12_turnsTrade 7 none 3 12 := ⟨q_tb 1622 (by decide +kernel) rfl, q_tb 1624 (by decide +kernel) rfl, q_tbs (q := (yX12_turnsTrade, 35)) 108 (by decide +kernel) rfl, q_tb 13 (by decide +kernel) rfl, q_tb 1625 (by decide +kernel) rfl, ⟨by decide +kernel, by decide +kernel, by decide +kernel⟩, TX12, 35, rfl⟩
theorem fcX12_197 : q_LV RX12 197 yX12_issues cX12_issues 6 none 3 12 := ⟨q_tb 1618 (by decide +kernel) rfl, q_tb 1620 (by decide +kernel) rfl, q_tbs (q := (yX12_issues, 35)) 107 (by decide +kernel) rfl, q_tb 13 (by decide +kernel) rfl, q_tb 1621 (by decide +kernel) rfl, ⟨by decide +kernel, by decide +kernel, by decide +kernel⟩, TX12, 35, rfl⟩
def fX12_turnsAll_L345 (n : Nat) (k223 : Nat → Int32 → Int64 → Int32 → Mm → Option (Unit × Mm)) (r0 : Nat) (v1 : Int32) (v2 : Int64) (v6 : Int32) (X : Mm) : Option (Unit × Mm) :=
nm (v6 + (1 : Int32)) fun v6_345 =>
k223 r0 v1 v2 v6_345 X
def fX12_turnsAll_L289 (n : Nat) (k223 : Nat → Int32 → Int64 → Int32 → Mm → Option (Unit × Mm)) (r0 : Nat) (v1 : Int32) (v2 : Int64) (v6 : Int32) (s0 : Int32) (X : Mm) : Option (Unit × Mm) :=
if mT X r0 = 12 then
if mR X r0 1 ≠ 0 then
bd (fX12_of r0 v6 (5 : Int32) X) fun w41 X299_42 =>
if mT X299_42 (mR X r0 1) = 15 then
if q_b X299_42 (mR X r0 1) w41 then
if (lg_cmp (mJ X299_42 (mR X r0 1) (w41).toNatClampNeg) (0 : Int64)) = 0 then (
if mT X299_42 r0 = 12 then
if mR X299_42 r0 1 ≠ 0 then
bd (fX12_of r0 v6 (1 : Int32) X299_42) fun w47 X316_48 =>
if mT X316_48 (mR X299_42 r0 1) = 15 then
if q_b X316_48 (mR X299_42 r0 1) w47 then
if (lg_cmp (mJ X316_48 (mR X299_42 r0 1) (w47).toNatClampNeg) v2) = 0 then (
if s0 = 0 then (
fX12_turnsAll_L345 n k223 r0 v1 v2 v6 X316_48
) else (
if mT X316_48 r0 = 12 then
if mR X316_48 r0 1 ≠ 0 then
bd (fX12_of r0 v6 (5 : Int32) X316_48) fun w53 X338_54 =>
if mT X338_54 (mR X316_48 r0 1) = 15 then
if q_b X338_54 (mR X316_48 r0 1) w53 then
nm (sJ X338_54 (mR X316_48 r0 1) (w53).toNatClampNeg (3 : Int64)) fun X344_55 =>
fX12_turnsAll_L345 n k223 r0 v1 v2 v6 X344_55
else none
else none
else none
else none
)
) else (
fX12_turnsAll_L345 n k223 r0 v1 v2 v6 X316_48
)
else none
else none
else none
else none
) else (
fX12_turnsAll_L345 n k223 r0 v1 v2 v6 X299_42
)
else none
else none
else none
else none
def fX12_turnsAll_L284 (n : Nat) (k223 : Nat → Int32 → Int64 → Int32 → Mm → Option (Unit × Mm)) (r0 : Nat) (v1 : Int32) (v2 : Int64) (v6 : Int32) (X : Mm) : Option (Unit × Mm) :=
fX12_turnsAll_L289 n k223 r0 v1 v2 v6 (1 : Int32) X
def fX12_turnsAll_L288 (n : Nat) (k223 : Nat → Int32 → Int64 → Int32 → Mm → Option (Unit × Mm)) (r0 : Nat) (v1 : Int32) (v2 : Int64) (v6 : Int32) (X : Mm) : Option (Unit × Mm) :=
fX12_turnsAll_L289 n k223 r0 v1 v2 v6 (0 : Int32) X
def fX12_turnsAll_L223 (n : Nat) : Nat → Nat → Int32 → Int64 → Int32 → Mm → Option (Unit × Mm)
| 0, _, _, _, _, _ => none
| j + 1, r0, v1, v2, v6, X =>
if mT X r0 = 12 then
bd (fX12_eventMany r0 X) fun w26 X226_27 =>
if w26 ≤ v6 then (
some ((), X226_27)
) else (
if mT X226_27 r0 = 12 then
if mR X226_27 r0 1 ≠ 0 then
bd (fX12_of r0 v6 (3 : Int32) X226_27) fun w31 X240_32 =>
if mT X240_32 (mR X226_27 r0 1) = 15 then
if q_b X240_32 (mR X226_27 r0 1) w31 then
if mT X240_32 r0 = 12 then
if mR X240_32 r0 1 ≠ 0 then
if mT X240_32 (mR X240_32 r0 1) = 15 then
if q_b X240_32 (mR X240_32 r0 1) (62 : Int32) then
if 0 < (lg_cmp (mJ X240_32 (mR X226_27 r0 1) (w31).toNatClampNeg) (mJ X240_32 (mR X240_32 r0 1) ((62 : Int32)).toNatClampNeg)) then (
fX12_turnsAll_L284 n (fX12_turnsAll_L223 n j) r0 v1 v2 v6 X240_32
) else (
bd (fX12_of r0 v6 (3 : Int32) X240_32) fun w58 X263_59 =>
if mT X263_59 (mR X240_32 r0 1) = 15 then
if q_b X263_59 (mR X240_32 r0 1) w58 then
if mT X263_59 r0 = 12 then
if mR X263_59 r0 1 ≠ 0 then
if mT X263_59 (mR X263_59 r0 1) = 15 then
if q_b X263_59 (mR X263_59 r0 1) (62 : Int32) then
if (lg_cmp (mJ X263_59 (mR X240_32 r0 1) (w58).toNatClampNeg) (mJ X263_59 (mR X263_59 r0 1) ((62 : Int32)).toNatClampNeg)) = 0 then (
if v6 ≤ v1 then (
fX12_turnsAll_L288 n (fX12_turnsAll_L223 n j) r0 v1 v2 v6 X263_59
) else (
fX12_turnsAll_L284 n (fX12_turnsAll_L223 n j) r0 v1 v2 v6 X263_59
)
) else (
fX12_turnsAll_L288 n (fX12_turnsAll_L223 n j) r0 v1 v2 v6 X263_59
)
else none
else none
else none
else none
else none
else none
)
else none
else none
else none
else none
else none
else none
else none
else none
)
else none
def fX12_turnsAll_L214 (n : Nat) (k161 : Nat → Int32 → Int64 → Int64 → Int32 → Mm → Option (Unit × Mm)) (r0 : Nat) (v1 : Int32) (v2 : Int64) (v4 : Int64) (v6 : Int32) (X : Mm) : Option (Unit × Mm) :=
nm (v6 + (1 : Int32)) fun v6_214 =>
k161 r0 v1 v2 v4 v6_214 X
def fX12_turnsAll_L161 (n : Nat) : Nat → Nat → Int32 → Int64 → Int64 → Int32 → Mm → Option (Unit × Mm)
| 0, _, _, _, _, _, _ => none
| j + 1, r0, v1, v2, v4, v6, X =>
if mT X r0 = 12 then
bd (fX12_tradeMany r0 X) fun w23 X164_24 =>
if w23 ≤ v6 then (
fX12_turnsAll_L223 n n r0 v1 v2 (0 : Int32) X164_24
) else (
if mT X164_24 r0 = 12 then
if mR X164_24 r0 1 ≠ 0 then
bd (fX12_at r0 v6 (7 : Int32) X164_24) fun w68 X179_69 =>
if mT X179_69 (mR X164_24 r0 1) = 15 then
if q_b X179_69 (mR X164_24 r0 1) w68 then
if (lg_cmp (mJ X179_69 (mR X164_24 r0 1) (w68).toNatClampNeg) (0 : Int64)) = 0 then (
if mT X179_69 r0 = 12 then
if mR X179_69 r0 1 ≠ 0 then
bd (fX12_at r0 v6 (2 : Int32) X179_69) fun w74 X196_75 =>
if mT X196_75 (mR X179_69 r0 1) = 15 then
if q_b X196_75 (mR X179_69 r0 1) w74 then
if (lg_cmp (mJ X196_75 (mR X179_69 r0 1) (w74).toNatClampNeg) v2) = 0 then (
if mT X196_75 r0 = 12 then
bd (fX12_turnsTrade r0 v1 v6 v4 X196_75) fun _ X211_79 =>
fX12_turnsAll_L214 n (fX12_turnsAll_L161 n j) r0 v1 v2 v4 v6 X211_79
else none
) else (
fX12_turnsAll_L214 n (fX12_turnsAll_L161 n j) r0 v1 v2 v4 v6 X196_75
)
else none
else none
else none
else none
) else (
fX12_turnsAll_L214 n (fX12_turnsAll_L161 n j) r0 v1 v2 v4 v6 X179_69
)
else none
else none
else none
else none
)
else none
def fX12_turnsAll_L43 (n : Nat) : Nat → Nat → Int32 → Int64 → Int64 → Int32 → Mm → Option (Unit × Mm)
| 0, _, _, _, _, _, _ => none
| j + 1, r0, v1, v2, v4, v6, X =>
if mT X r0 = 12 then
if (mI X r0 6) ≤ v6 then (
fX12_turnsAll_L161 n n r0 v1 v2 v4 (0 : Int32) X
) else (
bd (fX12_sharesOf r0 (((v6).toInt64)) v2 X) fun w81 X57_82 =>
if mT X57_82 r0 = 12 then
if mR X57_82 r0 1 ≠ 0 then
bd (fX12_of r0 v1 (10 : Int32) X57_82) fun w85 X72_86 =>
if mT X72_86 (mR X57_82 r0 1) = 15 then
if q_b X72_86 (mR X57_82 r0 1) w85 then
if mT X72_86 r0 = 12 then
bd (fX12_cashOf r0 v1 w81 X72_86) fun w89 X81_90 =>
nm (((w81 * (mJ X72_86 (mR X57_82 r0 1) (w85).toNatClampNeg)) + w89)) fun v9_85 =>
if mT X81_90 r0 = 12 then
if mR X81_90 r0 1 ≠ 0 then
bd (fX12_ofHolder r0 v1 v6 (0 : Int32) X81_90) fun w95 X96_96 =>
if mT X96_96 (mR X81_90 r0 1) = 15 then
if q_b X96_96 (mR X81_90 r0 1) w95 then
nm (sJ X96_96 (mR X81_90 r0 1) (w95).toNatClampNeg w81) fun X101_97 =>
if mT X101_97 r0 = 12 then
bd (fX12_givesShares r0 (((v6).toInt64)) v2 ((-w81)) X101_97) fun _ X110_101 =>
if mT X110_101 r0 = 12 then
bd (fX12_wholeOf r0 v1 w81 X110_101) fun w103 X123_104 =>
if mT X123_104 r0 = 12 then
bd (fX12_givesShares r0 (((v6).toInt64)) v4 w103 X123_104) fun _ X126_107 =>
if mT X126_107 r0 = 12 then
bd (fX12_givesMoney r0 (((v6).toInt64)) v9_85 X126_107) fun _ X135_110 =>
if mT X135_110 r0 = 12 then
bd (fX12_wholeOf r0 v1 w81 X135_110) fun w112 X144_113 =>
if mT X144_113 r0 = 12 then
bd (fX12_issues r0 v1 w112 v9_85 X144_113) fun _ X149_116 =>
nm (v6 + (1 : Int32)) fun v6_152 =>
(fX12_turnsAll_L43 n j) r0 v1 v2 v4 v6_152 X149_116
else none
else none
else none
else none
else none
else none
else none
else none
else none
else none
else none
else none
else none
else none
else none
)
else none
def fX12_turnsAll (n : Nat) (r0 : Nat) (v1 : Int32) (X : Mm) : Option (Unit × Mm) :=
if mT X r0 = 12 then
if mR X r0 1 ≠ 0 then
bd (fX12_of r0 v1 (1 : Int32) X) fun w3 X7_4 =>
if mT X7_4 (mR X r0 1) = 15 then
if q_b X7_4 (mR X r0 1) w3 then
nm ((mJ X7_4 (mR X r0 1) (w3).toNatClampNeg)) fun v2_11 =>
if mT X7_4 r0 = 12 then
if mR X7_4 r0 1 ≠ 0 then
bd (fX12_of r0 v1 (7 : Int32) X7_4) fun w10 X20_11 =>
if mT X20_11 (mR X7_4 r0 1) = 15 then
if q_b X20_11 (mR X7_4 r0 1) w10 then
nm ((mJ X20_11 (mR X7_4 r0 1) (w10).toNatClampNeg)) fun v4_24 =>
if mT X20_11 r0 = 12 then
if mR X20_11 r0 1 ≠ 0 then
bd (fX12_of r0 v1 (5 : Int32) X20_11) fun w17 X33_18 =>
if mT X33_18 (mR X20_11 r0 1) = 15 then
if q_b X33_18 (mR X20_11 r0 1) w17 then
nm (sJ X33_18 (mR X20_11 r0 1) (w17).toNatClampNeg (2 : Int64)) fun X39_19 =>
fX12_turnsAll_L43 n n r0 v1 v2_11 v4_24 (0 : Int32) X39_19
else none
else none
else none
else none
else none
else none
else none
else none
else none
else none
else none
else none
theorem gX12_turnsAll_L345 {E : q_E} {X0 : Mm} (C : Cx E cX12_turnsAll RX12 11 none (q_rm 3 72 0 0) X0) (n : Nat) (k223 : Nat → Int32 → Int64 → Int32 → Mm → Option (Unit × Mm)) (hk223 : ∀ (r0 : Nat) (v1 : Int32) (v2 : Int64) (v6 : Int32) (X : Mm), Sm E (q_fin E q_eV X0 0 0) 0 0 223 [(0, .ref (q_P E + r0)), (1, .int v1), (2, .long v2), (6, .int v6)] [] X (k223 r0 v1 v2 v6 X)) (r0 : Nat) (v1 : Int32) (v2 : Int64) (v6 : Int32) (X : Mm) : Sm E (q_fin E q_eV X0 0 0) 0 0 345 [(0, .ref (q_P E + r0)), (1, .int v1), (2, .long v2), (6, .int v6)] [] X (fX12_turnsAll_L345 n k223 r0 v1 v2 v6 X) := by
  unfold fX12_turnsAll_L345
  refine q_iincN C (1 : Int32) 3 (fun v6_345 => [(6, .int v6_345), (0, .ref (q_P E + r0)), (1, .int v1), (2, .long v2)]) dX12_turnsAll_345 rfl rfl (Nat.le_of_ble_eq_true rfl) (fun _ => rfl) (fun v6_345 => ?_)
  refine q_goto C 223 dX12_turnsAll_348 (by decide) ?_
  refine q_sub C [(0, .ref (q_P E + r0)), (1, .int v1), (2, .long v2), (6, .int v6_345)] [1, 2, 3, 0] rfl ?_
  exact hk223 r0 v1 v2 v6_345 X
theorem gX12_turnsAll_L289 {E : q_E} {X0 : Mm} (C : Cx E cX12_turnsAll RX12 11 none (q_rm 3 72 0 0) X0) (n : Nat) (k223 : Nat → Int32 → Int64 → Int32 → Mm → Option (Unit × Mm)) (hk223 : ∀ (r0 : Nat) (v1 : Int32) (v2 : Int64) (v6 : Int32) (X : Mm), Sm E (q_fin E q_eV X0 0 0) 0 0 223 [(0, .ref (q_P E + r0)), (1, .int v1), (2, .long v2), (6, .int v6)] [] X (k223 r0 v1 v2 v6 X)) (r0 : Nat) (v1 : Int32) (v2 : Int64) (v6 : Int32) (s0 : Int32) (X : Mm) : Sm E (q_fin E q_eV X0 0 0) 0 0 289 [(0, .ref (q_P E + r0)), (1, .int v1), (2, .long v2), (6, .int v6)] [.int s0] X (fX12_turnsAll_L289 n k223 r0 v1 v2 v6 s0 X) := by
  unfold fX12_turnsAll_L289
  refine q_istore C [(7, .int s0), (0, .ref (q_P E + r0)), (1, .int v1), (2, .long v2), (6, .int v6)] dX12_turnsAll_289 (Nat.le_of_ble_eq_true rfl) rfl ?_
  refine q_aload_n C 1 dX12_turnsAll_291 rfl rfl ?_
  refine q_chk (fun h39 => ?_)
  refine q_chk (fun h40 => ?_)
  refine p_getR C fgX12_11 rfl dX12_turnsAll_292 h39 h40 ?_
  refine q_aload_n C 1 dX12_turnsAll_295 rfl rfl ?_
  refine q_iload C 4 dX12_turnsAll_296 rfl ?_
  refine q_iconst C (5 : Int32) dX12_turnsAll_298 rfl ?_
  refine q_cVI (As := (fun P => [.int v6, .int (5 : Int32)])) C [.ref (q_P E + (mR X r0 1))] (sX12_of r0 v6 (5 : Int32)) fcX12_66 rfl (fun _ => rfl) ⟨Nat.le_of_ble_eq_true rfl, Nat.le_of_ble_eq_true rfl⟩ ⟨Nat.le_of_ble_eq_true rfl, Nat.le_of_ble_eq_true rfl⟩ (Nat.le_of_ble_eq_true rfl) dX12_turnsAll_299 h39 (fun w41 X299_42 => ?_)
  refine q_chk (fun h43 => ?_)
  refine q_chk (fun h44 => ?_)
  refine p_lald C dX12_turnsAll_302 h43 h44 ?_
  refine q_lconst C (0 : Int64) dX12_turnsAll_303 rfl ?_
  refine q_lcmp C dX12_turnsAll_304 ?_
  refine q_if_ne C 345 dX12_turnsAll_305 (by decide) (fun _ => ?_) (fun _ => ?_)
  · refine q_aload_n C 1 dX12_turnsAll_308 rfl rfl ?_
    refine q_chk (fun h45 => ?_)
    refine q_chk (fun h46 => ?_)
    refine p_getR C fgX12_11 rfl dX12_turnsAll_309 h45 h46 ?_
    refine q_aload_n C 1 dX12_turnsAll_312 rfl rfl ?_
    refine q_iload C 4 dX12_turnsAll_313 rfl ?_
    refine q_iconst C (1 : Int32) dX12_turnsAll_315 rfl ?_
    refine q_cVI (As := (fun P => [.int v6, .int (1 : Int32)])) C [.ref (q_P E + (mR X299_42 r0 1))] (sX12_of r0 v6 (1 : Int32)) fcX12_66 rfl (fun _ => rfl) ⟨Nat.le_of_ble_eq_true rfl, Nat.le_of_ble_eq_true rfl⟩ ⟨Nat.le_of_ble_eq_true rfl, Nat.le_of_ble_eq_true rfl⟩ (Nat.le_of_ble_eq_true rfl) dX12_turnsAll_316 h45 (fun w47 X316_48 => ?_)
    refine q_chk (fun h49 => ?_)
    refine q_chk (fun h50 => ?_)
    refine p_lald C dX12_turnsAll_319 h49 h50 ?_
    refine q_lload_n C 3 dX12_turnsAll_320 rfl rfl ?_
    refine q_lcmp C dX12_turnsAll_321 ?_
    refine q_if_ne C 345 dX12_turnsAll_322 (by decide) (fun _ => ?_) (fun _ => ?_)
    · refine q_iload C 0 dX12_turnsAll_325 rfl ?_
      refine q_if_eq C 345 dX12_turnsAll_327 (by decide) (fun _ => ?_) (fun _ => ?_)
      · refine q_sub C [(0, .ref (q_P E + r0)), (1, .int v1), (2, .long v2), (6, .int v6)] [1, 2, 3, 4] rfl ?_
        exact gX12_turnsAll_L345 C n k223 hk223 r0 v1 v2 v6 X316_48
      · refine q_aload_n C 1 dX12_turnsAll_330 rfl rfl ?_
        refine q_chk (fun h51 => ?_)
        refine q_chk (fun h52 => ?_)
        refine p_getR C fgX12_11 rfl dX12_turnsAll_331 h51 h52 ?_
        refine q_aload_n C 1 dX12_turnsAll_334 rfl rfl ?_
        refine q_iload C 4 dX12_turnsAll_335 rfl ?_
        refine q_iconst C (5 : Int32) dX12_turnsAll_337 rfl ?_
        refine q_cVI (As := (fun P => [.int v6, .int (5 : Int32)])) C [.ref (q_P E + (mR X316_48 r0 1))] (sX12_of r0 v6 (5 : Int32)) fcX12_66 rfl (fun _ => rfl) ⟨Nat.le_of_ble_eq_true rfl, Nat.le_of_ble_eq_true rfl⟩ ⟨Nat.le_of_ble_eq_true rfl, Nat.le_of_ble_eq_true rfl⟩ (Nat.le_of_ble_eq_true rfl) dX12_turnsAll_338 h51 (fun w53 X338_54 => ?_)
        refine q_ldc2 C dX12_turnsAll_341 fkX12_153 ?_
        refine q_chk (fun h56 => ?_)
        refine q_chk (fun h57 => ?_)
        refine p_last C dX12_turnsAll_344 h56 h57 ?_
        refine q_nmX (fun X344_55 => ?_)
        refine q_sub C [(0, .ref (q_P E + r0)), (1, .int v1), (2, .long v2), (6, .int v6)] [1, 2, 3, 4] rfl ?_
        exact gX12_turnsAll_L345 C n k223 hk223 r0 v1 v2 v6 X344_55
    · refine q_sub C [(0, .ref (q_P E + r0)), (1, .int v1), (2, .long v2), (6, .int v6)] [1, 2, 3, 4] rfl ?_
      exact gX12_turnsAll_L345 C n k223 hk223 r0 v1 v2 v6 X316_48
  · refine q_sub C [(0, .ref (q_P E + r0)), (1, .int v1), (2, .long v2), (6, .int v6)] [1, 2, 3, 4] rfl ?_
    exact gX12_turnsAll_L345 C n k223 hk223 r0 v1 v2 v6 X299_42
theorem gX12_turnsAll_L284 {E : q_E} {X0 : Mm} (C : Cx E cX12_turnsAll RX12 11 none (q_rm 3 72 0 0) X0) (n : Nat) (k223 : Nat → Int32 → Int64 → Int32 → Mm → Option (Unit × Mm)) (hk223 : ∀ (r0 : Nat) (v1 : Int32) (v2 : Int64) (v6 : Int32) (X : Mm), Sm E (q_fin E q_eV X0 0 0) 0 0 223 [(0, .ref (q_P E + r0)), (1, .int v1), (2, .long v2), (6, .int v6)] [] X (k223 r0 v1 v2 v6 X)) (r0 : Nat) (v1 : Int32) (v2 : Int64) (v6 : Int32) (X : Mm) : Sm E (q_fin E q_eV X0 0 0) 0 0 284 [(0, .ref (q_P E + r0)), (1, .int v1), (2, .long v2), (6, .int v6)] [] X (fX12_turnsAll_L284 n k223 r0 v1 v2 v6 X) := by
  unfold fX12_turnsAll_L284
  refine q_iconst C (1 : Int32) dX12_turnsAll_284 rfl ?_
  refine q_goto C 289 dX12_turnsAll_285 (by decide) ?_
  exact gX12_turnsAll_L289 C n k223 hk223 r0 v1 v2 v6 (1 : Int32) X
theorem gX12_turnsAll_L288 {E : q_E} {X0 : Mm} (C : Cx E cX12_turnsAll RX12 11 none (q_rm 3 72 0 0) X0) (n : Nat) (k223 : Nat → Int32 → Int64 → Int32 → Mm → Option (Unit × Mm)) (hk223 : ∀ (r0 : Nat) (v1 : Int32) (v2 : Int64) (v6 : Int32) (X : Mm), Sm E (q_fin E q_eV X0 0 0) 0 0 223 [(0, .ref (q_P E + r0)), (1, .int v1), (2, .long v2), (6, .int v6)] [] X (k223 r0 v1 v2 v6 X)) (r0 : Nat) (v1 : Int32) (v2 : Int64) (v6 : Int32) (X : Mm) : Sm E (q_fin E q_eV X0 0 0) 0 0 288 [(0, .ref (q_P E + r0)), (1, .int v1), (2, .long v2), (6, .int v6)] [] X (fX12_turnsAll_L288 n k223 r0 v1 v2 v6 X) := by
  unfold fX12_turnsAll_L288
  refine q_iconst C (0 : Int32) dX12_turnsAll_288 rfl ?_
  exact gX12_turnsAll_L289 C n k223 hk223 r0 v1 v2 v6 (0 : Int32) X
theorem gX12_turnsAll_L223 {E : q_E} {X0 : Mm} (C : Cx E cX12_turnsAll RX12 11 none (q_rm 3 72 0 0) X0) (n : Nat) : ∀ (j : Nat) (r0 : Nat) (v1 : Int32) (v2 : Int64) (v6 : Int32) (X : Mm), Sm E (q_fin E q_eV X0 0 0) 0 0 223 [(0, .ref (q_P E + r0)), (1, .int v1), (2, .long v2), (6, .int v6)] [] X (fX12_turnsAll_L223 n j r0 v1 v2 v6 X) := by
  intro j
  induction j with
  | zero => intros; exact Sm.none
  | succ j ih =>
    intro r0 v1 v2 v6 X
    rw [fX12_turnsAll_L223]
    refine q_iload C 3 dX12_turnsAll_223 rfl ?_
    refine q_aload_n C 0 dX12_turnsAll_225 rfl rfl ?_
    refine q_chk (fun h28 => ?_)
    refine q_cVI (As := (fun P => [])) C [.int v6] (sX12_eventMany r0) fcX12_91 rfl (fun _ => rfl) ⟨Nat.le_of_ble_eq_true rfl, Nat.le_of_ble_eq_true rfl⟩ ⟨Nat.le_of_ble_eq_true rfl, Nat.le_of_ble_eq_true rfl⟩ (Nat.le_of_ble_eq_true rfl) dX12_turnsAll_226 h28 (fun w26 X226_27 => ?_)
    refine q_icmp_ge C 351 dX12_turnsAll_229 (by decide) (fun _ => ?_) (fun _ => ?_)
    · exact q_vret C dX12_turnsAll_351
    · refine q_aload_n C 0 dX12_turnsAll_232 rfl rfl ?_
      refine q_chk (fun h29 => ?_)
      refine q_chk (fun h30 => ?_)
      refine p_getR C fgX12_11 rfl dX12_turnsAll_233 h29 h30 ?_
      refine q_aload_n C 0 dX12_turnsAll_236 rfl rfl ?_
      refine q_iload C 3 dX12_turnsAll_237 rfl ?_
      refine q_iconst C (3 : Int32) dX12_turnsAll_239 rfl ?_
      refine q_cVI (As := (fun P => [.int v6, .int (3 : Int32)])) C [.ref (q_P E + (mR X226_27 r0 1))] (sX12_of r0 v6 (3 : Int32)) fcX12_66 rfl (fun _ => rfl) ⟨Nat.le_of_ble_eq_true rfl, Nat.le_of_ble_eq_true rfl⟩ ⟨Nat.le_of_ble_eq_true rfl, Nat.le_of_ble_eq_true rfl⟩ (Nat.le_of_ble_eq_true rfl) dX12_turnsAll_240 h29 (fun w31 X240_32 => ?_)
      refine q_chk (fun h33 => ?_)
      refine q_chk (fun h34 => ?_)
      refine p_lald C dX12_turnsAll_243 h33 h34 ?_
      refine q_aload_n C 0 dX12_turnsAll_244 rfl rfl ?_
      refine q_chk (fun h35 => ?_)
      refine q_chk (fun h36 => ?_)
      refine p_getR C fgX12_11 rfl dX12_turnsAll_245 h35 h36 ?_
      refine q_bipush C (62 : Int32) dX12_turnsAll_248 rfl ?_
      refine q_chk (fun h37 => ?_)
      refine q_chk (fun h38 => ?_)
      refine p_lald C dX12_turnsAll_250 h37 h38 ?_
      refine q_lcmp C dX12_turnsAll_251 ?_
      refine q_if_gt C 284 dX12_turnsAll_252 (by decide) (fun _ => ?_) (fun _ => ?_)
      · exact gX12_turnsAll_L284 C n (fX12_turnsAll_L223 n j) ih r0 v1 v2 v6 X240_32
      · refine q_aload_n C 0 dX12_turnsAll_255 rfl rfl ?_
        refine p_getR C fgX12_11 rfl dX12_turnsAll_256 h35 h36 ?_
        refine q_aload_n C 0 dX12_turnsAll_259 rfl rfl ?_
        refine q_iload C 3 dX12_turnsAll_260 rfl ?_
        refine q_iconst C (3 : Int32) dX12_turnsAll_262 rfl ?_
        refine q_cVI (As := (fun P => [.int v6, .int (3 : Int32)])) C [.ref (q_P E + (mR X240_32 r0 1))] (sX12_of r0 v6 (3 : Int32)) fcX12_66 rfl (fun _ => rfl) ⟨Nat.le_of_ble_eq_true rfl, Nat.le_of_ble_eq_true rfl⟩ ⟨Nat.le_of_ble_eq_true rfl, Nat.le_of_ble_eq_true rfl⟩ (Nat.le_of_ble_eq_true rfl) dX12_turnsAll_263 h35 (fun w58 X263_59 => ?_)
        refine q_chk (fun h60 => ?_)
        refine q_chk (fun h61 => ?_)
        refine p_lald C dX12_turnsAll_266 h60 h61 ?_
        refine q_aload_n C 0 dX12_turnsAll_267 rfl rfl ?_
        refine q_chk (fun h62 => ?_)
        refine q_chk (fun h63 => ?_)
        refine p_getR C fgX12_11 rfl dX12_turnsAll_268 h62 h63 ?_
        refine q_bipush C (62 : Int32) dX12_turnsAll_271 rfl ?_
        refine q_chk (fun h64 => ?_)
        refine q_chk (fun h65 => ?_)
        refine p_lald C dX12_turnsAll_273 h64 h65 ?_
        refine q_lcmp C dX12_turnsAll_274 ?_
        refine q_if_ne C 288 dX12_turnsAll_275 (by decide) (fun _ => ?_) (fun _ => ?_)
        · refine q_iload C 3 dX12_turnsAll_278 rfl ?_
          refine q_iload_n C 1 dX12_turnsAll_280 rfl rfl ?_
          refine q_icmp_le C 288 dX12_turnsAll_281 (by decide) (fun _ => ?_) (fun _ => ?_)
          · exact gX12_turnsAll_L288 C n (fX12_turnsAll_L223 n j) ih r0 v1 v2 v6 X263_59
          · exact gX12_turnsAll_L284 C n (fX12_turnsAll_L223 n j) ih r0 v1 v2 v6 X263_59
        · exact gX12_turnsAll_L288 C n (fX12_turnsAll_L223 n j) ih r0 v1 v2 v6 X263_59
theorem gX12_turnsAll_L214 {E : q_E} {X0 : Mm} (C : Cx E cX12_turnsAll RX12 11 none (q_rm 3 72 0 0) X0) (n : Nat) (k161 : Nat → Int32 → Int64 → Int64 → Int32 → Mm → Option (Unit × Mm)) (hk161 : ∀ (r0 : Nat) (v1 : Int32) (v2 : Int64) (v4 : Int64) (v6 : Int32) (X : Mm), Sm E (q_fin E q_eV X0 0 0) 0 0 161 [(0, .ref (q_P E + r0)), (1, .int v1), (2, .long v2), (4, .long v4), (6, .int v6)] [] X (k161 r0 v1 v2 v4 v6 X)) (r0 : Nat) (v1 : Int32) (v2 : Int64) (v4 : Int64) (v6 : Int32) (X : Mm) : Sm E (q_fin E q_eV X0 0 0) 0 0 214 [(0, .ref (q_P E + r0)), (1, .int v1), (2, .long v2), (4, .long v4), (6, .int v6)] [] X (fX12_turnsAll_L214 n k161 r0 v1 v2 v4 v6 X) := by
  unfold fX12_turnsAll_L214
  refine q_iincN C (1 : Int32) 4 (fun v6_214 => [(6, .int v6_214), (0, .ref (q_P E + r0)), (1, .int v1), (2, .long v2), (4, .long v4)]) dX12_turnsAll_214 rfl rfl (Nat.le_of_ble_eq_true rfl) (fun _ => rfl) (fun v6_214 => ?_)
  refine q_goto C 161 dX12_turnsAll_217 (by decide) ?_
  refine q_sub C [(0, .ref (q_P E + r0)), (1, .int v1), (2, .long v2), (4, .long v4), (6, .int v6_214)] [1, 2, 3, 4, 0] rfl ?_
  exact hk161 r0 v1 v2 v4 v6_214 X
theorem gX12_turnsAll_L161 {E : q_E} {X0 : Mm} (C : Cx E cX12_turnsAll RX12 11 none (q_rm 3 72 0 0) X0) (n : Nat) : ∀ (j : Nat) (r0 : Nat) (v1 : Int32) (v2 : Int64) (v4 : Int64) (v6 : Int32) (X : Mm), Sm E (q_fin E q_eV X0 0 0) 0 0 161 [(0, .ref (q_P E + r0)), (1, .int v1), (2, .long v2), (4, .long v4), (6, .int v6)] [] X (fX12_turnsAll_L161 n j r0 v1 v2 v4 v6 X) := by
  intro j
  induction j with
  | zero => intros; exact Sm.none
  | succ j ih =>
    intro r0 v1 v2 v4 v6 X
    rw [fX12_turnsAll_L161]
    refine q_iload C 4 dX12_turnsAll_161 rfl ?_
    refine q_aload_n C 0 dX12_turnsAll_163 rfl rfl ?_
    refine q_chk (fun h25 => ?_)
    refine q_cVI (As := (fun P => [])) C [.int v6] (sX12_tradeMany r0) fcX12_87 rfl (fun _ => rfl) ⟨Nat.le_of_ble_eq_true rfl, Nat.le_of_ble_eq_true rfl⟩ ⟨Nat.le_of_ble_eq_true rfl, Nat.le_of_ble_eq_true rfl⟩ (Nat.le_of_ble_eq_true rfl) dX12_turnsAll_164 h25 (fun w23 X164_24 => ?_)
    refine q_icmp_ge C 220 dX12_turnsAll_167 (by decide) (fun _ => ?_) (fun _ => ?_)
    · refine q_iconst C (0 : Int32) dX12_turnsAll_220 rfl ?_
      refine q_istore C [(6, .int (0 : Int32)), (0, .ref (q_P E + r0)), (1, .int v1), (2, .long v2), (4, .long v4)] dX12_turnsAll_221 (Nat.le_of_ble_eq_true rfl) rfl ?_
      refine q_sub C [(0, .ref (q_P E + r0)), (1, .int v1), (2, .long v2), (6, .int (0 : Int32))] [1, 2, 3, 0] rfl ?_
      exact gX12_turnsAll_L223 C n n r0 v1 v2 (0 : Int32) X164_24
    · refine q_aload_n C 0 dX12_turnsAll_170 rfl rfl ?_
      refine q_chk (fun h66 => ?_)
      refine q_chk (fun h67 => ?_)
      refine p_getR C fgX12_11 rfl dX12_turnsAll_171 h66 h67 ?_
      refine q_aload_n C 0 dX12_turnsAll_174 rfl rfl ?_
      refine q_iload C 4 dX12_turnsAll_175 rfl ?_
      refine q_bipush C (7 : Int32) dX12_turnsAll_177 rfl ?_
      refine q_cVI (As := (fun P => [.int v6, .int (7 : Int32)])) C [.ref (q_P E + (mR X164_24 r0 1))] (sX12_at r0 v6 (7 : Int32)) fcX12_111 rfl (fun _ => rfl) ⟨Nat.le_of_ble_eq_true rfl, Nat.le_of_ble_eq_true rfl⟩ ⟨Nat.le_of_ble_eq_true rfl, Nat.le_of_ble_eq_true rfl⟩ (Nat.le_of_ble_eq_true rfl) dX12_turnsAll_179 h66 (fun w68 X179_69 => ?_)
      refine q_chk (fun h70 => ?_)
      refine q_chk (fun h71 => ?_)
      refine p_lald C dX12_turnsAll_182 h70 h71 ?_
      refine q_lconst C (0 : Int64) dX12_turnsAll_183 rfl ?_
      refine q_lcmp C dX12_turnsAll_184 ?_
      refine q_if_ne C 214 dX12_turnsAll_185 (by decide) (fun _ => ?_) (fun _ => ?_)
      · refine q_aload_n C 0 dX12_turnsAll_188 rfl rfl ?_
        refine q_chk (fun h72 => ?_)
        refine q_chk (fun h73 => ?_)
        refine p_getR C fgX12_11 rfl dX12_turnsAll_189 h72 h73 ?_
        refine q_aload_n C 0 dX12_turnsAll_192 rfl rfl ?_
        refine q_iload C 4 dX12_turnsAll_193 rfl ?_
        refine q_iconst C (2 : Int32) dX12_turnsAll_195 rfl ?_
        refine q_cVI (As := (fun P => [.int v6, .int (2 : Int32)])) C [.ref (q_P E + (mR X179_69 r0 1))] (sX12_at r0 v6 (2 : Int32)) fcX12_111 rfl (fun _ => rfl) ⟨Nat.le_of_ble_eq_true rfl, Nat.le_of_ble_eq_true rfl⟩ ⟨Nat.le_of_ble_eq_true rfl, Nat.le_of_ble_eq_true rfl⟩ (Nat.le_of_ble_eq_true rfl) dX12_turnsAll_196 h72 (fun w74 X196_75 => ?_)
        refine q_chk (fun h76 => ?_)
        refine q_chk (fun h77 => ?_)
        refine p_lald C dX12_turnsAll_199 h76 h77 ?_
        refine q_lload_n C 2 dX12_turnsAll_200 rfl rfl ?_
        refine q_lcmp C dX12_turnsAll_201 ?_
        refine q_if_ne C 214 dX12_turnsAll_202 (by decide) (fun _ => ?_) (fun _ => ?_)
        · refine q_aload_n C 0 dX12_turnsAll_205 rfl rfl ?_
          refine q_iload_n C 1 dX12_turnsAll_206 rfl rfl ?_
          refine q_iload C 4 dX12_turnsAll_207 rfl ?_
          refine q_lload C 3 dX12_turnsAll_209 rfl ?_
          refine q_chk (fun h80 => ?_)
          refine q_cVV (As := (fun P => [.int v1, .int v6, .long v4])) C [] (sX12_turnsTrade r0 v1 v6 v4) fcX12_201 rfl (fun _ => rfl) ⟨Nat.le_of_ble_eq_true rfl, Nat.le_of_ble_eq_true rfl⟩ ⟨Nat.le_of_ble_eq_true rfl, Nat.le_of_ble_eq_true rfl⟩ (Nat.le_of_ble_eq_true rfl) dX12_turnsAll_211 h80 (fun _ X211_79 => ?_)
          exact gX12_turnsAll_L214 C n (fX12_turnsAll_L161 n j) ih r0 v1 v2 v4 v6 X211_79
        · exact gX12_turnsAll_L214 C n (fX12_turnsAll_L161 n j) ih r0 v1 v2 v4 v6 X196_75
      · exact gX12_turnsAll_L214 C n (fX12_turnsAll_L161 n j) ih r0 v1 v2 v4 v6 X179_69
theorem gX12_turnsAll_L43 {E : q_E} {X0 : Mm} (C : Cx E cX12_turnsAll RX12 11 none (q_rm 3 72 0 0) X0) (n : Nat) : ∀ (j : Nat) (r0 : Nat) (v1 : Int32) (v2 : Int64) (v4 : Int64) (v6 : Int32) (X : Mm), Sm E (q_fin E q_eV X0 0 0) 0 0 43 [(0, .ref (q_P E + r0)), (1, .int v1), (2, .long v2), (4, .long v4), (6, .int v6)] [] X (fX12_turnsAll_L43 n j r0 v1 v2 v4 v6 X) := by
  intro j
  induction j with
  | zero => intros; exact Sm.none
  | succ j ih =>
    intro r0 v1 v2 v4 v6 X
    rw [fX12_turnsAll_L43]
    refine q_iload C 4 dX12_turnsAll_43 rfl ?_
    refine q_aload_n C 0 dX12_turnsAll_45 rfl rfl ?_
    refine q_chk (fun h22 => ?_)
    refine p_getI C fgX12_77 rfl dX12_turnsAll_46 h22 ?_
    refine q_icmp_ge C 158 dX12_turnsAll_49 (by decide) (fun _ => ?_) (fun _ => ?_)
    · refine q_iconst C (0 : Int32) dX12_turnsAll_158 rfl ?_
      refine q_istore C [(6, .int (0 : Int32)), (0, .ref (q_P E + r0)), (1, .int v1), (2, .long v2), (4, .long v4)] dX12_turnsAll_159 (Nat.le_of_ble_eq_true rfl) rfl ?_
      refine q_sub C [(0, .ref (q_P E + r0)), (1, .int v1), (2, .long v2), (4, .long v4), (6, .int (0 : Int32))] [1, 2, 3, 4, 0] rfl ?_
      exact gX12_turnsAll_L161 C n n r0 v1 v2 v4 (0 : Int32) X
    · refine q_aload_n C 0 dX12_turnsAll_52 rfl rfl ?_
      refine q_iload C 4 dX12_turnsAll_53 rfl ?_
      refine q_i2l C dX12_turnsAll_55 ?_
      refine q_lload_n C 2 dX12_turnsAll_56 rfl rfl ?_
      refine q_cVL (As := (fun P => [.long ((v6).toInt64), .long v2])) C [] (sX12_sharesOf r0 (((v6).toInt64)) v2) fcX12_171 rfl (fun _ => rfl) ⟨Nat.le_of_ble_eq_true rfl, Nat.le_of_ble_eq_true rfl⟩ ⟨Nat.le_of_ble_eq_true rfl, Nat.le_of_ble_eq_true rfl⟩ (Nat.le_of_ble_eq_true rfl) dX12_turnsAll_57 h22 (fun w81 X57_82 => ?_)
      refine q_lstore C [(7, .long w81), (0, .ref (q_P E + r0)), (1, .int v1), (2, .long v2), (4, .long v4), (6, .int v6)] dX12_turnsAll_60 (Nat.le_of_ble_eq_true rfl) rfl ?_
      refine q_lload C 0 dX12_turnsAll_62 rfl ?_
      refine q_aload_n C 1 dX12_turnsAll_64 rfl rfl ?_
      refine q_chk (fun h83 => ?_)
      refine q_chk (fun h84 => ?_)
      refine p_getR C fgX12_11 rfl dX12_turnsAll_65 h83 h84 ?_
      refine q_aload_n C 1 dX12_turnsAll_68 rfl rfl ?_
      refine q_iload_n C 2 dX12_turnsAll_69 rfl rfl ?_
      refine q_bipush C (10 : Int32) dX12_turnsAll_70 rfl ?_
      refine q_cVI (As := (fun P => [.int v1, .int (10 : Int32)])) C [.ref (q_P E + (mR X57_82 r0 1)), .long w81] (sX12_of r0 v1 (10 : Int32)) fcX12_66 rfl (fun _ => rfl) ⟨Nat.le_of_ble_eq_true rfl, Nat.le_of_ble_eq_true rfl⟩ ⟨Nat.le_of_ble_eq_true rfl, Nat.le_of_ble_eq_true rfl⟩ (Nat.le_of_ble_eq_true rfl) dX12_turnsAll_72 h83 (fun w85 X72_86 => ?_)
      refine q_chk (fun h87 => ?_)
      refine q_chk (fun h88 => ?_)
      refine p_lald C dX12_turnsAll_75 h87 h88 ?_
      refine q_lmul C dX12_turnsAll_76 ?_
      refine q_aload_n C 1 dX12_turnsAll_77 rfl rfl ?_
      refine q_iload_n C 2 dX12_turnsAll_78 rfl rfl ?_
      refine q_lload C 0 dX12_turnsAll_79 rfl ?_
      refine q_chk (fun h91 => ?_)
      refine q_cVL (As := (fun P => [.int v1, .long w81])) C [.long (w81 * (mJ X72_86 (mR X57_82 r0 1) (w85).toNatClampNeg))] (sX12_cashOf r0 v1 w81) fcX12_190 rfl (fun _ => rfl) ⟨Nat.le_of_ble_eq_true rfl, Nat.le_of_ble_eq_true rfl⟩ ⟨Nat.le_of_ble_eq_true rfl, Nat.le_of_ble_eq_true rfl⟩ (Nat.le_of_ble_eq_true rfl) dX12_turnsAll_81 h91 (fun w89 X81_90 => ?_)
      refine q_ladd C dX12_turnsAll_84 ?_
      refine q_nml (fun v9_85 => ?_)
      refine q_lstore C [(9, .long v9_85), (7, .long w81), (0, .ref (q_P E + r0)), (1, .int v1), (2, .long v2), (4, .long v4), (6, .int v6)] dX12_turnsAll_85 (Nat.le_of_ble_eq_true rfl) rfl ?_
      refine q_aload_n C 2 dX12_turnsAll_87 rfl rfl ?_
      refine q_chk (fun h93 => ?_)
      refine q_chk (fun h94 => ?_)
      refine p_getR C fgX12_11 rfl dX12_turnsAll_88 h93 h94 ?_
      refine q_aload_n C 2 dX12_turnsAll_91 rfl rfl ?_
      refine q_iload_n C 3 dX12_turnsAll_92 rfl rfl ?_
      refine q_iload C 6 dX12_turnsAll_93 rfl ?_
      refine q_iconst C (0 : Int32) dX12_turnsAll_95 rfl ?_
      refine q_cVI (As := (fun P => [.int v1, .int v6, .int (0 : Int32)])) C [.ref (q_P E + (mR X81_90 r0 1))] (sX12_ofHolder r0 v1 v6 (0 : Int32)) fcX12_140 rfl (fun _ => rfl) ⟨Nat.le_of_ble_eq_true rfl, Nat.le_of_ble_eq_true rfl⟩ ⟨Nat.le_of_ble_eq_true rfl, Nat.le_of_ble_eq_true rfl⟩ (Nat.le_of_ble_eq_true rfl) dX12_turnsAll_96 h93 (fun w95 X96_96 => ?_)
      refine q_lload C 1 dX12_turnsAll_99 rfl ?_
      refine q_chk (fun h98 => ?_)
      refine q_chk (fun h99 => ?_)
      refine p_last C dX12_turnsAll_101 h98 h99 ?_
      refine q_nmX (fun X101_97 => ?_)
      refine q_aload_n C 2 dX12_turnsAll_102 rfl rfl ?_
      refine q_iload C 6 dX12_turnsAll_103 rfl ?_
      refine q_i2l C dX12_turnsAll_105 ?_
      refine q_lload_n C 4 dX12_turnsAll_106 rfl rfl ?_
      refine q_lload C 1 dX12_turnsAll_107 rfl ?_
      refine q_lneg C dX12_turnsAll_109 ?_
      refine q_chk (fun h102 => ?_)
      refine q_cVV (As := (fun P => [.long ((v6).toInt64), .long v2, .long (-w81)])) C [] (sX12_givesShares r0 (((v6).toInt64)) v2 ((-w81))) fcX12_175 rfl (fun _ => rfl) ⟨Nat.le_of_ble_eq_true rfl, Nat.le_of_ble_eq_true rfl⟩ ⟨Nat.le_of_ble_eq_true rfl, Nat.le_of_ble_eq_true rfl⟩ (Nat.le_of_ble_eq_true rfl) dX12_turnsAll_110 h102 (fun _ X110_101 => ?_)
      refine q_aload_n C 2 dX12_turnsAll_113 rfl rfl ?_
      refine q_iload C 6 dX12_turnsAll_114 rfl ?_
      refine q_i2l C dX12_turnsAll_116 ?_
      refine q_lload C 5 dX12_turnsAll_117 rfl ?_
      refine q_aload_n C 2 dX12_turnsAll_119 rfl rfl ?_
      refine q_iload_n C 3 dX12_turnsAll_120 rfl rfl ?_
      refine q_lload C 1 dX12_turnsAll_121 rfl ?_
      refine q_chk (fun h105 => ?_)
      refine q_cVL (As := (fun P => [.int v1, .long w81])) C [.long v4, .long ((v6).toInt64), .ref (q_P E + r0)] (sX12_wholeOf r0 v1 w81) fcX12_194 rfl (fun _ => rfl) ⟨Nat.le_of_ble_eq_true rfl, Nat.le_of_ble_eq_true rfl⟩ ⟨Nat.le_of_ble_eq_true rfl, Nat.le_of_ble_eq_true rfl⟩ (Nat.le_of_ble_eq_true rfl) dX12_turnsAll_123 h105 (fun w103 X123_104 => ?_)
      refine q_chk (fun h108 => ?_)
      refine q_cVV (As := (fun P => [.long ((v6).toInt64), .long v4, .long w103])) C [] (sX12_givesShares r0 (((v6).toInt64)) v4 w103) fcX12_175 rfl (fun _ => rfl) ⟨Nat.le_of_ble_eq_true rfl, Nat.le_of_ble_eq_true rfl⟩ ⟨Nat.le_of_ble_eq_true rfl, Nat.le_of_ble_eq_true rfl⟩ (Nat.le_of_ble_eq_true rfl) dX12_turnsAll_126 h108 (fun _ X126_107 => ?_)
      refine q_aload_n C 2 dX12_turnsAll_129 rfl rfl ?_
      refine q_iload C 6 dX12_turnsAll_130 rfl ?_
      refine q_i2l C dX12_turnsAll_132 ?_
      refine q_lload C 0 dX12_turnsAll_133 rfl ?_
      refine q_chk (fun h111 => ?_)
      refine q_cVV (As := (fun P => [.long ((v6).toInt64), .long v9_85])) C [] (sX12_givesMoney r0 (((v6).toInt64)) v9_85) fcX12_182 rfl (fun _ => rfl) ⟨Nat.le_of_ble_eq_true rfl, Nat.le_of_ble_eq_true rfl⟩ ⟨Nat.le_of_ble_eq_true rfl, Nat.le_of_ble_eq_true rfl⟩ (Nat.le_of_ble_eq_true rfl) dX12_turnsAll_135 h111 (fun _ X135_110 => ?_)
      refine q_aload_n C 2 dX12_turnsAll_138 rfl rfl ?_
      refine q_iload_n C 3 dX12_turnsAll_139 rfl rfl ?_
      refine q_aload_n C 2 dX12_turnsAll_140 rfl rfl ?_
      refine q_iload_n C 3 dX12_turnsAll_141 rfl rfl ?_
      refine q_lload C 1 dX12_turnsAll_142 rfl ?_
      refine q_chk (fun h114 => ?_)
      refine q_cVL (As := (fun P => [.int v1, .long w81])) C [.int v1, .ref (q_P E + r0)] (sX12_wholeOf r0 v1 w81) fcX12_194 rfl (fun _ => rfl) ⟨Nat.le_of_ble_eq_true rfl, Nat.le_of_ble_eq_true rfl⟩ ⟨Nat.le_of_ble_eq_true rfl, Nat.le_of_ble_eq_true rfl⟩ (Nat.le_of_ble_eq_true rfl) dX12_turnsAll_144 h114 (fun w112 X144_113 => ?_)
      refine q_lload C 0 dX12_turnsAll_147 rfl ?_
      refine q_chk (fun h117 => ?_)
      refine q_cVV (As := (fun P => [.int v1, .long w112, .long v9_85])) C [] (sX12_issues r0 v1 w112 v9_85) fcX12_197 rfl (fun _ => rfl) ⟨Nat.le_of_ble_eq_true rfl, Nat.le_of_ble_eq_true rfl⟩ ⟨Nat.le_of_ble_eq_true rfl, Nat.le_of_ble_eq_true rfl⟩ (Nat.le_of_ble_eq_true rfl) dX12_turnsAll_149 h117 (fun _ X149_116 => ?_)
      refine q_iincN C (1 : Int32) 6 (fun v6_152 => [(6, .int v6_152), (9, .long v9_85), (7, .long w81), (0, .ref (q_P E + r0)), (1, .int v1), (2, .long v2), (4, .long v4)]) dX12_turnsAll_152 rfl rfl (Nat.le_of_ble_eq_true rfl) (fun _ => rfl) (fun v6_152 => ?_)
      refine q_goto C 43 dX12_turnsAll_155 (by decide) ?_
      refine q_sub C [(0, .ref (q_P E + r0)), (1, .int v1), (2, .long v2), (4, .long v4), (6, .int v6_152)] [3, 4, 5, 6, 0] rfl ?_
      exact ih r0 v1 v2 v4 v6_152 X149_116
theorem sX12_turnsAll (n : Nat) (r0 : Nat) (v1 : Int32) : q_Ct yX12_turnsAll cX12_turnsAll 11 none 3 72 0 0 q_eV (fun P => [.ref (P + r0), .int v1]) (fX12_turnsAll n r0 v1) := by
  refine q_meth (by decide +kernel) (fun P => Nat.le_of_ble_eq_true rfl) (fun E X C hn => ?_)
  show Sm E (q_fin E q_eV X 0 0) 0 0 0 [(0, .ref (q_P E + r0)), (1, .int v1)] [] X _
  unfold fX12_turnsAll
  refine q_aload_n C 0 dX12_turnsAll_0 rfl rfl ?_
  refine q_chk (fun h1 => ?_)
  refine q_chk (fun h2 => ?_)
  refine p_getR C fgX12_11 rfl dX12_turnsAll_1 h1 h2 ?_
  refine q_aload_n C 0 dX12_turnsAll_4 rfl rfl ?_
  refine q_iload_n C 1 dX12_turnsAll_5 rfl rfl ?_
  refine q_iconst C (1 : Int32) dX12_turnsAll_6 rfl ?_
  refine q_cVI (As := (fun P => [.int v1, .int (1 : Int32)])) C [.ref (q_P E + (mR X r0 1))] (sX12_of r0 v1 (1 : Int32)) fcX12_66 rfl (fun _ => rfl) ⟨Nat.le_of_ble_eq_true rfl, Nat.le_of_ble_eq_true rfl⟩ ⟨Nat.le_of_ble_eq_true rfl, Nat.le_of_ble_eq_true rfl⟩ (Nat.le_of_ble_eq_true rfl) dX12_turnsAll_7 h1 (fun w3 X7_4 => ?_)
  refine q_chk (fun h5 => ?_)
  refine q_chk (fun h6 => ?_)
  refine p_lald C dX12_turnsAll_10 h5 h6 ?_
  refine q_nml (fun v2_11 => ?_)
  refine q_lstore_n C [(2, .long v2_11), (0, .ref (q_P E + r0)), (1, .int v1)] dX12_turnsAll_11 rfl (Nat.le_of_ble_eq_true rfl) rfl ?_
  refine q_aload_n C 1 dX12_turnsAll_12 rfl rfl ?_
  refine q_chk (fun h8 => ?_)
  refine q_chk (fun h9 => ?_)
  refine p_getR C fgX12_11 rfl dX12_turnsAll_13 h8 h9 ?_
  refine q_aload_n C 1 dX12_turnsAll_16 rfl rfl ?_
  refine q_iload_n C 2 dX12_turnsAll_17 rfl rfl ?_
  refine q_bipush C (7 : Int32) dX12_turnsAll_18 rfl ?_
  refine q_cVI (As := (fun P => [.int v1, .int (7 : Int32)])) C [.ref (q_P E + (mR X7_4 r0 1))] (sX12_of r0 v1 (7 : Int32)) fcX12_66 rfl (fun _ => rfl) ⟨Nat.le_of_ble_eq_true rfl, Nat.le_of_ble_eq_true rfl⟩ ⟨Nat.le_of_ble_eq_true rfl, Nat.le_of_ble_eq_true rfl⟩ (Nat.le_of_ble_eq_true rfl) dX12_turnsAll_20 h8 (fun w10 X20_11 => ?_)
  refine q_chk (fun h12 => ?_)
  refine q_chk (fun h13 => ?_)
  refine p_lald C dX12_turnsAll_23 h12 h13 ?_
  refine q_nml (fun v4_24 => ?_)
  refine q_lstore C [(4, .long v4_24), (2, .long v2_11), (0, .ref (q_P E + r0)), (1, .int v1)] dX12_turnsAll_24 (Nat.le_of_ble_eq_true rfl) rfl ?_
  refine q_aload_n C 2 dX12_turnsAll_26 rfl rfl ?_
  refine q_chk (fun h15 => ?_)
  refine q_chk (fun h16 => ?_)
  refine p_getR C fgX12_11 rfl dX12_turnsAll_27 h15 h16 ?_
  refine q_aload_n C 2 dX12_turnsAll_30 rfl rfl ?_
  refine q_iload_n C 3 dX12_turnsAll_31 rfl rfl ?_
  refine q_iconst C (5 : Int32) dX12_turnsAll_32 rfl ?_
  refine q_cVI (As := (fun P => [.int v1, .int (5 : Int32)])) C [.ref (q_P E + (mR X20_11 r0 1))] (sX12_of r0 v1 (5 : Int32)) fcX12_66 rfl (fun _ => rfl) ⟨Nat.le_of_ble_eq_true rfl, Nat.le_of_ble_eq_true rfl⟩ ⟨Nat.le_of_ble_eq_true rfl, Nat.le_of_ble_eq_true rfl⟩ (Nat.le_of_ble_eq_true rfl) dX12_turnsAll_33 h15 (fun w17 X33_18 => ?_)
  refine q_ldc2 C dX12_turnsAll_36 fkX12_136 ?_
  refine q_chk (fun h20 => ?_)
  refine q_chk (fun h21 => ?_)
  refine p_last C dX12_turnsAll_39 h20 h21 ?_
  refine q_nmX (fun X39_19 => ?_)
  refine q_iconst C (0 : Int32) dX12_turnsAll_40 rfl ?_
  refine q_istore C [(6, .int (0 : Int32)), (4, .long v4_24), (2, .long v2_11), (0, .ref (q_P E + r0)), (1, .int v1)] dX12_turnsAll_41 (Nat.le_of_ble_eq_true rfl) rfl ?_
  refine q_sub C [(0, .ref (q_P E + r0)), (1, .int v1), (2, .long v2_11), (4, .long v4_24), (6, .int (0 : Int32))] [3, 4, 2, 1, 0] rfl ?_
  exact gX12_turnsAll_L43 C n n r0 v1 v2_11 v4_24 (0 : Int32) X39_19
/-! RecordClaimsModel.claims(IIJJ)V -/
abbrev cX12_claims : ByteArray := prog_14_method_34_code
def yX12_claims : MethodName := ⟨RX12, "claims", "(IIJJ)V"⟩
theorem dX12_claims_0 : decode cX12_claims 0 = .ok (.aload_n 0, 1) := by decide +kernel
theorem dX12_claims_1 : decode cX12_claims 1 = .ok (.getfield 11, 3) := by decide +kernel
theorem dX12_claims_4 : decode cX12_claims 4 = .ok (.aload_n 0, 1) := by decide +kernel
theorem dX12_claims_5 : decode cX12_claims 5 = .ok (.iload_n 1, 1) := by decide +kernel
theorem dX12_claims_6 : decode cX12_claims 6 = .ok (.bipush 6, 2) := by decide +kernel
theorem dX12_claims_8 : decode cX12_claims 8 = .ok (.invokevirtual 66, 3) := by decide +kernel
theorem dX12_claims_11 : decode cX12_claims 11 = .ok (.laload, 1) := by decide +kernel
theorem dX12_claims_12 : decode cX12_claims 12 = .ok (.l2i, 1) := by decide +kernel
theorem dX12_claims_13 : decode cX12_claims 13 = .ok (.istore 7, 2) := by decide +kernel
theorem dX12_claims_15 : decode cX12_claims 15 = .ok (.aload_n 0, 1) := by decide +kernel
theorem dX12_claims_16 : decode cX12_claims 16 = .ok (.getfield 11, 3) := by decide +kernel
theorem dX12_claims_19 : decode cX12_claims 19 = .ok (.aload_n 0, 1) := by decide +kernel
theorem dX12_claims_20 : decode cX12_claims 20 = .ok (.iload_n 1, 1) := by decide +kernel
theorem dX12_claims_21 : decode cX12_claims 21 = .ok (.iload 7, 2) := by decide +kernel
theorem dX12_claims_23 : decode cX12_claims 23 = .ok (.iconst 0, 1) := by decide +kernel
theorem dX12_claims_24 : decode cX12_claims 24 = .ok (.invokevirtual 164, 3) := by decide +kernel
theorem dX12_claims_27 : decode cX12_claims 27 = .ok (.lload_n 3, 1) := by decide +kernel
theorem dX12_claims_28 : decode cX12_claims 28 = .ok (.lastore, 1) := by decide +kernel
theorem dX12_claims_29 : decode cX12_claims 29 = .ok (.aload_n 0, 1) := by decide +kernel
theorem dX12_claims_30 : decode cX12_claims 30 = .ok (.getfield 11, 3) := by decide +kernel
theorem dX12_claims_33 : decode cX12_claims 33 = .ok (.aload_n 0, 1) := by decide +kernel
theorem dX12_claims_34 : decode cX12_claims 34 = .ok (.iload_n 1, 1) := by decide +kernel
theorem dX12_claims_35 : decode cX12_claims 35 = .ok (.iload 7, 2) := by decide +kernel
theorem dX12_claims_37 : decode cX12_claims 37 = .ok (.iconst 1, 1) := by decide +kernel
theorem dX12_claims_38 : decode cX12_claims 38 = .ok (.invokevirtual 164, 3) := by decide +kernel
theorem dX12_claims_41 : decode cX12_claims 41 = .ok (.lload 5, 2) := by decide +kernel
theorem dX12_claims_43 : decode cX12_claims 43 = .ok (.lastore, 1) := by decide +kernel
theorem dX12_claims_44 : decode cX12_claims 44 = .ok (.aload_n 0, 1) := by decide +kernel
theorem dX12_claims_45 : decode cX12_claims 45 = .ok (.getfield 11, 3) := by decide +kernel
theorem dX12_claims_48 : decode cX12_claims 48 = .ok (.aload_n 0, 1) := by decide +kernel
theorem dX12_claims_49 : decode cX12_claims 49 = .ok (.iload_n 1, 1) := by decide +kernel
theorem dX12_claims_50 : decode cX12_claims 50 = .ok (.iload 7, 2) := by decide +kernel
theorem dX12_claims_52 : decode cX12_claims 52 = .ok (.iconst 2, 1) := by decide +kernel
theorem dX12_claims_53 : decode cX12_claims 53 = .ok (.invokevirtual 164, 3) := by decide +kernel
theorem dX12_claims_56 : decode cX12_claims 56 = .ok (.aload_n 0, 1) := by decide +kernel
theorem dX12_claims_57 : decode cX12_claims 57 = .ok (.getfield 11, 3) := by decide +kernel
theorem dX12_claims_60 : decode cX12_claims 60 = .ok (.aload_n 0, 1) := by decide +kernel
theorem dX12_claims_61 : decode cX12_claims 61 = .ok (.iload_n 2, 1) := by decide +kernel
theorem dX12_claims_62 : decode cX12_claims 62 = .ok (.iconst 3, 1) := by decide +kernel
theorem dX12_claims_63 : decode cX12_claims 63 = .ok (.invokevirtual 111, 3) := by decide +kernel
theorem dX12_claims_66 : decode cX12_claims 66 = .ok (.laload, 1) := by decide +kernel
theorem dX12_claims_67 : decode cX12_claims 67 = .ok (.lastore, 1) := by decide +kernel
theorem dX12_claims_68 : decode cX12_claims 68 = .ok (.aload_n 0, 1) := by decide +kernel
theorem dX12_claims_69 : decode cX12_claims 69 = .ok (.getfield 11, 3) := by decide +kernel
theorem dX12_claims_72 : decode cX12_claims 72 = .ok (.aload_n 0, 1) := by decide +kernel
theorem dX12_claims_73 : decode cX12_claims 73 = .ok (.iload_n 1, 1) := by decide +kernel
theorem dX12_claims_74 : decode cX12_claims 74 = .ok (.iload 7, 2) := by decide +kernel
theorem dX12_claims_76 : decode cX12_claims 76 = .ok (.iconst 3, 1) := by decide +kernel
theorem dX12_claims_77 : decode cX12_claims 77 = .ok (.invokevirtual 164, 3) := by decide +kernel
theorem dX12_claims_80 : decode cX12_claims 80 = .ok (.iload_n 2, 1) := by decide +kernel
theorem dX12_claims_81 : decode cX12_claims 81 = .ok (.i2l, 1) := by decide +kernel
theorem dX12_claims_82 : decode cX12_claims 82 = .ok (.lastore, 1) := by decide +kernel
theorem dX12_claims_83 : decode cX12_claims 83 = .ok (.aload_n 0, 1) := by decide +kernel
theorem dX12_claims_84 : decode cX12_claims 84 = .ok (.getfield 11, 3) := by decide +kernel
theorem dX12_claims_87 : decode cX12_claims 87 = .ok (.aload_n 0, 1) := by decide +kernel
theorem dX12_claims_88 : decode cX12_claims 88 = .ok (.iload_n 1, 1) := by decide +kernel
theorem dX12_claims_89 : decode cX12_claims 89 = .ok (.iload 7, 2) := by decide +kernel
theorem dX12_claims_91 : decode cX12_claims 91 = .ok (.iconst 4, 1) := by decide +kernel
theorem dX12_claims_92 : decode cX12_claims 92 = .ok (.invokevirtual 164, 3) := by decide +kernel
theorem dX12_claims_95 : decode cX12_claims 95 = .ok (.lconst 0, 1) := by decide +kernel
theorem dX12_claims_96 : decode cX12_claims 96 = .ok (.lastore, 1) := by decide +kernel
theorem dX12_claims_97 : decode cX12_claims 97 = .ok (.aload_n 0, 1) := by decide +kernel
theorem dX12_claims_98 : decode cX12_claims 98 = .ok (.getfield 11, 3) := by decide +kernel
theorem dX12_claims_101 : decode cX12_claims 101 = .ok (.aload_n 0, 1) := by decide +kernel
theorem dX12_claims_102 : decode cX12_claims 102 = .ok (.iload_n 1, 1) := by decide +kernel
theorem dX12_claims_103 : decode cX12_claims 103 = .ok (.bipush 6, 2) := by decide +kernel
theorem dX12_claims_105 : decode cX12_claims 105 = .ok (.invokevirtual 66, 3) := by decide +kernel
theorem dX12_claims_108 : decode cX12_claims 108 = .ok (.iload 7, 2) := by decide +kernel
theorem dX12_claims_110 : decode cX12_claims 110 = .ok (.i2l, 1) := by decide +kernel
theorem dX12_claims_111 : decode cX12_claims 111 = .ok (.lconst 1, 1) := by decide +kernel
theorem dX12_claims_112 : decode cX12_claims 112 = .ok (.ladd, 1) := by decide +kernel
theorem dX12_claims_113 : decode cX12_claims 113 = .ok (.lastore, 1) := by decide +kernel
theorem dX12_claims_114 : decode cX12_claims 114 = .ok (.return_, 1) := by decide +kernel
theorem fcX12_164 : q_LV RX12 164 yX12_ofClaim cX12_ofClaim 4 (some .int) 3 12 := ⟨q_tb 1634 (by decide +kernel) rfl, q_tb 1636 (by decide +kernel) rfl, q_tbs (q := (yX12_ofClaim, 35)) 111 (by decide +kernel) rfl, q_tb 13 (by decide +kernel) rfl, q_tb 1637 (by decide +kernel) rfl, ⟨by decide +kernel, by decide +kernel, by decide +kernel⟩, TX12, 35, rfl⟩
def fX12_claims (r0 : Nat) (v1 : Int32) (v2 : Int32) (v3 : Int64) (v5 : Int64) (X : Mm) : Option (Unit × Mm) :=
if mT X r0 = 12 then
if mR X r0 1 ≠ 0 then
bd (fX12_of r0 v1 (6 : Int32) X) fun w3 X8_4 =>
if mT X8_4 (mR X r0 1) = 15 then
if q_b X8_4 (mR X r0 1) w3 then
nm ((((mJ X8_4 (mR X r0 1) (w3).toNatClampNeg)).toInt32)) fun v7_13 =>
if mT X8_4 r0 = 12 then
if mR X8_4 r0 1 ≠ 0 then
bd (fX12_ofClaim r0 v1 v7_13 (0 : Int32) X8_4) fun w10 X24_11 =>
if mT X24_11 (mR X8_4 r0 1) = 15 then
if q_b X24_11 (mR X8_4 r0 1) w10 then
nm (sJ X24_11 (mR X8_4 r0 1) (w10).toNatClampNeg v3) fun X28_12 =>
if mT X28_12 r0 = 12 then
if mR X28_12 r0 1 ≠ 0 then
bd (fX12_ofClaim r0 v1 v7_13 (1 : Int32) X28_12) fun w17 X38_18 =>
if mT X38_18 (mR X28_12 r0 1) = 15 then
if q_b X38_18 (mR X28_12 r0 1) w17 then
nm (sJ X38_18 (mR X28_12 r0 1) (w17).toNatClampNeg v5) fun X43_19 =>
if mT X43_19 r0 = 12 then
if mR X43_19 r0 1 ≠ 0 then
bd (fX12_ofClaim r0 v1 v7_13 (2 : Int32) X43_19) fun w24 X53_25 =>
if mT X53_25 r0 = 12 then
if mR X53_25 r0 1 ≠ 0 then
bd (fX12_at r0 v2 (3 : Int32) X53_25) fun w28 X63_29 =>
if mT X63_29 (mR X53_25 r0 1) = 15 then
if q_b X63_29 (mR X53_25 r0 1) w28 then
if mT X63_29 (mR X43_19 r0 1) = 15 then
if q_b X63_29 (mR X43_19 r0 1) w24 then
nm (sJ X63_29 (mR X43_19 r0 1) (w24).toNatClampNeg (mJ X63_29 (mR X53_25 r0 1) (w28).toNatClampNeg)) fun X67_32 =>
if mT X67_32 r0 = 12 then
if mR X67_32 r0 1 ≠ 0 then
bd (fX12_ofClaim r0 v1 v7_13 (3 : Int32) X67_32) fun w37 X77_38 =>
if mT X77_38 (mR X67_32 r0 1) = 15 then
if q_b X77_38 (mR X67_32 r0 1) w37 then
nm (sJ X77_38 (mR X67_32 r0 1) (w37).toNatClampNeg ((v2).toInt64)) fun X82_39 =>
if mT X82_39 r0 = 12 then
if mR X82_39 r0 1 ≠ 0 then
bd (fX12_ofClaim r0 v1 v7_13 (4 : Int32) X82_39) fun w44 X92_45 =>
if mT X92_45 (mR X82_39 r0 1) = 15 then
if q_b X92_45 (mR X82_39 r0 1) w44 then
nm (sJ X92_45 (mR X82_39 r0 1) (w44).toNatClampNeg (0 : Int64)) fun X96_46 =>
if mT X96_46 r0 = 12 then
if mR X96_46 r0 1 ≠ 0 then
bd (fX12_of r0 v1 (6 : Int32) X96_46) fun w51 X105_52 =>
if mT X105_52 (mR X96_46 r0 1) = 15 then
if q_b X105_52 (mR X96_46 r0 1) w51 then
nm (sJ X105_52 (mR X96_46 r0 1) (w51).toNatClampNeg (((v7_13).toInt64) + (1 : Int64))) fun X113_53 =>
some ((), X113_53)
else none
else none
else none
else none
else none
else none
else none
else none
else none
else none
else none
else none
else none
else none
else none
else none
else none
else none
else none
else none
else none
else none
else none
else none
else none
else none
else none
else none
else none
else none
else none
else none
theorem sX12_claims (r0 : Nat) (v1 : Int32) (v2 : Int32) (v3 : Int64) (v5 : Int64) : q_Ct yX12_claims cX12_claims 8 none 2 45 0 0 q_eV (fun P => [.ref (P + r0), .int v1, .int v2, .long v3, .long v5]) (fX12_claims r0 v1 v2 v3 v5) := by
  refine q_meth (by decide +kernel) (fun P => Nat.le_of_ble_eq_true rfl) (fun E X C hn => ?_)
  show Sm E (q_fin E q_eV X 0 0) 0 0 0 [(0, .ref (q_P E + r0)), (1, .int v1), (2, .int v2), (3, .long v3), (5, .long v5)] [] X _
  unfold fX12_claims
  refine q_aload_n C 0 dX12_claims_0 rfl rfl ?_
  refine q_chk (fun h1 => ?_)
  refine q_chk (fun h2 => ?_)
  refine p_getR C fgX12_11 rfl dX12_claims_1 h1 h2 ?_
  refine q_aload_n C 0 dX12_claims_4 rfl rfl ?_
  refine q_iload_n C 1 dX12_claims_5 rfl rfl ?_
  refine q_bipush C (6 : Int32) dX12_claims_6 rfl ?_
  refine q_cVI (As := (fun P => [.int v1, .int (6 : Int32)])) C [.ref (q_P E + (mR X r0 1))] (sX12_of r0 v1 (6 : Int32)) fcX12_66 rfl (fun _ => rfl) ⟨Nat.le_of_ble_eq_true rfl, Nat.le_of_ble_eq_true rfl⟩ ⟨Nat.le_of_ble_eq_true rfl, Nat.le_of_ble_eq_true rfl⟩ (Nat.le_of_ble_eq_true rfl) dX12_claims_8 h1 (fun w3 X8_4 => ?_)
  refine q_chk (fun h5 => ?_)
  refine q_chk (fun h6 => ?_)
  refine p_lald C dX12_claims_11 h5 h6 ?_
  refine q_l2i C dX12_claims_12 ?_
  refine q_nmi (fun v7_13 => ?_)
  refine q_istore C [(7, .int v7_13), (0, .ref (q_P E + r0)), (1, .int v1), (2, .int v2), (3, .long v3), (5, .long v5)] dX12_claims_13 (Nat.le_of_ble_eq_true rfl) rfl ?_
  refine q_aload_n C 1 dX12_claims_15 rfl rfl ?_
  refine q_chk (fun h8 => ?_)
  refine q_chk (fun h9 => ?_)
  refine p_getR C fgX12_11 rfl dX12_claims_16 h8 h9 ?_
  refine q_aload_n C 1 dX12_claims_19 rfl rfl ?_
  refine q_iload_n C 2 dX12_claims_20 rfl rfl ?_
  refine q_iload C 0 dX12_claims_21 rfl ?_
  refine q_iconst C (0 : Int32) dX12_claims_23 rfl ?_
  refine q_cVI (As := (fun P => [.int v1, .int v7_13, .int (0 : Int32)])) C [.ref (q_P E + (mR X8_4 r0 1))] (sX12_ofClaim r0 v1 v7_13 (0 : Int32)) fcX12_164 rfl (fun _ => rfl) ⟨Nat.le_of_ble_eq_true rfl, Nat.le_of_ble_eq_true rfl⟩ ⟨Nat.le_of_ble_eq_true rfl, Nat.le_of_ble_eq_true rfl⟩ (Nat.le_of_ble_eq_true rfl) dX12_claims_24 h8 (fun w10 X24_11 => ?_)
  refine q_lload_n C 4 dX12_claims_27 rfl rfl ?_
  refine q_chk (fun h13 => ?_)
  refine q_chk (fun h14 => ?_)
  refine p_last C dX12_claims_28 h13 h14 ?_
  refine q_nmX (fun X28_12 => ?_)
  refine q_aload_n C 1 dX12_claims_29 rfl rfl ?_
  refine q_chk (fun h15 => ?_)
  refine q_chk (fun h16 => ?_)
  refine p_getR C fgX12_11 rfl dX12_claims_30 h15 h16 ?_
  refine q_aload_n C 1 dX12_claims_33 rfl rfl ?_
  refine q_iload_n C 2 dX12_claims_34 rfl rfl ?_
  refine q_iload C 0 dX12_claims_35 rfl ?_
  refine q_iconst C (1 : Int32) dX12_claims_37 rfl ?_
  refine q_cVI (As := (fun P => [.int v1, .int v7_13, .int (1 : Int32)])) C [.ref (q_P E + (mR X28_12 r0 1))] (sX12_ofClaim r0 v1 v7_13 (1 : Int32)) fcX12_164 rfl (fun _ => rfl) ⟨Nat.le_of_ble_eq_true rfl, Nat.le_of_ble_eq_true rfl⟩ ⟨Nat.le_of_ble_eq_true rfl, Nat.le_of_ble_eq_true rfl⟩ (Nat.le_of_ble_eq_true rfl) dX12_claims_38 h15 (fun w17 X38_18 => ?_)
  refine q_lload C 5 dX12_claims_41 rfl ?_
  refine q_chk (fun h20 => ?_)
  refine q_chk (fun h21 => ?_)
  refine p_last C dX12_claims_43 h20 h21 ?_
  refine q_nmX (fun X43_19 => ?_)
  refine q_aload_n C 1 dX12_claims_44 rfl rfl ?_
  refine q_chk (fun h22 => ?_)
  refine q_chk (fun h23 => ?_)
  refine p_getR C fgX12_11 rfl dX12_claims_45 h22 h23 ?_
  refine q_aload_n C 1 dX12_claims_48 rfl rfl ?_
  refine q_iload_n C 2 dX12_claims_49 rfl rfl ?_
  refine q_iload C 0 dX12_claims_50 rfl ?_
  refine q_iconst C (2 : Int32) dX12_claims_52 rfl ?_
  refine q_cVI (As := (fun P => [.int v1, .int v7_13, .int (2 : Int32)])) C [.ref (q_P E + (mR X43_19 r0 1))] (sX12_ofClaim r0 v1 v7_13 (2 : Int32)) fcX12_164 rfl (fun _ => rfl) ⟨Nat.le_of_ble_eq_true rfl, Nat.le_of_ble_eq_true rfl⟩ ⟨Nat.le_of_ble_eq_true rfl, Nat.le_of_ble_eq_true rfl⟩ (Nat.le_of_ble_eq_true rfl) dX12_claims_53 h22 (fun w24 X53_25 => ?_)
  refine q_aload_n C 1 dX12_claims_56 rfl rfl ?_
  refine q_chk (fun h26 => ?_)
  refine q_chk (fun h27 => ?_)
  refine p_getR C fgX12_11 rfl dX12_claims_57 h26 h27 ?_
  refine q_aload_n C 1 dX12_claims_60 rfl rfl ?_
  refine q_iload_n C 3 dX12_claims_61 rfl rfl ?_
  refine q_iconst C (3 : Int32) dX12_claims_62 rfl ?_
  refine q_cVI (As := (fun P => [.int v2, .int (3 : Int32)])) C [.ref (q_P E + (mR X53_25 r0 1)), .int w24, .ref (q_P E + (mR X43_19 r0 1))] (sX12_at r0 v2 (3 : Int32)) fcX12_111 rfl (fun _ => rfl) ⟨Nat.le_of_ble_eq_true rfl, Nat.le_of_ble_eq_true rfl⟩ ⟨Nat.le_of_ble_eq_true rfl, Nat.le_of_ble_eq_true rfl⟩ (Nat.le_of_ble_eq_true rfl) dX12_claims_63 h26 (fun w28 X63_29 => ?_)
  refine q_chk (fun h30 => ?_)
  refine q_chk (fun h31 => ?_)
  refine p_lald C dX12_claims_66 h30 h31 ?_
  refine q_chk (fun h33 => ?_)
  refine q_chk (fun h34 => ?_)
  refine p_last C dX12_claims_67 h33 h34 ?_
  refine q_nmX (fun X67_32 => ?_)
  refine q_aload_n C 1 dX12_claims_68 rfl rfl ?_
  refine q_chk (fun h35 => ?_)
  refine q_chk (fun h36 => ?_)
  refine p_getR C fgX12_11 rfl dX12_claims_69 h35 h36 ?_
  refine q_aload_n C 1 dX12_claims_72 rfl rfl ?_
  refine q_iload_n C 2 dX12_claims_73 rfl rfl ?_
  refine q_iload C 0 dX12_claims_74 rfl ?_
  refine q_iconst C (3 : Int32) dX12_claims_76 rfl ?_
  refine q_cVI (As := (fun P => [.int v1, .int v7_13, .int (3 : Int32)])) C [.ref (q_P E + (mR X67_32 r0 1))] (sX12_ofClaim r0 v1 v7_13 (3 : Int32)) fcX12_164 rfl (fun _ => rfl) ⟨Nat.le_of_ble_eq_true rfl, Nat.le_of_ble_eq_true rfl⟩ ⟨Nat.le_of_ble_eq_true rfl, Nat.le_of_ble_eq_true rfl⟩ (Nat.le_of_ble_eq_true rfl) dX12_claims_77 h35 (fun w37 X77_38 => ?_)
  refine q_iload_n C 3 dX12_claims_80 rfl rfl ?_
  refine q_i2l C dX12_claims_81 ?_
  refine q_chk (fun h40 => ?_)
  refine q_chk (fun h41 => ?_)
  refine p_last C dX12_claims_82 h40 h41 ?_
  refine q_nmX (fun X82_39 => ?_)
  refine q_aload_n C 1 dX12_claims_83 rfl rfl ?_
  refine q_chk (fun h42 => ?_)
  refine q_chk (fun h43 => ?_)
  refine p_getR C fgX12_11 rfl dX12_claims_84 h42 h43 ?_
  refine q_aload_n C 1 dX12_claims_87 rfl rfl ?_
  refine q_iload_n C 2 dX12_claims_88 rfl rfl ?_
  refine q_iload C 0 dX12_claims_89 rfl ?_
  refine q_iconst C (4 : Int32) dX12_claims_91 rfl ?_
  refine q_cVI (As := (fun P => [.int v1, .int v7_13, .int (4 : Int32)])) C [.ref (q_P E + (mR X82_39 r0 1))] (sX12_ofClaim r0 v1 v7_13 (4 : Int32)) fcX12_164 rfl (fun _ => rfl) ⟨Nat.le_of_ble_eq_true rfl, Nat.le_of_ble_eq_true rfl⟩ ⟨Nat.le_of_ble_eq_true rfl, Nat.le_of_ble_eq_true rfl⟩ (Nat.le_of_ble_eq_true rfl) dX12_claims_92 h42 (fun w44 X92_45 => ?_)
  refine q_lconst C (0 : Int64) dX12_claims_95 rfl ?_
  refine q_chk (fun h47 => ?_)
  refine q_chk (fun h48 => ?_)
  refine p_last C dX12_claims_96 h47 h48 ?_
  refine q_nmX (fun X96_46 => ?_)
  refine q_aload_n C 1 dX12_claims_97 rfl rfl ?_
  refine q_chk (fun h49 => ?_)
  refine q_chk (fun h50 => ?_)
  refine p_getR C fgX12_11 rfl dX12_claims_98 h49 h50 ?_
  refine q_aload_n C 1 dX12_claims_101 rfl rfl ?_
  refine q_iload_n C 2 dX12_claims_102 rfl rfl ?_
  refine q_bipush C (6 : Int32) dX12_claims_103 rfl ?_
  refine q_cVI (As := (fun P => [.int v1, .int (6 : Int32)])) C [.ref (q_P E + (mR X96_46 r0 1))] (sX12_of r0 v1 (6 : Int32)) fcX12_66 rfl (fun _ => rfl) ⟨Nat.le_of_ble_eq_true rfl, Nat.le_of_ble_eq_true rfl⟩ ⟨Nat.le_of_ble_eq_true rfl, Nat.le_of_ble_eq_true rfl⟩ (Nat.le_of_ble_eq_true rfl) dX12_claims_105 h49 (fun w51 X105_52 => ?_)
  refine q_iload C 0 dX12_claims_108 rfl ?_
  refine q_i2l C dX12_claims_110 ?_
  refine q_lconst C (1 : Int64) dX12_claims_111 rfl ?_
  refine q_ladd C dX12_claims_112 ?_
  refine q_chk (fun h54 => ?_)
  refine q_chk (fun h55 => ?_)
  refine p_last C dX12_claims_113 h54 h55 ?_
  refine q_nmX (fun X113_53 => ?_)
  exact q_vret C dX12_claims_114
/-! RecordClaimsModel.writes(I)V -/
abbrev cX12_writes : ByteArray := prog_14_method_33_code
def yX12_writes : MethodName := ⟨RX12, "writes", "(I)V"⟩
theorem dX12_writes_0 : decode cX12_writes 0 = .ok (.aload_n 0, 1) := by decide +kernel
theorem dX12_writes_1 : decode cX12_writes 1 = .ok (.getfield 11, 3) := by decide +kernel
theorem dX12_writes_4 : decode cX12_writes 4 = .ok (.aload_n 0, 1) := by decide +kernel
theorem dX12_writes_5 : decode cX12_writes 5 = .ok (.iload_n 1, 1) := by decide +kernel
theorem dX12_writes_6 : decode cX12_writes 6 = .ok (.iconst 5, 1) := by decide +kernel
theorem dX12_writes_7 : decode cX12_writes 7 = .ok (.invokevirtual 66, 3) := by decide +kernel
theorem dX12_writes_10 : decode cX12_writes 10 = .ok (.lconst 1, 1) := by decide +kernel
theorem dX12_writes_11 : decode cX12_writes 11 = .ok (.lastore, 1) := by decide +kernel
theorem dX12_writes_12 : decode cX12_writes 12 = .ok (.iconst 0, 1) := by decide +kernel
theorem dX12_writes_13 : decode cX12_writes 13 = .ok (.istore_n 2, 1) := by decide +kernel
theorem dX12_writes_14 : decode cX12_writes 14 = .ok (.iload_n 2, 1) := by decide +kernel
theorem dX12_writes_15 : decode cX12_writes 15 = .ok (.aload_n 0, 1) := by decide +kernel
theorem dX12_writes_16 : decode cX12_writes 16 = .ok (.getfield 77, 3) := by decide +kernel
theorem dX12_writes_19 : decode cX12_writes 19 = .ok (.if_icmp .ge 38, 3) := by decide +kernel
theorem dX12_writes_22 : decode cX12_writes 22 = .ok (.aload_n 0, 1) := by decide +kernel
theorem dX12_writes_23 : decode cX12_writes 23 = .ok (.getfield 11, 3) := by decide +kernel
theorem dX12_writes_26 : decode cX12_writes 26 = .ok (.aload_n 0, 1) := by decide +kernel
theorem dX12_writes_27 : decode cX12_writes 27 = .ok (.iload_n 1, 1) := by decide +kernel
theorem dX12_writes_28 : decode cX12_writes 28 = .ok (.iload_n 2, 1) := by decide +kernel
theorem dX12_writes_29 : decode cX12_writes 29 = .ok (.iconst 0, 1) := by decide +kernel
theorem dX12_writes_30 : decode cX12_writes 30 = .ok (.invokevirtual 140, 3) := by decide +kernel
theorem dX12_writes_33 : decode cX12_writes 33 = .ok (.aload_n 0, 1) := by decide +kernel
theorem dX12_writes_34 : decode cX12_writes 34 = .ok (.iload_n 2, 1) := by decide +kernel
theorem dX12_writes_35 : decode cX12_writes 35 = .ok (.i2l, 1) := by decide +kernel
theorem dX12_writes_36 : decode cX12_writes 36 = .ok (.aload_n 0, 1) := by decide +kernel
theorem dX12_writes_37 : decode cX12_writes 37 = .ok (.getfield 11, 3) := by decide +kernel
theorem dX12_writes_40 : decode cX12_writes 40 = .ok (.aload_n 0, 1) := by decide +kernel
theorem dX12_writes_41 : decode cX12_writes 41 = .ok (.iload_n 1, 1) := by decide +kernel
theorem dX12_writes_42 : decode cX12_writes 42 = .ok (.iconst 1, 1) := by decide +kernel
theorem dX12_writes_43 : decode cX12_writes 43 = .ok (.invokevirtual 66, 3) := by decide +kernel
theorem dX12_writes_46 : decode cX12_writes 46 = .ok (.laload, 1) := by decide +kernel
theorem dX12_writes_47 : decode cX12_writes 47 = .ok (.invokevirtual 171, 3) := by decide +kernel
theorem dX12_writes_50 : decode cX12_writes 50 = .ok (.lastore, 1) := by decide +kernel
theorem dX12_writes_51 : decode cX12_writes 51 = .ok (.iinc 2 1, 3) := by decide +kernel
theorem dX12_writes_54 : decode cX12_writes 54 = .ok (.goto (-40), 3) := by decide +kernel
theorem dX12_writes_57 : decode cX12_writes 57 = .ok (.iconst 0, 1) := by decide +kernel
theorem dX12_writes_58 : decode cX12_writes 58 = .ok (.istore_n 2, 1) := by decide +kernel
theorem dX12_writes_59 : decode cX12_writes 59 = .ok (.iload_n 2, 1) := by decide +kernel
theorem dX12_writes_60 : decode cX12_writes 60 = .ok (.aload_n 0, 1) := by decide +kernel
theorem dX12_writes_61 : decode cX12_writes 61 = .ok (.invokevirtual 87, 3) := by decide +kernel
theorem dX12_writes_64 : decode cX12_writes 64 = .ok (.if_icmp .ge 171, 3) := by decide +kernel
theorem dX12_writes_67 : decode cX12_writes 67 = .ok (.aload_n 0, 1) := by decide +kernel
theorem dX12_writes_68 : decode cX12_writes 68 = .ok (.getfield 11, 3) := by decide +kernel
theorem dX12_writes_71 : decode cX12_writes 71 = .ok (.aload_n 0, 1) := by decide +kernel
theorem dX12_writes_72 : decode cX12_writes 72 = .ok (.iload_n 2, 1) := by decide +kernel
theorem dX12_writes_73 : decode cX12_writes 73 = .ok (.iconst 2, 1) := by decide +kernel
theorem dX12_writes_74 : decode cX12_writes 74 = .ok (.invokevirtual 111, 3) := by decide +kernel
theorem dX12_writes_77 : decode cX12_writes 77 = .ok (.laload, 1) := by decide +kernel
theorem dX12_writes_78 : decode cX12_writes 78 = .ok (.aload_n 0, 1) := by decide +kernel
theorem dX12_writes_79 : decode cX12_writes 79 = .ok (.getfield 11, 3) := by decide +kernel
theorem dX12_writes_82 : decode cX12_writes 82 = .ok (.aload_n 0, 1) := by decide +kernel
theorem dX12_writes_83 : decode cX12_writes 83 = .ok (.iload_n 1, 1) := by decide +kernel
theorem dX12_writes_84 : decode cX12_writes 84 = .ok (.iconst 1, 1) := by decide +kernel
theorem dX12_writes_85 : decode cX12_writes 85 = .ok (.invokevirtual 66, 3) := by decide +kernel
theorem dX12_writes_88 : decode cX12_writes 88 = .ok (.laload, 1) := by decide +kernel
theorem dX12_writes_89 : decode cX12_writes 89 = .ok (.lcmp, 1) := by decide +kernel
theorem dX12_writes_90 : decode cX12_writes 90 = .ok (.ifCond .eq 6, 3) := by decide +kernel
theorem dX12_writes_93 : decode cX12_writes 93 = .ok (.goto 136, 3) := by decide +kernel
theorem dX12_writes_96 : decode cX12_writes 96 = .ok (.aload_n 0, 1) := by decide +kernel
theorem dX12_writes_97 : decode cX12_writes 97 = .ok (.getfield 11, 3) := by decide +kernel
theorem dX12_writes_100 : decode cX12_writes 100 = .ok (.aload_n 0, 1) := by decide +kernel
theorem dX12_writes_101 : decode cX12_writes 101 = .ok (.iload_n 2, 1) := by decide +kernel
theorem dX12_writes_102 : decode cX12_writes 102 = .ok (.iconst 5, 1) := by decide +kernel
theorem dX12_writes_103 : decode cX12_writes 103 = .ok (.invokevirtual 111, 3) := by decide +kernel
theorem dX12_writes_106 : decode cX12_writes 106 = .ok (.laload, 1) := by decide +kernel
theorem dX12_writes_107 : decode cX12_writes 107 = .ok (.aload_n 0, 1) := by decide +kernel
theorem dX12_writes_108 : decode cX12_writes 108 = .ok (.getfield 11, 3) := by decide +kernel
theorem dX12_writes_111 : decode cX12_writes 111 = .ok (.aload_n 0, 1) := by decide +kernel
theorem dX12_writes_112 : decode cX12_writes 112 = .ok (.iload_n 1, 1) := by decide +kernel
theorem dX12_writes_113 : decode cX12_writes 113 = .ok (.iconst 2, 1) := by decide +kernel
theorem dX12_writes_114 : decode cX12_writes 114 = .ok (.invokevirtual 66, 3) := by decide +kernel
theorem dX12_writes_117 : decode cX12_writes 117 = .ok (.laload, 1) := by decide +kernel
theorem dX12_writes_118 : decode cX12_writes 118 = .ok (.lcmp, 1) := by decide +kernel
theorem dX12_writes_119 : decode cX12_writes 119 = .ok (.ifCond .ge 7, 3) := by decide +kernel
theorem dX12_writes_122 : decode cX12_writes 122 = .ok (.iconst 1, 1) := by decide +kernel
theorem dX12_writes_123 : decode cX12_writes 123 = .ok (.goto 4, 3) := by decide +kernel
theorem dX12_writes_126 : decode cX12_writes 126 = .ok (.iconst 0, 1) := by decide +kernel
theorem dX12_writes_127 : decode cX12_writes 127 = .ok (.istore_n 3, 1) := by decide +kernel
theorem dX12_writes_128 : decode cX12_writes 128 = .ok (.aload_n 0, 1) := by decide +kernel
theorem dX12_writes_129 : decode cX12_writes 129 = .ok (.getfield 11, 3) := by decide +kernel
theorem dX12_writes_132 : decode cX12_writes 132 = .ok (.aload_n 0, 1) := by decide +kernel
theorem dX12_writes_133 : decode cX12_writes 133 = .ok (.iload_n 2, 1) := by decide +kernel
theorem dX12_writes_134 : decode cX12_writes 134 = .ok (.bipush 7, 2) := by decide +kernel
theorem dX12_writes_136 : decode cX12_writes 136 = .ok (.invokevirtual 111, 3) := by decide +kernel
theorem dX12_writes_139 : decode cX12_writes 139 = .ok (.laload, 1) := by decide +kernel
theorem dX12_writes_140 : decode cX12_writes 140 = .ok (.lconst 0, 1) := by decide +kernel
theorem dX12_writes_141 : decode cX12_writes 141 = .ok (.lcmp, 1) := by decide +kernel
theorem dX12_writes_142 : decode cX12_writes 142 = .ok (.ifCond .ne 38, 3) := by decide +kernel
theorem dX12_writes_145 : decode cX12_writes 145 = .ok (.iload_n 3, 1) := by decide +kernel
theorem dX12_writes_146 : decode cX12_writes 146 = .ok (.ifCond .eq 34, 3) := by decide +kernel
theorem dX12_writes_149 : decode cX12_writes 149 = .ok (.aload_n 0, 1) := by decide +kernel
theorem dX12_writes_150 : decode cX12_writes 150 = .ok (.iload_n 1, 1) := by decide +kernel
theorem dX12_writes_151 : decode cX12_writes 151 = .ok (.iload_n 2, 1) := by decide +kernel
theorem dX12_writes_152 : decode cX12_writes 152 = .ok (.aload_n 0, 1) := by decide +kernel
theorem dX12_writes_153 : decode cX12_writes 153 = .ok (.getfield 11, 3) := by decide +kernel
theorem dX12_writes_156 : decode cX12_writes 156 = .ok (.aload_n 0, 1) := by decide +kernel
theorem dX12_writes_157 : decode cX12_writes 157 = .ok (.iload_n 2, 1) := by decide +kernel
theorem dX12_writes_158 : decode cX12_writes 158 = .ok (.iconst 1, 1) := by decide +kernel
theorem dX12_writes_159 : decode cX12_writes 159 = .ok (.invokevirtual 111, 3) := by decide +kernel
theorem dX12_writes_162 : decode cX12_writes 162 = .ok (.laload, 1) := by decide +kernel
theorem dX12_writes_163 : decode cX12_writes 163 = .ok (.aload_n 0, 1) := by decide +kernel
theorem dX12_writes_164 : decode cX12_writes 164 = .ok (.getfield 11, 3) := by decide +kernel
theorem dX12_writes_167 : decode cX12_writes 167 = .ok (.aload_n 0, 1) := by decide +kernel
theorem dX12_writes_168 : decode cX12_writes 168 = .ok (.iload_n 2, 1) := by decide +kernel
theorem dX12_writes_169 : decode cX12_writes 169 = .ok (.iconst 0, 1) := by decide +kernel
theorem dX12_writes_170 : decode cX12_writes 170 = .ok (.invokevirtual 111, 3) := by decide +kernel
theorem dX12_writes_173 : decode cX12_writes 173 = .ok (.laload, 1) := by decide +kernel
theorem dX12_writes_174 : decode cX12_writes 174 = .ok (.invokevirtual 186, 3) := by decide +kernel
theorem dX12_writes_177 : decode cX12_writes 177 = .ok (.goto 52, 3) := by decide +kernel
theorem dX12_writes_180 : decode cX12_writes 180 = .ok (.aload_n 0, 1) := by decide +kernel
theorem dX12_writes_181 : decode cX12_writes 181 = .ok (.getfield 11, 3) := by decide +kernel
theorem dX12_writes_184 : decode cX12_writes 184 = .ok (.aload_n 0, 1) := by decide +kernel
theorem dX12_writes_185 : decode cX12_writes 185 = .ok (.iload_n 2, 1) := by decide +kernel
theorem dX12_writes_186 : decode cX12_writes 186 = .ok (.bipush 7, 2) := by decide +kernel
theorem dX12_writes_188 : decode cX12_writes 188 = .ok (.invokevirtual 111, 3) := by decide +kernel
theorem dX12_writes_191 : decode cX12_writes 191 = .ok (.laload, 1) := by decide +kernel
theorem dX12_writes_192 : decode cX12_writes 192 = .ok (.lconst 1, 1) := by decide +kernel
theorem dX12_writes_193 : decode cX12_writes 193 = .ok (.lcmp, 1) := by decide +kernel
theorem dX12_writes_194 : decode cX12_writes 194 = .ok (.ifCond .ne 35, 3) := by decide +kernel
theorem dX12_writes_197 : decode cX12_writes 197 = .ok (.iload_n 3, 1) := by decide +kernel
theorem dX12_writes_198 : decode cX12_writes 198 = .ok (.ifCond .ne 31, 3) := by decide +kernel
theorem dX12_writes_201 : decode cX12_writes 201 = .ok (.aload_n 0, 1) := by decide +kernel
theorem dX12_writes_202 : decode cX12_writes 202 = .ok (.iload_n 1, 1) := by decide +kernel
theorem dX12_writes_203 : decode cX12_writes 203 = .ok (.iload_n 2, 1) := by decide +kernel
theorem dX12_writes_204 : decode cX12_writes 204 = .ok (.aload_n 0, 1) := by decide +kernel
theorem dX12_writes_205 : decode cX12_writes 205 = .ok (.getfield 11, 3) := by decide +kernel
theorem dX12_writes_208 : decode cX12_writes 208 = .ok (.aload_n 0, 1) := by decide +kernel
theorem dX12_writes_209 : decode cX12_writes 209 = .ok (.iload_n 2, 1) := by decide +kernel
theorem dX12_writes_210 : decode cX12_writes 210 = .ok (.iconst 0, 1) := by decide +kernel
theorem dX12_writes_211 : decode cX12_writes 211 = .ok (.invokevirtual 111, 3) := by decide +kernel
theorem dX12_writes_214 : decode cX12_writes 214 = .ok (.laload, 1) := by decide +kernel
theorem dX12_writes_215 : decode cX12_writes 215 = .ok (.aload_n 0, 1) := by decide +kernel
theorem dX12_writes_216 : decode cX12_writes 216 = .ok (.getfield 11, 3) := by decide +kernel
theorem dX12_writes_219 : decode cX12_writes 219 = .ok (.aload_n 0, 1) := by decide +kernel
theorem dX12_writes_220 : decode cX12_writes 220 = .ok (.iload_n 2, 1) := by decide +kernel
theorem dX12_writes_221 : decode cX12_writes 221 = .ok (.iconst 1, 1) := by decide +kernel
theorem dX12_writes_222 : decode cX12_writes 222 = .ok (.invokevirtual 111, 3) := by decide +kernel
theorem dX12_writes_225 : decode cX12_writes 225 = .ok (.laload, 1) := by decide +kernel
theorem dX12_writes_226 : decode cX12_writes 226 = .ok (.invokevirtual 186, 3) := by decide +kernel
theorem dX12_writes_229 : decode cX12_writes 229 = .ok (.iinc 2 1, 3) := by decide +kernel
theorem dX12_writes_232 : decode cX12_writes 232 = .ok (.goto (-173), 3) := by decide +kernel
theorem dX12_writes_235 : decode cX12_writes 235 = .ok (.return_, 1) := by decide +kernel
theorem fcX12_186 : q_LV RX12 186 yX12_claims cX12_claims 8 none 4 12 := ⟨q_tb 1630 (by decide +kernel) rfl, q_tb 1632 (by decide +kernel) rfl, q_tbs (q := (yX12_claims, 35)) 110 (by decide +kernel) rfl, q_tb 13 (by decide +kernel) rfl, q_tb 1633 (by decide +kernel) rfl, ⟨by decide +kernel, by decide +kernel, by decide +kernel⟩, TX12, 35, rfl⟩
def fX12_writes_L229 (n : Nat) (k59 : Nat → Int32 → Int32 → Mm → Option (Unit × Mm)) (r0 : Nat) (v1 : Int32) (v2 : Int32) (X : Mm) : Option (Unit × Mm) :=
nm (v2 + (1 : Int32)) fun v2_229 =>
k59 r0 v1 v2_229 X
def fX12_writes_L180 (n : Nat) (k59 : Nat → Int32 → Int32 → Mm → Option (Unit × Mm)) (r0 : Nat) (v1 : Int32) (v2 : Int32) (v3 : Int32) (X : Mm) : Option (Unit × Mm) :=
if mT X r0 = 12 then
if mR X r0 1 ≠ 0 then
bd (fX12_at r0 v2 (7 : Int32) X) fun w44 X188_45 =>
if mT X188_45 (mR X r0 1) = 15 then
if q_b X188_45 (mR X r0 1) w44 then
if (lg_cmp (mJ X188_45 (mR X r0 1) (w44).toNatClampNeg) (1 : Int64)) = 0 then (
if v3 = 0 then (
if mT X188_45 r0 = 12 then
if mR X188_45 r0 1 ≠ 0 then
bd (fX12_at r0 v2 (0 : Int32) X188_45) fun w50 X211_51 =>
if mT X211_51 (mR X188_45 r0 1) = 15 then
if q_b X211_51 (mR X188_45 r0 1) w50 then
if mT X211_51 r0 = 12 then
if mR X211_51 r0 1 ≠ 0 then
bd (fX12_at r0 v2 (1 : Int32) X211_51) fun w56 X222_57 =>
if mT X222_57 (mR X211_51 r0 1) = 15 then
if q_b X222_57 (mR X211_51 r0 1) w56 then
if mT X222_57 r0 = 12 then
bd (fX12_claims r0 v1 v2 ((mJ X211_51 (mR X188_45 r0 1) (w50).toNatClampNeg)) ((mJ X222_57 (mR X211_51 r0 1) (w56).toNatClampNeg)) X222_57) fun _ X226_61 =>
fX12_writes_L229 n k59 r0 v1 v2 X226_61
else none
else none
else none
else none
else none
else none
else none
else none
else none
) else (
fX12_writes_L229 n k59 r0 v1 v2 X188_45
)
) else (
fX12_writes_L229 n k59 r0 v1 v2 X188_45
)
else none
else none
else none
else none
def fX12_writes_L127 (n : Nat) (k59 : Nat → Int32 → Int32 → Mm → Option (Unit × Mm)) (r0 : Nat) (v1 : Int32) (v2 : Int32) (s0 : Int32) (X : Mm) : Option (Unit × Mm) :=
if mT X r0 = 12 then
if mR X r0 1 ≠ 0 then
bd (fX12_at r0 v2 (7 : Int32) X) fun w38 X136_39 =>
if mT X136_39 (mR X r0 1) = 15 then
if q_b X136_39 (mR X r0 1) w38 then
if (lg_cmp (mJ X136_39 (mR X r0 1) (w38).toNatClampNeg) (0 : Int64)) = 0 then (
if s0 = 0 then (
fX12_writes_L180 n k59 r0 v1 v2 s0 X136_39
) else (
if mT X136_39 r0 = 12 then
if mR X136_39 r0 1 ≠ 0 then
bd (fX12_at r0 v2 (1 : Int32) X136_39) fun w65 X159_66 =>
if mT X159_66 (mR X136_39 r0 1) = 15 then
if q_b X159_66 (mR X136_39 r0 1) w65 then
if mT X159_66 r0 = 12 then
if mR X159_66 r0 1 ≠ 0 then
bd (fX12_at r0 v2 (0 : Int32) X159_66) fun w71 X170_72 =>
if mT X170_72 (mR X159_66 r0 1) = 15 then
if q_b X170_72 (mR X159_66 r0 1) w71 then
if mT X170_72 r0 = 12 then
bd (fX12_claims r0 v1 v2 ((mJ X159_66 (mR X136_39 r0 1) (w65).toNatClampNeg)) ((mJ X170_72 (mR X159_66 r0 1) (w71).toNatClampNeg)) X170_72) fun _ X174_76 =>
fX12_writes_L229 n k59 r0 v1 v2 X174_76
else none
else none
else none
else none
else none
else none
else none
else none
else none
)
) else (
fX12_writes_L180 n k59 r0 v1 v2 s0 X136_39
)
else none
else none
else none
else none
def fX12_writes_L59 (n : Nat) : Nat → Nat → Int32 → Int32 → Mm → Option (Unit × Mm)
| 0, _, _, _, _ => none
| j + 1, r0, v1, v2, X =>
if mT X r0 = 12 then
bd (fX12_tradeMany r0 X) fun w9 X61_10 =>
if w9 ≤ v2 then (
some ((), X61_10)
) else (
if mT X61_10 r0 = 12 then
if mR X61_10 r0 1 ≠ 0 then
bd (fX12_at r0 v2 (2 : Int32) X61_10) fun w14 X74_15 =>
if mT X74_15 (mR X61_10 r0 1) = 15 then
if q_b X74_15 (mR X61_10 r0 1) w14 then
if mT X74_15 r0 = 12 then
if mR X74_15 r0 1 ≠ 0 then
bd (fX12_of r0 v1 (1 : Int32) X74_15) fun w20 X85_21 =>
if mT X85_21 (mR X74_15 r0 1) = 15 then
if q_b X85_21 (mR X74_15 r0 1) w20 then
if (lg_cmp (mJ X74_15 (mR X61_10 r0 1) (w14).toNatClampNeg) (mJ X85_21 (mR X74_15 r0 1) (w20).toNatClampNeg)) = 0 then (
if mT X85_21 r0 = 12 then
if mR X85_21 r0 1 ≠ 0 then
bd (fX12_at r0 v2 (5 : Int32) X85_21) fun w26 X103_27 =>
if mT X103_27 (mR X85_21 r0 1) = 15 then
if q_b X103_27 (mR X85_21 r0 1) w26 then
if mT X103_27 r0 = 12 then
if mR X103_27 r0 1 ≠ 0 then
bd (fX12_of r0 v1 (2 : Int32) X103_27) fun w32 X114_33 =>
if mT X114_33 (mR X103_27 r0 1) = 15 then
if q_b X114_33 (mR X103_27 r0 1) w32 then
if 0 ≤ (lg_cmp (mJ X103_27 (mR X85_21 r0 1) (w26).toNatClampNeg) (mJ X114_33 (mR X103_27 r0 1) (w32).toNatClampNeg)) then (
fX12_writes_L127 n (fX12_writes_L59 n j) r0 v1 v2 (0 : Int32) X114_33
) else (
fX12_writes_L127 n (fX12_writes_L59 n j) r0 v1 v2 (1 : Int32) X114_33
)
else none
else none
else none
else none
else none
else none
else none
else none
) else (
fX12_writes_L229 n (fX12_writes_L59 n j) r0 v1 v2 X85_21
)
else none
else none
else none
else none
else none
else none
else none
else none
)
else none
def fX12_writes_L14 (n : Nat) : Nat → Nat → Int32 → Int32 → Mm → Option (Unit × Mm)
| 0, _, _, _, _ => none
| j + 1, r0, v1, v2, X =>
if mT X r0 = 12 then
if (mI X r0 6) ≤ v2 then (
fX12_writes_L59 n n r0 v1 (0 : Int32) X
) else (
if mR X r0 1 ≠ 0 then
bd (fX12_ofHolder r0 v1 v2 (0 : Int32) X) fun w79 X30_80 =>
if mT X30_80 r0 = 12 then
if mR X30_80 r0 1 ≠ 0 then
bd (fX12_of r0 v1 (1 : Int32) X30_80) fun w83 X43_84 =>
if mT X43_84 (mR X30_80 r0 1) = 15 then
if q_b X43_84 (mR X30_80 r0 1) w83 then
if mT X43_84 r0 = 12 then
bd (fX12_sharesOf r0 (((v2).toInt64)) ((mJ X43_84 (mR X30_80 r0 1) (w83).toNatClampNeg)) X43_84) fun w87 X47_88 =>
if mT X47_88 (mR X r0 1) = 15 then
if q_b X47_88 (mR X r0 1) w79 then
nm (sJ X47_88 (mR X r0 1) (w79).toNatClampNeg w87) fun X50_90 =>
nm (v2 + (1 : Int32)) fun v2_51 =>
(fX12_writes_L14 n j) r0 v1 v2_51 X50_90
else none
else none
else none
else none
else none
else none
else none
else none
)
else none
def fX12_writes (n : Nat) (r0 : Nat) (v1 : Int32) (X : Mm) : Option (Unit × Mm) :=
if mT X r0 = 12 then
if mR X r0 1 ≠ 0 then
bd (fX12_of r0 v1 (5 : Int32) X) fun w3 X7_4 =>
if mT X7_4 (mR X r0 1) = 15 then
if q_b X7_4 (mR X r0 1) w3 then
nm (sJ X7_4 (mR X r0 1) (w3).toNatClampNeg (1 : Int64)) fun X11_5 =>
fX12_writes_L14 n n r0 v1 (0 : Int32) X11_5
else none
else none
else none
else none
theorem gX12_writes_L229 {E : q_E} {X0 : Mm} (C : Cx E cX12_writes RX12 4 none (q_rm 3 72 0 0) X0) (n : Nat) (k59 : Nat → Int32 → Int32 → Mm → Option (Unit × Mm)) (hk59 : ∀ (r0 : Nat) (v1 : Int32) (v2 : Int32) (X : Mm), Sm E (q_fin E q_eV X0 0 0) 0 0 59 [(0, .ref (q_P E + r0)), (1, .int v1), (2, .int v2)] [] X (k59 r0 v1 v2 X)) (r0 : Nat) (v1 : Int32) (v2 : Int32) (X : Mm) : Sm E (q_fin E q_eV X0 0 0) 0 0 229 [(0, .ref (q_P E + r0)), (1, .int v1), (2, .int v2)] [] X (fX12_writes_L229 n k59 r0 v1 v2 X) := by
  unfold fX12_writes_L229
  refine q_iincN C (1 : Int32) 2 (fun v2_229 => [(2, .int v2_229), (0, .ref (q_P E + r0)), (1, .int v1)]) dX12_writes_229 rfl rfl (Nat.le_of_ble_eq_true rfl) (fun _ => rfl) (fun v2_229 => ?_)
  refine q_goto C 59 dX12_writes_232 (by decide) ?_
  refine q_sub C [(0, .ref (q_P E + r0)), (1, .int v1), (2, .int v2_229)] [1, 2, 0] rfl ?_
  exact hk59 r0 v1 v2_229 X
theorem gX12_writes_L180 {E : q_E} {X0 : Mm} (C : Cx E cX12_writes RX12 4 none (q_rm 3 72 0 0) X0) (n : Nat) (k59 : Nat → Int32 → Int32 → Mm → Option (Unit × Mm)) (hk59 : ∀ (r0 : Nat) (v1 : Int32) (v2 : Int32) (X : Mm), Sm E (q_fin E q_eV X0 0 0) 0 0 59 [(0, .ref (q_P E + r0)), (1, .int v1), (2, .int v2)] [] X (k59 r0 v1 v2 X)) (r0 : Nat) (v1 : Int32) (v2 : Int32) (v3 : Int32) (X : Mm) : Sm E (q_fin E q_eV X0 0 0) 0 0 180 [(0, .ref (q_P E + r0)), (1, .int v1), (2, .int v2), (3, .int v3)] [] X (fX12_writes_L180 n k59 r0 v1 v2 v3 X) := by
  unfold fX12_writes_L180
  refine q_aload_n C 0 dX12_writes_180 rfl rfl ?_
  refine q_chk (fun h42 => ?_)
  refine q_chk (fun h43 => ?_)
  refine p_getR C fgX12_11 rfl dX12_writes_181 h42 h43 ?_
  refine q_aload_n C 0 dX12_writes_184 rfl rfl ?_
  refine q_iload_n C 2 dX12_writes_185 rfl rfl ?_
  refine q_bipush C (7 : Int32) dX12_writes_186 rfl ?_
  refine q_cVI (As := (fun P => [.int v2, .int (7 : Int32)])) C [.ref (q_P E + (mR X r0 1))] (sX12_at r0 v2 (7 : Int32)) fcX12_111 rfl (fun _ => rfl) ⟨Nat.le_of_ble_eq_true rfl, Nat.le_of_ble_eq_true rfl⟩ ⟨Nat.le_of_ble_eq_true rfl, Nat.le_of_ble_eq_true rfl⟩ (Nat.le_of_ble_eq_true rfl) dX12_writes_188 h42 (fun w44 X188_45 => ?_)
  refine q_chk (fun h46 => ?_)
  refine q_chk (fun h47 => ?_)
  refine p_lald C dX12_writes_191 h46 h47 ?_
  refine q_lconst C (1 : Int64) dX12_writes_192 rfl ?_
  refine q_lcmp C dX12_writes_193 ?_
  refine q_if_ne C 229 dX12_writes_194 (by decide) (fun _ => ?_) (fun _ => ?_)
  · refine q_iload_n C 3 dX12_writes_197 rfl rfl ?_
    refine q_if_ne C 229 dX12_writes_198 (by decide) (fun _ => ?_) (fun _ => ?_)
    · refine q_aload_n C 0 dX12_writes_201 rfl rfl ?_
      refine q_iload_n C 1 dX12_writes_202 rfl rfl ?_
      refine q_iload_n C 2 dX12_writes_203 rfl rfl ?_
      refine q_aload_n C 0 dX12_writes_204 rfl rfl ?_
      refine q_chk (fun h48 => ?_)
      refine q_chk (fun h49 => ?_)
      refine p_getR C fgX12_11 rfl dX12_writes_205 h48 h49 ?_
      refine q_aload_n C 0 dX12_writes_208 rfl rfl ?_
      refine q_iload_n C 2 dX12_writes_209 rfl rfl ?_
      refine q_iconst C (0 : Int32) dX12_writes_210 rfl ?_
      refine q_cVI (As := (fun P => [.int v2, .int (0 : Int32)])) C [.ref (q_P E + (mR X188_45 r0 1)), .int v2, .int v1, .ref (q_P E + r0)] (sX12_at r0 v2 (0 : Int32)) fcX12_111 rfl (fun _ => rfl) ⟨Nat.le_of_ble_eq_true rfl, Nat.le_of_ble_eq_true rfl⟩ ⟨Nat.le_of_ble_eq_true rfl, Nat.le_of_ble_eq_true rfl⟩ (Nat.le_of_ble_eq_true rfl) dX12_writes_211 h48 (fun w50 X211_51 => ?_)
      refine q_chk (fun h52 => ?_)
      refine q_chk (fun h53 => ?_)
      refine p_lald C dX12_writes_214 h52 h53 ?_
      refine q_aload_n C 0 dX12_writes_215 rfl rfl ?_
      refine q_chk (fun h54 => ?_)
      refine q_chk (fun h55 => ?_)
      refine p_getR C fgX12_11 rfl dX12_writes_216 h54 h55 ?_
      refine q_aload_n C 0 dX12_writes_219 rfl rfl ?_
      refine q_iload_n C 2 dX12_writes_220 rfl rfl ?_
      refine q_iconst C (1 : Int32) dX12_writes_221 rfl ?_
      refine q_cVI (As := (fun P => [.int v2, .int (1 : Int32)])) C [.ref (q_P E + (mR X211_51 r0 1)), .long (mJ X211_51 (mR X188_45 r0 1) (w50).toNatClampNeg), .int v2, .int v1, .ref (q_P E + r0)] (sX12_at r0 v2 (1 : Int32)) fcX12_111 rfl (fun _ => rfl) ⟨Nat.le_of_ble_eq_true rfl, Nat.le_of_ble_eq_true rfl⟩ ⟨Nat.le_of_ble_eq_true rfl, Nat.le_of_ble_eq_true rfl⟩ (Nat.le_of_ble_eq_true rfl) dX12_writes_222 h54 (fun w56 X222_57 => ?_)
      refine q_chk (fun h58 => ?_)
      refine q_chk (fun h59 => ?_)
      refine p_lald C dX12_writes_225 h58 h59 ?_
      refine q_chk (fun h62 => ?_)
      refine q_cVV (As := (fun P => [.int v1, .int v2, .long (mJ X211_51 (mR X188_45 r0 1) (w50).toNatClampNeg), .long (mJ X222_57 (mR X211_51 r0 1) (w56).toNatClampNeg)])) C [] (sX12_claims r0 v1 v2 ((mJ X211_51 (mR X188_45 r0 1) (w50).toNatClampNeg)) ((mJ X222_57 (mR X211_51 r0 1) (w56).toNatClampNeg))) fcX12_186 rfl (fun _ => rfl) ⟨Nat.le_of_ble_eq_true rfl, Nat.le_of_ble_eq_true rfl⟩ ⟨Nat.le_of_ble_eq_true rfl, Nat.le_of_ble_eq_true rfl⟩ (Nat.le_of_ble_eq_true rfl) dX12_writes_226 h62 (fun _ X226_61 => ?_)
      refine q_sub C [(0, .ref (q_P E + r0)), (1, .int v1), (2, .int v2)] [0, 1, 2] rfl ?_
      exact gX12_writes_L229 C n k59 hk59 r0 v1 v2 X226_61
    · refine q_sub C [(0, .ref (q_P E + r0)), (1, .int v1), (2, .int v2)] [0, 1, 2] rfl ?_
      exact gX12_writes_L229 C n k59 hk59 r0 v1 v2 X188_45
  · refine q_sub C [(0, .ref (q_P E + r0)), (1, .int v1), (2, .int v2)] [0, 1, 2] rfl ?_
    exact gX12_writes_L229 C n k59 hk59 r0 v1 v2 X188_45
theorem gX12_writes_L127 {E : q_E} {X0 : Mm} (C : Cx E cX12_writes RX12 4 none (q_rm 3 72 0 0) X0) (n : Nat) (k59 : Nat → Int32 → Int32 → Mm → Option (Unit × Mm)) (hk59 : ∀ (r0 : Nat) (v1 : Int32) (v2 : Int32) (X : Mm), Sm E (q_fin E q_eV X0 0 0) 0 0 59 [(0, .ref (q_P E + r0)), (1, .int v1), (2, .int v2)] [] X (k59 r0 v1 v2 X)) (r0 : Nat) (v1 : Int32) (v2 : Int32) (s0 : Int32) (X : Mm) : Sm E (q_fin E q_eV X0 0 0) 0 0 127 [(0, .ref (q_P E + r0)), (1, .int v1), (2, .int v2)] [.int s0] X (fX12_writes_L127 n k59 r0 v1 v2 s0 X) := by
  unfold fX12_writes_L127
  refine q_istore_n C [(3, .int s0), (0, .ref (q_P E + r0)), (1, .int v1), (2, .int v2)] dX12_writes_127 rfl (Nat.le_of_ble_eq_true rfl) rfl ?_
  refine q_aload_n C 1 dX12_writes_128 rfl rfl ?_
  refine q_chk (fun h36 => ?_)
  refine q_chk (fun h37 => ?_)
  refine p_getR C fgX12_11 rfl dX12_writes_129 h36 h37 ?_
  refine q_aload_n C 1 dX12_writes_132 rfl rfl ?_
  refine q_iload_n C 3 dX12_writes_133 rfl rfl ?_
  refine q_bipush C (7 : Int32) dX12_writes_134 rfl ?_
  refine q_cVI (As := (fun P => [.int v2, .int (7 : Int32)])) C [.ref (q_P E + (mR X r0 1))] (sX12_at r0 v2 (7 : Int32)) fcX12_111 rfl (fun _ => rfl) ⟨Nat.le_of_ble_eq_true rfl, Nat.le_of_ble_eq_true rfl⟩ ⟨Nat.le_of_ble_eq_true rfl, Nat.le_of_ble_eq_true rfl⟩ (Nat.le_of_ble_eq_true rfl) dX12_writes_136 h36 (fun w38 X136_39 => ?_)
  refine q_chk (fun h40 => ?_)
  refine q_chk (fun h41 => ?_)
  refine p_lald C dX12_writes_139 h40 h41 ?_
  refine q_lconst C (0 : Int64) dX12_writes_140 rfl ?_
  refine q_lcmp C dX12_writes_141 ?_
  refine q_if_ne C 180 dX12_writes_142 (by decide) (fun _ => ?_) (fun _ => ?_)
  · refine q_iload_n C 0 dX12_writes_145 rfl rfl ?_
    refine q_if_eq C 180 dX12_writes_146 (by decide) (fun _ => ?_) (fun _ => ?_)
    · refine q_sub C [(0, .ref (q_P E + r0)), (1, .int v1), (2, .int v2), (3, .int s0)] [1, 2, 3, 0] rfl ?_
      exact gX12_writes_L180 C n k59 hk59 r0 v1 v2 s0 X136_39
    · refine q_aload_n C 1 dX12_writes_149 rfl rfl ?_
      refine q_iload_n C 2 dX12_writes_150 rfl rfl ?_
      refine q_iload_n C 3 dX12_writes_151 rfl rfl ?_
      refine q_aload_n C 1 dX12_writes_152 rfl rfl ?_
      refine q_chk (fun h63 => ?_)
      refine q_chk (fun h64 => ?_)
      refine p_getR C fgX12_11 rfl dX12_writes_153 h63 h64 ?_
      refine q_aload_n C 1 dX12_writes_156 rfl rfl ?_
      refine q_iload_n C 3 dX12_writes_157 rfl rfl ?_
      refine q_iconst C (1 : Int32) dX12_writes_158 rfl ?_
      refine q_cVI (As := (fun P => [.int v2, .int (1 : Int32)])) C [.ref (q_P E + (mR X136_39 r0 1)), .int v2, .int v1, .ref (q_P E + r0)] (sX12_at r0 v2 (1 : Int32)) fcX12_111 rfl (fun _ => rfl) ⟨Nat.le_of_ble_eq_true rfl, Nat.le_of_ble_eq_true rfl⟩ ⟨Nat.le_of_ble_eq_true rfl, Nat.le_of_ble_eq_true rfl⟩ (Nat.le_of_ble_eq_true rfl) dX12_writes_159 h63 (fun w65 X159_66 => ?_)
      refine q_chk (fun h67 => ?_)
      refine q_chk (fun h68 => ?_)
      refine p_lald C dX12_writes_162 h67 h68 ?_
      refine q_aload_n C 1 dX12_writes_163 rfl rfl ?_
      refine q_chk (fun h69 => ?_)
      refine q_chk (fun h70 => ?_)
      refine p_getR C fgX12_11 rfl dX12_writes_164 h69 h70 ?_
      refine q_aload_n C 1 dX12_writes_167 rfl rfl ?_
      refine q_iload_n C 3 dX12_writes_168 rfl rfl ?_
      refine q_iconst C (0 : Int32) dX12_writes_169 rfl ?_
      refine q_cVI (As := (fun P => [.int v2, .int (0 : Int32)])) C [.ref (q_P E + (mR X159_66 r0 1)), .long (mJ X159_66 (mR X136_39 r0 1) (w65).toNatClampNeg), .int v2, .int v1, .ref (q_P E + r0)] (sX12_at r0 v2 (0 : Int32)) fcX12_111 rfl (fun _ => rfl) ⟨Nat.le_of_ble_eq_true rfl, Nat.le_of_ble_eq_true rfl⟩ ⟨Nat.le_of_ble_eq_true rfl, Nat.le_of_ble_eq_true rfl⟩ (Nat.le_of_ble_eq_true rfl) dX12_writes_170 h69 (fun w71 X170_72 => ?_)
      refine q_chk (fun h73 => ?_)
      refine q_chk (fun h74 => ?_)
      refine p_lald C dX12_writes_173 h73 h74 ?_
      refine q_chk (fun h77 => ?_)
      refine q_cVV (As := (fun P => [.int v1, .int v2, .long (mJ X159_66 (mR X136_39 r0 1) (w65).toNatClampNeg), .long (mJ X170_72 (mR X159_66 r0 1) (w71).toNatClampNeg)])) C [] (sX12_claims r0 v1 v2 ((mJ X159_66 (mR X136_39 r0 1) (w65).toNatClampNeg)) ((mJ X170_72 (mR X159_66 r0 1) (w71).toNatClampNeg))) fcX12_186 rfl (fun _ => rfl) ⟨Nat.le_of_ble_eq_true rfl, Nat.le_of_ble_eq_true rfl⟩ ⟨Nat.le_of_ble_eq_true rfl, Nat.le_of_ble_eq_true rfl⟩ (Nat.le_of_ble_eq_true rfl) dX12_writes_174 h77 (fun _ X174_76 => ?_)
      refine q_goto C 229 dX12_writes_177 (by decide) ?_
      refine q_sub C [(0, .ref (q_P E + r0)), (1, .int v1), (2, .int v2)] [1, 2, 3] rfl ?_
      exact gX12_writes_L229 C n k59 hk59 r0 v1 v2 X174_76
  · refine q_sub C [(0, .ref (q_P E + r0)), (1, .int v1), (2, .int v2), (3, .int s0)] [1, 2, 3, 0] rfl ?_
    exact gX12_writes_L180 C n k59 hk59 r0 v1 v2 s0 X136_39
theorem gX12_writes_L59 {E : q_E} {X0 : Mm} (C : Cx E cX12_writes RX12 4 none (q_rm 3 72 0 0) X0) (n : Nat) : ∀ (j : Nat) (r0 : Nat) (v1 : Int32) (v2 : Int32) (X : Mm), Sm E (q_fin E q_eV X0 0 0) 0 0 59 [(0, .ref (q_P E + r0)), (1, .int v1), (2, .int v2)] [] X (fX12_writes_L59 n j r0 v1 v2 X) := by
  intro j
  induction j with
  | zero => intros; exact Sm.none
  | succ j ih =>
    intro r0 v1 v2 X
    rw [fX12_writes_L59]
    refine q_iload_n C 2 dX12_writes_59 rfl rfl ?_
    refine q_aload_n C 0 dX12_writes_60 rfl rfl ?_
    refine q_chk (fun h11 => ?_)
    refine q_cVI (As := (fun P => [])) C [.int v2] (sX12_tradeMany r0) fcX12_87 rfl (fun _ => rfl) ⟨Nat.le_of_ble_eq_true rfl, Nat.le_of_ble_eq_true rfl⟩ ⟨Nat.le_of_ble_eq_true rfl, Nat.le_of_ble_eq_true rfl⟩ (Nat.le_of_ble_eq_true rfl) dX12_writes_61 h11 (fun w9 X61_10 => ?_)
    refine q_icmp_ge C 235 dX12_writes_64 (by decide) (fun _ => ?_) (fun _ => ?_)
    · exact q_vret C dX12_writes_235
    · refine q_aload_n C 0 dX12_writes_67 rfl rfl ?_
      refine q_chk (fun h12 => ?_)
      refine q_chk (fun h13 => ?_)
      refine p_getR C fgX12_11 rfl dX12_writes_68 h12 h13 ?_
      refine q_aload_n C 0 dX12_writes_71 rfl rfl ?_
      refine q_iload_n C 2 dX12_writes_72 rfl rfl ?_
      refine q_iconst C (2 : Int32) dX12_writes_73 rfl ?_
      refine q_cVI (As := (fun P => [.int v2, .int (2 : Int32)])) C [.ref (q_P E + (mR X61_10 r0 1))] (sX12_at r0 v2 (2 : Int32)) fcX12_111 rfl (fun _ => rfl) ⟨Nat.le_of_ble_eq_true rfl, Nat.le_of_ble_eq_true rfl⟩ ⟨Nat.le_of_ble_eq_true rfl, Nat.le_of_ble_eq_true rfl⟩ (Nat.le_of_ble_eq_true rfl) dX12_writes_74 h12 (fun w14 X74_15 => ?_)
      refine q_chk (fun h16 => ?_)
      refine q_chk (fun h17 => ?_)
      refine p_lald C dX12_writes_77 h16 h17 ?_
      refine q_aload_n C 0 dX12_writes_78 rfl rfl ?_
      refine q_chk (fun h18 => ?_)
      refine q_chk (fun h19 => ?_)
      refine p_getR C fgX12_11 rfl dX12_writes_79 h18 h19 ?_
      refine q_aload_n C 0 dX12_writes_82 rfl rfl ?_
      refine q_iload_n C 1 dX12_writes_83 rfl rfl ?_
      refine q_iconst C (1 : Int32) dX12_writes_84 rfl ?_
      refine q_cVI (As := (fun P => [.int v1, .int (1 : Int32)])) C [.ref (q_P E + (mR X74_15 r0 1)), .long (mJ X74_15 (mR X61_10 r0 1) (w14).toNatClampNeg)] (sX12_of r0 v1 (1 : Int32)) fcX12_66 rfl (fun _ => rfl) ⟨Nat.le_of_ble_eq_true rfl, Nat.le_of_ble_eq_true rfl⟩ ⟨Nat.le_of_ble_eq_true rfl, Nat.le_of_ble_eq_true rfl⟩ (Nat.le_of_ble_eq_true rfl) dX12_writes_85 h18 (fun w20 X85_21 => ?_)
      refine q_chk (fun h22 => ?_)
      refine q_chk (fun h23 => ?_)
      refine p_lald C dX12_writes_88 h22 h23 ?_
      refine q_lcmp C dX12_writes_89 ?_
      refine q_if_eq C 96 dX12_writes_90 (by decide) (fun _ => ?_) (fun _ => ?_)
      · refine q_aload_n C 0 dX12_writes_96 rfl rfl ?_
        refine q_chk (fun h24 => ?_)
        refine q_chk (fun h25 => ?_)
        refine p_getR C fgX12_11 rfl dX12_writes_97 h24 h25 ?_
        refine q_aload_n C 0 dX12_writes_100 rfl rfl ?_
        refine q_iload_n C 2 dX12_writes_101 rfl rfl ?_
        refine q_iconst C (5 : Int32) dX12_writes_102 rfl ?_
        refine q_cVI (As := (fun P => [.int v2, .int (5 : Int32)])) C [.ref (q_P E + (mR X85_21 r0 1))] (sX12_at r0 v2 (5 : Int32)) fcX12_111 rfl (fun _ => rfl) ⟨Nat.le_of_ble_eq_true rfl, Nat.le_of_ble_eq_true rfl⟩ ⟨Nat.le_of_ble_eq_true rfl, Nat.le_of_ble_eq_true rfl⟩ (Nat.le_of_ble_eq_true rfl) dX12_writes_103 h24 (fun w26 X103_27 => ?_)
        refine q_chk (fun h28 => ?_)
        refine q_chk (fun h29 => ?_)
        refine p_lald C dX12_writes_106 h28 h29 ?_
        refine q_aload_n C 0 dX12_writes_107 rfl rfl ?_
        refine q_chk (fun h30 => ?_)
        refine q_chk (fun h31 => ?_)
        refine p_getR C fgX12_11 rfl dX12_writes_108 h30 h31 ?_
        refine q_aload_n C 0 dX12_writes_111 rfl rfl ?_
        refine q_iload_n C 1 dX12_writes_112 rfl rfl ?_
        refine q_iconst C (2 : Int32) dX12_writes_113 rfl ?_
        refine q_cVI (As := (fun P => [.int v1, .int (2 : Int32)])) C [.ref (q_P E + (mR X103_27 r0 1)), .long (mJ X103_27 (mR X85_21 r0 1) (w26).toNatClampNeg)] (sX12_of r0 v1 (2 : Int32)) fcX12_66 rfl (fun _ => rfl) ⟨Nat.le_of_ble_eq_true rfl, Nat.le_of_ble_eq_true rfl⟩ ⟨Nat.le_of_ble_eq_true rfl, Nat.le_of_ble_eq_true rfl⟩ (Nat.le_of_ble_eq_true rfl) dX12_writes_114 h30 (fun w32 X114_33 => ?_)
        refine q_chk (fun h34 => ?_)
        refine q_chk (fun h35 => ?_)
        refine p_lald C dX12_writes_117 h34 h35 ?_
        refine q_lcmp C dX12_writes_118 ?_
        refine q_if_ge C 126 dX12_writes_119 (by decide) (fun _ => ?_) (fun _ => ?_)
        · refine q_iconst C (0 : Int32) dX12_writes_126 rfl ?_
          exact gX12_writes_L127 C n (fX12_writes_L59 n j) ih r0 v1 v2 (0 : Int32) X114_33
        · refine q_iconst C (1 : Int32) dX12_writes_122 rfl ?_
          refine q_goto C 127 dX12_writes_123 (by decide) ?_
          exact gX12_writes_L127 C n (fX12_writes_L59 n j) ih r0 v1 v2 (1 : Int32) X114_33
      · refine q_goto C 229 dX12_writes_93 (by decide) ?_
        exact gX12_writes_L229 C n (fX12_writes_L59 n j) ih r0 v1 v2 X85_21
theorem gX12_writes_L14 {E : q_E} {X0 : Mm} (C : Cx E cX12_writes RX12 4 none (q_rm 3 72 0 0) X0) (n : Nat) : ∀ (j : Nat) (r0 : Nat) (v1 : Int32) (v2 : Int32) (X : Mm), Sm E (q_fin E q_eV X0 0 0) 0 0 14 [(0, .ref (q_P E + r0)), (1, .int v1), (2, .int v2)] [] X (fX12_writes_L14 n j r0 v1 v2 X) := by
  intro j
  induction j with
  | zero => intros; exact Sm.none
  | succ j ih =>
    intro r0 v1 v2 X
    rw [fX12_writes_L14]
    refine q_iload_n C 2 dX12_writes_14 rfl rfl ?_
    refine q_aload_n C 0 dX12_writes_15 rfl rfl ?_
    refine q_chk (fun h8 => ?_)
    refine p_getI C fgX12_77 rfl dX12_writes_16 h8 ?_
    refine q_icmp_ge C 57 dX12_writes_19 (by decide) (fun _ => ?_) (fun _ => ?_)
    · refine q_iconst C (0 : Int32) dX12_writes_57 rfl ?_
      refine q_istore_n C [(2, .int (0 : Int32)), (0, .ref (q_P E + r0)), (1, .int v1)] dX12_writes_58 rfl (Nat.le_of_ble_eq_true rfl) rfl ?_
      refine q_sub C [(0, .ref (q_P E + r0)), (1, .int v1), (2, .int (0 : Int32))] [1, 2, 0] rfl ?_
      exact gX12_writes_L59 C n n r0 v1 (0 : Int32) X
    · refine q_aload_n C 0 dX12_writes_22 rfl rfl ?_
      refine q_chk (fun h78 => ?_)
      refine p_getR C fgX12_11 rfl dX12_writes_23 h8 h78 ?_
      refine q_aload_n C 0 dX12_writes_26 rfl rfl ?_
      refine q_iload_n C 1 dX12_writes_27 rfl rfl ?_
      refine q_iload_n C 2 dX12_writes_28 rfl rfl ?_
      refine q_iconst C (0 : Int32) dX12_writes_29 rfl ?_
      refine q_cVI (As := (fun P => [.int v1, .int v2, .int (0 : Int32)])) C [.ref (q_P E + (mR X r0 1))] (sX12_ofHolder r0 v1 v2 (0 : Int32)) fcX12_140 rfl (fun _ => rfl) ⟨Nat.le_of_ble_eq_true rfl, Nat.le_of_ble_eq_true rfl⟩ ⟨Nat.le_of_ble_eq_true rfl, Nat.le_of_ble_eq_true rfl⟩ (Nat.le_of_ble_eq_true rfl) dX12_writes_30 h8 (fun w79 X30_80 => ?_)
      refine q_aload_n C 0 dX12_writes_33 rfl rfl ?_
      refine q_iload_n C 2 dX12_writes_34 rfl rfl ?_
      refine q_i2l C dX12_writes_35 ?_
      refine q_aload_n C 0 dX12_writes_36 rfl rfl ?_
      refine q_chk (fun h81 => ?_)
      refine q_chk (fun h82 => ?_)
      refine p_getR C fgX12_11 rfl dX12_writes_37 h81 h82 ?_
      refine q_aload_n C 0 dX12_writes_40 rfl rfl ?_
      refine q_iload_n C 1 dX12_writes_41 rfl rfl ?_
      refine q_iconst C (1 : Int32) dX12_writes_42 rfl ?_
      refine q_cVI (As := (fun P => [.int v1, .int (1 : Int32)])) C [.ref (q_P E + (mR X30_80 r0 1)), .long ((v2).toInt64), .ref (q_P E + r0), .int w79, .ref (q_P E + (mR X r0 1))] (sX12_of r0 v1 (1 : Int32)) fcX12_66 rfl (fun _ => rfl) ⟨Nat.le_of_ble_eq_true rfl, Nat.le_of_ble_eq_true rfl⟩ ⟨Nat.le_of_ble_eq_true rfl, Nat.le_of_ble_eq_true rfl⟩ (Nat.le_of_ble_eq_true rfl) dX12_writes_43 h81 (fun w83 X43_84 => ?_)
      refine q_chk (fun h85 => ?_)
      refine q_chk (fun h86 => ?_)
      refine p_lald C dX12_writes_46 h85 h86 ?_
      refine q_chk (fun h89 => ?_)
      refine q_cVL (As := (fun P => [.long ((v2).toInt64), .long (mJ X43_84 (mR X30_80 r0 1) (w83).toNatClampNeg)])) C [.int w79, .ref (q_P E + (mR X r0 1))] (sX12_sharesOf r0 (((v2).toInt64)) ((mJ X43_84 (mR X30_80 r0 1) (w83).toNatClampNeg))) fcX12_171 rfl (fun _ => rfl) ⟨Nat.le_of_ble_eq_true rfl, Nat.le_of_ble_eq_true rfl⟩ ⟨Nat.le_of_ble_eq_true rfl, Nat.le_of_ble_eq_true rfl⟩ (Nat.le_of_ble_eq_true rfl) dX12_writes_47 h89 (fun w87 X47_88 => ?_)
      refine q_chk (fun h91 => ?_)
      refine q_chk (fun h92 => ?_)
      refine p_last C dX12_writes_50 h91 h92 ?_
      refine q_nmX (fun X50_90 => ?_)
      refine q_iincN C (1 : Int32) 2 (fun v2_51 => [(2, .int v2_51), (0, .ref (q_P E + r0)), (1, .int v1)]) dX12_writes_51 rfl rfl (Nat.le_of_ble_eq_true rfl) (fun _ => rfl) (fun v2_51 => ?_)
      refine q_goto C 14 dX12_writes_54 (by decide) ?_
      refine q_sub C [(0, .ref (q_P E + r0)), (1, .int v1), (2, .int v2_51)] [1, 2, 0] rfl ?_
      exact ih r0 v1 v2_51 X50_90
theorem sX12_writes (n : Nat) (r0 : Nat) (v1 : Int32) : q_Ct yX12_writes cX12_writes 4 none 3 72 0 0 q_eV (fun P => [.ref (P + r0), .int v1]) (fX12_writes n r0 v1) := by
  refine q_meth (by decide +kernel) (fun P => Nat.le_of_ble_eq_true rfl) (fun E X C hn => ?_)
  show Sm E (q_fin E q_eV X 0 0) 0 0 0 [(0, .ref (q_P E + r0)), (1, .int v1)] [] X _
  unfold fX12_writes
  refine q_aload_n C 0 dX12_writes_0 rfl rfl ?_
  refine q_chk (fun h1 => ?_)
  refine q_chk (fun h2 => ?_)
  refine p_getR C fgX12_11 rfl dX12_writes_1 h1 h2 ?_
  refine q_aload_n C 0 dX12_writes_4 rfl rfl ?_
  refine q_iload_n C 1 dX12_writes_5 rfl rfl ?_
  refine q_iconst C (5 : Int32) dX12_writes_6 rfl ?_
  refine q_cVI (As := (fun P => [.int v1, .int (5 : Int32)])) C [.ref (q_P E + (mR X r0 1))] (sX12_of r0 v1 (5 : Int32)) fcX12_66 rfl (fun _ => rfl) ⟨Nat.le_of_ble_eq_true rfl, Nat.le_of_ble_eq_true rfl⟩ ⟨Nat.le_of_ble_eq_true rfl, Nat.le_of_ble_eq_true rfl⟩ (Nat.le_of_ble_eq_true rfl) dX12_writes_7 h1 (fun w3 X7_4 => ?_)
  refine q_lconst C (1 : Int64) dX12_writes_10 rfl ?_
  refine q_chk (fun h6 => ?_)
  refine q_chk (fun h7 => ?_)
  refine p_last C dX12_writes_11 h6 h7 ?_
  refine q_nmX (fun X11_5 => ?_)
  refine q_iconst C (0 : Int32) dX12_writes_12 rfl ?_
  refine q_istore_n C [(2, .int (0 : Int32)), (0, .ref (q_P E + r0)), (1, .int v1)] dX12_writes_13 rfl (Nat.le_of_ble_eq_true rfl) rfl ?_
  refine q_sub C [(0, .ref (q_P E + r0)), (1, .int v1), (2, .int (0 : Int32))] [1, 2, 0] rfl ?_
  exact gX12_writes_L14 C n n r0 v1 (0 : Int32) X11_5
/-! RecordClaimsModel.paysRights(II)V -/
abbrev cX12_paysRights : ByteArray := prog_14_method_43_code
def yX12_paysRights : MethodName := ⟨RX12, "paysRights", "(II)V"⟩
theorem dX12_paysRights_0 : decode cX12_paysRights 0 = .ok (.aload_n 0, 1) := by decide +kernel
theorem dX12_paysRights_1 : decode cX12_paysRights 1 = .ok (.iload_n 1, 1) := by decide +kernel
theorem dX12_paysRights_2 : decode cX12_paysRights 2 = .ok (.aload_n 0, 1) := by decide +kernel
theorem dX12_paysRights_3 : decode cX12_paysRights 3 = .ok (.getfield 11, 3) := by decide +kernel
theorem dX12_paysRights_6 : decode cX12_paysRights 6 = .ok (.aload_n 0, 1) := by decide +kernel
theorem dX12_paysRights_7 : decode cX12_paysRights 7 = .ok (.iload_n 1, 1) := by decide +kernel
theorem dX12_paysRights_8 : decode cX12_paysRights 8 = .ok (.iload_n 2, 1) := by decide +kernel
theorem dX12_paysRights_9 : decode cX12_paysRights 9 = .ok (.iconst 0, 1) := by decide +kernel
theorem dX12_paysRights_10 : decode cX12_paysRights 10 = .ok (.invokevirtual 140, 3) := by decide +kernel
theorem dX12_paysRights_13 : decode cX12_paysRights 13 = .ok (.laload, 1) := by decide +kernel
theorem dX12_paysRights_14 : decode cX12_paysRights 14 = .ok (.invokevirtual 194, 3) := by decide +kernel
theorem dX12_paysRights_17 : decode cX12_paysRights 17 = .ok (.lstore_n 3, 1) := by decide +kernel
theorem dX12_paysRights_18 : decode cX12_paysRights 18 = .ok (.iconst 0, 1) := by decide +kernel
theorem dX12_paysRights_19 : decode cX12_paysRights 19 = .ok (.istore 5, 2) := by decide +kernel
theorem dX12_paysRights_21 : decode cX12_paysRights 21 = .ok (.iload 5, 2) := by decide +kernel
theorem dX12_paysRights_23 : decode cX12_paysRights 23 = .ok (.i2l, 1) := by decide +kernel
theorem dX12_paysRights_24 : decode cX12_paysRights 24 = .ok (.aload_n 0, 1) := by decide +kernel
theorem dX12_paysRights_25 : decode cX12_paysRights 25 = .ok (.getfield 11, 3) := by decide +kernel
theorem dX12_paysRights_28 : decode cX12_paysRights 28 = .ok (.aload_n 0, 1) := by decide +kernel
theorem dX12_paysRights_29 : decode cX12_paysRights 29 = .ok (.iload_n 1, 1) := by decide +kernel
theorem dX12_paysRights_30 : decode cX12_paysRights 30 = .ok (.bipush 6, 2) := by decide +kernel
theorem dX12_paysRights_32 : decode cX12_paysRights 32 = .ok (.invokevirtual 66, 3) := by decide +kernel
theorem dX12_paysRights_35 : decode cX12_paysRights 35 = .ok (.laload, 1) := by decide +kernel
theorem dX12_paysRights_36 : decode cX12_paysRights 36 = .ok (.lcmp, 1) := by decide +kernel
theorem dX12_paysRights_37 : decode cX12_paysRights 37 = .ok (.ifCond .ge 77, 3) := by decide +kernel
theorem dX12_paysRights_40 : decode cX12_paysRights 40 = .ok (.aload_n 0, 1) := by decide +kernel
theorem dX12_paysRights_41 : decode cX12_paysRights 41 = .ok (.iload_n 1, 1) := by decide +kernel
theorem dX12_paysRights_42 : decode cX12_paysRights 42 = .ok (.aload_n 0, 1) := by decide +kernel
theorem dX12_paysRights_43 : decode cX12_paysRights 43 = .ok (.getfield 11, 3) := by decide +kernel
theorem dX12_paysRights_46 : decode cX12_paysRights 46 = .ok (.aload_n 0, 1) := by decide +kernel
theorem dX12_paysRights_47 : decode cX12_paysRights 47 = .ok (.iload_n 1, 1) := by decide +kernel
theorem dX12_paysRights_48 : decode cX12_paysRights 48 = .ok (.iload 5, 2) := by decide +kernel
theorem dX12_paysRights_50 : decode cX12_paysRights 50 = .ok (.iconst 2, 1) := by decide +kernel
theorem dX12_paysRights_51 : decode cX12_paysRights 51 = .ok (.invokevirtual 164, 3) := by decide +kernel
theorem dX12_paysRights_54 : decode cX12_paysRights 54 = .ok (.laload, 1) := by decide +kernel
theorem dX12_paysRights_55 : decode cX12_paysRights 55 = .ok (.invokevirtual 194, 3) := by decide +kernel
theorem dX12_paysRights_58 : decode cX12_paysRights 58 = .ok (.lstore 6, 2) := by decide +kernel
theorem dX12_paysRights_60 : decode cX12_paysRights 60 = .ok (.aload_n 0, 1) := by decide +kernel
theorem dX12_paysRights_61 : decode cX12_paysRights 61 = .ok (.getfield 11, 3) := by decide +kernel
theorem dX12_paysRights_64 : decode cX12_paysRights 64 = .ok (.aload_n 0, 1) := by decide +kernel
theorem dX12_paysRights_65 : decode cX12_paysRights 65 = .ok (.iload_n 1, 1) := by decide +kernel
theorem dX12_paysRights_66 : decode cX12_paysRights 66 = .ok (.iload 5, 2) := by decide +kernel
theorem dX12_paysRights_68 : decode cX12_paysRights 68 = .ok (.iconst 1, 1) := by decide +kernel
theorem dX12_paysRights_69 : decode cX12_paysRights 69 = .ok (.invokevirtual 164, 3) := by decide +kernel
theorem dX12_paysRights_72 : decode cX12_paysRights 72 = .ok (.laload, 1) := by decide +kernel
theorem dX12_paysRights_73 : decode cX12_paysRights 73 = .ok (.iload_n 2, 1) := by decide +kernel
theorem dX12_paysRights_74 : decode cX12_paysRights 74 = .ok (.i2l, 1) := by decide +kernel
theorem dX12_paysRights_75 : decode cX12_paysRights 75 = .ok (.lcmp, 1) := by decide +kernel
theorem dX12_paysRights_76 : decode cX12_paysRights 76 = .ok (.ifCond .ne 8, 3) := by decide +kernel
theorem dX12_paysRights_79 : decode cX12_paysRights 79 = .ok (.lload_n 3, 1) := by decide +kernel
theorem dX12_paysRights_80 : decode cX12_paysRights 80 = .ok (.lload 6, 2) := by decide +kernel
theorem dX12_paysRights_82 : decode cX12_paysRights 82 = .ok (.ladd, 1) := by decide +kernel
theorem dX12_paysRights_83 : decode cX12_paysRights 83 = .ok (.lstore_n 3, 1) := by decide +kernel
theorem dX12_paysRights_84 : decode cX12_paysRights 84 = .ok (.aload_n 0, 1) := by decide +kernel
theorem dX12_paysRights_85 : decode cX12_paysRights 85 = .ok (.getfield 11, 3) := by decide +kernel
theorem dX12_paysRights_88 : decode cX12_paysRights 88 = .ok (.aload_n 0, 1) := by decide +kernel
theorem dX12_paysRights_89 : decode cX12_paysRights 89 = .ok (.iload_n 1, 1) := by decide +kernel
theorem dX12_paysRights_90 : decode cX12_paysRights 90 = .ok (.iload 5, 2) := by decide +kernel
theorem dX12_paysRights_92 : decode cX12_paysRights 92 = .ok (.iconst 0, 1) := by decide +kernel
theorem dX12_paysRights_93 : decode cX12_paysRights 93 = .ok (.invokevirtual 164, 3) := by decide +kernel
theorem dX12_paysRights_96 : decode cX12_paysRights 96 = .ok (.laload, 1) := by decide +kernel
theorem dX12_paysRights_97 : decode cX12_paysRights 97 = .ok (.iload_n 2, 1) := by decide +kernel
theorem dX12_paysRights_98 : decode cX12_paysRights 98 = .ok (.i2l, 1) := by decide +kernel
theorem dX12_paysRights_99 : decode cX12_paysRights 99 = .ok (.lcmp, 1) := by decide +kernel
theorem dX12_paysRights_100 : decode cX12_paysRights 100 = .ok (.ifCond .ne 8, 3) := by decide +kernel
theorem dX12_paysRights_103 : decode cX12_paysRights 103 = .ok (.lload_n 3, 1) := by decide +kernel
theorem dX12_paysRights_104 : decode cX12_paysRights 104 = .ok (.lload 6, 2) := by decide +kernel
theorem dX12_paysRights_106 : decode cX12_paysRights 106 = .ok (.lsub, 1) := by decide +kernel
theorem dX12_paysRights_107 : decode cX12_paysRights 107 = .ok (.lstore_n 3, 1) := by decide +kernel
theorem dX12_paysRights_108 : decode cX12_paysRights 108 = .ok (.iinc 5 1, 3) := by decide +kernel
theorem dX12_paysRights_111 : decode cX12_paysRights 111 = .ok (.goto (-90), 3) := by decide +kernel
theorem dX12_paysRights_114 : decode cX12_paysRights 114 = .ok (.lload_n 3, 1) := by decide +kernel
theorem dX12_paysRights_115 : decode cX12_paysRights 115 = .ok (.lconst 0, 1) := by decide +kernel
theorem dX12_paysRights_116 : decode cX12_paysRights 116 = .ok (.lcmp, 1) := by decide +kernel
theorem dX12_paysRights_117 : decode cX12_paysRights 117 = .ok (.ifCond .le 7, 3) := by decide +kernel
theorem dX12_paysRights_120 : decode cX12_paysRights 120 = .ok (.lload_n 3, 1) := by decide +kernel
theorem dX12_paysRights_121 : decode cX12_paysRights 121 = .ok (.goto 4, 3) := by decide +kernel
theorem dX12_paysRights_124 : decode cX12_paysRights 124 = .ok (.lconst 0, 1) := by decide +kernel
theorem dX12_paysRights_125 : decode cX12_paysRights 125 = .ok (.lstore 5, 2) := by decide +kernel
theorem dX12_paysRights_127 : decode cX12_paysRights 127 = .ok (.aload_n 0, 1) := by decide +kernel
theorem dX12_paysRights_128 : decode cX12_paysRights 128 = .ok (.getfield 11, 3) := by decide +kernel
theorem dX12_paysRights_131 : decode cX12_paysRights 131 = .ok (.aload_n 0, 1) := by decide +kernel
theorem dX12_paysRights_132 : decode cX12_paysRights 132 = .ok (.iload_n 1, 1) := by decide +kernel
theorem dX12_paysRights_133 : decode cX12_paysRights 133 = .ok (.iload_n 2, 1) := by decide +kernel
theorem dX12_paysRights_134 : decode cX12_paysRights 134 = .ok (.iconst 1, 1) := by decide +kernel
theorem dX12_paysRights_135 : decode cX12_paysRights 135 = .ok (.invokevirtual 140, 3) := by decide +kernel
theorem dX12_paysRights_138 : decode cX12_paysRights 138 = .ok (.laload, 1) := by decide +kernel
theorem dX12_paysRights_139 : decode cX12_paysRights 139 = .ok (.lload 5, 2) := by decide +kernel
theorem dX12_paysRights_141 : decode cX12_paysRights 141 = .ok (.lcmp, 1) := by decide +kernel
theorem dX12_paysRights_142 : decode cX12_paysRights 142 = .ok (.ifCond .ge 18, 3) := by decide +kernel
theorem dX12_paysRights_145 : decode cX12_paysRights 145 = .ok (.aload_n 0, 1) := by decide +kernel
theorem dX12_paysRights_146 : decode cX12_paysRights 146 = .ok (.getfield 11, 3) := by decide +kernel
theorem dX12_paysRights_149 : decode cX12_paysRights 149 = .ok (.aload_n 0, 1) := by decide +kernel
theorem dX12_paysRights_150 : decode cX12_paysRights 150 = .ok (.iload_n 1, 1) := by decide +kernel
theorem dX12_paysRights_151 : decode cX12_paysRights 151 = .ok (.iload_n 2, 1) := by decide +kernel
theorem dX12_paysRights_152 : decode cX12_paysRights 152 = .ok (.iconst 1, 1) := by decide +kernel
theorem dX12_paysRights_153 : decode cX12_paysRights 153 = .ok (.invokevirtual 140, 3) := by decide +kernel
theorem dX12_paysRights_156 : decode cX12_paysRights 156 = .ok (.laload, 1) := by decide +kernel
theorem dX12_paysRights_157 : decode cX12_paysRights 157 = .ok (.goto 5, 3) := by decide +kernel
theorem dX12_paysRights_160 : decode cX12_paysRights 160 = .ok (.lload 5, 2) := by decide +kernel
theorem dX12_paysRights_162 : decode cX12_paysRights 162 = .ok (.lstore 7, 2) := by decide +kernel
theorem dX12_paysRights_164 : decode cX12_paysRights 164 = .ok (.aload_n 0, 1) := by decide +kernel
theorem dX12_paysRights_165 : decode cX12_paysRights 165 = .ok (.getfield 11, 3) := by decide +kernel
theorem dX12_paysRights_168 : decode cX12_paysRights 168 = .ok (.aload_n 0, 1) := by decide +kernel
theorem dX12_paysRights_169 : decode cX12_paysRights 169 = .ok (.iload_n 1, 1) := by decide +kernel
theorem dX12_paysRights_170 : decode cX12_paysRights 170 = .ok (.iload_n 2, 1) := by decide +kernel
theorem dX12_paysRights_171 : decode cX12_paysRights 171 = .ok (.iconst 2, 1) := by decide +kernel
theorem dX12_paysRights_172 : decode cX12_paysRights 172 = .ok (.invokevirtual 140, 3) := by decide +kernel
theorem dX12_paysRights_175 : decode cX12_paysRights 175 = .ok (.laload, 1) := by decide +kernel
theorem dX12_paysRights_176 : decode cX12_paysRights 176 = .ok (.lload 5, 2) := by decide +kernel
theorem dX12_paysRights_178 : decode cX12_paysRights 178 = .ok (.lload 7, 2) := by decide +kernel
theorem dX12_paysRights_180 : decode cX12_paysRights 180 = .ok (.lsub, 1) := by decide +kernel
theorem dX12_paysRights_181 : decode cX12_paysRights 181 = .ok (.lcmp, 1) := by decide +kernel
theorem dX12_paysRights_182 : decode cX12_paysRights 182 = .ok (.ifCond .ge 18, 3) := by decide +kernel
theorem dX12_paysRights_185 : decode cX12_paysRights 185 = .ok (.aload_n 0, 1) := by decide +kernel
theorem dX12_paysRights_186 : decode cX12_paysRights 186 = .ok (.getfield 11, 3) := by decide +kernel
theorem dX12_paysRights_189 : decode cX12_paysRights 189 = .ok (.aload_n 0, 1) := by decide +kernel
theorem dX12_paysRights_190 : decode cX12_paysRights 190 = .ok (.iload_n 1, 1) := by decide +kernel
theorem dX12_paysRights_191 : decode cX12_paysRights 191 = .ok (.iload_n 2, 1) := by decide +kernel
theorem dX12_paysRights_192 : decode cX12_paysRights 192 = .ok (.iconst 2, 1) := by decide +kernel
theorem dX12_paysRights_193 : decode cX12_paysRights 193 = .ok (.invokevirtual 140, 3) := by decide +kernel
theorem dX12_paysRights_196 : decode cX12_paysRights 196 = .ok (.laload, 1) := by decide +kernel
theorem dX12_paysRights_197 : decode cX12_paysRights 197 = .ok (.goto 8, 3) := by decide +kernel
theorem dX12_paysRights_200 : decode cX12_paysRights 200 = .ok (.lload 5, 2) := by decide +kernel
theorem dX12_paysRights_202 : decode cX12_paysRights 202 = .ok (.lload 7, 2) := by decide +kernel
theorem dX12_paysRights_204 : decode cX12_paysRights 204 = .ok (.lsub, 1) := by decide +kernel
theorem dX12_paysRights_205 : decode cX12_paysRights 205 = .ok (.lstore 9, 2) := by decide +kernel
theorem dX12_paysRights_207 : decode cX12_paysRights 207 = .ok (.lload 9, 2) := by decide +kernel
theorem dX12_paysRights_209 : decode cX12_paysRights 209 = .ok (.aload_n 0, 1) := by decide +kernel
theorem dX12_paysRights_210 : decode cX12_paysRights 210 = .ok (.getfield 11, 3) := by decide +kernel
theorem dX12_paysRights_213 : decode cX12_paysRights 213 = .ok (.aload_n 0, 1) := by decide +kernel
theorem dX12_paysRights_214 : decode cX12_paysRights 214 = .ok (.iload_n 1, 1) := by decide +kernel
theorem dX12_paysRights_215 : decode cX12_paysRights 215 = .ok (.bipush 11, 2) := by decide +kernel
theorem dX12_paysRights_217 : decode cX12_paysRights 217 = .ok (.invokevirtual 66, 3) := by decide +kernel
theorem dX12_paysRights_220 : decode cX12_paysRights 220 = .ok (.laload, 1) := by decide +kernel
theorem dX12_paysRights_221 : decode cX12_paysRights 221 = .ok (.lmul, 1) := by decide +kernel
theorem dX12_paysRights_222 : decode cX12_paysRights 222 = .ok (.lload 7, 2) := by decide +kernel
theorem dX12_paysRights_224 : decode cX12_paysRights 224 = .ok (.aload_n 0, 1) := by decide +kernel
theorem dX12_paysRights_225 : decode cX12_paysRights 225 = .ok (.getfield 11, 3) := by decide +kernel
theorem dX12_paysRights_228 : decode cX12_paysRights 228 = .ok (.aload_n 0, 1) := by decide +kernel
theorem dX12_paysRights_229 : decode cX12_paysRights 229 = .ok (.iload_n 1, 1) := by decide +kernel
theorem dX12_paysRights_230 : decode cX12_paysRights 230 = .ok (.bipush 10, 2) := by decide +kernel
theorem dX12_paysRights_232 : decode cX12_paysRights 232 = .ok (.invokevirtual 66, 3) := by decide +kernel
theorem dX12_paysRights_235 : decode cX12_paysRights 235 = .ok (.laload, 1) := by decide +kernel
theorem dX12_paysRights_236 : decode cX12_paysRights 236 = .ok (.lmul, 1) := by decide +kernel
theorem dX12_paysRights_237 : decode cX12_paysRights 237 = .ok (.lsub, 1) := by decide +kernel
theorem dX12_paysRights_238 : decode cX12_paysRights 238 = .ok (.lload_n 3, 1) := by decide +kernel
theorem dX12_paysRights_239 : decode cX12_paysRights 239 = .ok (.lconst 0, 1) := by decide +kernel
theorem dX12_paysRights_240 : decode cX12_paysRights 240 = .ok (.lcmp, 1) := by decide +kernel
theorem dX12_paysRights_241 : decode cX12_paysRights 241 = .ok (.ifCond .ge 20, 3) := by decide +kernel
theorem dX12_paysRights_244 : decode cX12_paysRights 244 = .ok (.lload_n 3, 1) := by decide +kernel
theorem dX12_paysRights_245 : decode cX12_paysRights 245 = .ok (.aload_n 0, 1) := by decide +kernel
theorem dX12_paysRights_246 : decode cX12_paysRights 246 = .ok (.getfield 11, 3) := by decide +kernel
theorem dX12_paysRights_249 : decode cX12_paysRights 249 = .ok (.aload_n 0, 1) := by decide +kernel
theorem dX12_paysRights_250 : decode cX12_paysRights 250 = .ok (.iload_n 1, 1) := by decide +kernel
theorem dX12_paysRights_251 : decode cX12_paysRights 251 = .ok (.bipush 11, 2) := by decide +kernel
theorem dX12_paysRights_253 : decode cX12_paysRights 253 = .ok (.invokevirtual 66, 3) := by decide +kernel
theorem dX12_paysRights_256 : decode cX12_paysRights 256 = .ok (.laload, 1) := by decide +kernel
theorem dX12_paysRights_257 : decode cX12_paysRights 257 = .ok (.lmul, 1) := by decide +kernel
theorem dX12_paysRights_258 : decode cX12_paysRights 258 = .ok (.goto 4, 3) := by decide +kernel
theorem dX12_paysRights_261 : decode cX12_paysRights 261 = .ok (.lconst 0, 1) := by decide +kernel
theorem dX12_paysRights_262 : decode cX12_paysRights 262 = .ok (.ladd, 1) := by decide +kernel
theorem dX12_paysRights_263 : decode cX12_paysRights 263 = .ok (.lstore 11, 2) := by decide +kernel
theorem dX12_paysRights_265 : decode cX12_paysRights 265 = .ok (.aload_n 0, 1) := by decide +kernel
theorem dX12_paysRights_266 : decode cX12_paysRights 266 = .ok (.getfield 11, 3) := by decide +kernel
theorem dX12_paysRights_269 : decode cX12_paysRights 269 = .ok (.aload_n 0, 1) := by decide +kernel
theorem dX12_paysRights_270 : decode cX12_paysRights 270 = .ok (.iload_n 1, 1) := by decide +kernel
theorem dX12_paysRights_271 : decode cX12_paysRights 271 = .ok (.iload_n 2, 1) := by decide +kernel
theorem dX12_paysRights_272 : decode cX12_paysRights 272 = .ok (.iconst 3, 1) := by decide +kernel
theorem dX12_paysRights_273 : decode cX12_paysRights 273 = .ok (.invokevirtual 140, 3) := by decide +kernel
theorem dX12_paysRights_276 : decode cX12_paysRights 276 = .ok (.lload 7, 2) := by decide +kernel
theorem dX12_paysRights_278 : decode cX12_paysRights 278 = .ok (.lastore, 1) := by decide +kernel
theorem dX12_paysRights_279 : decode cX12_paysRights 279 = .ok (.aload_n 0, 1) := by decide +kernel
theorem dX12_paysRights_280 : decode cX12_paysRights 280 = .ok (.getfield 11, 3) := by decide +kernel
theorem dX12_paysRights_283 : decode cX12_paysRights 283 = .ok (.aload_n 0, 1) := by decide +kernel
theorem dX12_paysRights_284 : decode cX12_paysRights 284 = .ok (.iload_n 1, 1) := by decide +kernel
theorem dX12_paysRights_285 : decode cX12_paysRights 285 = .ok (.iload_n 2, 1) := by decide +kernel
theorem dX12_paysRights_286 : decode cX12_paysRights 286 = .ok (.iconst 4, 1) := by decide +kernel
theorem dX12_paysRights_287 : decode cX12_paysRights 287 = .ok (.invokevirtual 140, 3) := by decide +kernel
theorem dX12_paysRights_290 : decode cX12_paysRights 290 = .ok (.lload 9, 2) := by decide +kernel
theorem dX12_paysRights_292 : decode cX12_paysRights 292 = .ok (.lastore, 1) := by decide +kernel
theorem dX12_paysRights_293 : decode cX12_paysRights 293 = .ok (.aload_n 0, 1) := by decide +kernel
theorem dX12_paysRights_294 : decode cX12_paysRights 294 = .ok (.getfield 11, 3) := by decide +kernel
theorem dX12_paysRights_297 : decode cX12_paysRights 297 = .ok (.aload_n 0, 1) := by decide +kernel
theorem dX12_paysRights_298 : decode cX12_paysRights 298 = .ok (.iload_n 1, 1) := by decide +kernel
theorem dX12_paysRights_299 : decode cX12_paysRights 299 = .ok (.iload_n 2, 1) := by decide +kernel
theorem dX12_paysRights_300 : decode cX12_paysRights 300 = .ok (.iconst 5, 1) := by decide +kernel
theorem dX12_paysRights_301 : decode cX12_paysRights 301 = .ok (.invokevirtual 140, 3) := by decide +kernel
theorem dX12_paysRights_304 : decode cX12_paysRights 304 = .ok (.lload_n 3, 1) := by decide +kernel
theorem dX12_paysRights_305 : decode cX12_paysRights 305 = .ok (.lload 7, 2) := by decide +kernel
theorem dX12_paysRights_307 : decode cX12_paysRights 307 = .ok (.lsub, 1) := by decide +kernel
theorem dX12_paysRights_308 : decode cX12_paysRights 308 = .ok (.lload 9, 2) := by decide +kernel
theorem dX12_paysRights_310 : decode cX12_paysRights 310 = .ok (.lsub, 1) := by decide +kernel
theorem dX12_paysRights_311 : decode cX12_paysRights 311 = .ok (.lastore, 1) := by decide +kernel
theorem dX12_paysRights_312 : decode cX12_paysRights 312 = .ok (.aload_n 0, 1) := by decide +kernel
theorem dX12_paysRights_313 : decode cX12_paysRights 313 = .ok (.iload_n 2, 1) := by decide +kernel
theorem dX12_paysRights_314 : decode cX12_paysRights 314 = .ok (.i2l, 1) := by decide +kernel
theorem dX12_paysRights_315 : decode cX12_paysRights 315 = .ok (.aload_n 0, 1) := by decide +kernel
theorem dX12_paysRights_316 : decode cX12_paysRights 316 = .ok (.getfield 11, 3) := by decide +kernel
theorem dX12_paysRights_319 : decode cX12_paysRights 319 = .ok (.aload_n 0, 1) := by decide +kernel
theorem dX12_paysRights_320 : decode cX12_paysRights 320 = .ok (.iload_n 1, 1) := by decide +kernel
theorem dX12_paysRights_321 : decode cX12_paysRights 321 = .ok (.iconst 1, 1) := by decide +kernel
theorem dX12_paysRights_322 : decode cX12_paysRights 322 = .ok (.invokevirtual 66, 3) := by decide +kernel
theorem dX12_paysRights_325 : decode cX12_paysRights 325 = .ok (.laload, 1) := by decide +kernel
theorem dX12_paysRights_326 : decode cX12_paysRights 326 = .ok (.lload 7, 2) := by decide +kernel
theorem dX12_paysRights_328 : decode cX12_paysRights 328 = .ok (.invokevirtual 175, 3) := by decide +kernel
theorem dX12_paysRights_331 : decode cX12_paysRights 331 = .ok (.aload_n 0, 1) := by decide +kernel
theorem dX12_paysRights_332 : decode cX12_paysRights 332 = .ok (.iload_n 2, 1) := by decide +kernel
theorem dX12_paysRights_333 : decode cX12_paysRights 333 = .ok (.i2l, 1) := by decide +kernel
theorem dX12_paysRights_334 : decode cX12_paysRights 334 = .ok (.lload 11, 2) := by decide +kernel
theorem dX12_paysRights_336 : decode cX12_paysRights 336 = .ok (.invokevirtual 182, 3) := by decide +kernel
theorem dX12_paysRights_339 : decode cX12_paysRights 339 = .ok (.aload_n 0, 1) := by decide +kernel
theorem dX12_paysRights_340 : decode cX12_paysRights 340 = .ok (.iload_n 1, 1) := by decide +kernel
theorem dX12_paysRights_341 : decode cX12_paysRights 341 = .ok (.lload 7, 2) := by decide +kernel
theorem dX12_paysRights_343 : decode cX12_paysRights 343 = .ok (.lload 11, 2) := by decide +kernel
theorem dX12_paysRights_345 : decode cX12_paysRights 345 = .ok (.invokevirtual 197, 3) := by decide +kernel
theorem dX12_paysRights_348 : decode cX12_paysRights 348 = .ok (.return_, 1) := by decide +kernel
def fX12_paysRights_L262 (n : Nat) (r0 : Nat) (v1 : Int32) (v2 : Int32) (v3 : Int64) (v7 : Int64) (v9 : Int64) (s0 : Int64) (s1 : Int64) (X : Mm) : Option (Unit × Mm) :=
nm ((s1 + s0)) fun v11_263 =>
if mT X r0 = 12 then
if mR X r0 1 ≠ 0 then
bd (fX12_ofHolder r0 v1 v2 (3 : Int32) X) fun w43 X273_44 =>
if mT X273_44 (mR X r0 1) = 15 then
if q_b X273_44 (mR X r0 1) w43 then
nm (sJ X273_44 (mR X r0 1) (w43).toNatClampNeg v7) fun X278_45 =>
if mT X278_45 r0 = 12 then
if mR X278_45 r0 1 ≠ 0 then
bd (fX12_ofHolder r0 v1 v2 (4 : Int32) X278_45) fun w50 X287_51 =>
if mT X287_51 (mR X278_45 r0 1) = 15 then
if q_b X287_51 (mR X278_45 r0 1) w50 then
nm (sJ X287_51 (mR X278_45 r0 1) (w50).toNatClampNeg v9) fun X292_52 =>
if mT X292_52 r0 = 12 then
if mR X292_52 r0 1 ≠ 0 then
bd (fX12_ofHolder r0 v1 v2 (5 : Int32) X292_52) fun w57 X301_58 =>
if mT X301_58 (mR X292_52 r0 1) = 15 then
if q_b X301_58 (mR X292_52 r0 1) w57 then
nm (sJ X301_58 (mR X292_52 r0 1) (w57).toNatClampNeg ((v3 - v7) - v9)) fun X311_59 =>
if mT X311_59 r0 = 12 then
if mR X311_59 r0 1 ≠ 0 then
bd (fX12_of r0 v1 (1 : Int32) X311_59) fun w64 X322_65 =>
if mT X322_65 (mR X311_59 r0 1) = 15 then
if q_b X322_65 (mR X311_59 r0 1) w64 then
if mT X322_65 r0 = 12 then
bd (fX12_givesShares r0 (((v2).toInt64)) ((mJ X322_65 (mR X311_59 r0 1) (w64).toNatClampNeg)) v7 X322_65) fun _ X328_69 =>
if mT X328_69 r0 = 12 then
bd (fX12_givesMoney r0 (((v2).toInt64)) v11_263 X328_69) fun _ X336_72 =>
if mT X336_72 r0 = 12 then
bd (fX12_issues r0 v1 v7 v11_263 X336_72) fun _ X345_75 =>
some ((), X345_75)
else none
else none
else none
else none
else none
else none
else none
else none
else none
else none
else none
else none
else none
else none
else none
else none
else none
else none
else none
def fX12_paysRights_L205 (n : Nat) (r0 : Nat) (v1 : Int32) (v2 : Int32) (v3 : Int64) (v7 : Int64) (s0 : Int64) (X : Mm) : Option (Unit × Mm) :=
if mT X r0 = 12 then
if mR X r0 1 ≠ 0 then
bd (fX12_of r0 v1 (11 : Int32) X) fun w30 X217_31 =>
if mT X217_31 (mR X r0 1) = 15 then
if q_b X217_31 (mR X r0 1) w30 then
if mT X217_31 r0 = 12 then
if mR X217_31 r0 1 ≠ 0 then
bd (fX12_of r0 v1 (10 : Int32) X217_31) fun w36 X232_37 =>
if mT X232_37 (mR X217_31 r0 1) = 15 then
if q_b X232_37 (mR X217_31 r0 1) w36 then
if 0 ≤ (lg_cmp v3 (0 : Int64)) then (
fX12_paysRights_L262 n r0 v1 v2 v3 v7 s0 (0 : Int64) (((s0 * (mJ X217_31 (mR X r0 1) (w30).toNatClampNeg)) - (v7 * (mJ X232_37 (mR X217_31 r0 1) (w36).toNatClampNeg)))) X232_37
) else (
if mT X232_37 r0 = 12 then
if mR X232_37 r0 1 ≠ 0 then
bd (fX12_of r0 v1 (11 : Int32) X232_37) fun w79 X253_80 =>
if mT X253_80 (mR X232_37 r0 1) = 15 then
if q_b X253_80 (mR X232_37 r0 1) w79 then
fX12_paysRights_L262 n r0 v1 v2 v3 v7 s0 ((v3 * (mJ X253_80 (mR X232_37 r0 1) (w79).toNatClampNeg))) (((s0 * (mJ X217_31 (mR X r0 1) (w30).toNatClampNeg)) - (v7 * (mJ X232_37 (mR X217_31 r0 1) (w36).toNatClampNeg)))) X253_80
else none
else none
else none
else none
)
else none
else none
else none
else none
else none
else none
else none
else none
def fX12_paysRights_L162 (n : Nat) (r0 : Nat) (v1 : Int32) (v2 : Int32) (v3 : Int64) (v5 : Int64) (s0 : Int64) (X : Mm) : Option (Unit × Mm) :=
if mT X r0 = 12 then
if mR X r0 1 ≠ 0 then
bd (fX12_ofHolder r0 v1 v2 (2 : Int32) X) fun w24 X172_25 =>
if mT X172_25 (mR X r0 1) = 15 then
if q_b X172_25 (mR X r0 1) w24 then
if 0 ≤ (lg_cmp (mJ X172_25 (mR X r0 1) (w24).toNatClampNeg) (v5 - s0)) then (
fX12_paysRights_L205 n r0 v1 v2 v3 s0 ((v5 - s0)) X172_25
) else (
if mT X172_25 r0 = 12 then
if mR X172_25 r0 1 ≠ 0 then
bd (fX12_ofHolder r0 v1 v2 (2 : Int32) X172_25) fun w85 X193_86 =>
if mT X193_86 (mR X172_25 r0 1) = 15 then
if q_b X193_86 (mR X172_25 r0 1) w85 then
fX12_paysRights_L205 n r0 v1 v2 v3 s0 ((mJ X193_86 (mR X172_25 r0 1) (w85).toNatClampNeg)) X193_86
else none
else none
else none
else none
)
else none
else none
else none
else none
def fX12_paysRights_L125 (n : Nat) (r0 : Nat) (v1 : Int32) (v2 : Int32) (v3 : Int64) (s0 : Int64) (X : Mm) : Option (Unit × Mm) :=
if mT X r0 = 12 then
if mR X r0 1 ≠ 0 then
bd (fX12_ofHolder r0 v1 v2 (1 : Int32) X) fun w18 X135_19 =>
if mT X135_19 (mR X r0 1) = 15 then
if q_b X135_19 (mR X r0 1) w18 then
if 0 ≤ (lg_cmp (mJ X135_19 (mR X r0 1) (w18).toNatClampNeg) s0) then (
fX12_paysRights_L162 n r0 v1 v2 v3 s0 s0 X135_19
) else (
if mT X135_19 r0 = 12 then
if mR X135_19 r0 1 ≠ 0 then
bd (fX12_ofHolder r0 v1 v2 (1 : Int32) X135_19) fun w91 X153_92 =>
if mT X153_92 (mR X135_19 r0 1) = 15 then
if q_b X153_92 (mR X135_19 r0 1) w91 then
fX12_paysRights_L162 n r0 v1 v2 v3 s0 ((mJ X153_92 (mR X135_19 r0 1) (w91).toNatClampNeg)) X153_92
else none
else none
else none
else none
)
else none
else none
else none
else none
def fX12_paysRights_L108 (n : Nat) (k21 : Nat → Int32 → Int32 → Int64 → Int32 → Mm → Option (Unit × Mm)) (r0 : Nat) (v1 : Int32) (v2 : Int32) (v3 : Int64) (v5 : Int32) (X : Mm) : Option (Unit × Mm) :=
nm (v5 + (1 : Int32)) fun v5_108 =>
k21 r0 v1 v2 v3 v5_108 X
def fX12_paysRights_L84 (n : Nat) (k21 : Nat → Int32 → Int32 → Int64 → Int32 → Mm → Option (Unit × Mm)) (r0 : Nat) (v1 : Int32) (v2 : Int32) (v3 : Int64) (v5 : Int32) (v6 : Int64) (X : Mm) : Option (Unit × Mm) :=
if mT X r0 = 12 then
if mR X r0 1 ≠ 0 then
bd (fX12_ofClaim r0 v1 v5 (0 : Int32) X) fun w113 X93_114 =>
if mT X93_114 (mR X r0 1) = 15 then
if q_b X93_114 (mR X r0 1) w113 then
if (lg_cmp (mJ X93_114 (mR X r0 1) (w113).toNatClampNeg) ((v2).toInt64)) = 0 then (
nm ((v3 - v6)) fun v3_107 =>
fX12_paysRights_L108 n k21 r0 v1 v2 v3_107 v5 X93_114
) else (
fX12_paysRights_L108 n k21 r0 v1 v2 v3 v5 X93_114
)
else none
else none
else none
else none
def fX12_paysRights_L21 (n : Nat) : Nat → Nat → Int32 → Int32 → Int64 → Int32 → Mm → Option (Unit × Mm)
| 0, _, _, _, _, _, _ => none
| j + 1, r0, v1, v2, v3, v5, X =>
if mT X r0 = 12 then
if mR X r0 1 ≠ 0 then
bd (fX12_of r0 v1 (6 : Int32) X) fun w12 X32_13 =>
if mT X32_13 (mR X r0 1) = 15 then
if q_b X32_13 (mR X r0 1) w12 then
if 0 ≤ (lg_cmp ((v5).toInt64) (mJ X32_13 (mR X r0 1) (w12).toNatClampNeg)) then (
if (lg_cmp v3 (0 : Int64)) ≤ 0 then (
fX12_paysRights_L125 n r0 v1 v2 v3 (0 : Int64) X32_13
) else (
fX12_paysRights_L125 n r0 v1 v2 v3 v3 X32_13
)
) else (
if mT X32_13 r0 = 12 then
if mR X32_13 r0 1 ≠ 0 then
bd (fX12_ofClaim r0 v1 v5 (2 : Int32) X32_13) fun w97 X51_98 =>
if mT X51_98 (mR X32_13 r0 1) = 15 then
if q_b X51_98 (mR X32_13 r0 1) w97 then
if mT X51_98 r0 = 12 then
bd (fX12_wholeOf r0 v1 ((mJ X51_98 (mR X32_13 r0 1) (w97).toNatClampNeg)) X51_98) fun w101 X55_102 =>
if mT X55_102 r0 = 12 then
if mR X55_102 r0 1 ≠ 0 then
bd (fX12_ofClaim r0 v1 v5 (1 : Int32) X55_102) fun w106 X69_107 =>
if mT X69_107 (mR X55_102 r0 1) = 15 then
if q_b X69_107 (mR X55_102 r0 1) w106 then
if (lg_cmp (mJ X69_107 (mR X55_102 r0 1) (w106).toNatClampNeg) ((v2).toInt64)) = 0 then (
nm ((v3 + w101)) fun v3_83 =>
fX12_paysRights_L84 n (fX12_paysRights_L21 n j) r0 v1 v2 v3_83 v5 w101 X69_107
) else (
fX12_paysRights_L84 n (fX12_paysRights_L21 n j) r0 v1 v2 v3 v5 w101 X69_107
)
else none
else none
else none
else none
else none
else none
else none
else none
else none
)
else none
else none
else none
else none
def fX12_paysRights (n : Nat) (r0 : Nat) (v1 : Int32) (v2 : Int32) (X : Mm) : Option (Unit × Mm) :=
if mT X r0 = 12 then
if mR X r0 1 ≠ 0 then
bd (fX12_ofHolder r0 v1 v2 (0 : Int32) X) fun w3 X10_4 =>
if mT X10_4 (mR X r0 1) = 15 then
if q_b X10_4 (mR X r0 1) w3 then
if mT X10_4 r0 = 12 then
bd (fX12_wholeOf r0 v1 ((mJ X10_4 (mR X r0 1) (w3).toNatClampNeg)) X10_4) fun w7 X14_8 =>
fX12_paysRights_L21 n n r0 v1 v2 w7 (0 : Int32) X14_8
else none
else none
else none
else none
else none
theorem gX12_paysRights_L262 {E : q_E} {X0 : Mm} (C : Cx E cX12_paysRights RX12 13 none (q_rm 2 47 0 0) X0) (n : Nat) (r0 : Nat) (v1 : Int32) (v2 : Int32) (v3 : Int64) (v7 : Int64) (v9 : Int64) (s0 : Int64) (s1 : Int64) (X : Mm) : Sm E (q_fin E q_eV X0 0 0) 0 0 262 [(0, .ref (q_P E + r0)), (1, .int v1), (2, .int v2), (3, .long v3), (7, .long v7), (9, .long v9)] [.long s0, .long s1] X (fX12_paysRights_L262 n r0 v1 v2 v3 v7 v9 s0 s1 X) := by
  unfold fX12_paysRights_L262
  refine q_ladd C dX12_paysRights_262 ?_
  refine q_nml (fun v11_263 => ?_)
  refine q_lstore C [(11, .long v11_263), (0, .ref (q_P E + r0)), (1, .int v1), (2, .int v2), (3, .long v3), (7, .long v7), (9, .long v9)] dX12_paysRights_263 (Nat.le_of_ble_eq_true rfl) rfl ?_
  refine q_aload_n C 1 dX12_paysRights_265 rfl rfl ?_
  refine q_chk (fun h41 => ?_)
  refine q_chk (fun h42 => ?_)
  refine p_getR C fgX12_11 rfl dX12_paysRights_266 h41 h42 ?_
  refine q_aload_n C 1 dX12_paysRights_269 rfl rfl ?_
  refine q_iload_n C 2 dX12_paysRights_270 rfl rfl ?_
  refine q_iload_n C 3 dX12_paysRights_271 rfl rfl ?_
  refine q_iconst C (3 : Int32) dX12_paysRights_272 rfl ?_
  refine q_cVI (As := (fun P => [.int v1, .int v2, .int (3 : Int32)])) C [.ref (q_P E + (mR X r0 1))] (sX12_ofHolder r0 v1 v2 (3 : Int32)) fcX12_140 rfl (fun _ => rfl) ⟨Nat.le_of_ble_eq_true rfl, Nat.le_of_ble_eq_true rfl⟩ ⟨Nat.le_of_ble_eq_true rfl, Nat.le_of_ble_eq_true rfl⟩ (Nat.le_of_ble_eq_true rfl) dX12_paysRights_273 h41 (fun w43 X273_44 => ?_)
  refine q_lload C 5 dX12_paysRights_276 rfl ?_
  refine q_chk (fun h46 => ?_)
  refine q_chk (fun h47 => ?_)
  refine p_last C dX12_paysRights_278 h46 h47 ?_
  refine q_nmX (fun X278_45 => ?_)
  refine q_aload_n C 1 dX12_paysRights_279 rfl rfl ?_
  refine q_chk (fun h48 => ?_)
  refine q_chk (fun h49 => ?_)
  refine p_getR C fgX12_11 rfl dX12_paysRights_280 h48 h49 ?_
  refine q_aload_n C 1 dX12_paysRights_283 rfl rfl ?_
  refine q_iload_n C 2 dX12_paysRights_284 rfl rfl ?_
  refine q_iload_n C 3 dX12_paysRights_285 rfl rfl ?_
  refine q_iconst C (4 : Int32) dX12_paysRights_286 rfl ?_
  refine q_cVI (As := (fun P => [.int v1, .int v2, .int (4 : Int32)])) C [.ref (q_P E + (mR X278_45 r0 1))] (sX12_ofHolder r0 v1 v2 (4 : Int32)) fcX12_140 rfl (fun _ => rfl) ⟨Nat.le_of_ble_eq_true rfl, Nat.le_of_ble_eq_true rfl⟩ ⟨Nat.le_of_ble_eq_true rfl, Nat.le_of_ble_eq_true rfl⟩ (Nat.le_of_ble_eq_true rfl) dX12_paysRights_287 h48 (fun w50 X287_51 => ?_)
  refine q_lload C 6 dX12_paysRights_290 rfl ?_
  refine q_chk (fun h53 => ?_)
  refine q_chk (fun h54 => ?_)
  refine p_last C dX12_paysRights_292 h53 h54 ?_
  refine q_nmX (fun X292_52 => ?_)
  refine q_aload_n C 1 dX12_paysRights_293 rfl rfl ?_
  refine q_chk (fun h55 => ?_)
  refine q_chk (fun h56 => ?_)
  refine p_getR C fgX12_11 rfl dX12_paysRights_294 h55 h56 ?_
  refine q_aload_n C 1 dX12_paysRights_297 rfl rfl ?_
  refine q_iload_n C 2 dX12_paysRights_298 rfl rfl ?_
  refine q_iload_n C 3 dX12_paysRights_299 rfl rfl ?_
  refine q_iconst C (5 : Int32) dX12_paysRights_300 rfl ?_
  refine q_cVI (As := (fun P => [.int v1, .int v2, .int (5 : Int32)])) C [.ref (q_P E + (mR X292_52 r0 1))] (sX12_ofHolder r0 v1 v2 (5 : Int32)) fcX12_140 rfl (fun _ => rfl) ⟨Nat.le_of_ble_eq_true rfl, Nat.le_of_ble_eq_true rfl⟩ ⟨Nat.le_of_ble_eq_true rfl, Nat.le_of_ble_eq_true rfl⟩ (Nat.le_of_ble_eq_true rfl) dX12_paysRights_301 h55 (fun w57 X301_58 => ?_)
  refine q_lload_n C 4 dX12_paysRights_304 rfl rfl ?_
  refine q_lload C 5 dX12_paysRights_305 rfl ?_
  refine q_lsub C dX12_paysRights_307 ?_
  refine q_lload C 6 dX12_paysRights_308 rfl ?_
  refine q_lsub C dX12_paysRights_310 ?_
  refine q_chk (fun h60 => ?_)
  refine q_chk (fun h61 => ?_)
  refine p_last C dX12_paysRights_311 h60 h61 ?_
  refine q_nmX (fun X311_59 => ?_)
  refine q_aload_n C 1 dX12_paysRights_312 rfl rfl ?_
  refine q_iload_n C 3 dX12_paysRights_313 rfl rfl ?_
  refine q_i2l C dX12_paysRights_314 ?_
  refine q_aload_n C 1 dX12_paysRights_315 rfl rfl ?_
  refine q_chk (fun h62 => ?_)
  refine q_chk (fun h63 => ?_)
  refine p_getR C fgX12_11 rfl dX12_paysRights_316 h62 h63 ?_
  refine q_aload_n C 1 dX12_paysRights_319 rfl rfl ?_
  refine q_iload_n C 2 dX12_paysRights_320 rfl rfl ?_
  refine q_iconst C (1 : Int32) dX12_paysRights_321 rfl ?_
  refine q_cVI (As := (fun P => [.int v1, .int (1 : Int32)])) C [.ref (q_P E + (mR X311_59 r0 1)), .long ((v2).toInt64), .ref (q_P E + r0)] (sX12_of r0 v1 (1 : Int32)) fcX12_66 rfl (fun _ => rfl) ⟨Nat.le_of_ble_eq_true rfl, Nat.le_of_ble_eq_true rfl⟩ ⟨Nat.le_of_ble_eq_true rfl, Nat.le_of_ble_eq_true rfl⟩ (Nat.le_of_ble_eq_true rfl) dX12_paysRights_322 h62 (fun w64 X322_65 => ?_)
  refine q_chk (fun h66 => ?_)
  refine q_chk (fun h67 => ?_)
  refine p_lald C dX12_paysRights_325 h66 h67 ?_
  refine q_lload C 5 dX12_paysRights_326 rfl ?_
  refine q_chk (fun h70 => ?_)
  refine q_cVV (As := (fun P => [.long ((v2).toInt64), .long (mJ X322_65 (mR X311_59 r0 1) (w64).toNatClampNeg), .long v7])) C [] (sX12_givesShares r0 (((v2).toInt64)) ((mJ X322_65 (mR X311_59 r0 1) (w64).toNatClampNeg)) v7) fcX12_175 rfl (fun _ => rfl) ⟨Nat.le_of_ble_eq_true rfl, Nat.le_of_ble_eq_true rfl⟩ ⟨Nat.le_of_ble_eq_true rfl, Nat.le_of_ble_eq_true rfl⟩ (Nat.le_of_ble_eq_true rfl) dX12_paysRights_328 h70 (fun _ X328_69 => ?_)
  refine q_aload_n C 1 dX12_paysRights_331 rfl rfl ?_
  refine q_iload_n C 3 dX12_paysRights_332 rfl rfl ?_
  refine q_i2l C dX12_paysRights_333 ?_
  refine q_lload C 0 dX12_paysRights_334 rfl ?_
  refine q_chk (fun h73 => ?_)
  refine q_cVV (As := (fun P => [.long ((v2).toInt64), .long v11_263])) C [] (sX12_givesMoney r0 (((v2).toInt64)) v11_263) fcX12_182 rfl (fun _ => rfl) ⟨Nat.le_of_ble_eq_true rfl, Nat.le_of_ble_eq_true rfl⟩ ⟨Nat.le_of_ble_eq_true rfl, Nat.le_of_ble_eq_true rfl⟩ (Nat.le_of_ble_eq_true rfl) dX12_paysRights_336 h73 (fun _ X336_72 => ?_)
  refine q_aload_n C 1 dX12_paysRights_339 rfl rfl ?_
  refine q_iload_n C 2 dX12_paysRights_340 rfl rfl ?_
  refine q_lload C 5 dX12_paysRights_341 rfl ?_
  refine q_lload C 0 dX12_paysRights_343 rfl ?_
  refine q_chk (fun h76 => ?_)
  refine q_cVV (As := (fun P => [.int v1, .long v7, .long v11_263])) C [] (sX12_issues r0 v1 v7 v11_263) fcX12_197 rfl (fun _ => rfl) ⟨Nat.le_of_ble_eq_true rfl, Nat.le_of_ble_eq_true rfl⟩ ⟨Nat.le_of_ble_eq_true rfl, Nat.le_of_ble_eq_true rfl⟩ (Nat.le_of_ble_eq_true rfl) dX12_paysRights_345 h76 (fun _ X345_75 => ?_)
  exact q_vret C dX12_paysRights_348
theorem gX12_paysRights_L205 {E : q_E} {X0 : Mm} (C : Cx E cX12_paysRights RX12 13 none (q_rm 2 47 0 0) X0) (n : Nat) (r0 : Nat) (v1 : Int32) (v2 : Int32) (v3 : Int64) (v7 : Int64) (s0 : Int64) (X : Mm) : Sm E (q_fin E q_eV X0 0 0) 0 0 205 [(0, .ref (q_P E + r0)), (1, .int v1), (2, .int v2), (3, .long v3), (7, .long v7)] [.long s0] X (fX12_paysRights_L205 n r0 v1 v2 v3 v7 s0 X) := by
  unfold fX12_paysRights_L205
  refine q_lstore C [(9, .long s0), (0, .ref (q_P E + r0)), (1, .int v1), (2, .int v2), (3, .long v3), (7, .long v7)] dX12_paysRights_205 (Nat.le_of_ble_eq_true rfl) rfl ?_
  refine q_lload C 0 dX12_paysRights_207 rfl ?_
  refine q_aload_n C 1 dX12_paysRights_209 rfl rfl ?_
  refine q_chk (fun h28 => ?_)
  refine q_chk (fun h29 => ?_)
  refine p_getR C fgX12_11 rfl dX12_paysRights_210 h28 h29 ?_
  refine q_aload_n C 1 dX12_paysRights_213 rfl rfl ?_
  refine q_iload_n C 2 dX12_paysRights_214 rfl rfl ?_
  refine q_bipush C (11 : Int32) dX12_paysRights_215 rfl ?_
  refine q_cVI (As := (fun P => [.int v1, .int (11 : Int32)])) C [.ref (q_P E + (mR X r0 1)), .long s0] (sX12_of r0 v1 (11 : Int32)) fcX12_66 rfl (fun _ => rfl) ⟨Nat.le_of_ble_eq_true rfl, Nat.le_of_ble_eq_true rfl⟩ ⟨Nat.le_of_ble_eq_true rfl, Nat.le_of_ble_eq_true rfl⟩ (Nat.le_of_ble_eq_true rfl) dX12_paysRights_217 h28 (fun w30 X217_31 => ?_)
  refine q_chk (fun h32 => ?_)
  refine q_chk (fun h33 => ?_)
  refine p_lald C dX12_paysRights_220 h32 h33 ?_
  refine q_lmul C dX12_paysRights_221 ?_
  refine q_lload C 5 dX12_paysRights_222 rfl ?_
  refine q_aload_n C 1 dX12_paysRights_224 rfl rfl ?_
  refine q_chk (fun h34 => ?_)
  refine q_chk (fun h35 => ?_)
  refine p_getR C fgX12_11 rfl dX12_paysRights_225 h34 h35 ?_
  refine q_aload_n C 1 dX12_paysRights_228 rfl rfl ?_
  refine q_iload_n C 2 dX12_paysRights_229 rfl rfl ?_
  refine q_bipush C (10 : Int32) dX12_paysRights_230 rfl ?_
  refine q_cVI (As := (fun P => [.int v1, .int (10 : Int32)])) C [.ref (q_P E + (mR X217_31 r0 1)), .long v7, .long (s0 * (mJ X217_31 (mR X r0 1) (w30).toNatClampNeg))] (sX12_of r0 v1 (10 : Int32)) fcX12_66 rfl (fun _ => rfl) ⟨Nat.le_of_ble_eq_true rfl, Nat.le_of_ble_eq_true rfl⟩ ⟨Nat.le_of_ble_eq_true rfl, Nat.le_of_ble_eq_true rfl⟩ (Nat.le_of_ble_eq_true rfl) dX12_paysRights_232 h34 (fun w36 X232_37 => ?_)
  refine q_chk (fun h38 => ?_)
  refine q_chk (fun h39 => ?_)
  refine p_lald C dX12_paysRights_235 h38 h39 ?_
  refine q_lmul C dX12_paysRights_236 ?_
  refine q_lsub C dX12_paysRights_237 ?_
  refine q_lload_n C 4 dX12_paysRights_238 rfl rfl ?_
  refine q_lconst C (0 : Int64) dX12_paysRights_239 rfl ?_
  refine q_lcmp C dX12_paysRights_240 ?_
  refine q_if_ge C 261 dX12_paysRights_241 (by decide) (fun _ => ?_) (fun _ => ?_)
  · refine q_lconst C (0 : Int64) dX12_paysRights_261 rfl ?_
    refine q_sub C [(0, .ref (q_P E + r0)), (1, .int v1), (2, .int v2), (3, .long v3), (7, .long v7), (9, .long s0)] [1, 2, 3, 4, 5, 0] rfl ?_
    exact gX12_paysRights_L262 C n r0 v1 v2 v3 v7 s0 (0 : Int64) (((s0 * (mJ X217_31 (mR X r0 1) (w30).toNatClampNeg)) - (v7 * (mJ X232_37 (mR X217_31 r0 1) (w36).toNatClampNeg)))) X232_37
  · refine q_lload_n C 4 dX12_paysRights_244 rfl rfl ?_
    refine q_aload_n C 1 dX12_paysRights_245 rfl rfl ?_
    refine q_chk (fun h77 => ?_)
    refine q_chk (fun h78 => ?_)
    refine p_getR C fgX12_11 rfl dX12_paysRights_246 h77 h78 ?_
    refine q_aload_n C 1 dX12_paysRights_249 rfl rfl ?_
    refine q_iload_n C 2 dX12_paysRights_250 rfl rfl ?_
    refine q_bipush C (11 : Int32) dX12_paysRights_251 rfl ?_
    refine q_cVI (As := (fun P => [.int v1, .int (11 : Int32)])) C [.ref (q_P E + (mR X232_37 r0 1)), .long v3, .long ((s0 * (mJ X217_31 (mR X r0 1) (w30).toNatClampNeg)) - (v7 * (mJ X232_37 (mR X217_31 r0 1) (w36).toNatClampNeg)))] (sX12_of r0 v1 (11 : Int32)) fcX12_66 rfl (fun _ => rfl) ⟨Nat.le_of_ble_eq_true rfl, Nat.le_of_ble_eq_true rfl⟩ ⟨Nat.le_of_ble_eq_true rfl, Nat.le_of_ble_eq_true rfl⟩ (Nat.le_of_ble_eq_true rfl) dX12_paysRights_253 h77 (fun w79 X253_80 => ?_)
    refine q_chk (fun h81 => ?_)
    refine q_chk (fun h82 => ?_)
    refine p_lald C dX12_paysRights_256 h81 h82 ?_
    refine q_lmul C dX12_paysRights_257 ?_
    refine q_goto C 262 dX12_paysRights_258 (by decide) ?_
    refine q_sub C [(0, .ref (q_P E + r0)), (1, .int v1), (2, .int v2), (3, .long v3), (7, .long v7), (9, .long s0)] [1, 2, 3, 4, 5, 0] rfl ?_
    exact gX12_paysRights_L262 C n r0 v1 v2 v3 v7 s0 ((v3 * (mJ X253_80 (mR X232_37 r0 1) (w79).toNatClampNeg))) (((s0 * (mJ X217_31 (mR X r0 1) (w30).toNatClampNeg)) - (v7 * (mJ X232_37 (mR X217_31 r0 1) (w36).toNatClampNeg)))) X253_80
theorem gX12_paysRights_L162 {E : q_E} {X0 : Mm} (C : Cx E cX12_paysRights RX12 13 none (q_rm 2 47 0 0) X0) (n : Nat) (r0 : Nat) (v1 : Int32) (v2 : Int32) (v3 : Int64) (v5 : Int64) (s0 : Int64) (X : Mm) : Sm E (q_fin E q_eV X0 0 0) 0 0 162 [(0, .ref (q_P E + r0)), (1, .int v1), (2, .int v2), (3, .long v3), (5, .long v5)] [.long s0] X (fX12_paysRights_L162 n r0 v1 v2 v3 v5 s0 X) := by
  unfold fX12_paysRights_L162
  refine q_lstore C [(7, .long s0), (0, .ref (q_P E + r0)), (1, .int v1), (2, .int v2), (3, .long v3), (5, .long v5)] dX12_paysRights_162 (Nat.le_of_ble_eq_true rfl) rfl ?_
  refine q_aload_n C 1 dX12_paysRights_164 rfl rfl ?_
  refine q_chk (fun h22 => ?_)
  refine q_chk (fun h23 => ?_)
  refine p_getR C fgX12_11 rfl dX12_paysRights_165 h22 h23 ?_
  refine q_aload_n C 1 dX12_paysRights_168 rfl rfl ?_
  refine q_iload_n C 2 dX12_paysRights_169 rfl rfl ?_
  refine q_iload_n C 3 dX12_paysRights_170 rfl rfl ?_
  refine q_iconst C (2 : Int32) dX12_paysRights_171 rfl ?_
  refine q_cVI (As := (fun P => [.int v1, .int v2, .int (2 : Int32)])) C [.ref (q_P E + (mR X r0 1))] (sX12_ofHolder r0 v1 v2 (2 : Int32)) fcX12_140 rfl (fun _ => rfl) ⟨Nat.le_of_ble_eq_true rfl, Nat.le_of_ble_eq_true rfl⟩ ⟨Nat.le_of_ble_eq_true rfl, Nat.le_of_ble_eq_true rfl⟩ (Nat.le_of_ble_eq_true rfl) dX12_paysRights_172 h22 (fun w24 X172_25 => ?_)
  refine q_chk (fun h26 => ?_)
  refine q_chk (fun h27 => ?_)
  refine p_lald C dX12_paysRights_175 h26 h27 ?_
  refine q_lload C 5 dX12_paysRights_176 rfl ?_
  refine q_lload C 0 dX12_paysRights_178 rfl ?_
  refine q_lsub C dX12_paysRights_180 ?_
  refine q_lcmp C dX12_paysRights_181 ?_
  refine q_if_ge C 200 dX12_paysRights_182 (by decide) (fun _ => ?_) (fun _ => ?_)
  · refine q_lload C 5 dX12_paysRights_200 rfl ?_
    refine q_lload C 0 dX12_paysRights_202 rfl ?_
    refine q_lsub C dX12_paysRights_204 ?_
    refine q_sub C [(0, .ref (q_P E + r0)), (1, .int v1), (2, .int v2), (3, .long v3), (7, .long s0)] [1, 2, 3, 4, 0] rfl ?_
    exact gX12_paysRights_L205 C n r0 v1 v2 v3 s0 ((v5 - s0)) X172_25
  · refine q_aload_n C 1 dX12_paysRights_185 rfl rfl ?_
    refine q_chk (fun h83 => ?_)
    refine q_chk (fun h84 => ?_)
    refine p_getR C fgX12_11 rfl dX12_paysRights_186 h83 h84 ?_
    refine q_aload_n C 1 dX12_paysRights_189 rfl rfl ?_
    refine q_iload_n C 2 dX12_paysRights_190 rfl rfl ?_
    refine q_iload_n C 3 dX12_paysRights_191 rfl rfl ?_
    refine q_iconst C (2 : Int32) dX12_paysRights_192 rfl ?_
    refine q_cVI (As := (fun P => [.int v1, .int v2, .int (2 : Int32)])) C [.ref (q_P E + (mR X172_25 r0 1))] (sX12_ofHolder r0 v1 v2 (2 : Int32)) fcX12_140 rfl (fun _ => rfl) ⟨Nat.le_of_ble_eq_true rfl, Nat.le_of_ble_eq_true rfl⟩ ⟨Nat.le_of_ble_eq_true rfl, Nat.le_of_ble_eq_true rfl⟩ (Nat.le_of_ble_eq_true rfl) dX12_paysRights_193 h83 (fun w85 X193_86 => ?_)
    refine q_chk (fun h87 => ?_)
    refine q_chk (fun h88 => ?_)
    refine p_lald C dX12_paysRights_196 h87 h88 ?_
    refine q_goto C 205 dX12_paysRights_197 (by decide) ?_
    refine q_sub C [(0, .ref (q_P E + r0)), (1, .int v1), (2, .int v2), (3, .long v3), (7, .long s0)] [1, 2, 3, 4, 0] rfl ?_
    exact gX12_paysRights_L205 C n r0 v1 v2 v3 s0 ((mJ X193_86 (mR X172_25 r0 1) (w85).toNatClampNeg)) X193_86
theorem gX12_paysRights_L125 {E : q_E} {X0 : Mm} (C : Cx E cX12_paysRights RX12 13 none (q_rm 2 47 0 0) X0) (n : Nat) (r0 : Nat) (v1 : Int32) (v2 : Int32) (v3 : Int64) (s0 : Int64) (X : Mm) : Sm E (q_fin E q_eV X0 0 0) 0 0 125 [(0, .ref (q_P E + r0)), (1, .int v1), (2, .int v2), (3, .long v3)] [.long s0] X (fX12_paysRights_L125 n r0 v1 v2 v3 s0 X) := by
  unfold fX12_paysRights_L125
  refine q_lstore C [(5, .long s0), (0, .ref (q_P E + r0)), (1, .int v1), (2, .int v2), (3, .long v3)] dX12_paysRights_125 (Nat.le_of_ble_eq_true rfl) rfl ?_
  refine q_aload_n C 1 dX12_paysRights_127 rfl rfl ?_
  refine q_chk (fun h16 => ?_)
  refine q_chk (fun h17 => ?_)
  refine p_getR C fgX12_11 rfl dX12_paysRights_128 h16 h17 ?_
  refine q_aload_n C 1 dX12_paysRights_131 rfl rfl ?_
  refine q_iload_n C 2 dX12_paysRights_132 rfl rfl ?_
  refine q_iload_n C 3 dX12_paysRights_133 rfl rfl ?_
  refine q_iconst C (1 : Int32) dX12_paysRights_134 rfl ?_
  refine q_cVI (As := (fun P => [.int v1, .int v2, .int (1 : Int32)])) C [.ref (q_P E + (mR X r0 1))] (sX12_ofHolder r0 v1 v2 (1 : Int32)) fcX12_140 rfl (fun _ => rfl) ⟨Nat.le_of_ble_eq_true rfl, Nat.le_of_ble_eq_true rfl⟩ ⟨Nat.le_of_ble_eq_true rfl, Nat.le_of_ble_eq_true rfl⟩ (Nat.le_of_ble_eq_true rfl) dX12_paysRights_135 h16 (fun w18 X135_19 => ?_)
  refine q_chk (fun h20 => ?_)
  refine q_chk (fun h21 => ?_)
  refine p_lald C dX12_paysRights_138 h20 h21 ?_
  refine q_lload C 0 dX12_paysRights_139 rfl ?_
  refine q_lcmp C dX12_paysRights_141 ?_
  refine q_if_ge C 160 dX12_paysRights_142 (by decide) (fun _ => ?_) (fun _ => ?_)
  · refine q_lload C 0 dX12_paysRights_160 rfl ?_
    refine q_sub C [(0, .ref (q_P E + r0)), (1, .int v1), (2, .int v2), (3, .long v3), (5, .long s0)] [1, 2, 3, 4, 0] rfl ?_
    exact gX12_paysRights_L162 C n r0 v1 v2 v3 s0 s0 X135_19
  · refine q_aload_n C 1 dX12_paysRights_145 rfl rfl ?_
    refine q_chk (fun h89 => ?_)
    refine q_chk (fun h90 => ?_)
    refine p_getR C fgX12_11 rfl dX12_paysRights_146 h89 h90 ?_
    refine q_aload_n C 1 dX12_paysRights_149 rfl rfl ?_
    refine q_iload_n C 2 dX12_paysRights_150 rfl rfl ?_
    refine q_iload_n C 3 dX12_paysRights_151 rfl rfl ?_
    refine q_iconst C (1 : Int32) dX12_paysRights_152 rfl ?_
    refine q_cVI (As := (fun P => [.int v1, .int v2, .int (1 : Int32)])) C [.ref (q_P E + (mR X135_19 r0 1))] (sX12_ofHolder r0 v1 v2 (1 : Int32)) fcX12_140 rfl (fun _ => rfl) ⟨Nat.le_of_ble_eq_true rfl, Nat.le_of_ble_eq_true rfl⟩ ⟨Nat.le_of_ble_eq_true rfl, Nat.le_of_ble_eq_true rfl⟩ (Nat.le_of_ble_eq_true rfl) dX12_paysRights_153 h89 (fun w91 X153_92 => ?_)
    refine q_chk (fun h93 => ?_)
    refine q_chk (fun h94 => ?_)
    refine p_lald C dX12_paysRights_156 h93 h94 ?_
    refine q_goto C 162 dX12_paysRights_157 (by decide) ?_
    refine q_sub C [(0, .ref (q_P E + r0)), (1, .int v1), (2, .int v2), (3, .long v3), (5, .long s0)] [1, 2, 3, 4, 0] rfl ?_
    exact gX12_paysRights_L162 C n r0 v1 v2 v3 s0 ((mJ X153_92 (mR X135_19 r0 1) (w91).toNatClampNeg)) X153_92
theorem gX12_paysRights_L108 {E : q_E} {X0 : Mm} (C : Cx E cX12_paysRights RX12 13 none (q_rm 2 47 0 0) X0) (n : Nat) (k21 : Nat → Int32 → Int32 → Int64 → Int32 → Mm → Option (Unit × Mm)) (hk21 : ∀ (r0 : Nat) (v1 : Int32) (v2 : Int32) (v3 : Int64) (v5 : Int32) (X : Mm), Sm E (q_fin E q_eV X0 0 0) 0 0 21 [(0, .ref (q_P E + r0)), (1, .int v1), (2, .int v2), (3, .long v3), (5, .int v5)] [] X (k21 r0 v1 v2 v3 v5 X)) (r0 : Nat) (v1 : Int32) (v2 : Int32) (v3 : Int64) (v5 : Int32) (X : Mm) : Sm E (q_fin E q_eV X0 0 0) 0 0 108 [(0, .ref (q_P E + r0)), (1, .int v1), (2, .int v2), (3, .long v3), (5, .int v5)] [] X (fX12_paysRights_L108 n k21 r0 v1 v2 v3 v5 X) := by
  unfold fX12_paysRights_L108
  refine q_iincN C (1 : Int32) 4 (fun v5_108 => [(5, .int v5_108), (0, .ref (q_P E + r0)), (1, .int v1), (2, .int v2), (3, .long v3)]) dX12_paysRights_108 rfl rfl (Nat.le_of_ble_eq_true rfl) (fun _ => rfl) (fun v5_108 => ?_)
  refine q_goto C 21 dX12_paysRights_111 (by decide) ?_
  refine q_sub C [(0, .ref (q_P E + r0)), (1, .int v1), (2, .int v2), (3, .long v3), (5, .int v5_108)] [1, 2, 3, 4, 0] rfl ?_
  exact hk21 r0 v1 v2 v3 v5_108 X
theorem gX12_paysRights_L84 {E : q_E} {X0 : Mm} (C : Cx E cX12_paysRights RX12 13 none (q_rm 2 47 0 0) X0) (n : Nat) (k21 : Nat → Int32 → Int32 → Int64 → Int32 → Mm → Option (Unit × Mm)) (hk21 : ∀ (r0 : Nat) (v1 : Int32) (v2 : Int32) (v3 : Int64) (v5 : Int32) (X : Mm), Sm E (q_fin E q_eV X0 0 0) 0 0 21 [(0, .ref (q_P E + r0)), (1, .int v1), (2, .int v2), (3, .long v3), (5, .int v5)] [] X (k21 r0 v1 v2 v3 v5 X)) (r0 : Nat) (v1 : Int32) (v2 : Int32) (v3 : Int64) (v5 : Int32) (v6 : Int64) (X : Mm) : Sm E (q_fin E q_eV X0 0 0) 0 0 84 [(0, .ref (q_P E + r0)), (1, .int v1), (2, .int v2), (3, .long v3), (5, .int v5), (6, .long v6)] [] X (fX12_paysRights_L84 n k21 r0 v1 v2 v3 v5 v6 X) := by
  unfold fX12_paysRights_L84
  refine q_aload_n C 0 dX12_paysRights_84 rfl rfl ?_
  refine q_chk (fun h111 => ?_)
  refine q_chk (fun h112 => ?_)
  refine p_getR C fgX12_11 rfl dX12_paysRights_85 h111 h112 ?_
  refine q_aload_n C 0 dX12_paysRights_88 rfl rfl ?_
  refine q_iload_n C 1 dX12_paysRights_89 rfl rfl ?_
  refine q_iload C 4 dX12_paysRights_90 rfl ?_
  refine q_iconst C (0 : Int32) dX12_paysRights_92 rfl ?_
  refine q_cVI (As := (fun P => [.int v1, .int v5, .int (0 : Int32)])) C [.ref (q_P E + (mR X r0 1))] (sX12_ofClaim r0 v1 v5 (0 : Int32)) fcX12_164 rfl (fun _ => rfl) ⟨Nat.le_of_ble_eq_true rfl, Nat.le_of_ble_eq_true rfl⟩ ⟨Nat.le_of_ble_eq_true rfl, Nat.le_of_ble_eq_true rfl⟩ (Nat.le_of_ble_eq_true rfl) dX12_paysRights_93 h111 (fun w113 X93_114 => ?_)
  refine q_chk (fun h115 => ?_)
  refine q_chk (fun h116 => ?_)
  refine p_lald C dX12_paysRights_96 h115 h116 ?_
  refine q_iload_n C 2 dX12_paysRights_97 rfl rfl ?_
  refine q_i2l C dX12_paysRights_98 ?_
  refine q_lcmp C dX12_paysRights_99 ?_
  refine q_if_ne C 108 dX12_paysRights_100 (by decide) (fun _ => ?_) (fun _ => ?_)
  · refine q_lload_n C 3 dX12_paysRights_103 rfl rfl ?_
    refine q_lload C 5 dX12_paysRights_104 rfl ?_
    refine q_lsub C dX12_paysRights_106 ?_
    refine q_nml (fun v3_107 => ?_)
    refine q_lstore_n C [(3, .long v3_107), (0, .ref (q_P E + r0)), (1, .int v1), (2, .int v2), (5, .int v5), (6, .long v6)] dX12_paysRights_107 rfl (Nat.le_of_ble_eq_true rfl) rfl ?_
    refine q_sub C [(0, .ref (q_P E + r0)), (1, .int v1), (2, .int v2), (3, .long v3_107), (5, .int v5)] [1, 2, 3, 0, 4] rfl ?_
    exact gX12_paysRights_L108 C n k21 hk21 r0 v1 v2 v3_107 v5 X93_114
  · refine q_sub C [(0, .ref (q_P E + r0)), (1, .int v1), (2, .int v2), (3, .long v3), (5, .int v5)] [0, 1, 2, 3, 4] rfl ?_
    exact gX12_paysRights_L108 C n k21 hk21 r0 v1 v2 v3 v5 X93_114
theorem gX12_paysRights_L21 {E : q_E} {X0 : Mm} (C : Cx E cX12_paysRights RX12 13 none (q_rm 2 47 0 0) X0) (n : Nat) : ∀ (j : Nat) (r0 : Nat) (v1 : Int32) (v2 : Int32) (v3 : Int64) (v5 : Int32) (X : Mm), Sm E (q_fin E q_eV X0 0 0) 0 0 21 [(0, .ref (q_P E + r0)), (1, .int v1), (2, .int v2), (3, .long v3), (5, .int v5)] [] X (fX12_paysRights_L21 n j r0 v1 v2 v3 v5 X) := by
  intro j
  induction j with
  | zero => intros; exact Sm.none
  | succ j ih =>
    intro r0 v1 v2 v3 v5 X
    rw [fX12_paysRights_L21]
    refine q_iload C 4 dX12_paysRights_21 rfl ?_
    refine q_i2l C dX12_paysRights_23 ?_
    refine q_aload_n C 0 dX12_paysRights_24 rfl rfl ?_
    refine q_chk (fun h10 => ?_)
    refine q_chk (fun h11 => ?_)
    refine p_getR C fgX12_11 rfl dX12_paysRights_25 h10 h11 ?_
    refine q_aload_n C 0 dX12_paysRights_28 rfl rfl ?_
    refine q_iload_n C 1 dX12_paysRights_29 rfl rfl ?_
    refine q_bipush C (6 : Int32) dX12_paysRights_30 rfl ?_
    refine q_cVI (As := (fun P => [.int v1, .int (6 : Int32)])) C [.ref (q_P E + (mR X r0 1)), .long ((v5).toInt64)] (sX12_of r0 v1 (6 : Int32)) fcX12_66 rfl (fun _ => rfl) ⟨Nat.le_of_ble_eq_true rfl, Nat.le_of_ble_eq_true rfl⟩ ⟨Nat.le_of_ble_eq_true rfl, Nat.le_of_ble_eq_true rfl⟩ (Nat.le_of_ble_eq_true rfl) dX12_paysRights_32 h10 (fun w12 X32_13 => ?_)
    refine q_chk (fun h14 => ?_)
    refine q_chk (fun h15 => ?_)
    refine p_lald C dX12_paysRights_35 h14 h15 ?_
    refine q_lcmp C dX12_paysRights_36 ?_
    refine q_if_ge C 114 dX12_paysRights_37 (by decide) (fun _ => ?_) (fun _ => ?_)
    · refine q_lload_n C 3 dX12_paysRights_114 rfl rfl ?_
      refine q_lconst C (0 : Int64) dX12_paysRights_115 rfl ?_
      refine q_lcmp C dX12_paysRights_116 ?_
      refine q_if_le C 124 dX12_paysRights_117 (by decide) (fun _ => ?_) (fun _ => ?_)
      · refine q_lconst C (0 : Int64) dX12_paysRights_124 rfl ?_
        refine q_sub C [(0, .ref (q_P E + r0)), (1, .int v1), (2, .int v2), (3, .long v3)] [0, 1, 2, 3] rfl ?_
        exact gX12_paysRights_L125 C n r0 v1 v2 v3 (0 : Int64) X32_13
      · refine q_lload_n C 3 dX12_paysRights_120 rfl rfl ?_
        refine q_goto C 125 dX12_paysRights_121 (by decide) ?_
        refine q_sub C [(0, .ref (q_P E + r0)), (1, .int v1), (2, .int v2), (3, .long v3)] [0, 1, 2, 3] rfl ?_
        exact gX12_paysRights_L125 C n r0 v1 v2 v3 v3 X32_13
    · refine q_aload_n C 0 dX12_paysRights_40 rfl rfl ?_
      refine q_iload_n C 1 dX12_paysRights_41 rfl rfl ?_
      refine q_aload_n C 0 dX12_paysRights_42 rfl rfl ?_
      refine q_chk (fun h95 => ?_)
      refine q_chk (fun h96 => ?_)
      refine p_getR C fgX12_11 rfl dX12_paysRights_43 h95 h96 ?_
      refine q_aload_n C 0 dX12_paysRights_46 rfl rfl ?_
      refine q_iload_n C 1 dX12_paysRights_47 rfl rfl ?_
      refine q_iload C 4 dX12_paysRights_48 rfl ?_
      refine q_iconst C (2 : Int32) dX12_paysRights_50 rfl ?_
      refine q_cVI (As := (fun P => [.int v1, .int v5, .int (2 : Int32)])) C [.ref (q_P E + (mR X32_13 r0 1)), .int v1, .ref (q_P E + r0)] (sX12_ofClaim r0 v1 v5 (2 : Int32)) fcX12_164 rfl (fun _ => rfl) ⟨Nat.le_of_ble_eq_true rfl, Nat.le_of_ble_eq_true rfl⟩ ⟨Nat.le_of_ble_eq_true rfl, Nat.le_of_ble_eq_true rfl⟩ (Nat.le_of_ble_eq_true rfl) dX12_paysRights_51 h95 (fun w97 X51_98 => ?_)
      refine q_chk (fun h99 => ?_)
      refine q_chk (fun h100 => ?_)
      refine p_lald C dX12_paysRights_54 h99 h100 ?_
      refine q_chk (fun h103 => ?_)
      refine q_cVL (As := (fun P => [.int v1, .long (mJ X51_98 (mR X32_13 r0 1) (w97).toNatClampNeg)])) C [] (sX12_wholeOf r0 v1 ((mJ X51_98 (mR X32_13 r0 1) (w97).toNatClampNeg))) fcX12_194 rfl (fun _ => rfl) ⟨Nat.le_of_ble_eq_true rfl, Nat.le_of_ble_eq_true rfl⟩ ⟨Nat.le_of_ble_eq_true rfl, Nat.le_of_ble_eq_true rfl⟩ (Nat.le_of_ble_eq_true rfl) dX12_paysRights_55 h103 (fun w101 X55_102 => ?_)
      refine q_lstore C [(6, .long w101), (0, .ref (q_P E + r0)), (1, .int v1), (2, .int v2), (3, .long v3), (5, .int v5)] dX12_paysRights_58 (Nat.le_of_ble_eq_true rfl) rfl ?_
      refine q_aload_n C 1 dX12_paysRights_60 rfl rfl ?_
      refine q_chk (fun h104 => ?_)
      refine q_chk (fun h105 => ?_)
      refine p_getR C fgX12_11 rfl dX12_paysRights_61 h104 h105 ?_
      refine q_aload_n C 1 dX12_paysRights_64 rfl rfl ?_
      refine q_iload_n C 2 dX12_paysRights_65 rfl rfl ?_
      refine q_iload C 5 dX12_paysRights_66 rfl ?_
      refine q_iconst C (1 : Int32) dX12_paysRights_68 rfl ?_
      refine q_cVI (As := (fun P => [.int v1, .int v5, .int (1 : Int32)])) C [.ref (q_P E + (mR X55_102 r0 1))] (sX12_ofClaim r0 v1 v5 (1 : Int32)) fcX12_164 rfl (fun _ => rfl) ⟨Nat.le_of_ble_eq_true rfl, Nat.le_of_ble_eq_true rfl⟩ ⟨Nat.le_of_ble_eq_true rfl, Nat.le_of_ble_eq_true rfl⟩ (Nat.le_of_ble_eq_true rfl) dX12_paysRights_69 h104 (fun w106 X69_107 => ?_)
      refine q_chk (fun h108 => ?_)
      refine q_chk (fun h109 => ?_)
      refine p_lald C dX12_paysRights_72 h108 h109 ?_
      refine q_iload_n C 3 dX12_paysRights_73 rfl rfl ?_
      refine q_i2l C dX12_paysRights_74 ?_
      refine q_lcmp C dX12_paysRights_75 ?_
      refine q_if_ne C 84 dX12_paysRights_76 (by decide) (fun _ => ?_) (fun _ => ?_)
      · refine q_lload_n C 4 dX12_paysRights_79 rfl rfl ?_
        refine q_lload C 0 dX12_paysRights_80 rfl ?_
        refine q_ladd C dX12_paysRights_82 ?_
        refine q_nml (fun v3_83 => ?_)
        refine q_lstore_n C [(3, .long v3_83), (6, .long w101), (0, .ref (q_P E + r0)), (1, .int v1), (2, .int v2), (5, .int v5)] dX12_paysRights_83 rfl (Nat.le_of_ble_eq_true rfl) rfl ?_
        refine q_sub C [(0, .ref (q_P E + r0)), (1, .int v1), (2, .int v2), (3, .long v3_83), (5, .int v5), (6, .long w101)] [2, 3, 4, 0, 5, 1] rfl ?_
        exact gX12_paysRights_L84 C n (fX12_paysRights_L21 n j) ih r0 v1 v2 v3_83 v5 w101 X69_107
      · refine q_sub C [(0, .ref (q_P E + r0)), (1, .int v1), (2, .int v2), (3, .long v3), (5, .int v5), (6, .long w101)] [1, 2, 3, 4, 5, 0] rfl ?_
        exact gX12_paysRights_L84 C n (fX12_paysRights_L21 n j) ih r0 v1 v2 v3 v5 w101 X69_107
theorem sX12_paysRights (n : Nat) (r0 : Nat) (v1 : Int32) (v2 : Int32) : q_Ct yX12_paysRights cX12_paysRights 13 none 2 47 0 0 q_eV (fun P => [.ref (P + r0), .int v1, .int v2]) (fX12_paysRights n r0 v1 v2) := by
  refine q_meth (by decide +kernel) (fun P => Nat.le_of_ble_eq_true rfl) (fun E X C hn => ?_)
  show Sm E (q_fin E q_eV X 0 0) 0 0 0 [(0, .ref (q_P E + r0)), (1, .int v1), (2, .int v2)] [] X _
  unfold fX12_paysRights
  refine q_aload_n C 0 dX12_paysRights_0 rfl rfl ?_
  refine q_iload_n C 1 dX12_paysRights_1 rfl rfl ?_
  refine q_aload_n C 0 dX12_paysRights_2 rfl rfl ?_
  refine q_chk (fun h1 => ?_)
  refine q_chk (fun h2 => ?_)
  refine p_getR C fgX12_11 rfl dX12_paysRights_3 h1 h2 ?_
  refine q_aload_n C 0 dX12_paysRights_6 rfl rfl ?_
  refine q_iload_n C 1 dX12_paysRights_7 rfl rfl ?_
  refine q_iload_n C 2 dX12_paysRights_8 rfl rfl ?_
  refine q_iconst C (0 : Int32) dX12_paysRights_9 rfl ?_
  refine q_cVI (As := (fun P => [.int v1, .int v2, .int (0 : Int32)])) C [.ref (q_P E + (mR X r0 1)), .int v1, .ref (q_P E + r0)] (sX12_ofHolder r0 v1 v2 (0 : Int32)) fcX12_140 rfl (fun _ => rfl) ⟨Nat.le_of_ble_eq_true rfl, Nat.le_of_ble_eq_true rfl⟩ ⟨Nat.le_of_ble_eq_true rfl, Nat.le_of_ble_eq_true rfl⟩ (Nat.le_of_ble_eq_true rfl) dX12_paysRights_10 h1 (fun w3 X10_4 => ?_)
  refine q_chk (fun h5 => ?_)
  refine q_chk (fun h6 => ?_)
  refine p_lald C dX12_paysRights_13 h5 h6 ?_
  refine q_chk (fun h9 => ?_)
  refine q_cVL (As := (fun P => [.int v1, .long (mJ X10_4 (mR X r0 1) (w3).toNatClampNeg)])) C [] (sX12_wholeOf r0 v1 ((mJ X10_4 (mR X r0 1) (w3).toNatClampNeg))) fcX12_194 rfl (fun _ => rfl) ⟨Nat.le_of_ble_eq_true rfl, Nat.le_of_ble_eq_true rfl⟩ ⟨Nat.le_of_ble_eq_true rfl, Nat.le_of_ble_eq_true rfl⟩ (Nat.le_of_ble_eq_true rfl) dX12_paysRights_14 h9 (fun w7 X14_8 => ?_)
  refine q_lstore_n C [(3, .long w7), (0, .ref (q_P E + r0)), (1, .int v1), (2, .int v2)] dX12_paysRights_17 rfl (Nat.le_of_ble_eq_true rfl) rfl ?_
  refine q_iconst C (0 : Int32) dX12_paysRights_18 rfl ?_
  refine q_istore C [(5, .int (0 : Int32)), (3, .long w7), (0, .ref (q_P E + r0)), (1, .int v1), (2, .int v2)] dX12_paysRights_19 (Nat.le_of_ble_eq_true rfl) rfl ?_
  refine q_sub C [(0, .ref (q_P E + r0)), (1, .int v1), (2, .int v2), (3, .long w7), (5, .int (0 : Int32))] [2, 3, 4, 1, 0] rfl ?_
  exact gX12_paysRights_L21 C n n r0 v1 v2 w7 (0 : Int32) X14_8
/-! RecordClaimsModel.moneyOf(IJ)J -/
abbrev cX12_moneyOf : ByteArray := prog_14_method_41_code
def yX12_moneyOf : MethodName := ⟨RX12, "moneyOf", "(IJ)J"⟩
theorem dX12_moneyOf_0 : decode cX12_moneyOf 0 = .ok (.lload_n 2, 1) := by decide +kernel
theorem dX12_moneyOf_1 : decode cX12_moneyOf 1 = .ok (.aload_n 0, 1) := by decide +kernel
theorem dX12_moneyOf_2 : decode cX12_moneyOf 2 = .ok (.getfield 11, 3) := by decide +kernel
theorem dX12_moneyOf_5 : decode cX12_moneyOf 5 = .ok (.aload_n 0, 1) := by decide +kernel
theorem dX12_moneyOf_6 : decode cX12_moneyOf 6 = .ok (.iload_n 1, 1) := by decide +kernel
theorem dX12_moneyOf_7 : decode cX12_moneyOf 7 = .ok (.bipush 10, 2) := by decide +kernel
theorem dX12_moneyOf_9 : decode cX12_moneyOf 9 = .ok (.invokevirtual 66, 3) := by decide +kernel
theorem dX12_moneyOf_12 : decode cX12_moneyOf 12 = .ok (.laload, 1) := by decide +kernel
theorem dX12_moneyOf_13 : decode cX12_moneyOf 13 = .ok (.lmul, 1) := by decide +kernel
theorem dX12_moneyOf_14 : decode cX12_moneyOf 14 = .ok (.aload_n 0, 1) := by decide +kernel
theorem dX12_moneyOf_15 : decode cX12_moneyOf 15 = .ok (.iload_n 1, 1) := by decide +kernel
theorem dX12_moneyOf_16 : decode cX12_moneyOf 16 = .ok (.lload_n 2, 1) := by decide +kernel
theorem dX12_moneyOf_17 : decode cX12_moneyOf 17 = .ok (.invokevirtual 190, 3) := by decide +kernel
theorem dX12_moneyOf_20 : decode cX12_moneyOf 20 = .ok (.ladd, 1) := by decide +kernel
theorem dX12_moneyOf_21 : decode cX12_moneyOf 21 = .ok (.lreturn, 1) := by decide +kernel
def fX12_moneyOf (r0 : Nat) (v1 : Int32) (v2 : Int64) (X : Mm) : Option (Int64 × Mm) :=
if mT X r0 = 12 then
if mR X r0 1 ≠ 0 then
bd (fX12_of r0 v1 (10 : Int32) X) fun w3 X9_4 =>
if mT X9_4 (mR X r0 1) = 15 then
if q_b X9_4 (mR X r0 1) w3 then
if mT X9_4 r0 = 12 then
bd (fX12_cashOf r0 v1 v2 X9_4) fun w7 X17_8 =>
some (((v2 * (mJ X9_4 (mR X r0 1) (w3).toNatClampNeg)) + w7), X17_8)
else none
else none
else none
else none
else none
theorem sX12_moneyOf (r0 : Nat) (v1 : Int32) (v2 : Int64) : q_Ct yX12_moneyOf cX12_moneyOf 4 (some .long) 2 45 0 0 q_eL (fun P => [.ref (P + r0), .int v1, .long v2]) (fX12_moneyOf r0 v1 v2) := by
  refine q_meth (by decide +kernel) (fun P => Nat.le_of_ble_eq_true rfl) (fun E X C hn => ?_)
  show Sm E (q_fin E q_eL X 0 0) 0 0 0 [(0, .ref (q_P E + r0)), (1, .int v1), (2, .long v2)] [] X _
  unfold fX12_moneyOf
  refine q_lload_n C 2 dX12_moneyOf_0 rfl rfl ?_
  refine q_aload_n C 0 dX12_moneyOf_1 rfl rfl ?_
  refine q_chk (fun h1 => ?_)
  refine q_chk (fun h2 => ?_)
  refine p_getR C fgX12_11 rfl dX12_moneyOf_2 h1 h2 ?_
  refine q_aload_n C 0 dX12_moneyOf_5 rfl rfl ?_
  refine q_iload_n C 1 dX12_moneyOf_6 rfl rfl ?_
  refine q_bipush C (10 : Int32) dX12_moneyOf_7 rfl ?_
  refine q_cVI (As := (fun P => [.int v1, .int (10 : Int32)])) C [.ref (q_P E + (mR X r0 1)), .long v2] (sX12_of r0 v1 (10 : Int32)) fcX12_66 rfl (fun _ => rfl) ⟨Nat.le_of_ble_eq_true rfl, Nat.le_of_ble_eq_true rfl⟩ ⟨Nat.le_of_ble_eq_true rfl, Nat.le_of_ble_eq_true rfl⟩ (Nat.le_of_ble_eq_true rfl) dX12_moneyOf_9 h1 (fun w3 X9_4 => ?_)
  refine q_chk (fun h5 => ?_)
  refine q_chk (fun h6 => ?_)
  refine p_lald C dX12_moneyOf_12 h5 h6 ?_
  refine q_lmul C dX12_moneyOf_13 ?_
  refine q_aload_n C 0 dX12_moneyOf_14 rfl rfl ?_
  refine q_iload_n C 1 dX12_moneyOf_15 rfl rfl ?_
  refine q_lload_n C 2 dX12_moneyOf_16 rfl rfl ?_
  refine q_chk (fun h9 => ?_)
  refine q_cVL (As := (fun P => [.int v1, .long v2])) C [.long (v2 * (mJ X9_4 (mR X r0 1) (w3).toNatClampNeg))] (sX12_cashOf r0 v1 v2) fcX12_190 rfl (fun _ => rfl) ⟨Nat.le_of_ble_eq_true rfl, Nat.le_of_ble_eq_true rfl⟩ ⟨Nat.le_of_ble_eq_true rfl, Nat.le_of_ble_eq_true rfl⟩ (Nat.le_of_ble_eq_true rfl) dX12_moneyOf_17 h9 (fun w7 X17_8 => ?_)
  refine q_ladd C dX12_moneyOf_20 ?_
  exact q_lret C dX12_moneyOf_21
/-! RecordClaimsModel.goesOver(II)V -/
abbrev cX12_goesOver : ByteArray := prog_14_method_42_code
def yX12_goesOver : MethodName := ⟨RX12, "goesOver", "(II)V"⟩
theorem dX12_goesOver_0 : decode cX12_goesOver 0 = .ok (.aload_n 0, 1) := by decide +kernel
theorem dX12_goesOver_1 : decode cX12_goesOver 1 = .ok (.getfield 11, 3) := by decide +kernel
theorem dX12_goesOver_4 : decode cX12_goesOver 4 = .ok (.aload_n 0, 1) := by decide +kernel
theorem dX12_goesOver_5 : decode cX12_goesOver 5 = .ok (.iload_n 1, 1) := by decide +kernel
theorem dX12_goesOver_6 : decode cX12_goesOver 6 = .ok (.iload_n 2, 1) := by decide +kernel
theorem dX12_goesOver_7 : decode cX12_goesOver 7 = .ok (.iconst 0, 1) := by decide +kernel
theorem dX12_goesOver_8 : decode cX12_goesOver 8 = .ok (.invokevirtual 164, 3) := by decide +kernel
theorem dX12_goesOver_11 : decode cX12_goesOver 11 = .ok (.laload, 1) := by decide +kernel
theorem dX12_goesOver_12 : decode cX12_goesOver 12 = .ok (.lstore_n 3, 1) := by decide +kernel
theorem dX12_goesOver_13 : decode cX12_goesOver 13 = .ok (.aload_n 0, 1) := by decide +kernel
theorem dX12_goesOver_14 : decode cX12_goesOver 14 = .ok (.getfield 11, 3) := by decide +kernel
theorem dX12_goesOver_17 : decode cX12_goesOver 17 = .ok (.aload_n 0, 1) := by decide +kernel
theorem dX12_goesOver_18 : decode cX12_goesOver 18 = .ok (.iload_n 1, 1) := by decide +kernel
theorem dX12_goesOver_19 : decode cX12_goesOver 19 = .ok (.iload_n 2, 1) := by decide +kernel
theorem dX12_goesOver_20 : decode cX12_goesOver 20 = .ok (.iconst 1, 1) := by decide +kernel
theorem dX12_goesOver_21 : decode cX12_goesOver 21 = .ok (.invokevirtual 164, 3) := by decide +kernel
theorem dX12_goesOver_24 : decode cX12_goesOver 24 = .ok (.laload, 1) := by decide +kernel
theorem dX12_goesOver_25 : decode cX12_goesOver 25 = .ok (.lstore 5, 2) := by decide +kernel
theorem dX12_goesOver_27 : decode cX12_goesOver 27 = .ok (.aload_n 0, 1) := by decide +kernel
theorem dX12_goesOver_28 : decode cX12_goesOver 28 = .ok (.getfield 11, 3) := by decide +kernel
theorem dX12_goesOver_31 : decode cX12_goesOver 31 = .ok (.aload_n 0, 1) := by decide +kernel
theorem dX12_goesOver_32 : decode cX12_goesOver 32 = .ok (.iload_n 1, 1) := by decide +kernel
theorem dX12_goesOver_33 : decode cX12_goesOver 33 = .ok (.iload_n 2, 1) := by decide +kernel
theorem dX12_goesOver_34 : decode cX12_goesOver 34 = .ok (.iconst 2, 1) := by decide +kernel
theorem dX12_goesOver_35 : decode cX12_goesOver 35 = .ok (.invokevirtual 164, 3) := by decide +kernel
theorem dX12_goesOver_38 : decode cX12_goesOver 38 = .ok (.laload, 1) := by decide +kernel
theorem dX12_goesOver_39 : decode cX12_goesOver 39 = .ok (.lstore 7, 2) := by decide +kernel
theorem dX12_goesOver_41 : decode cX12_goesOver 41 = .ok (.aload_n 0, 1) := by decide +kernel
theorem dX12_goesOver_42 : decode cX12_goesOver 42 = .ok (.getfield 11, 3) := by decide +kernel
theorem dX12_goesOver_45 : decode cX12_goesOver 45 = .ok (.aload_n 0, 1) := by decide +kernel
theorem dX12_goesOver_46 : decode cX12_goesOver 46 = .ok (.iload_n 1, 1) := by decide +kernel
theorem dX12_goesOver_47 : decode cX12_goesOver 47 = .ok (.iload_n 2, 1) := by decide +kernel
theorem dX12_goesOver_48 : decode cX12_goesOver 48 = .ok (.iconst 4, 1) := by decide +kernel
theorem dX12_goesOver_49 : decode cX12_goesOver 49 = .ok (.invokevirtual 164, 3) := by decide +kernel
theorem dX12_goesOver_52 : decode cX12_goesOver 52 = .ok (.ldc2_w 136, 3) := by decide +kernel
theorem dX12_goesOver_55 : decode cX12_goesOver 55 = .ok (.lastore, 1) := by decide +kernel
theorem dX12_goesOver_56 : decode cX12_goesOver 56 = .ok (.aload_n 0, 1) := by decide +kernel
theorem dX12_goesOver_57 : decode cX12_goesOver 57 = .ok (.iload_n 1, 1) := by decide +kernel
theorem dX12_goesOver_58 : decode cX12_goesOver 58 = .ok (.lload 7, 2) := by decide +kernel
theorem dX12_goesOver_60 : decode cX12_goesOver 60 = .ok (.invokevirtual 194, 3) := by decide +kernel
theorem dX12_goesOver_63 : decode cX12_goesOver 63 = .ok (.aload_n 0, 1) := by decide +kernel
theorem dX12_goesOver_64 : decode cX12_goesOver 64 = .ok (.lload_n 3, 1) := by decide +kernel
theorem dX12_goesOver_65 : decode cX12_goesOver 65 = .ok (.aload_n 0, 1) := by decide +kernel
theorem dX12_goesOver_66 : decode cX12_goesOver 66 = .ok (.getfield 11, 3) := by decide +kernel
theorem dX12_goesOver_69 : decode cX12_goesOver 69 = .ok (.aload_n 0, 1) := by decide +kernel
theorem dX12_goesOver_70 : decode cX12_goesOver 70 = .ok (.iload_n 1, 1) := by decide +kernel
theorem dX12_goesOver_71 : decode cX12_goesOver 71 = .ok (.iconst 1, 1) := by decide +kernel
theorem dX12_goesOver_72 : decode cX12_goesOver 72 = .ok (.invokevirtual 66, 3) := by decide +kernel
theorem dX12_goesOver_75 : decode cX12_goesOver 75 = .ok (.laload, 1) := by decide +kernel
theorem dX12_goesOver_76 : decode cX12_goesOver 76 = .ok (.invokevirtual 171, 3) := by decide +kernel
theorem dX12_goesOver_79 : decode cX12_goesOver 79 = .ok (.lcmp, 1) := by decide +kernel
theorem dX12_goesOver_80 : decode cX12_goesOver 80 = .ok (.ifCond .le 4, 3) := by decide +kernel
theorem dX12_goesOver_83 : decode cX12_goesOver 83 = .ok (.return_, 1) := by decide +kernel
theorem dX12_goesOver_84 : decode cX12_goesOver 84 = .ok (.aload_n 0, 1) := by decide +kernel
theorem dX12_goesOver_85 : decode cX12_goesOver 85 = .ok (.getfield 11, 3) := by decide +kernel
theorem dX12_goesOver_88 : decode cX12_goesOver 88 = .ok (.aload_n 0, 1) := by decide +kernel
theorem dX12_goesOver_89 : decode cX12_goesOver 89 = .ok (.iload_n 1, 1) := by decide +kernel
theorem dX12_goesOver_90 : decode cX12_goesOver 90 = .ok (.iload_n 2, 1) := by decide +kernel
theorem dX12_goesOver_91 : decode cX12_goesOver 91 = .ok (.iconst 4, 1) := by decide +kernel
theorem dX12_goesOver_92 : decode cX12_goesOver 92 = .ok (.invokevirtual 164, 3) := by decide +kernel
theorem dX12_goesOver_95 : decode cX12_goesOver 95 = .ok (.lconst 1, 1) := by decide +kernel
theorem dX12_goesOver_96 : decode cX12_goesOver 96 = .ok (.lastore, 1) := by decide +kernel
theorem dX12_goesOver_97 : decode cX12_goesOver 97 = .ok (.aload_n 0, 1) := by decide +kernel
theorem dX12_goesOver_98 : decode cX12_goesOver 98 = .ok (.lload_n 3, 1) := by decide +kernel
theorem dX12_goesOver_99 : decode cX12_goesOver 99 = .ok (.aload_n 0, 1) := by decide +kernel
theorem dX12_goesOver_100 : decode cX12_goesOver 100 = .ok (.getfield 11, 3) := by decide +kernel
theorem dX12_goesOver_103 : decode cX12_goesOver 103 = .ok (.aload_n 0, 1) := by decide +kernel
theorem dX12_goesOver_104 : decode cX12_goesOver 104 = .ok (.iload_n 1, 1) := by decide +kernel
theorem dX12_goesOver_105 : decode cX12_goesOver 105 = .ok (.iconst 1, 1) := by decide +kernel
theorem dX12_goesOver_106 : decode cX12_goesOver 106 = .ok (.invokevirtual 66, 3) := by decide +kernel
theorem dX12_goesOver_109 : decode cX12_goesOver 109 = .ok (.laload, 1) := by decide +kernel
theorem dX12_goesOver_110 : decode cX12_goesOver 110 = .ok (.aload_n 0, 1) := by decide +kernel
theorem dX12_goesOver_111 : decode cX12_goesOver 111 = .ok (.iload_n 1, 1) := by decide +kernel
theorem dX12_goesOver_112 : decode cX12_goesOver 112 = .ok (.lload 7, 2) := by decide +kernel
theorem dX12_goesOver_114 : decode cX12_goesOver 114 = .ok (.invokevirtual 194, 3) := by decide +kernel
theorem dX12_goesOver_117 : decode cX12_goesOver 117 = .ok (.lneg, 1) := by decide +kernel
theorem dX12_goesOver_118 : decode cX12_goesOver 118 = .ok (.invokevirtual 175, 3) := by decide +kernel
theorem dX12_goesOver_121 : decode cX12_goesOver 121 = .ok (.aload_n 0, 1) := by decide +kernel
theorem dX12_goesOver_122 : decode cX12_goesOver 122 = .ok (.lload 5, 2) := by decide +kernel
theorem dX12_goesOver_124 : decode cX12_goesOver 124 = .ok (.aload_n 0, 1) := by decide +kernel
theorem dX12_goesOver_125 : decode cX12_goesOver 125 = .ok (.getfield 11, 3) := by decide +kernel
theorem dX12_goesOver_128 : decode cX12_goesOver 128 = .ok (.aload_n 0, 1) := by decide +kernel
theorem dX12_goesOver_129 : decode cX12_goesOver 129 = .ok (.iload_n 1, 1) := by decide +kernel
theorem dX12_goesOver_130 : decode cX12_goesOver 130 = .ok (.iconst 1, 1) := by decide +kernel
theorem dX12_goesOver_131 : decode cX12_goesOver 131 = .ok (.invokevirtual 66, 3) := by decide +kernel
theorem dX12_goesOver_134 : decode cX12_goesOver 134 = .ok (.laload, 1) := by decide +kernel
theorem dX12_goesOver_135 : decode cX12_goesOver 135 = .ok (.aload_n 0, 1) := by decide +kernel
theorem dX12_goesOver_136 : decode cX12_goesOver 136 = .ok (.iload_n 1, 1) := by decide +kernel
theorem dX12_goesOver_137 : decode cX12_goesOver 137 = .ok (.lload 7, 2) := by decide +kernel
theorem dX12_goesOver_139 : decode cX12_goesOver 139 = .ok (.invokevirtual 194, 3) := by decide +kernel
theorem dX12_goesOver_142 : decode cX12_goesOver 142 = .ok (.invokevirtual 175, 3) := by decide +kernel
theorem dX12_goesOver_145 : decode cX12_goesOver 145 = .ok (.aload_n 0, 1) := by decide +kernel
theorem dX12_goesOver_146 : decode cX12_goesOver 146 = .ok (.lload_n 3, 1) := by decide +kernel
theorem dX12_goesOver_147 : decode cX12_goesOver 147 = .ok (.aload_n 0, 1) := by decide +kernel
theorem dX12_goesOver_148 : decode cX12_goesOver 148 = .ok (.iload_n 1, 1) := by decide +kernel
theorem dX12_goesOver_149 : decode cX12_goesOver 149 = .ok (.lload 7, 2) := by decide +kernel
theorem dX12_goesOver_151 : decode cX12_goesOver 151 = .ok (.invokevirtual 208, 3) := by decide +kernel
theorem dX12_goesOver_154 : decode cX12_goesOver 154 = .ok (.lneg, 1) := by decide +kernel
theorem dX12_goesOver_155 : decode cX12_goesOver 155 = .ok (.invokevirtual 182, 3) := by decide +kernel
theorem dX12_goesOver_158 : decode cX12_goesOver 158 = .ok (.aload_n 0, 1) := by decide +kernel
theorem dX12_goesOver_159 : decode cX12_goesOver 159 = .ok (.lload 5, 2) := by decide +kernel
theorem dX12_goesOver_161 : decode cX12_goesOver 161 = .ok (.aload_n 0, 1) := by decide +kernel
theorem dX12_goesOver_162 : decode cX12_goesOver 162 = .ok (.iload_n 1, 1) := by decide +kernel
theorem dX12_goesOver_163 : decode cX12_goesOver 163 = .ok (.lload 7, 2) := by decide +kernel
theorem dX12_goesOver_165 : decode cX12_goesOver 165 = .ok (.invokevirtual 208, 3) := by decide +kernel
theorem dX12_goesOver_168 : decode cX12_goesOver 168 = .ok (.invokevirtual 182, 3) := by decide +kernel
theorem dX12_goesOver_171 : decode cX12_goesOver 171 = .ok (.return_, 1) := by decide +kernel
theorem fcX12_208 : q_LV RX12 208 yX12_moneyOf cX12_moneyOf 4 (some .long) 2 12 := ⟨q_tb 1646 (by decide +kernel) rfl, q_tb 1648 (by decide +kernel) rfl, q_tbs (q := (yX12_moneyOf, 35)) 114 (by decide +kernel) rfl, q_tb 13 (by decide +kernel) rfl, q_tb 1649 (by decide +kernel) rfl, ⟨by decide +kernel, by decide +kernel, by decide +kernel⟩, TX12, 35, rfl⟩
def fX12_goesOver (r0 : Nat) (v1 : Int32) (v2 : Int32) (X : Mm) : Option (Unit × Mm) :=
if mT X r0 = 12 then
if mR X r0 1 ≠ 0 then
bd (fX12_ofClaim r0 v1 v2 (0 : Int32) X) fun w3 X8_4 =>
if mT X8_4 (mR X r0 1) = 15 then
if q_b X8_4 (mR X r0 1) w3 then
nm ((mJ X8_4 (mR X r0 1) (w3).toNatClampNeg)) fun v3_12 =>
if mT X8_4 r0 = 12 then
if mR X8_4 r0 1 ≠ 0 then
bd (fX12_ofClaim r0 v1 v2 (1 : Int32) X8_4) fun w10 X21_11 =>
if mT X21_11 (mR X8_4 r0 1) = 15 then
if q_b X21_11 (mR X8_4 r0 1) w10 then
nm ((mJ X21_11 (mR X8_4 r0 1) (w10).toNatClampNeg)) fun v5_25 =>
if mT X21_11 r0 = 12 then
if mR X21_11 r0 1 ≠ 0 then
bd (fX12_ofClaim r0 v1 v2 (2 : Int32) X21_11) fun w17 X35_18 =>
if mT X35_18 (mR X21_11 r0 1) = 15 then
if q_b X35_18 (mR X21_11 r0 1) w17 then
nm ((mJ X35_18 (mR X21_11 r0 1) (w17).toNatClampNeg)) fun v7_39 =>
if mT X35_18 r0 = 12 then
if mR X35_18 r0 1 ≠ 0 then
bd (fX12_ofClaim r0 v1 v2 (4 : Int32) X35_18) fun w24 X49_25 =>
if mT X49_25 (mR X35_18 r0 1) = 15 then
if q_b X49_25 (mR X35_18 r0 1) w24 then
nm (sJ X49_25 (mR X35_18 r0 1) (w24).toNatClampNeg (2 : Int64)) fun X55_26 =>
if mT X55_26 r0 = 12 then
bd (fX12_wholeOf r0 v1 v7_39 X55_26) fun w29 X60_30 =>
if mT X60_30 r0 = 12 then
if mR X60_30 r0 1 ≠ 0 then
bd (fX12_of r0 v1 (1 : Int32) X60_30) fun w34 X72_35 =>
if mT X72_35 (mR X60_30 r0 1) = 15 then
if q_b X72_35 (mR X60_30 r0 1) w34 then
if mT X72_35 r0 = 12 then
bd (fX12_sharesOf r0 v3_12 ((mJ X72_35 (mR X60_30 r0 1) (w34).toNatClampNeg)) X72_35) fun w38 X76_39 =>
if (lg_cmp w29 w38) ≤ 0 then (
if mT X76_39 r0 = 12 then
if mR X76_39 r0 1 ≠ 0 then
bd (fX12_ofClaim r0 v1 v2 (4 : Int32) X76_39) fun w43 X92_44 =>
if mT X92_44 (mR X76_39 r0 1) = 15 then
if q_b X92_44 (mR X76_39 r0 1) w43 then
nm (sJ X92_44 (mR X76_39 r0 1) (w43).toNatClampNeg (1 : Int64)) fun X96_45 =>
if mT X96_45 r0 = 12 then
if mR X96_45 r0 1 ≠ 0 then
bd (fX12_of r0 v1 (1 : Int32) X96_45) fun w50 X106_51 =>
if mT X106_51 (mR X96_45 r0 1) = 15 then
if q_b X106_51 (mR X96_45 r0 1) w50 then
if mT X106_51 r0 = 12 then
bd (fX12_wholeOf r0 v1 v7_39 X106_51) fun w54 X114_55 =>
if mT X114_55 r0 = 12 then
bd (fX12_givesShares r0 v3_12 ((mJ X106_51 (mR X96_45 r0 1) (w50).toNatClampNeg)) ((-w54)) X114_55) fun _ X118_58 =>
if mT X118_58 r0 = 12 then
if mR X118_58 r0 1 ≠ 0 then
bd (fX12_of r0 v1 (1 : Int32) X118_58) fun w62 X131_63 =>
if mT X131_63 (mR X118_58 r0 1) = 15 then
if q_b X131_63 (mR X118_58 r0 1) w62 then
if mT X131_63 r0 = 12 then
bd (fX12_wholeOf r0 v1 v7_39 X131_63) fun w66 X139_67 =>
if mT X139_67 r0 = 12 then
bd (fX12_givesShares r0 v5_25 ((mJ X131_63 (mR X118_58 r0 1) (w62).toNatClampNeg)) w66 X139_67) fun _ X142_70 =>
if mT X142_70 r0 = 12 then
bd (fX12_moneyOf r0 v1 v7_39 X142_70) fun w72 X151_73 =>
if mT X151_73 r0 = 12 then
bd (fX12_givesMoney r0 v3_12 ((-w72)) X151_73) fun _ X155_76 =>
if mT X155_76 r0 = 12 then
bd (fX12_moneyOf r0 v1 v7_39 X155_76) fun w78 X165_79 =>
if mT X165_79 r0 = 12 then
bd (fX12_givesMoney r0 v5_25 w78 X165_79) fun _ X168_82 =>
some ((), X168_82)
else none
else none
else none
else none
else none
else none
else none
else none
else none
else none
else none
else none
else none
else none
else none
else none
else none
else none
else none
else none
) else (
some ((), X76_39)
)
else none
else none
else none
else none
else none
else none
else none
else none
else none
else none
else none
else none
else none
else none
else none
else none
else none
else none
else none
else none
else none
else none
theorem sX12_goesOver (r0 : Nat) (v1 : Int32) (v2 : Int32) : q_Ct yX12_goesOver cX12_goesOver 9 none 3 68 0 0 q_eV (fun P => [.ref (P + r0), .int v1, .int v2]) (fX12_goesOver r0 v1 v2) := by
  refine q_meth (by decide +kernel) (fun P => Nat.le_of_ble_eq_true rfl) (fun E X C hn => ?_)
  show Sm E (q_fin E q_eV X 0 0) 0 0 0 [(0, .ref (q_P E + r0)), (1, .int v1), (2, .int v2)] [] X _
  unfold fX12_goesOver
  refine q_aload_n C 0 dX12_goesOver_0 rfl rfl ?_
  refine q_chk (fun h1 => ?_)
  refine q_chk (fun h2 => ?_)
  refine p_getR C fgX12_11 rfl dX12_goesOver_1 h1 h2 ?_
  refine q_aload_n C 0 dX12_goesOver_4 rfl rfl ?_
  refine q_iload_n C 1 dX12_goesOver_5 rfl rfl ?_
  refine q_iload_n C 2 dX12_goesOver_6 rfl rfl ?_
  refine q_iconst C (0 : Int32) dX12_goesOver_7 rfl ?_
  refine q_cVI (As := (fun P => [.int v1, .int v2, .int (0 : Int32)])) C [.ref (q_P E + (mR X r0 1))] (sX12_ofClaim r0 v1 v2 (0 : Int32)) fcX12_164 rfl (fun _ => rfl) ⟨Nat.le_of_ble_eq_true rfl, Nat.le_of_ble_eq_true rfl⟩ ⟨Nat.le_of_ble_eq_true rfl, Nat.le_of_ble_eq_true rfl⟩ (Nat.le_of_ble_eq_true rfl) dX12_goesOver_8 h1 (fun w3 X8_4 => ?_)
  refine q_chk (fun h5 => ?_)
  refine q_chk (fun h6 => ?_)
  refine p_lald C dX12_goesOver_11 h5 h6 ?_
  refine q_nml (fun v3_12 => ?_)
  refine q_lstore_n C [(3, .long v3_12), (0, .ref (q_P E + r0)), (1, .int v1), (2, .int v2)] dX12_goesOver_12 rfl (Nat.le_of_ble_eq_true rfl) rfl ?_
  refine q_aload_n C 1 dX12_goesOver_13 rfl rfl ?_
  refine q_chk (fun h8 => ?_)
  refine q_chk (fun h9 => ?_)
  refine p_getR C fgX12_11 rfl dX12_goesOver_14 h8 h9 ?_
  refine q_aload_n C 1 dX12_goesOver_17 rfl rfl ?_
  refine q_iload_n C 2 dX12_goesOver_18 rfl rfl ?_
  refine q_iload_n C 3 dX12_goesOver_19 rfl rfl ?_
  refine q_iconst C (1 : Int32) dX12_goesOver_20 rfl ?_
  refine q_cVI (As := (fun P => [.int v1, .int v2, .int (1 : Int32)])) C [.ref (q_P E + (mR X8_4 r0 1))] (sX12_ofClaim r0 v1 v2 (1 : Int32)) fcX12_164 rfl (fun _ => rfl) ⟨Nat.le_of_ble_eq_true rfl, Nat.le_of_ble_eq_true rfl⟩ ⟨Nat.le_of_ble_eq_true rfl, Nat.le_of_ble_eq_true rfl⟩ (Nat.le_of_ble_eq_true rfl) dX12_goesOver_21 h8 (fun w10 X21_11 => ?_)
  refine q_chk (fun h12 => ?_)
  refine q_chk (fun h13 => ?_)
  refine p_lald C dX12_goesOver_24 h12 h13 ?_
  refine q_nml (fun v5_25 => ?_)
  refine q_lstore C [(5, .long v5_25), (3, .long v3_12), (0, .ref (q_P E + r0)), (1, .int v1), (2, .int v2)] dX12_goesOver_25 (Nat.le_of_ble_eq_true rfl) rfl ?_
  refine q_aload_n C 2 dX12_goesOver_27 rfl rfl ?_
  refine q_chk (fun h15 => ?_)
  refine q_chk (fun h16 => ?_)
  refine p_getR C fgX12_11 rfl dX12_goesOver_28 h15 h16 ?_
  refine q_aload_n C 2 dX12_goesOver_31 rfl rfl ?_
  refine q_iload_n C 3 dX12_goesOver_32 rfl rfl ?_
  refine q_iload_n C 4 dX12_goesOver_33 rfl rfl ?_
  refine q_iconst C (2 : Int32) dX12_goesOver_34 rfl ?_
  refine q_cVI (As := (fun P => [.int v1, .int v2, .int (2 : Int32)])) C [.ref (q_P E + (mR X21_11 r0 1))] (sX12_ofClaim r0 v1 v2 (2 : Int32)) fcX12_164 rfl (fun _ => rfl) ⟨Nat.le_of_ble_eq_true rfl, Nat.le_of_ble_eq_true rfl⟩ ⟨Nat.le_of_ble_eq_true rfl, Nat.le_of_ble_eq_true rfl⟩ (Nat.le_of_ble_eq_true rfl) dX12_goesOver_35 h15 (fun w17 X35_18 => ?_)
  refine q_chk (fun h19 => ?_)
  refine q_chk (fun h20 => ?_)
  refine p_lald C dX12_goesOver_38 h19 h20 ?_
  refine q_nml (fun v7_39 => ?_)
  refine q_lstore C [(7, .long v7_39), (5, .long v5_25), (3, .long v3_12), (0, .ref (q_P E + r0)), (1, .int v1), (2, .int v2)] dX12_goesOver_39 (Nat.le_of_ble_eq_true rfl) rfl ?_
  refine q_aload_n C 3 dX12_goesOver_41 rfl rfl ?_
  refine q_chk (fun h22 => ?_)
  refine q_chk (fun h23 => ?_)
  refine p_getR C fgX12_11 rfl dX12_goesOver_42 h22 h23 ?_
  refine q_aload_n C 3 dX12_goesOver_45 rfl rfl ?_
  refine q_iload_n C 4 dX12_goesOver_46 rfl rfl ?_
  refine q_iload_n C 5 dX12_goesOver_47 rfl rfl ?_
  refine q_iconst C (4 : Int32) dX12_goesOver_48 rfl ?_
  refine q_cVI (As := (fun P => [.int v1, .int v2, .int (4 : Int32)])) C [.ref (q_P E + (mR X35_18 r0 1))] (sX12_ofClaim r0 v1 v2 (4 : Int32)) fcX12_164 rfl (fun _ => rfl) ⟨Nat.le_of_ble_eq_true rfl, Nat.le_of_ble_eq_true rfl⟩ ⟨Nat.le_of_ble_eq_true rfl, Nat.le_of_ble_eq_true rfl⟩ (Nat.le_of_ble_eq_true rfl) dX12_goesOver_49 h22 (fun w24 X49_25 => ?_)
  refine q_ldc2 C dX12_goesOver_52 fkX12_136 ?_
  refine q_chk (fun h27 => ?_)
  refine q_chk (fun h28 => ?_)
  refine p_last C dX12_goesOver_55 h27 h28 ?_
  refine q_nmX (fun X55_26 => ?_)
  refine q_aload_n C 3 dX12_goesOver_56 rfl rfl ?_
  refine q_iload_n C 4 dX12_goesOver_57 rfl rfl ?_
  refine q_lload C 0 dX12_goesOver_58 rfl ?_
  refine q_chk (fun h31 => ?_)
  refine q_cVL (As := (fun P => [.int v1, .long v7_39])) C [] (sX12_wholeOf r0 v1 v7_39) fcX12_194 rfl (fun _ => rfl) ⟨Nat.le_of_ble_eq_true rfl, Nat.le_of_ble_eq_true rfl⟩ ⟨Nat.le_of_ble_eq_true rfl, Nat.le_of_ble_eq_true rfl⟩ (Nat.le_of_ble_eq_true rfl) dX12_goesOver_60 h31 (fun w29 X60_30 => ?_)
  refine q_aload_n C 3 dX12_goesOver_63 rfl rfl ?_
  refine q_lload_n C 2 dX12_goesOver_64 rfl rfl ?_
  refine q_aload_n C 3 dX12_goesOver_65 rfl rfl ?_
  refine q_chk (fun h32 => ?_)
  refine q_chk (fun h33 => ?_)
  refine p_getR C fgX12_11 rfl dX12_goesOver_66 h32 h33 ?_
  refine q_aload_n C 3 dX12_goesOver_69 rfl rfl ?_
  refine q_iload_n C 4 dX12_goesOver_70 rfl rfl ?_
  refine q_iconst C (1 : Int32) dX12_goesOver_71 rfl ?_
  refine q_cVI (As := (fun P => [.int v1, .int (1 : Int32)])) C [.ref (q_P E + (mR X60_30 r0 1)), .long v3_12, .ref (q_P E + r0), .long w29] (sX12_of r0 v1 (1 : Int32)) fcX12_66 rfl (fun _ => rfl) ⟨Nat.le_of_ble_eq_true rfl, Nat.le_of_ble_eq_true rfl⟩ ⟨Nat.le_of_ble_eq_true rfl, Nat.le_of_ble_eq_true rfl⟩ (Nat.le_of_ble_eq_true rfl) dX12_goesOver_72 h32 (fun w34 X72_35 => ?_)
  refine q_chk (fun h36 => ?_)
  refine q_chk (fun h37 => ?_)
  refine p_lald C dX12_goesOver_75 h36 h37 ?_
  refine q_chk (fun h40 => ?_)
  refine q_cVL (As := (fun P => [.long v3_12, .long (mJ X72_35 (mR X60_30 r0 1) (w34).toNatClampNeg)])) C [.long w29] (sX12_sharesOf r0 v3_12 ((mJ X72_35 (mR X60_30 r0 1) (w34).toNatClampNeg))) fcX12_171 rfl (fun _ => rfl) ⟨Nat.le_of_ble_eq_true rfl, Nat.le_of_ble_eq_true rfl⟩ ⟨Nat.le_of_ble_eq_true rfl, Nat.le_of_ble_eq_true rfl⟩ (Nat.le_of_ble_eq_true rfl) dX12_goesOver_76 h40 (fun w38 X76_39 => ?_)
  refine q_lcmp C dX12_goesOver_79 ?_
  refine q_if_le C 84 dX12_goesOver_80 (by decide) (fun _ => ?_) (fun _ => ?_)
  · refine q_aload_n C 3 dX12_goesOver_84 rfl rfl ?_
    refine q_chk (fun h41 => ?_)
    refine q_chk (fun h42 => ?_)
    refine p_getR C fgX12_11 rfl dX12_goesOver_85 h41 h42 ?_
    refine q_aload_n C 3 dX12_goesOver_88 rfl rfl ?_
    refine q_iload_n C 4 dX12_goesOver_89 rfl rfl ?_
    refine q_iload_n C 5 dX12_goesOver_90 rfl rfl ?_
    refine q_iconst C (4 : Int32) dX12_goesOver_91 rfl ?_
    refine q_cVI (As := (fun P => [.int v1, .int v2, .int (4 : Int32)])) C [.ref (q_P E + (mR X76_39 r0 1))] (sX12_ofClaim r0 v1 v2 (4 : Int32)) fcX12_164 rfl (fun _ => rfl) ⟨Nat.le_of_ble_eq_true rfl, Nat.le_of_ble_eq_true rfl⟩ ⟨Nat.le_of_ble_eq_true rfl, Nat.le_of_ble_eq_true rfl⟩ (Nat.le_of_ble_eq_true rfl) dX12_goesOver_92 h41 (fun w43 X92_44 => ?_)
    refine q_lconst C (1 : Int64) dX12_goesOver_95 rfl ?_
    refine q_chk (fun h46 => ?_)
    refine q_chk (fun h47 => ?_)
    refine p_last C dX12_goesOver_96 h46 h47 ?_
    refine q_nmX (fun X96_45 => ?_)
    refine q_aload_n C 3 dX12_goesOver_97 rfl rfl ?_
    refine q_lload_n C 2 dX12_goesOver_98 rfl rfl ?_
    refine q_aload_n C 3 dX12_goesOver_99 rfl rfl ?_
    refine q_chk (fun h48 => ?_)
    refine q_chk (fun h49 => ?_)
    refine p_getR C fgX12_11 rfl dX12_goesOver_100 h48 h49 ?_
    refine q_aload_n C 3 dX12_goesOver_103 rfl rfl ?_
    refine q_iload_n C 4 dX12_goesOver_104 rfl rfl ?_
    refine q_iconst C (1 : Int32) dX12_goesOver_105 rfl ?_
    refine q_cVI (As := (fun P => [.int v1, .int (1 : Int32)])) C [.ref (q_P E + (mR X96_45 r0 1)), .long v3_12, .ref (q_P E + r0)] (sX12_of r0 v1 (1 : Int32)) fcX12_66 rfl (fun _ => rfl) ⟨Nat.le_of_ble_eq_true rfl, Nat.le_of_ble_eq_true rfl⟩ ⟨Nat.le_of_ble_eq_true rfl, Nat.le_of_ble_eq_true rfl⟩ (Nat.le_of_ble_eq_true rfl) dX12_goesOver_106 h48 (fun w50 X106_51 => ?_)
    refine q_chk (fun h52 => ?_)
    refine q_chk (fun h53 => ?_)
    refine p_lald C dX12_goesOver_109 h52 h53 ?_
    refine q_aload_n C 3 dX12_goesOver_110 rfl rfl ?_
    refine q_iload_n C 4 dX12_goesOver_111 rfl rfl ?_
    refine q_lload C 0 dX12_goesOver_112 rfl ?_
    refine q_chk (fun h56 => ?_)
    refine q_cVL (As := (fun P => [.int v1, .long v7_39])) C [.long (mJ X106_51 (mR X96_45 r0 1) (w50).toNatClampNeg), .long v3_12, .ref (q_P E + r0)] (sX12_wholeOf r0 v1 v7_39) fcX12_194 rfl (fun _ => rfl) ⟨Nat.le_of_ble_eq_true rfl, Nat.le_of_ble_eq_true rfl⟩ ⟨Nat.le_of_ble_eq_true rfl, Nat.le_of_ble_eq_true rfl⟩ (Nat.le_of_ble_eq_true rfl) dX12_goesOver_114 h56 (fun w54 X114_55 => ?_)
    refine q_lneg C dX12_goesOver_117 ?_
    refine q_chk (fun h59 => ?_)
    refine q_cVV (As := (fun P => [.long v3_12, .long (mJ X106_51 (mR X96_45 r0 1) (w50).toNatClampNeg), .long (-w54)])) C [] (sX12_givesShares r0 v3_12 ((mJ X106_51 (mR X96_45 r0 1) (w50).toNatClampNeg)) ((-w54))) fcX12_175 rfl (fun _ => rfl) ⟨Nat.le_of_ble_eq_true rfl, Nat.le_of_ble_eq_true rfl⟩ ⟨Nat.le_of_ble_eq_true rfl, Nat.le_of_ble_eq_true rfl⟩ (Nat.le_of_ble_eq_true rfl) dX12_goesOver_118 h59 (fun _ X118_58 => ?_)
    refine q_aload_n C 3 dX12_goesOver_121 rfl rfl ?_
    refine q_lload C 1 dX12_goesOver_122 rfl ?_
    refine q_aload_n C 3 dX12_goesOver_124 rfl rfl ?_
    refine q_chk (fun h60 => ?_)
    refine q_chk (fun h61 => ?_)
    refine p_getR C fgX12_11 rfl dX12_goesOver_125 h60 h61 ?_
    refine q_aload_n C 3 dX12_goesOver_128 rfl rfl ?_
    refine q_iload_n C 4 dX12_goesOver_129 rfl rfl ?_
    refine q_iconst C (1 : Int32) dX12_goesOver_130 rfl ?_
    refine q_cVI (As := (fun P => [.int v1, .int (1 : Int32)])) C [.ref (q_P E + (mR X118_58 r0 1)), .long v5_25, .ref (q_P E + r0)] (sX12_of r0 v1 (1 : Int32)) fcX12_66 rfl (fun _ => rfl) ⟨Nat.le_of_ble_eq_true rfl, Nat.le_of_ble_eq_true rfl⟩ ⟨Nat.le_of_ble_eq_true rfl, Nat.le_of_ble_eq_true rfl⟩ (Nat.le_of_ble_eq_true rfl) dX12_goesOver_131 h60 (fun w62 X131_63 => ?_)
    refine q_chk (fun h64 => ?_)
    refine q_chk (fun h65 => ?_)
    refine p_lald C dX12_goesOver_134 h64 h65 ?_
    refine q_aload_n C 3 dX12_goesOver_135 rfl rfl ?_
    refine q_iload_n C 4 dX12_goesOver_136 rfl rfl ?_
    refine q_lload C 0 dX12_goesOver_137 rfl ?_
    refine q_chk (fun h68 => ?_)
    refine q_cVL (As := (fun P => [.int v1, .long v7_39])) C [.long (mJ X131_63 (mR X118_58 r0 1) (w62).toNatClampNeg), .long v5_25, .ref (q_P E + r0)] (sX12_wholeOf r0 v1 v7_39) fcX12_194 rfl (fun _ => rfl) ⟨Nat.le_of_ble_eq_true rfl, Nat.le_of_ble_eq_true rfl⟩ ⟨Nat.le_of_ble_eq_true rfl, Nat.le_of_ble_eq_true rfl⟩ (Nat.le_of_ble_eq_true rfl) dX12_goesOver_139 h68 (fun w66 X139_67 => ?_)
    refine q_chk (fun h71 => ?_)
    refine q_cVV (As := (fun P => [.long v5_25, .long (mJ X131_63 (mR X118_58 r0 1) (w62).toNatClampNeg), .long w66])) C [] (sX12_givesShares r0 v5_25 ((mJ X131_63 (mR X118_58 r0 1) (w62).toNatClampNeg)) w66) fcX12_175 rfl (fun _ => rfl) ⟨Nat.le_of_ble_eq_true rfl, Nat.le_of_ble_eq_true rfl⟩ ⟨Nat.le_of_ble_eq_true rfl, Nat.le_of_ble_eq_true rfl⟩ (Nat.le_of_ble_eq_true rfl) dX12_goesOver_142 h71 (fun _ X142_70 => ?_)
    refine q_aload_n C 3 dX12_goesOver_145 rfl rfl ?_
    refine q_lload_n C 2 dX12_goesOver_146 rfl rfl ?_
    refine q_aload_n C 3 dX12_goesOver_147 rfl rfl ?_
    refine q_iload_n C 4 dX12_goesOver_148 rfl rfl ?_
    refine q_lload C 0 dX12_goesOver_149 rfl ?_
    refine q_chk (fun h74 => ?_)
    refine q_cVL (As := (fun P => [.int v1, .long v7_39])) C [.long v3_12, .ref (q_P E + r0)] (sX12_moneyOf r0 v1 v7_39) fcX12_208 rfl (fun _ => rfl) ⟨Nat.le_of_ble_eq_true rfl, Nat.le_of_ble_eq_true rfl⟩ ⟨Nat.le_of_ble_eq_true rfl, Nat.le_of_ble_eq_true rfl⟩ (Nat.le_of_ble_eq_true rfl) dX12_goesOver_151 h74 (fun w72 X151_73 => ?_)
    refine q_lneg C dX12_goesOver_154 ?_
    refine q_chk (fun h77 => ?_)
    refine q_cVV (As := (fun P => [.long v3_12, .long (-w72)])) C [] (sX12_givesMoney r0 v3_12 ((-w72))) fcX12_182 rfl (fun _ => rfl) ⟨Nat.le_of_ble_eq_true rfl, Nat.le_of_ble_eq_true rfl⟩ ⟨Nat.le_of_ble_eq_true rfl, Nat.le_of_ble_eq_true rfl⟩ (Nat.le_of_ble_eq_true rfl) dX12_goesOver_155 h77 (fun _ X155_76 => ?_)
    refine q_aload_n C 3 dX12_goesOver_158 rfl rfl ?_
    refine q_lload C 1 dX12_goesOver_159 rfl ?_
    refine q_aload_n C 3 dX12_goesOver_161 rfl rfl ?_
    refine q_iload_n C 4 dX12_goesOver_162 rfl rfl ?_
    refine q_lload C 0 dX12_goesOver_163 rfl ?_
    refine q_chk (fun h80 => ?_)
    refine q_cVL (As := (fun P => [.int v1, .long v7_39])) C [.long v5_25, .ref (q_P E + r0)] (sX12_moneyOf r0 v1 v7_39) fcX12_208 rfl (fun _ => rfl) ⟨Nat.le_of_ble_eq_true rfl, Nat.le_of_ble_eq_true rfl⟩ ⟨Nat.le_of_ble_eq_true rfl, Nat.le_of_ble_eq_true rfl⟩ (Nat.le_of_ble_eq_true rfl) dX12_goesOver_165 h80 (fun w78 X165_79 => ?_)
    refine q_chk (fun h83 => ?_)
    refine q_cVV (As := (fun P => [.long v5_25, .long w78])) C [] (sX12_givesMoney r0 v5_25 w78) fcX12_182 rfl (fun _ => rfl) ⟨Nat.le_of_ble_eq_true rfl, Nat.le_of_ble_eq_true rfl⟩ ⟨Nat.le_of_ble_eq_true rfl, Nat.le_of_ble_eq_true rfl⟩ (Nat.le_of_ble_eq_true rfl) dX12_goesOver_168 h83 (fun _ X168_82 => ?_)
    exact q_vret C dX12_goesOver_171
  · exact q_vret C dX12_goesOver_83
