/-! RecordClaimsModel.firstOwed(Z)I -/
abbrev cX12_firstOwed : ByteArray := prog_14_method_94_code
def yX12_firstOwed : MethodName := ⟨RX12, "firstOwed", "(Z)I"⟩
theorem dX12_firstOwed_0 : decode cX12_firstOwed 0 = .ok (.iconst 0, 1) := by decide +kernel
theorem dX12_firstOwed_1 : decode cX12_firstOwed 1 = .ok (.istore_n 2, 1) := by decide +kernel
theorem dX12_firstOwed_2 : decode cX12_firstOwed 2 = .ok (.iload_n 2, 1) := by decide +kernel
theorem dX12_firstOwed_3 : decode cX12_firstOwed 3 = .ok (.aload_n 0, 1) := by decide +kernel
theorem dX12_firstOwed_4 : decode cX12_firstOwed 4 = .ok (.getfield 77, 3) := by decide +kernel
theorem dX12_firstOwed_7 : decode cX12_firstOwed 7 = .ok (.if_icmp .ge 40, 3) := by decide +kernel
theorem dX12_firstOwed_10 : decode cX12_firstOwed 10 = .ok (.iload_n 1, 1) := by decide +kernel
theorem dX12_firstOwed_11 : decode cX12_firstOwed 11 = .ok (.ifCond .eq 17, 3) := by decide +kernel
theorem dX12_firstOwed_14 : decode cX12_firstOwed 14 = .ok (.aload_n 0, 1) := by decide +kernel
theorem dX12_firstOwed_15 : decode cX12_firstOwed 15 = .ok (.getfield 57, 3) := by decide +kernel
theorem dX12_firstOwed_18 : decode cX12_firstOwed 18 = .ok (.iload_n 2, 1) := by decide +kernel
theorem dX12_firstOwed_19 : decode cX12_firstOwed 19 = .ok (.laload, 1) := by decide +kernel
theorem dX12_firstOwed_20 : decode cX12_firstOwed 20 = .ok (.lconst 0, 1) := by decide +kernel
theorem dX12_firstOwed_21 : decode cX12_firstOwed 21 = .ok (.lcmp, 1) := by decide +kernel
theorem dX12_firstOwed_22 : decode cX12_firstOwed 22 = .ok (.ifCond .ge 19, 3) := by decide +kernel
theorem dX12_firstOwed_25 : decode cX12_firstOwed 25 = .ok (.goto 14, 3) := by decide +kernel
theorem dX12_firstOwed_28 : decode cX12_firstOwed 28 = .ok (.aload_n 0, 1) := by decide +kernel
theorem dX12_firstOwed_29 : decode cX12_firstOwed 29 = .ok (.getfield 57, 3) := by decide +kernel
theorem dX12_firstOwed_32 : decode cX12_firstOwed 32 = .ok (.iload_n 2, 1) := by decide +kernel
theorem dX12_firstOwed_33 : decode cX12_firstOwed 33 = .ok (.laload, 1) := by decide +kernel
theorem dX12_firstOwed_34 : decode cX12_firstOwed 34 = .ok (.lconst 0, 1) := by decide +kernel
theorem dX12_firstOwed_35 : decode cX12_firstOwed 35 = .ok (.lcmp, 1) := by decide +kernel
theorem dX12_firstOwed_36 : decode cX12_firstOwed 36 = .ok (.ifCond .le 5, 3) := by decide +kernel
theorem dX12_firstOwed_39 : decode cX12_firstOwed 39 = .ok (.iload_n 2, 1) := by decide +kernel
theorem dX12_firstOwed_40 : decode cX12_firstOwed 40 = .ok (.ireturn, 1) := by decide +kernel
theorem dX12_firstOwed_41 : decode cX12_firstOwed 41 = .ok (.iinc 2 1, 3) := by decide +kernel
theorem dX12_firstOwed_44 : decode cX12_firstOwed 44 = .ok (.goto (-42), 3) := by decide +kernel
theorem dX12_firstOwed_47 : decode cX12_firstOwed 47 = .ok (.iconst (-1), 1) := by decide +kernel
theorem dX12_firstOwed_48 : decode cX12_firstOwed 48 = .ok (.ireturn, 1) := by decide +kernel
theorem fgX12_57 : q_Fg RX12 57 12 32 := q_Fg.of (C := RX12) (T := TX12) (N := 35) rfl (by decide) inX12 1283 (by decide +kernel) rfl rfl
def fX12_firstOwed_L41 (n : Nat) (k2 : Nat → Int32 → Int32 → Mm → Option (Int32 × Mm)) (r0 : Nat) (v1 : Int32) (v2 : Int32) (X : Mm) : Option (Int32 × Mm) :=
nm (v2 + (1 : Int32)) fun v2_41 =>
k2 r0 v1 v2_41 X
def fX12_firstOwed_L39 (n : Nat) (v2 : Int32) (X : Mm) : Option (Int32 × Mm) :=
some (v2, X)
def fX12_firstOwed_L2 (n : Nat) : Nat → Nat → Int32 → Int32 → Mm → Option (Int32 × Mm)
| 0, _, _, _, _ => none
| j + 1, r0, v1, v2, X =>
if mT X r0 = 12 then
if (mI X r0 6) ≤ v2 then (
some ((-1 : Int32), X)
) else (
if v1 = 0 then (
if mR X r0 32 ≠ 0 then
if mT X (mR X r0 32) = 15 then
if q_b X (mR X r0 32) v2 then
if (lg_cmp (mJ X (mR X r0 32) (v2).toNatClampNeg) (0 : Int64)) ≤ 0 then (
fX12_firstOwed_L41 n (fX12_firstOwed_L2 n j) r0 v1 v2 X
) else (
fX12_firstOwed_L39 n v2 X
)
else none
else none
else none
) else (
if mR X r0 32 ≠ 0 then
if mT X (mR X r0 32) = 15 then
if q_b X (mR X r0 32) v2 then
if 0 ≤ (lg_cmp (mJ X (mR X r0 32) (v2).toNatClampNeg) (0 : Int64)) then (
fX12_firstOwed_L41 n (fX12_firstOwed_L2 n j) r0 v1 v2 X
) else (
fX12_firstOwed_L39 n v2 X
)
else none
else none
else none
)
)
else none
def fX12_firstOwed (n : Nat) (r0 : Nat) (v1 : Int32) (X : Mm) : Option (Int32 × Mm) :=
fX12_firstOwed_L2 n n r0 v1 (0 : Int32) X
theorem gX12_firstOwed_L41 {E : q_E} {X0 : Mm} (C : Cx E cX12_firstOwed RX12 3 (some .int) (q_rm 0 0 0 0) X0) (n : Nat) (k2 : Nat → Int32 → Int32 → Mm → Option (Int32 × Mm)) (hk2 : ∀ (r0 : Nat) (v1 : Int32) (v2 : Int32) (X : Mm), Sm E (q_fin E q_eI X0 0 0) 0 0 2 [(0, .ref (q_P E + r0)), (1, .int v1), (2, .int v2)] [] X (k2 r0 v1 v2 X)) (r0 : Nat) (v1 : Int32) (v2 : Int32) (X : Mm) : Sm E (q_fin E q_eI X0 0 0) 0 0 41 [(0, .ref (q_P E + r0)), (1, .int v1), (2, .int v2)] [] X (fX12_firstOwed_L41 n k2 r0 v1 v2 X) := by
  unfold fX12_firstOwed_L41
  refine q_iincN C (1 : Int32) 2 (fun v2_41 => [(2, .int v2_41), (0, .ref (q_P E + r0)), (1, .int v1)]) dX12_firstOwed_41 rfl rfl (Nat.le_of_ble_eq_true rfl) (fun _ => rfl) (fun v2_41 => ?_)
  refine q_goto C 2 dX12_firstOwed_44 (by decide) ?_
  refine q_sub C [(0, .ref (q_P E + r0)), (1, .int v1), (2, .int v2_41)] [1, 2, 0] rfl ?_
  exact hk2 r0 v1 v2_41 X
theorem gX12_firstOwed_L39 {E : q_E} {X0 : Mm} (C : Cx E cX12_firstOwed RX12 3 (some .int) (q_rm 0 0 0 0) X0) (n : Nat) (v2 : Int32) (X : Mm) : Sm E (q_fin E q_eI X0 0 0) 0 0 39 [(2, .int v2)] [] X (fX12_firstOwed_L39 n v2 X) := by
  unfold fX12_firstOwed_L39
  refine q_iload_n C 0 dX12_firstOwed_39 rfl rfl ?_
  exact q_iret C dX12_firstOwed_40
theorem gX12_firstOwed_L2 {E : q_E} {X0 : Mm} (C : Cx E cX12_firstOwed RX12 3 (some .int) (q_rm 0 0 0 0) X0) (n : Nat) : ∀ (j : Nat) (r0 : Nat) (v1 : Int32) (v2 : Int32) (X : Mm), Sm E (q_fin E q_eI X0 0 0) 0 0 2 [(0, .ref (q_P E + r0)), (1, .int v1), (2, .int v2)] [] X (fX12_firstOwed_L2 n j r0 v1 v2 X) := by
  intro j
  induction j with
  | zero => intros; exact Sm.none
  | succ j ih =>
    intro r0 v1 v2 X
    rw [fX12_firstOwed_L2]
    refine q_iload_n C 2 dX12_firstOwed_2 rfl rfl ?_
    refine q_aload_n C 0 dX12_firstOwed_3 rfl rfl ?_
    refine q_chk (fun h1 => ?_)
    refine p_getI C fgX12_77 rfl dX12_firstOwed_4 h1 ?_
    refine q_icmp_ge C 47 dX12_firstOwed_7 (by decide) (fun _ => ?_) (fun _ => ?_)
    · refine q_iconst C (-1 : Int32) dX12_firstOwed_47 rfl ?_
      exact q_iret C dX12_firstOwed_48
    · refine q_iload_n C 1 dX12_firstOwed_10 rfl rfl ?_
      refine q_if_eq C 28 dX12_firstOwed_11 (by decide) (fun _ => ?_) (fun _ => ?_)
      · refine q_aload_n C 0 dX12_firstOwed_28 rfl rfl ?_
        refine q_chk (fun h2 => ?_)
        refine p_getR C fgX12_57 rfl dX12_firstOwed_29 h1 h2 ?_
        refine q_iload_n C 2 dX12_firstOwed_32 rfl rfl ?_
        refine q_chk (fun h3 => ?_)
        refine q_chk (fun h4 => ?_)
        refine p_lald C dX12_firstOwed_33 h3 h4 ?_
        refine q_lconst C (0 : Int64) dX12_firstOwed_34 rfl ?_
        refine q_lcmp C dX12_firstOwed_35 ?_
        refine q_if_le C 41 dX12_firstOwed_36 (by decide) (fun _ => ?_) (fun _ => ?_)
        · exact gX12_firstOwed_L41 C n (fX12_firstOwed_L2 n j) ih r0 v1 v2 X
        · refine q_sub C [(2, .int v2)] [2] rfl ?_
          exact gX12_firstOwed_L39 C n v2 X
      · refine q_aload_n C 0 dX12_firstOwed_14 rfl rfl ?_
        refine q_chk (fun h5 => ?_)
        refine p_getR C fgX12_57 rfl dX12_firstOwed_15 h1 h5 ?_
        refine q_iload_n C 2 dX12_firstOwed_18 rfl rfl ?_
        refine q_chk (fun h6 => ?_)
        refine q_chk (fun h7 => ?_)
        refine p_lald C dX12_firstOwed_19 h6 h7 ?_
        refine q_lconst C (0 : Int64) dX12_firstOwed_20 rfl ?_
        refine q_lcmp C dX12_firstOwed_21 ?_
        refine q_if_ge C 41 dX12_firstOwed_22 (by decide) (fun _ => ?_) (fun _ => ?_)
        · exact gX12_firstOwed_L41 C n (fX12_firstOwed_L2 n j) ih r0 v1 v2 X
        · refine q_goto C 39 dX12_firstOwed_25 (by decide) ?_
          refine q_sub C [(2, .int v2)] [2] rfl ?_
          exact gX12_firstOwed_L39 C n v2 X
theorem sX12_firstOwed (n : Nat) (r0 : Nat) (v1 : Int32) : q_Ct yX12_firstOwed cX12_firstOwed 3 (some .int) 0 0 0 0 q_eI (fun P => [.ref (P + r0), .int v1]) (fX12_firstOwed n r0 v1) := by
  refine q_meth (by decide +kernel) (fun P => Nat.le_of_ble_eq_true rfl) (fun E X C hn => ?_)
  show Sm E (q_fin E q_eI X 0 0) 0 0 0 [(0, .ref (q_P E + r0)), (1, .int v1)] [] X _
  unfold fX12_firstOwed
  refine q_iconst C (0 : Int32) dX12_firstOwed_0 rfl ?_
  refine q_istore_n C [(2, .int (0 : Int32)), (0, .ref (q_P E + r0)), (1, .int v1)] dX12_firstOwed_1 rfl (Nat.le_of_ble_eq_true rfl) rfl ?_
  refine q_sub C [(0, .ref (q_P E + r0)), (1, .int v1), (2, .int (0 : Int32))] [1, 2, 0] rfl ?_
  exact gX12_firstOwed_L2 C n n r0 v1 (0 : Int32) X
/-! RecordClaimsModel.net(III)J -/
abbrev cX12_net : ByteArray := prog_14_method_95_code
def yX12_net : MethodName := ⟨RX12, "net", "(III)J"⟩
theorem dX12_net_0 : decode cX12_net 0 = .ok (.aload_n 0, 1) := by decide +kernel
theorem dX12_net_1 : decode cX12_net 1 = .ok (.iconst 0, 1) := by decide +kernel
theorem dX12_net_2 : decode cX12_net 2 = .ok (.putfield 63, 3) := by decide +kernel
theorem dX12_net_5 : decode cX12_net 5 = .ok (.aload_n 0, 1) := by decide +kernel
theorem dX12_net_6 : decode cX12_net 6 = .ok (.iload_n 1, 1) := by decide +kernel
theorem dX12_net_7 : decode cX12_net 7 = .ok (.invokevirtual 133, 3) := by decide +kernel
theorem dX12_net_10 : decode cX12_net 10 = .ok (.ifCond .ne 7, 3) := by decide +kernel
theorem dX12_net_13 : decode cX12_net 13 = .ok (.ldc2_w 117, 3) := by decide +kernel
theorem dX12_net_16 : decode cX12_net 16 = .ok (.lreturn, 1) := by decide +kernel
theorem dX12_net_17 : decode cX12_net 17 = .ok (.iconst 0, 1) := by decide +kernel
theorem dX12_net_18 : decode cX12_net 18 = .ok (.istore 4, 2) := by decide +kernel
theorem dX12_net_20 : decode cX12_net 20 = .ok (.iload 4, 2) := by decide +kernel
theorem dX12_net_22 : decode cX12_net 22 = .ok (.aload_n 0, 1) := by decide +kernel
theorem dX12_net_23 : decode cX12_net 23 = .ok (.getfield 77, 3) := by decide +kernel
theorem dX12_net_26 : decode cX12_net 26 = .ok (.if_icmp .ge 23, 3) := by decide +kernel
theorem dX12_net_29 : decode cX12_net 29 = .ok (.aload_n 0, 1) := by decide +kernel
theorem dX12_net_30 : decode cX12_net 30 = .ok (.getfield 57, 3) := by decide +kernel
theorem dX12_net_33 : decode cX12_net 33 = .ok (.iload 4, 2) := by decide +kernel
theorem dX12_net_35 : decode cX12_net 35 = .ok (.aload_n 0, 1) := by decide +kernel
theorem dX12_net_36 : decode cX12_net 36 = .ok (.iload_n 1, 1) := by decide +kernel
theorem dX12_net_37 : decode cX12_net 37 = .ok (.iload 4, 2) := by decide +kernel
theorem dX12_net_39 : decode cX12_net 39 = .ok (.invokevirtual 393, 3) := by decide +kernel
theorem dX12_net_42 : decode cX12_net 42 = .ok (.lastore, 1) := by decide +kernel
theorem dX12_net_43 : decode cX12_net 43 = .ok (.iinc 4 1, 3) := by decide +kernel
theorem dX12_net_46 : decode cX12_net 46 = .ok (.goto (-26), 3) := by decide +kernel
theorem dX12_net_49 : decode cX12_net 49 = .ok (.iconst 0, 1) := by decide +kernel
theorem dX12_net_50 : decode cX12_net 50 = .ok (.istore 4, 2) := by decide +kernel
theorem dX12_net_52 : decode cX12_net 52 = .ok (.aload_n 0, 1) := by decide +kernel
theorem dX12_net_53 : decode cX12_net 53 = .ok (.iconst 0, 1) := by decide +kernel
theorem dX12_net_54 : decode cX12_net 54 = .ok (.invokevirtual 399, 3) := by decide +kernel
theorem dX12_net_57 : decode cX12_net 57 = .ok (.istore 5, 2) := by decide +kernel
theorem dX12_net_59 : decode cX12_net 59 = .ok (.iload 5, 2) := by decide +kernel
theorem dX12_net_61 : decode cX12_net 61 = .ok (.iconst (-1), 1) := by decide +kernel
theorem dX12_net_62 : decode cX12_net 62 = .ok (.if_icmp .eq 140, 3) := by decide +kernel
theorem dX12_net_65 : decode cX12_net 65 = .ok (.aload_n 0, 1) := by decide +kernel
theorem dX12_net_66 : decode cX12_net 66 = .ok (.iconst 1, 1) := by decide +kernel
theorem dX12_net_67 : decode cX12_net 67 = .ok (.invokevirtual 399, 3) := by decide +kernel
theorem dX12_net_70 : decode cX12_net 70 = .ok (.istore 6, 2) := by decide +kernel
theorem dX12_net_72 : decode cX12_net 72 = .ok (.aload_n 0, 1) := by decide +kernel
theorem dX12_net_73 : decode cX12_net 73 = .ok (.getfield 57, 3) := by decide +kernel
theorem dX12_net_76 : decode cX12_net 76 = .ok (.iload 5, 2) := by decide +kernel
theorem dX12_net_78 : decode cX12_net 78 = .ok (.laload, 1) := by decide +kernel
theorem dX12_net_79 : decode cX12_net 79 = .ok (.aload_n 0, 1) := by decide +kernel
theorem dX12_net_80 : decode cX12_net 80 = .ok (.getfield 57, 3) := by decide +kernel
theorem dX12_net_83 : decode cX12_net 83 = .ok (.iload 6, 2) := by decide +kernel
theorem dX12_net_85 : decode cX12_net 85 = .ok (.laload, 1) := by decide +kernel
theorem dX12_net_86 : decode cX12_net 86 = .ok (.lneg, 1) := by decide +kernel
theorem dX12_net_87 : decode cX12_net 87 = .ok (.lcmp, 1) := by decide +kernel
theorem dX12_net_88 : decode cX12_net 88 = .ok (.ifCond .ge 13, 3) := by decide +kernel
theorem dX12_net_91 : decode cX12_net 91 = .ok (.aload_n 0, 1) := by decide +kernel
theorem dX12_net_92 : decode cX12_net 92 = .ok (.getfield 57, 3) := by decide +kernel
theorem dX12_net_95 : decode cX12_net 95 = .ok (.iload 5, 2) := by decide +kernel
theorem dX12_net_97 : decode cX12_net 97 = .ok (.laload, 1) := by decide +kernel
theorem dX12_net_98 : decode cX12_net 98 = .ok (.goto 11, 3) := by decide +kernel
theorem dX12_net_101 : decode cX12_net 101 = .ok (.aload_n 0, 1) := by decide +kernel
theorem dX12_net_102 : decode cX12_net 102 = .ok (.getfield 57, 3) := by decide +kernel
theorem dX12_net_105 : decode cX12_net 105 = .ok (.iload 6, 2) := by decide +kernel
theorem dX12_net_107 : decode cX12_net 107 = .ok (.laload, 1) := by decide +kernel
theorem dX12_net_108 : decode cX12_net 108 = .ok (.lneg, 1) := by decide +kernel
theorem dX12_net_109 : decode cX12_net 109 = .ok (.lstore 7, 2) := by decide +kernel
theorem dX12_net_111 : decode cX12_net 111 = .ok (.iload 4, 2) := by decide +kernel
theorem dX12_net_113 : decode cX12_net 113 = .ok (.iload_n 2, 1) := by decide +kernel
theorem dX12_net_114 : decode cX12_net 114 = .ok (.if_icmp .ne 38, 3) := by decide +kernel
theorem dX12_net_117 : decode cX12_net 117 = .ok (.iload_n 3, 1) := by decide +kernel
theorem dX12_net_118 : decode cX12_net 118 = .ok (.ifCond .ne 9, 3) := by decide +kernel
theorem dX12_net_121 : decode cX12_net 121 = .ok (.iload 6, 2) := by decide +kernel
theorem dX12_net_123 : decode cX12_net 123 = .ok (.i2l, 1) := by decide +kernel
theorem dX12_net_124 : decode cX12_net 124 = .ok (.goto 27, 3) := by decide +kernel
theorem dX12_net_127 : decode cX12_net 127 = .ok (.iload_n 3, 1) := by decide +kernel
theorem dX12_net_128 : decode cX12_net 128 = .ok (.iconst 1, 1) := by decide +kernel
theorem dX12_net_129 : decode cX12_net 129 = .ok (.if_icmp .ne 9, 3) := by decide +kernel
theorem dX12_net_132 : decode cX12_net 132 = .ok (.iload 5, 2) := by decide +kernel
theorem dX12_net_134 : decode cX12_net 134 = .ok (.i2l, 1) := by decide +kernel
theorem dX12_net_135 : decode cX12_net 135 = .ok (.goto 16, 3) := by decide +kernel
theorem dX12_net_138 : decode cX12_net 138 = .ok (.iload_n 3, 1) := by decide +kernel
theorem dX12_net_139 : decode cX12_net 139 = .ok (.iconst 2, 1) := by decide +kernel
theorem dX12_net_140 : decode cX12_net 140 = .ok (.if_icmp .ne 8, 3) := by decide +kernel
theorem dX12_net_143 : decode cX12_net 143 = .ok (.lload 7, 2) := by decide +kernel
theorem dX12_net_145 : decode cX12_net 145 = .ok (.goto 6, 3) := by decide +kernel
theorem dX12_net_148 : decode cX12_net 148 = .ok (.ldc2_w 117, 3) := by decide +kernel
theorem dX12_net_151 : decode cX12_net 151 = .ok (.lreturn, 1) := by decide +kernel
theorem dX12_net_152 : decode cX12_net 152 = .ok (.aload_n 0, 1) := by decide +kernel
theorem dX12_net_153 : decode cX12_net 153 = .ok (.getfield 57, 3) := by decide +kernel
theorem dX12_net_156 : decode cX12_net 156 = .ok (.iload 5, 2) := by decide +kernel
theorem dX12_net_158 : decode cX12_net 158 = .ok (.aload_n 0, 1) := by decide +kernel
theorem dX12_net_159 : decode cX12_net 159 = .ok (.getfield 57, 3) := by decide +kernel
theorem dX12_net_162 : decode cX12_net 162 = .ok (.iload 5, 2) := by decide +kernel
theorem dX12_net_164 : decode cX12_net 164 = .ok (.laload, 1) := by decide +kernel
theorem dX12_net_165 : decode cX12_net 165 = .ok (.lload 7, 2) := by decide +kernel
theorem dX12_net_167 : decode cX12_net 167 = .ok (.lsub, 1) := by decide +kernel
theorem dX12_net_168 : decode cX12_net 168 = .ok (.lastore, 1) := by decide +kernel
theorem dX12_net_169 : decode cX12_net 169 = .ok (.aload_n 0, 1) := by decide +kernel
theorem dX12_net_170 : decode cX12_net 170 = .ok (.getfield 57, 3) := by decide +kernel
theorem dX12_net_173 : decode cX12_net 173 = .ok (.iload 6, 2) := by decide +kernel
theorem dX12_net_175 : decode cX12_net 175 = .ok (.aload_n 0, 1) := by decide +kernel
theorem dX12_net_176 : decode cX12_net 176 = .ok (.getfield 57, 3) := by decide +kernel
theorem dX12_net_179 : decode cX12_net 179 = .ok (.iload 6, 2) := by decide +kernel
theorem dX12_net_181 : decode cX12_net 181 = .ok (.laload, 1) := by decide +kernel
theorem dX12_net_182 : decode cX12_net 182 = .ok (.lload 7, 2) := by decide +kernel
theorem dX12_net_184 : decode cX12_net 184 = .ok (.ladd, 1) := by decide +kernel
theorem dX12_net_185 : decode cX12_net 185 = .ok (.lastore, 1) := by decide +kernel
theorem dX12_net_186 : decode cX12_net 186 = .ok (.iload 4, 2) := by decide +kernel
theorem dX12_net_188 : decode cX12_net 188 = .ok (.iconst 1, 1) := by decide +kernel
theorem dX12_net_189 : decode cX12_net 189 = .ok (.iadd, 1) := by decide +kernel
theorem dX12_net_190 : decode cX12_net 190 = .ok (.istore 4, 2) := by decide +kernel
theorem dX12_net_192 : decode cX12_net 192 = .ok (.aload_n 0, 1) := by decide +kernel
theorem dX12_net_193 : decode cX12_net 193 = .ok (.iconst 0, 1) := by decide +kernel
theorem dX12_net_194 : decode cX12_net 194 = .ok (.invokevirtual 399, 3) := by decide +kernel
theorem dX12_net_197 : decode cX12_net 197 = .ok (.istore 5, 2) := by decide +kernel
theorem dX12_net_199 : decode cX12_net 199 = .ok (.goto (-140), 3) := by decide +kernel
theorem dX12_net_202 : decode cX12_net 202 = .ok (.iload_n 2, 1) := by decide +kernel
theorem dX12_net_203 : decode cX12_net 203 = .ok (.iconst (-1), 1) := by decide +kernel
theorem dX12_net_204 : decode cX12_net 204 = .ok (.if_icmp .ne 9, 3) := by decide +kernel
theorem dX12_net_207 : decode cX12_net 207 = .ok (.iload 4, 2) := by decide +kernel
theorem dX12_net_209 : decode cX12_net 209 = .ok (.i2l, 1) := by decide +kernel
theorem dX12_net_210 : decode cX12_net 210 = .ok (.goto 6, 3) := by decide +kernel
theorem dX12_net_213 : decode cX12_net 213 = .ok (.ldc2_w 117, 3) := by decide +kernel
theorem dX12_net_216 : decode cX12_net 216 = .ok (.lreturn, 1) := by decide +kernel
theorem fcX12_399 : q_LV RX12 399 yX12_firstOwed cX12_firstOwed 3 (some .int) 1 12 := ⟨q_tb 1746 (by decide +kernel) rfl, q_tb 1748 (by decide +kernel) rfl, q_tbs (q := (yX12_firstOwed, 35)) 121 (by decide +kernel) rfl, q_tb 13 (by decide +kernel) rfl, q_tb 1749 (by decide +kernel) rfl, ⟨by decide +kernel, by decide +kernel, by decide +kernel⟩, TX12, 35, rfl⟩
def fX12_net_L109 (n : Nat) (k59 : Nat → Int32 → Int32 → Int32 → Int32 → Mm → Option (Int64 × Mm)) (r0 : Nat) (v2 : Int32) (v3 : Int32) (v4 : Int32) (v5 : Int32) (v6 : Int32) (s0 : Int64) (X : Mm) : Option (Int64 × Mm) :=
if v4 = v2 then (
if v3 = 0 then (
some (((v6).toInt64), X)
) else (
if v3 = (1 : Int32) then (
some (((v5).toInt64), X)
) else (
if v3 = (2 : Int32) then (
some (s0, X)
) else (
some ((-1 : Int64), X)
)
)
)
) else (
if mT X r0 = 12 then
if mR X r0 32 ≠ 0 then
if mT X (mR X r0 32) = 15 then
if q_b X (mR X r0 32) v5 then
nm (sJ X (mR X r0 32) (v5).toNatClampNeg ((mJ X (mR X r0 32) (v5).toNatClampNeg) - s0)) fun X168_21 =>
if mT X168_21 r0 = 12 then
if mR X168_21 r0 32 ≠ 0 then
if mT X168_21 (mR X168_21 r0 32) = 15 then
if q_b X168_21 (mR X168_21 r0 32) v6 then
nm (sJ X168_21 (mR X168_21 r0 32) (v6).toNatClampNeg ((mJ X168_21 (mR X168_21 r0 32) (v6).toNatClampNeg) + s0)) fun X185_26 =>
nm ((v4 + (1 : Int32))) fun v4_190 =>
if mT X185_26 r0 = 12 then
bd (fX12_firstOwed n r0 (0 : Int32) X185_26) fun w28 X194_29 =>
k59 r0 v2 v3 v4_190 w28 X194_29
else none
else none
else none
else none
else none
else none
else none
else none
else none
)
def fX12_net_L59 (n : Nat) : Nat → Nat → Int32 → Int32 → Int32 → Int32 → Mm → Option (Int64 × Mm)
| 0, _, _, _, _, _, _ => none
| j + 1, r0, v2, v3, v4, v5, X =>
if v5 = (-1 : Int32) then (
if v2 = (-1 : Int32) then (
some (((v4).toInt64), X)
) else (
some ((-1 : Int64), X)
)
) else (
if mT X r0 = 12 then
bd (fX12_firstOwed n r0 (1 : Int32) X) fun w9 X67_10 =>
if mT X67_10 r0 = 12 then
if mR X67_10 r0 32 ≠ 0 then
if mT X67_10 (mR X67_10 r0 32) = 15 then
if q_b X67_10 (mR X67_10 r0 32) v5 then
if q_b X67_10 (mR X67_10 r0 32) w9 then
if 0 ≤ (lg_cmp (mJ X67_10 (mR X67_10 r0 32) (v5).toNatClampNeg) (-(mJ X67_10 (mR X67_10 r0 32) (w9).toNatClampNeg))) then (
fX12_net_L109 n (fX12_net_L59 n j) r0 v2 v3 v4 v5 w9 ((-(mJ X67_10 (mR X67_10 r0 32) (w9).toNatClampNeg))) X67_10
) else (
fX12_net_L109 n (fX12_net_L59 n j) r0 v2 v3 v4 v5 w9 ((mJ X67_10 (mR X67_10 r0 32) (v5).toNatClampNeg)) X67_10
)
else none
else none
else none
else none
else none
else none
)
def fX12_net_L20 (n : Nat) : Nat → Nat → Int32 → Int32 → Int32 → Int32 → Mm → Option (Int64 × Mm)
| 0, _, _, _, _, _, _ => none
| j + 1, r0, v1, v2, v3, v4, X =>
if mT X r0 = 12 then
if (mI X r0 6) ≤ v4 then (
bd (fX12_firstOwed n r0 (0 : Int32) X) fun w7 X54_8 =>
fX12_net_L59 n n r0 v2 v3 (0 : Int32) w7 X54_8
) else (
if mR X r0 32 ≠ 0 then
bd (fX12_claimedBy n r0 v1 v4 X) fun w32 X39_33 =>
if mT X39_33 (mR X r0 32) = 15 then
if q_b X39_33 (mR X r0 32) v4 then
nm (sJ X39_33 (mR X r0 32) (v4).toNatClampNeg w32) fun X42_34 =>
nm (v4 + (1 : Int32)) fun v4_43 =>
(fX12_net_L20 n j) r0 v1 v2 v3 v4_43 X42_34
else none
else none
else none
)
else none
def fX12_net (n : Nat) (r0 : Nat) (v1 : Int32) (v2 : Int32) (v3 : Int32) (X : Mm) : Option (Int64 × Mm) :=
if mT X r0 = 12 then
nm (sI X r0 0 (0 : Int32)) fun X2_1 =>
if mT X2_1 r0 = 12 then
bd (fX12_isEvent r0 v1 X2_1) fun w3 X7_4 =>
if w3 = 0 then (
some ((-1 : Int64), X7_4)
) else (
fX12_net_L20 n n r0 v1 v2 v3 (0 : Int32) X7_4
)
else none
else none
theorem gX12_net_L109 {E : q_E} {X0 : Mm} (C : Cx E cX12_net RX12 9 (some .long) (q_rm 3 70 0 0) X0) (n : Nat) (k59 : Nat → Int32 → Int32 → Int32 → Int32 → Mm → Option (Int64 × Mm)) (hk59 : ∀ (r0 : Nat) (v2 : Int32) (v3 : Int32) (v4 : Int32) (v5 : Int32) (X : Mm), Sm E (q_fin E q_eL X0 0 0) 0 0 59 [(0, .ref (q_P E + r0)), (2, .int v2), (3, .int v3), (4, .int v4), (5, .int v5)] [] X (k59 r0 v2 v3 v4 v5 X)) (r0 : Nat) (v2 : Int32) (v3 : Int32) (v4 : Int32) (v5 : Int32) (v6 : Int32) (s0 : Int64) (X : Mm) : Sm E (q_fin E q_eL X0 0 0) 0 0 109 [(0, .ref (q_P E + r0)), (2, .int v2), (3, .int v3), (4, .int v4), (5, .int v5), (6, .int v6)] [.long s0] X (fX12_net_L109 n k59 r0 v2 v3 v4 v5 v6 s0 X) := by
  unfold fX12_net_L109
  refine q_lstore C [(7, .long s0), (0, .ref (q_P E + r0)), (2, .int v2), (3, .int v3), (4, .int v4), (5, .int v5), (6, .int v6)] dX12_net_109 (Nat.le_of_ble_eq_true rfl) rfl ?_
  refine q_iload C 4 dX12_net_111 rfl ?_
  refine q_iload_n C 2 dX12_net_113 rfl rfl ?_
  refine q_icmp_ne C 152 dX12_net_114 (by decide) (fun _ => ?_) (fun _ => ?_)
  · refine q_iload_n C 3 dX12_net_117 rfl rfl ?_
    refine q_if_ne C 127 dX12_net_118 (by decide) (fun _ => ?_) (fun _ => ?_)
    · refine q_iload C 6 dX12_net_121 rfl ?_
      refine q_i2l C dX12_net_123 ?_
      refine q_goto C 151 dX12_net_124 (by decide) ?_
      exact q_lret C dX12_net_151
    · refine q_iload_n C 3 dX12_net_127 rfl rfl ?_
      refine q_iconst C (1 : Int32) dX12_net_128 rfl ?_
      refine q_icmp_ne C 138 dX12_net_129 (by decide) (fun _ => ?_) (fun _ => ?_)
      · refine q_iload C 5 dX12_net_132 rfl ?_
        refine q_i2l C dX12_net_134 ?_
        refine q_goto C 151 dX12_net_135 (by decide) ?_
        exact q_lret C dX12_net_151
      · refine q_iload_n C 3 dX12_net_138 rfl rfl ?_
        refine q_iconst C (2 : Int32) dX12_net_139 rfl ?_
        refine q_icmp_ne C 148 dX12_net_140 (by decide) (fun _ => ?_) (fun _ => ?_)
        · refine q_lload C 0 dX12_net_143 rfl ?_
          refine q_goto C 151 dX12_net_145 (by decide) ?_
          exact q_lret C dX12_net_151
        · refine q_ldc2 C dX12_net_148 fkX12_117 ?_
          exact q_lret C dX12_net_151
  · refine q_aload_n C 1 dX12_net_152 rfl rfl ?_
    refine q_chk (fun h17 => ?_)
    refine q_chk (fun h18 => ?_)
    refine p_getR C fgX12_57 rfl dX12_net_153 h17 h18 ?_
    refine q_iload C 5 dX12_net_156 rfl ?_
    refine q_aload_n C 1 dX12_net_158 rfl rfl ?_
    refine p_getR C fgX12_57 rfl dX12_net_159 h17 h18 ?_
    refine q_iload C 5 dX12_net_162 rfl ?_
    refine q_chk (fun h19 => ?_)
    refine q_chk (fun h20 => ?_)
    refine p_lald C dX12_net_164 h19 h20 ?_
    refine q_lload C 0 dX12_net_165 rfl ?_
    refine q_lsub C dX12_net_167 ?_
    refine p_last C dX12_net_168 h19 h20 ?_
    refine q_nmX (fun X168_21 => ?_)
    refine q_aload_n C 1 dX12_net_169 rfl rfl ?_
    refine q_chk (fun h22 => ?_)
    refine q_chk (fun h23 => ?_)
    refine p_getR C fgX12_57 rfl dX12_net_170 h22 h23 ?_
    refine q_iload C 6 dX12_net_173 rfl ?_
    refine q_aload_n C 1 dX12_net_175 rfl rfl ?_
    refine p_getR C fgX12_57 rfl dX12_net_176 h22 h23 ?_
    refine q_iload C 6 dX12_net_179 rfl ?_
    refine q_chk (fun h24 => ?_)
    refine q_chk (fun h25 => ?_)
    refine p_lald C dX12_net_181 h24 h25 ?_
    refine q_lload C 0 dX12_net_182 rfl ?_
    refine q_ladd C dX12_net_184 ?_
    refine p_last C dX12_net_185 h24 h25 ?_
    refine q_nmX (fun X185_26 => ?_)
    refine q_iload C 4 dX12_net_186 rfl ?_
    refine q_iconst C (1 : Int32) dX12_net_188 rfl ?_
    refine q_iadd C dX12_net_189 ?_
    refine q_nmi (fun v4_190 => ?_)
    refine q_istore C [(4, .int v4_190), (7, .long s0), (0, .ref (q_P E + r0)), (2, .int v2), (3, .int v3), (5, .int v5), (6, .int v6)] dX12_net_190 (Nat.le_of_ble_eq_true rfl) rfl ?_
    refine q_aload_n C 2 dX12_net_192 rfl rfl ?_
    refine q_iconst C (0 : Int32) dX12_net_193 rfl ?_
    refine q_chk (fun h30 => ?_)
    refine q_cVI (As := (fun P => [.int (0 : Int32)])) C [] (sX12_firstOwed n r0 (0 : Int32)) fcX12_399 rfl (fun _ => rfl) ⟨Nat.le_of_ble_eq_true rfl, Nat.le_of_ble_eq_true rfl⟩ ⟨Nat.le_of_ble_eq_true rfl, Nat.le_of_ble_eq_true rfl⟩ (Nat.le_of_ble_eq_true rfl) dX12_net_194 h30 (fun w28 X194_29 => ?_)
    refine q_istore C [(5, .int w28), (4, .int v4_190), (7, .long s0), (0, .ref (q_P E + r0)), (2, .int v2), (3, .int v3), (6, .int v6)] dX12_net_197 (Nat.le_of_ble_eq_true rfl) rfl ?_
    refine q_goto C 59 dX12_net_199 (by decide) ?_
    refine q_sub C [(0, .ref (q_P E + r0)), (2, .int v2), (3, .int v3), (4, .int v4_190), (5, .int w28)] [3, 4, 5, 1, 0] rfl ?_
    exact hk59 r0 v2 v3 v4_190 w28 X194_29
theorem gX12_net_L59 {E : q_E} {X0 : Mm} (C : Cx E cX12_net RX12 9 (some .long) (q_rm 3 70 0 0) X0) (n : Nat) : ∀ (j : Nat) (r0 : Nat) (v2 : Int32) (v3 : Int32) (v4 : Int32) (v5 : Int32) (X : Mm), Sm E (q_fin E q_eL X0 0 0) 0 0 59 [(0, .ref (q_P E + r0)), (2, .int v2), (3, .int v3), (4, .int v4), (5, .int v5)] [] X (fX12_net_L59 n j r0 v2 v3 v4 v5 X) := by
  intro j
  induction j with
  | zero => intros; exact Sm.none
  | succ j ih =>
    intro r0 v2 v3 v4 v5 X
    rw [fX12_net_L59]
    refine q_iload C 4 dX12_net_59 rfl ?_
    refine q_iconst C (-1 : Int32) dX12_net_61 rfl ?_
    refine q_icmp_eq C 202 dX12_net_62 (by decide) (fun _ => ?_) (fun _ => ?_)
    · refine q_iload_n C 1 dX12_net_202 rfl rfl ?_
      refine q_iconst C (-1 : Int32) dX12_net_203 rfl ?_
      refine q_icmp_ne C 213 dX12_net_204 (by decide) (fun _ => ?_) (fun _ => ?_)
      · refine q_iload C 3 dX12_net_207 rfl ?_
        refine q_i2l C dX12_net_209 ?_
        refine q_goto C 216 dX12_net_210 (by decide) ?_
        exact q_lret C dX12_net_216
      · refine q_ldc2 C dX12_net_213 fkX12_117 ?_
        exact q_lret C dX12_net_216
    · refine q_aload_n C 0 dX12_net_65 rfl rfl ?_
      refine q_iconst C (1 : Int32) dX12_net_66 rfl ?_
      refine q_chk (fun h11 => ?_)
      refine q_cVI (As := (fun P => [.int (1 : Int32)])) C [] (sX12_firstOwed n r0 (1 : Int32)) fcX12_399 rfl (fun _ => rfl) ⟨Nat.le_of_ble_eq_true rfl, Nat.le_of_ble_eq_true rfl⟩ ⟨Nat.le_of_ble_eq_true rfl, Nat.le_of_ble_eq_true rfl⟩ (Nat.le_of_ble_eq_true rfl) dX12_net_67 h11 (fun w9 X67_10 => ?_)
      refine q_istore C [(6, .int w9), (0, .ref (q_P E + r0)), (2, .int v2), (3, .int v3), (4, .int v4), (5, .int v5)] dX12_net_70 (Nat.le_of_ble_eq_true rfl) rfl ?_
      refine q_aload_n C 1 dX12_net_72 rfl rfl ?_
      refine q_chk (fun h12 => ?_)
      refine q_chk (fun h13 => ?_)
      refine p_getR C fgX12_57 rfl dX12_net_73 h12 h13 ?_
      refine q_iload C 5 dX12_net_76 rfl ?_
      refine q_chk (fun h14 => ?_)
      refine q_chk (fun h15 => ?_)
      refine p_lald C dX12_net_78 h14 h15 ?_
      refine q_aload_n C 1 dX12_net_79 rfl rfl ?_
      refine p_getR C fgX12_57 rfl dX12_net_80 h12 h13 ?_
      refine q_iload C 0 dX12_net_83 rfl ?_
      refine q_chk (fun h16 => ?_)
      refine p_lald C dX12_net_85 h14 h16 ?_
      refine q_lneg C dX12_net_86 ?_
      refine q_lcmp C dX12_net_87 ?_
      refine q_if_ge C 101 dX12_net_88 (by decide) (fun _ => ?_) (fun _ => ?_)
      · refine q_aload_n C 1 dX12_net_101 rfl rfl ?_
        refine p_getR C fgX12_57 rfl dX12_net_102 h12 h13 ?_
        refine q_iload C 0 dX12_net_105 rfl ?_
        refine p_lald C dX12_net_107 h14 h16 ?_
        refine q_lneg C dX12_net_108 ?_
        refine q_sub C [(0, .ref (q_P E + r0)), (2, .int v2), (3, .int v3), (4, .int v4), (5, .int v5), (6, .int w9)] [1, 2, 3, 4, 5, 0] rfl ?_
        exact gX12_net_L109 C n (fX12_net_L59 n j) ih r0 v2 v3 v4 v5 w9 ((-(mJ X67_10 (mR X67_10 r0 32) (w9).toNatClampNeg))) X67_10
      · refine q_aload_n C 1 dX12_net_91 rfl rfl ?_
        refine p_getR C fgX12_57 rfl dX12_net_92 h12 h13 ?_
        refine q_iload C 5 dX12_net_95 rfl ?_
        refine p_lald C dX12_net_97 h14 h15 ?_
        refine q_goto C 109 dX12_net_98 (by decide) ?_
        refine q_sub C [(0, .ref (q_P E + r0)), (2, .int v2), (3, .int v3), (4, .int v4), (5, .int v5), (6, .int w9)] [1, 2, 3, 4, 5, 0] rfl ?_
        exact gX12_net_L109 C n (fX12_net_L59 n j) ih r0 v2 v3 v4 v5 w9 ((mJ X67_10 (mR X67_10 r0 32) (v5).toNatClampNeg)) X67_10
theorem gX12_net_L20 {E : q_E} {X0 : Mm} (C : Cx E cX12_net RX12 9 (some .long) (q_rm 3 70 0 0) X0) (n : Nat) : ∀ (j : Nat) (r0 : Nat) (v1 : Int32) (v2 : Int32) (v3 : Int32) (v4 : Int32) (X : Mm), Sm E (q_fin E q_eL X0 0 0) 0 0 20 [(0, .ref (q_P E + r0)), (1, .int v1), (2, .int v2), (3, .int v3), (4, .int v4)] [] X (fX12_net_L20 n j r0 v1 v2 v3 v4 X) := by
  intro j
  induction j with
  | zero => intros; exact Sm.none
  | succ j ih =>
    intro r0 v1 v2 v3 v4 X
    rw [fX12_net_L20]
    refine q_iload C 4 dX12_net_20 rfl ?_
    refine q_aload_n C 0 dX12_net_22 rfl rfl ?_
    refine q_chk (fun h6 => ?_)
    refine p_getI C fgX12_77 rfl dX12_net_23 h6 ?_
    refine q_icmp_ge C 49 dX12_net_26 (by decide) (fun _ => ?_) (fun _ => ?_)
    · refine q_iconst C (0 : Int32) dX12_net_49 rfl ?_
      refine q_istore C [(4, .int (0 : Int32)), (0, .ref (q_P E + r0)), (1, .int v1), (2, .int v2), (3, .int v3)] dX12_net_50 (Nat.le_of_ble_eq_true rfl) rfl ?_
      refine q_aload_n C 1 dX12_net_52 rfl rfl ?_
      refine q_iconst C (0 : Int32) dX12_net_53 rfl ?_
      refine q_cVI (As := (fun P => [.int (0 : Int32)])) C [] (sX12_firstOwed n r0 (0 : Int32)) fcX12_399 rfl (fun _ => rfl) ⟨Nat.le_of_ble_eq_true rfl, Nat.le_of_ble_eq_true rfl⟩ ⟨Nat.le_of_ble_eq_true rfl, Nat.le_of_ble_eq_true rfl⟩ (Nat.le_of_ble_eq_true rfl) dX12_net_54 h6 (fun w7 X54_8 => ?_)
      refine q_istore C [(5, .int w7), (4, .int (0 : Int32)), (0, .ref (q_P E + r0)), (1, .int v1), (2, .int v2), (3, .int v3)] dX12_net_57 (Nat.le_of_ble_eq_true rfl) rfl ?_
      refine q_sub C [(0, .ref (q_P E + r0)), (2, .int v2), (3, .int v3), (4, .int (0 : Int32)), (5, .int w7)] [2, 4, 5, 1, 0] rfl ?_
      exact gX12_net_L59 C n n r0 v2 v3 (0 : Int32) w7 X54_8
    · refine q_aload_n C 0 dX12_net_29 rfl rfl ?_
      refine q_chk (fun h31 => ?_)
      refine p_getR C fgX12_57 rfl dX12_net_30 h6 h31 ?_
      refine q_iload C 4 dX12_net_33 rfl ?_
      refine q_aload_n C 0 dX12_net_35 rfl rfl ?_
      refine q_iload_n C 1 dX12_net_36 rfl rfl ?_
      refine q_iload C 4 dX12_net_37 rfl ?_
      refine q_cVL (As := (fun P => [.int v1, .int v4])) C [.int v4, .ref (q_P E + (mR X r0 32))] (sX12_claimedBy n r0 v1 v4) fcX12_393 rfl (fun _ => rfl) ⟨Nat.le_of_ble_eq_true rfl, Nat.le_of_ble_eq_true rfl⟩ ⟨Nat.le_of_ble_eq_true rfl, Nat.le_of_ble_eq_true rfl⟩ (Nat.le_of_ble_eq_true rfl) dX12_net_39 h6 (fun w32 X39_33 => ?_)
      refine q_chk (fun h35 => ?_)
      refine q_chk (fun h36 => ?_)
      refine p_last C dX12_net_42 h35 h36 ?_
      refine q_nmX (fun X42_34 => ?_)
      refine q_iincN C (1 : Int32) 4 (fun v4_43 => [(4, .int v4_43), (0, .ref (q_P E + r0)), (1, .int v1), (2, .int v2), (3, .int v3)]) dX12_net_43 rfl rfl (Nat.le_of_ble_eq_true rfl) (fun _ => rfl) (fun v4_43 => ?_)
      refine q_goto C 20 dX12_net_46 (by decide) ?_
      refine q_sub C [(0, .ref (q_P E + r0)), (1, .int v1), (2, .int v2), (3, .int v3), (4, .int v4_43)] [1, 2, 3, 4, 0] rfl ?_
      exact ih r0 v1 v2 v3 v4_43 X42_34
theorem sX12_net (n : Nat) (r0 : Nat) (v1 : Int32) (v2 : Int32) (v3 : Int32) : q_Ct yX12_net cX12_net 9 (some .long) 3 70 0 0 q_eL (fun P => [.ref (P + r0), .int v1, .int v2, .int v3]) (fX12_net n r0 v1 v2 v3) := by
  refine q_meth (by decide +kernel) (fun P => Nat.le_of_ble_eq_true rfl) (fun E X C hn => ?_)
  show Sm E (q_fin E q_eL X 0 0) 0 0 0 [(0, .ref (q_P E + r0)), (1, .int v1), (2, .int v2), (3, .int v3)] [] X _
  unfold fX12_net
  refine q_aload_n C 0 dX12_net_0 rfl rfl ?_
  refine q_iconst C (0 : Int32) dX12_net_1 rfl ?_
  refine q_chk (fun h2 => ?_)
  refine p_putI C fpX12_63 rfl dX12_net_2 h2 ?_
  refine q_nmX (fun X2_1 => ?_)
  refine q_aload_n C 0 dX12_net_5 rfl rfl ?_
  refine q_iload_n C 1 dX12_net_6 rfl rfl ?_
  refine q_chk (fun h5 => ?_)
  refine q_cVI (As := (fun P => [.int v1])) C [] (sX12_isEvent r0 v1) fcX12_133 rfl (fun _ => rfl) ⟨Nat.le_of_ble_eq_true rfl, Nat.le_of_ble_eq_true rfl⟩ ⟨Nat.le_of_ble_eq_true rfl, Nat.le_of_ble_eq_true rfl⟩ (Nat.le_of_ble_eq_true rfl) dX12_net_7 h5 (fun w3 X7_4 => ?_)
  refine q_if_ne C 17 dX12_net_10 (by decide) (fun _ => ?_) (fun _ => ?_)
  · refine q_ldc2 C dX12_net_13 fkX12_117 ?_
    exact q_lret C dX12_net_16
  · refine q_iconst C (0 : Int32) dX12_net_17 rfl ?_
    refine q_istore C [(4, .int (0 : Int32)), (0, .ref (q_P E + r0)), (1, .int v1), (2, .int v2), (3, .int v3)] dX12_net_18 (Nat.le_of_ble_eq_true rfl) rfl ?_
    refine q_sub C [(0, .ref (q_P E + r0)), (1, .int v1), (2, .int v2), (3, .int v3), (4, .int (0 : Int32))] [1, 2, 3, 4, 0] rfl ?_
    exact gX12_net_L20 C n n r0 v1 v2 v3 (0 : Int32) X7_4
/-! RecordClaimsModel.common(JJ)J -/
abbrev cX12_common : ByteArray := prog_14_method_97_code
def yX12_common : MethodName := ⟨RX12, "common", "(JJ)J"⟩
theorem dX12_common_0 : decode cX12_common 0 = .ok (.lload_n 1, 1) := by decide +kernel
theorem dX12_common_1 : decode cX12_common 1 = .ok (.lstore 5, 2) := by decide +kernel
theorem dX12_common_3 : decode cX12_common 3 = .ok (.lload_n 3, 1) := by decide +kernel
theorem dX12_common_4 : decode cX12_common 4 = .ok (.lstore 7, 2) := by decide +kernel
theorem dX12_common_6 : decode cX12_common 6 = .ok (.lload 5, 2) := by decide +kernel
theorem dX12_common_8 : decode cX12_common 8 = .ok (.lconst 0, 1) := by decide +kernel
theorem dX12_common_9 : decode cX12_common 9 = .ok (.lcmp, 1) := by decide +kernel
theorem dX12_common_10 : decode cX12_common 10 = .ok (.ifCond .eq 21, 3) := by decide +kernel
theorem dX12_common_13 : decode cX12_common 13 = .ok (.lload 7, 2) := by decide +kernel
theorem dX12_common_15 : decode cX12_common 15 = .ok (.lload 5, 2) := by decide +kernel
theorem dX12_common_17 : decode cX12_common 17 = .ok (.lrem, 1) := by decide +kernel
theorem dX12_common_18 : decode cX12_common 18 = .ok (.lstore 9, 2) := by decide +kernel
theorem dX12_common_20 : decode cX12_common 20 = .ok (.lload 5, 2) := by decide +kernel
theorem dX12_common_22 : decode cX12_common 22 = .ok (.lstore 7, 2) := by decide +kernel
theorem dX12_common_24 : decode cX12_common 24 = .ok (.lload 9, 2) := by decide +kernel
theorem dX12_common_26 : decode cX12_common 26 = .ok (.lstore 5, 2) := by decide +kernel
theorem dX12_common_28 : decode cX12_common 28 = .ok (.goto (-22), 3) := by decide +kernel
theorem dX12_common_31 : decode cX12_common 31 = .ok (.lload 7, 2) := by decide +kernel
theorem dX12_common_33 : decode cX12_common 33 = .ok (.lreturn, 1) := by decide +kernel
def fX12_common_L6 (n : Nat) : Nat → Int64 → Int64 → Mm → Option (Int64 × Mm)
| 0, _, _, _ => none
| j + 1, v5, v7, X =>
if (lg_cmp v5 (0 : Int64)) = 0 then (
some (v7, X)
) else (
if v5 = 0 then none else
nm ((v7 - v7 / v5 * v5)) fun v9_18 =>
(fX12_common_L6 n j) v9_18 v5 X
)
def fX12_common (n : Nat) (r0 : Nat) (v1 : Int64) (v3 : Int64) (X : Mm) : Option (Int64 × Mm) :=
fX12_common_L6 n n v1 v3 X
theorem gX12_common_L6 {E : q_E} {X0 : Mm} (C : Cx E cX12_common RX12 11 (some .long) (q_rm 0 0 0 0) X0) (n : Nat) : ∀ (j : Nat) (v5 : Int64) (v7 : Int64) (X : Mm), Sm E (q_fin E q_eL X0 0 0) 0 0 6 [(5, .long v5), (7, .long v7)] [] X (fX12_common_L6 n j v5 v7 X) := by
  intro j
  induction j with
  | zero => intros; exact Sm.none
  | succ j ih =>
    intro v5 v7 X
    rw [fX12_common_L6]
    refine q_lload C 0 dX12_common_6 rfl ?_
    refine q_lconst C (0 : Int64) dX12_common_8 rfl ?_
    refine q_lcmp C dX12_common_9 ?_
    refine q_if_eq C 31 dX12_common_10 (by decide) (fun _ => ?_) (fun _ => ?_)
    · refine q_lload C 1 dX12_common_31 rfl ?_
      exact q_lret C dX12_common_33
    · refine q_lload C 1 dX12_common_13 rfl ?_
      refine q_lload C 0 dX12_common_15 rfl ?_
      refine q_lrem C dX12_common_17 ?_
      refine q_nml (fun v9_18 => ?_)
      refine q_lstore C [(9, .long v9_18), (5, .long v5), (7, .long v7)] dX12_common_18 (Nat.le_of_ble_eq_true rfl) rfl ?_
      refine q_lload C 1 dX12_common_20 rfl ?_
      refine q_lstore C [(7, .long v5), (9, .long v9_18), (5, .long v5)] dX12_common_22 (Nat.le_of_ble_eq_true rfl) rfl ?_
      refine q_lload C 1 dX12_common_24 rfl ?_
      refine q_lstore C [(5, .long v9_18), (7, .long v5), (9, .long v9_18)] dX12_common_26 (Nat.le_of_ble_eq_true rfl) rfl ?_
      refine q_goto C 6 dX12_common_28 (by decide) ?_
      refine q_sub C [(5, .long v9_18), (7, .long v5)] [0, 1] rfl ?_
      exact ih v9_18 v5 X
theorem sX12_common (n : Nat) (r0 : Nat) (v1 : Int64) (v3 : Int64) : q_Ct yX12_common cX12_common 11 (some .long) 0 0 0 0 q_eL (fun P => [.ref (P + r0), .long v1, .long v3]) (fX12_common n r0 v1 v3) := by
  refine q_meth (by decide +kernel) (fun P => Nat.le_of_ble_eq_true rfl) (fun E X C hn => ?_)
  show Sm E (q_fin E q_eL X 0 0) 0 0 0 [(0, .ref (q_P E + r0)), (1, .long v1), (3, .long v3)] [] X _
  unfold fX12_common
  refine q_lload_n C 1 dX12_common_0 rfl rfl ?_
  refine q_lstore C [(5, .long v1), (0, .ref (q_P E + r0)), (1, .long v1), (3, .long v3)] dX12_common_1 (Nat.le_of_ble_eq_true rfl) rfl ?_
  refine q_lload_n C 3 dX12_common_3 rfl rfl ?_
  refine q_lstore C [(7, .long v3), (5, .long v1), (0, .ref (q_P E + r0)), (1, .long v1), (3, .long v3)] dX12_common_4 (Nat.le_of_ble_eq_true rfl) rfl ?_
  refine q_sub C [(5, .long v1), (7, .long v3)] [1, 0] rfl ?_
  exact gX12_common_L6 C n n v1 v3 X
/-! RecordClaimsModel.worth(III)J -/
abbrev cX12_worth : ByteArray := prog_14_method_96_code
def yX12_worth : MethodName := ⟨RX12, "worth", "(III)J"⟩
theorem dX12_worth_0 : decode cX12_worth 0 = .ok (.aload_n 0, 1) := by decide +kernel
theorem dX12_worth_1 : decode cX12_worth 1 = .ok (.iconst 0, 1) := by decide +kernel
theorem dX12_worth_2 : decode cX12_worth 2 = .ok (.putfield 63, 3) := by decide +kernel
theorem dX12_worth_5 : decode cX12_worth 5 = .ok (.aload_n 0, 1) := by decide +kernel
theorem dX12_worth_6 : decode cX12_worth 6 = .ok (.iload_n 1, 1) := by decide +kernel
theorem dX12_worth_7 : decode cX12_worth 7 = .ok (.invokevirtual 133, 3) := by decide +kernel
theorem dX12_worth_10 : decode cX12_worth 10 = .ok (.ifCond .eq 45, 3) := by decide +kernel
theorem dX12_worth_13 : decode cX12_worth 13 = .ok (.aload_n 0, 1) := by decide +kernel
theorem dX12_worth_14 : decode cX12_worth 14 = .ok (.iload_n 2, 1) := by decide +kernel
theorem dX12_worth_15 : decode cX12_worth 15 = .ok (.i2l, 1) := by decide +kernel
theorem dX12_worth_16 : decode cX12_worth 16 = .ok (.lconst 0, 1) := by decide +kernel
theorem dX12_worth_17 : decode cX12_worth 17 = .ok (.ldc2_w 403, 3) := by decide +kernel
theorem dX12_worth_20 : decode cX12_worth 20 = .ok (.invokevirtual 80, 3) := by decide +kernel
theorem dX12_worth_23 : decode cX12_worth 23 = .ok (.ifCond .eq 32, 3) := by decide +kernel
theorem dX12_worth_26 : decode cX12_worth 26 = .ok (.aload_n 0, 1) := by decide +kernel
theorem dX12_worth_27 : decode cX12_worth 27 = .ok (.iload_n 3, 1) := by decide +kernel
theorem dX12_worth_28 : decode cX12_worth 28 = .ok (.i2l, 1) := by decide +kernel
theorem dX12_worth_29 : decode cX12_worth 29 = .ok (.lconst 0, 1) := by decide +kernel
theorem dX12_worth_30 : decode cX12_worth 30 = .ok (.lconst 1, 1) := by decide +kernel
theorem dX12_worth_31 : decode cX12_worth 31 = .ok (.invokevirtual 80, 3) := by decide +kernel
theorem dX12_worth_34 : decode cX12_worth 34 = .ok (.ifCond .eq 21, 3) := by decide +kernel
theorem dX12_worth_37 : decode cX12_worth 37 = .ok (.aload_n 0, 1) := by decide +kernel
theorem dX12_worth_38 : decode cX12_worth 38 = .ok (.getfield 11, 3) := by decide +kernel
theorem dX12_worth_41 : decode cX12_worth 41 = .ok (.aload_n 0, 1) := by decide +kernel
theorem dX12_worth_42 : decode cX12_worth 42 = .ok (.iload_n 1, 1) := by decide +kernel
theorem dX12_worth_43 : decode cX12_worth 43 = .ok (.iconst 0, 1) := by decide +kernel
theorem dX12_worth_44 : decode cX12_worth 44 = .ok (.invokevirtual 66, 3) := by decide +kernel
theorem dX12_worth_47 : decode cX12_worth 47 = .ok (.laload, 1) := by decide +kernel
theorem dX12_worth_48 : decode cX12_worth 48 = .ok (.ldc2_w 153, 3) := by decide +kernel
theorem dX12_worth_51 : decode cX12_worth 51 = .ok (.lcmp, 1) := by decide +kernel
theorem dX12_worth_52 : decode cX12_worth 52 = .ok (.ifCond .ne 7, 3) := by decide +kernel
theorem dX12_worth_55 : decode cX12_worth 55 = .ok (.ldc2_w 381, 3) := by decide +kernel
theorem dX12_worth_58 : decode cX12_worth 58 = .ok (.lreturn, 1) := by decide +kernel
theorem dX12_worth_59 : decode cX12_worth 59 = .ok (.aload_n 0, 1) := by decide +kernel
theorem dX12_worth_60 : decode cX12_worth 60 = .ok (.getfield 11, 3) := by decide +kernel
theorem dX12_worth_63 : decode cX12_worth 63 = .ok (.aload_n 0, 1) := by decide +kernel
theorem dX12_worth_64 : decode cX12_worth 64 = .ok (.iload_n 1, 1) := by decide +kernel
theorem dX12_worth_65 : decode cX12_worth 65 = .ok (.bipush 9, 2) := by decide +kernel
theorem dX12_worth_67 : decode cX12_worth 67 = .ok (.invokevirtual 66, 3) := by decide +kernel
theorem dX12_worth_70 : decode cX12_worth 70 = .ok (.laload, 1) := by decide +kernel
theorem dX12_worth_71 : decode cX12_worth 71 = .ok (.iload_n 2, 1) := by decide +kernel
theorem dX12_worth_72 : decode cX12_worth 72 = .ok (.i2l, 1) := by decide +kernel
theorem dX12_worth_73 : decode cX12_worth 73 = .ok (.lmul, 1) := by decide +kernel
theorem dX12_worth_74 : decode cX12_worth 74 = .ok (.lstore 4, 2) := by decide +kernel
theorem dX12_worth_76 : decode cX12_worth 76 = .ok (.aload_n 0, 1) := by decide +kernel
theorem dX12_worth_77 : decode cX12_worth 77 = .ok (.getfield 11, 3) := by decide +kernel
theorem dX12_worth_80 : decode cX12_worth 80 = .ok (.aload_n 0, 1) := by decide +kernel
theorem dX12_worth_81 : decode cX12_worth 81 = .ok (.iload_n 1, 1) := by decide +kernel
theorem dX12_worth_82 : decode cX12_worth 82 = .ok (.bipush 8, 2) := by decide +kernel
theorem dX12_worth_84 : decode cX12_worth 84 = .ok (.invokevirtual 66, 3) := by decide +kernel
theorem dX12_worth_87 : decode cX12_worth 87 = .ok (.laload, 1) := by decide +kernel
theorem dX12_worth_88 : decode cX12_worth 88 = .ok (.aload_n 0, 1) := by decide +kernel
theorem dX12_worth_89 : decode cX12_worth 89 = .ok (.getfield 11, 3) := by decide +kernel
theorem dX12_worth_92 : decode cX12_worth 92 = .ok (.aload_n 0, 1) := by decide +kernel
theorem dX12_worth_93 : decode cX12_worth 93 = .ok (.iload_n 1, 1) := by decide +kernel
theorem dX12_worth_94 : decode cX12_worth 94 = .ok (.bipush 9, 2) := by decide +kernel
theorem dX12_worth_96 : decode cX12_worth 96 = .ok (.invokevirtual 66, 3) := by decide +kernel
theorem dX12_worth_99 : decode cX12_worth 99 = .ok (.laload, 1) := by decide +kernel
theorem dX12_worth_100 : decode cX12_worth 100 = .ok (.ladd, 1) := by decide +kernel
theorem dX12_worth_101 : decode cX12_worth 101 = .ok (.lstore 6, 2) := by decide +kernel
theorem dX12_worth_103 : decode cX12_worth 103 = .ok (.aload_n 0, 1) := by decide +kernel
theorem dX12_worth_104 : decode cX12_worth 104 = .ok (.getfield 11, 3) := by decide +kernel
theorem dX12_worth_107 : decode cX12_worth 107 = .ok (.aload_n 0, 1) := by decide +kernel
theorem dX12_worth_108 : decode cX12_worth 108 = .ok (.iload_n 1, 1) := by decide +kernel
theorem dX12_worth_109 : decode cX12_worth 109 = .ok (.iconst 0, 1) := by decide +kernel
theorem dX12_worth_110 : decode cX12_worth 110 = .ok (.invokevirtual 66, 3) := by decide +kernel
theorem dX12_worth_113 : decode cX12_worth 113 = .ok (.laload, 1) := by decide +kernel
theorem dX12_worth_114 : decode cX12_worth 114 = .ok (.ldc2_w 136, 3) := by decide +kernel
theorem dX12_worth_117 : decode cX12_worth 117 = .ok (.lcmp, 1) := by decide +kernel
theorem dX12_worth_118 : decode cX12_worth 118 = .ok (.ifCond .ne 33, 3) := by decide +kernel
theorem dX12_worth_121 : decode cX12_worth 121 = .ok (.lload 4, 2) := by decide +kernel
theorem dX12_worth_123 : decode cX12_worth 123 = .ok (.aload_n 0, 1) := by decide +kernel
theorem dX12_worth_124 : decode cX12_worth 124 = .ok (.getfield 11, 3) := by decide +kernel
theorem dX12_worth_127 : decode cX12_worth 127 = .ok (.aload_n 0, 1) := by decide +kernel
theorem dX12_worth_128 : decode cX12_worth 128 = .ok (.iload_n 1, 1) := by decide +kernel
theorem dX12_worth_129 : decode cX12_worth 129 = .ok (.bipush 8, 2) := by decide +kernel
theorem dX12_worth_131 : decode cX12_worth 131 = .ok (.invokevirtual 66, 3) := by decide +kernel
theorem dX12_worth_134 : decode cX12_worth 134 = .ok (.laload, 1) := by decide +kernel
theorem dX12_worth_135 : decode cX12_worth 135 = .ok (.aload_n 0, 1) := by decide +kernel
theorem dX12_worth_136 : decode cX12_worth 136 = .ok (.getfield 11, 3) := by decide +kernel
theorem dX12_worth_139 : decode cX12_worth 139 = .ok (.aload_n 0, 1) := by decide +kernel
theorem dX12_worth_140 : decode cX12_worth 140 = .ok (.iload_n 1, 1) := by decide +kernel
theorem dX12_worth_141 : decode cX12_worth 141 = .ok (.bipush 10, 2) := by decide +kernel
theorem dX12_worth_143 : decode cX12_worth 143 = .ok (.invokevirtual 66, 3) := by decide +kernel
theorem dX12_worth_146 : decode cX12_worth 146 = .ok (.laload, 1) := by decide +kernel
theorem dX12_worth_147 : decode cX12_worth 147 = .ok (.lmul, 1) := by decide +kernel
theorem dX12_worth_148 : decode cX12_worth 148 = .ok (.ladd, 1) := by decide +kernel
theorem dX12_worth_149 : decode cX12_worth 149 = .ok (.lstore 4, 2) := by decide +kernel
theorem dX12_worth_151 : decode cX12_worth 151 = .ok (.aload_n 0, 1) := by decide +kernel
theorem dX12_worth_152 : decode cX12_worth 152 = .ok (.getfield 11, 3) := by decide +kernel
theorem dX12_worth_155 : decode cX12_worth 155 = .ok (.aload_n 0, 1) := by decide +kernel
theorem dX12_worth_156 : decode cX12_worth 156 = .ok (.iload_n 1, 1) := by decide +kernel
theorem dX12_worth_157 : decode cX12_worth 157 = .ok (.iconst 0, 1) := by decide +kernel
theorem dX12_worth_158 : decode cX12_worth 158 = .ok (.invokevirtual 66, 3) := by decide +kernel
theorem dX12_worth_161 : decode cX12_worth 161 = .ok (.laload, 1) := by decide +kernel
theorem dX12_worth_162 : decode cX12_worth 162 = .ok (.lconst 0, 1) := by decide +kernel
theorem dX12_worth_163 : decode cX12_worth 163 = .ok (.lcmp, 1) := by decide +kernel
theorem dX12_worth_164 : decode cX12_worth 164 = .ok (.ifCond .ne 20, 3) := by decide +kernel
theorem dX12_worth_167 : decode cX12_worth 167 = .ok (.iload_n 2, 1) := by decide +kernel
theorem dX12_worth_168 : decode cX12_worth 168 = .ok (.i2l, 1) := by decide +kernel
theorem dX12_worth_169 : decode cX12_worth 169 = .ok (.aload_n 0, 1) := by decide +kernel
theorem dX12_worth_170 : decode cX12_worth 170 = .ok (.getfield 11, 3) := by decide +kernel
theorem dX12_worth_173 : decode cX12_worth 173 = .ok (.aload_n 0, 1) := by decide +kernel
theorem dX12_worth_174 : decode cX12_worth 174 = .ok (.iload_n 1, 1) := by decide +kernel
theorem dX12_worth_175 : decode cX12_worth 175 = .ok (.bipush 10, 2) := by decide +kernel
theorem dX12_worth_177 : decode cX12_worth 177 = .ok (.invokevirtual 66, 3) := by decide +kernel
theorem dX12_worth_180 : decode cX12_worth 180 = .ok (.laload, 1) := by decide +kernel
theorem dX12_worth_181 : decode cX12_worth 181 = .ok (.lsub, 1) := by decide +kernel
theorem dX12_worth_182 : decode cX12_worth 182 = .ok (.lstore 4, 2) := by decide +kernel
theorem dX12_worth_184 : decode cX12_worth 184 = .ok (.aload_n 0, 1) := by decide +kernel
theorem dX12_worth_185 : decode cX12_worth 185 = .ok (.lload 4, 2) := by decide +kernel
theorem dX12_worth_187 : decode cX12_worth 187 = .ok (.lconst 0, 1) := by decide +kernel
theorem dX12_worth_188 : decode cX12_worth 188 = .ok (.lcmp, 1) := by decide +kernel
theorem dX12_worth_189 : decode cX12_worth 189 = .ok (.ifCond .ge 9, 3) := by decide +kernel
theorem dX12_worth_192 : decode cX12_worth 192 = .ok (.lload 4, 2) := by decide +kernel
theorem dX12_worth_194 : decode cX12_worth 194 = .ok (.lneg, 1) := by decide +kernel
theorem dX12_worth_195 : decode cX12_worth 195 = .ok (.goto 5, 3) := by decide +kernel
theorem dX12_worth_198 : decode cX12_worth 198 = .ok (.lload 4, 2) := by decide +kernel
theorem dX12_worth_200 : decode cX12_worth 200 = .ok (.lload 6, 2) := by decide +kernel
theorem dX12_worth_202 : decode cX12_worth 202 = .ok (.invokevirtual 405, 3) := by decide +kernel
theorem dX12_worth_205 : decode cX12_worth 205 = .ok (.lstore 8, 2) := by decide +kernel
theorem dX12_worth_207 : decode cX12_worth 207 = .ok (.iload_n 3, 1) := by decide +kernel
theorem dX12_worth_208 : decode cX12_worth 208 = .ok (.ifCond .ne 11, 3) := by decide +kernel
theorem dX12_worth_211 : decode cX12_worth 211 = .ok (.lload 4, 2) := by decide +kernel
theorem dX12_worth_213 : decode cX12_worth 213 = .ok (.lload 8, 2) := by decide +kernel
theorem dX12_worth_215 : decode cX12_worth 215 = .ok (.ldiv, 1) := by decide +kernel
theorem dX12_worth_216 : decode cX12_worth 216 = .ok (.goto 8, 3) := by decide +kernel
theorem dX12_worth_219 : decode cX12_worth 219 = .ok (.lload 6, 2) := by decide +kernel
theorem dX12_worth_221 : decode cX12_worth 221 = .ok (.lload 8, 2) := by decide +kernel
theorem dX12_worth_223 : decode cX12_worth 223 = .ok (.ldiv, 1) := by decide +kernel
theorem dX12_worth_224 : decode cX12_worth 224 = .ok (.lreturn, 1) := by decide +kernel
theorem fkX12_403 : Cond.constantLong RX12 403 (99999 : Int64) ∈ q_tbl := q_tb 1754 (by decide +kernel) rfl
theorem fcX12_405 : q_LV RX12 405 yX12_common cX12_common 11 (some .long) 2 12 := ⟨q_tb 1755 (by decide +kernel) rfl, q_tb 1757 (by decide +kernel) rfl, q_tbs (q := (yX12_common, 35)) 122 (by decide +kernel) rfl, q_tb 13 (by decide +kernel) rfl, q_tb 1758 (by decide +kernel) rfl, ⟨by decide +kernel, by decide +kernel, by decide +kernel⟩, TX12, 35, rfl⟩
def fX12_worth_L55 (n : Nat) (X : Mm) : Option (Int64 × Mm) :=
some ((-9223372036854775808 : Int64), X)
def fX12_worth_L200 (n : Nat) (v3 : Int32) (v4 : Int64) (v6 : Int64) (s0 : Int64) (rs1 : Nat) (X : Mm) : Option (Int64 × Mm) :=
if mT X rs1 = 12 then
bd (fX12_common n rs1 s0 v6 X) fun w70 X202_71 =>
if v3 = 0 then (
if w70 = 0 then none else
some ((v4 / w70), X202_71)
) else (
if w70 = 0 then none else
some ((v6 / w70), X202_71)
)
else none
def fX12_worth_L184 (n : Nat) (r0 : Nat) (v3 : Int32) (v4 : Int64) (v6 : Int64) (X : Mm) : Option (Int64 × Mm) :=
if 0 ≤ (lg_cmp v4 (0 : Int64)) then (
fX12_worth_L200 n v3 v4 v6 v4 r0 X
) else (
fX12_worth_L200 n v3 v4 v6 ((-v4)) r0 X
)
def fX12_worth_L151 (n : Nat) (r0 : Nat) (v1 : Int32) (v2 : Int32) (v3 : Int32) (v4 : Int64) (v6 : Int64) (X : Mm) : Option (Int64 × Mm) :=
if mT X r0 = 12 then
if mR X r0 1 ≠ 0 then
bd (fX12_of r0 v1 (0 : Int32) X) fun w59 X158_60 =>
if mT X158_60 (mR X r0 1) = 15 then
if q_b X158_60 (mR X r0 1) w59 then
if (lg_cmp (mJ X158_60 (mR X r0 1) (w59).toNatClampNeg) (0 : Int64)) = 0 then (
if mT X158_60 r0 = 12 then
if mR X158_60 r0 1 ≠ 0 then
bd (fX12_of r0 v1 (10 : Int32) X158_60) fun w65 X177_66 =>
if mT X177_66 (mR X158_60 r0 1) = 15 then
if q_b X177_66 (mR X158_60 r0 1) w65 then
nm ((((v2).toInt64) - (mJ X177_66 (mR X158_60 r0 1) (w65).toNatClampNeg))) fun v4_182 =>
fX12_worth_L184 n r0 v3 v4_182 v6 X177_66
else none
else none
else none
else none
) else (
fX12_worth_L184 n r0 v3 v4 v6 X158_60
)
else none
else none
else none
else none
def fX12_worth (n : Nat) (r0 : Nat) (v1 : Int32) (v2 : Int32) (v3 : Int32) (X : Mm) : Option (Int64 × Mm) :=
if mT X r0 = 12 then
nm (sI X r0 0 (0 : Int32)) fun X2_1 =>
if mT X2_1 r0 = 12 then
bd (fX12_isEvent r0 v1 X2_1) fun w3 X7_4 =>
if w3 = 0 then (
fX12_worth_L55 n X7_4
) else (
if mT X7_4 r0 = 12 then
bd (fX12_isIn r0 (((v2).toInt64)) (0 : Int64) (99999 : Int64) X7_4) fun w6 X20_7 =>
if w6 = 0 then (
fX12_worth_L55 n X20_7
) else (
if mT X20_7 r0 = 12 then
bd (fX12_isIn r0 (((v3).toInt64)) (0 : Int64) (1 : Int64) X20_7) fun w9 X31_10 =>
if w9 = 0 then (
fX12_worth_L55 n X31_10
) else (
if mT X31_10 r0 = 12 then
if mR X31_10 r0 1 ≠ 0 then
bd (fX12_of r0 v1 (0 : Int32) X31_10) fun w14 X44_15 =>
if mT X44_15 (mR X31_10 r0 1) = 15 then
if q_b X44_15 (mR X31_10 r0 1) w14 then
if (lg_cmp (mJ X44_15 (mR X31_10 r0 1) (w14).toNatClampNeg) (3 : Int64)) = 0 then (
fX12_worth_L55 n X44_15
) else (
if mT X44_15 r0 = 12 then
if mR X44_15 r0 1 ≠ 0 then
bd (fX12_of r0 v1 (9 : Int32) X44_15) fun w20 X67_21 =>
if mT X67_21 (mR X44_15 r0 1) = 15 then
if q_b X67_21 (mR X44_15 r0 1) w20 then
nm (((mJ X67_21 (mR X44_15 r0 1) (w20).toNatClampNeg) * ((v2).toInt64))) fun v4_74 =>
if mT X67_21 r0 = 12 then
if mR X67_21 r0 1 ≠ 0 then
bd (fX12_of r0 v1 (8 : Int32) X67_21) fun w27 X84_28 =>
if mT X84_28 (mR X67_21 r0 1) = 15 then
if q_b X84_28 (mR X67_21 r0 1) w27 then
if mT X84_28 r0 = 12 then
if mR X84_28 r0 1 ≠ 0 then
bd (fX12_of r0 v1 (9 : Int32) X84_28) fun w33 X96_34 =>
if mT X96_34 (mR X84_28 r0 1) = 15 then
if q_b X96_34 (mR X84_28 r0 1) w33 then
nm (((mJ X84_28 (mR X67_21 r0 1) (w27).toNatClampNeg) + (mJ X96_34 (mR X84_28 r0 1) (w33).toNatClampNeg))) fun v6_101 =>
if mT X96_34 r0 = 12 then
if mR X96_34 r0 1 ≠ 0 then
bd (fX12_of r0 v1 (0 : Int32) X96_34) fun w40 X110_41 =>
if mT X110_41 (mR X96_34 r0 1) = 15 then
if q_b X110_41 (mR X96_34 r0 1) w40 then
if (lg_cmp (mJ X110_41 (mR X96_34 r0 1) (w40).toNatClampNeg) (2 : Int64)) = 0 then (
if mT X110_41 r0 = 12 then
if mR X110_41 r0 1 ≠ 0 then
bd (fX12_of r0 v1 (8 : Int32) X110_41) fun w46 X131_47 =>
if mT X131_47 (mR X110_41 r0 1) = 15 then
if q_b X131_47 (mR X110_41 r0 1) w46 then
if mT X131_47 r0 = 12 then
if mR X131_47 r0 1 ≠ 0 then
bd (fX12_of r0 v1 (10 : Int32) X131_47) fun w52 X143_53 =>
if mT X143_53 (mR X131_47 r0 1) = 15 then
if q_b X143_53 (mR X131_47 r0 1) w52 then
nm ((v4_74 + ((mJ X131_47 (mR X110_41 r0 1) (w46).toNatClampNeg) * (mJ X143_53 (mR X131_47 r0 1) (w52).toNatClampNeg)))) fun v4_149 =>
fX12_worth_L151 n r0 v1 v2 v3 v4_149 v6_101 X143_53
else none
else none
else none
else none
else none
else none
else none
else none
) else (
fX12_worth_L151 n r0 v1 v2 v3 v4_74 v6_101 X110_41
)
else none
else none
else none
else none
else none
else none
else none
else none
else none
else none
else none
else none
else none
else none
else none
else none
)
else none
else none
else none
else none
)
else none
)
else none
)
else none
else none
theorem gX12_worth_L55 {E : q_E} {X0 : Mm} (C : Cx E cX12_worth RX12 10 (some .long) (q_rm 2 47 0 0) X0) (n : Nat) (X : Mm) : Sm E (q_fin E q_eL X0 0 0) 0 0 55 [] [] X (fX12_worth_L55 n  X) := by
  unfold fX12_worth_L55
  refine q_ldc2 C dX12_worth_55 fkX12_381 ?_
  exact q_lret C dX12_worth_58
theorem gX12_worth_L200 {E : q_E} {X0 : Mm} (C : Cx E cX12_worth RX12 10 (some .long) (q_rm 2 47 0 0) X0) (n : Nat) (v3 : Int32) (v4 : Int64) (v6 : Int64) (s0 : Int64) (rs1 : Nat) (X : Mm) : Sm E (q_fin E q_eL X0 0 0) 0 0 200 [(3, .int v3), (4, .long v4), (6, .long v6)] [.long s0, .ref (q_P E + rs1)] X (fX12_worth_L200 n v3 v4 v6 s0 rs1 X) := by
  unfold fX12_worth_L200
  refine q_lload C 2 dX12_worth_200 rfl ?_
  refine q_chk (fun h72 => ?_)
  refine q_cVL (As := (fun P => [.long s0, .long v6])) C [] (sX12_common n rs1 s0 v6) fcX12_405 rfl (fun _ => rfl) ⟨Nat.le_of_ble_eq_true rfl, Nat.le_of_ble_eq_true rfl⟩ ⟨Nat.le_of_ble_eq_true rfl, Nat.le_of_ble_eq_true rfl⟩ (Nat.le_of_ble_eq_true rfl) dX12_worth_202 h72 (fun w70 X202_71 => ?_)
  refine q_lstore C [(8, .long w70), (3, .int v3), (4, .long v4), (6, .long v6)] dX12_worth_205 (Nat.le_of_ble_eq_true rfl) rfl ?_
  refine q_iload_n C 1 dX12_worth_207 rfl rfl ?_
  refine q_if_ne C 219 dX12_worth_208 (by decide) (fun _ => ?_) (fun _ => ?_)
  · refine q_lload C 2 dX12_worth_211 rfl ?_
    refine q_lload C 0 dX12_worth_213 rfl ?_
    refine q_ldiv C dX12_worth_215 ?_
    refine q_goto C 224 dX12_worth_216 (by decide) ?_
    exact q_lret C dX12_worth_224
  · refine q_lload C 3 dX12_worth_219 rfl ?_
    refine q_lload C 0 dX12_worth_221 rfl ?_
    refine q_ldiv C dX12_worth_223 ?_
    exact q_lret C dX12_worth_224
theorem gX12_worth_L184 {E : q_E} {X0 : Mm} (C : Cx E cX12_worth RX12 10 (some .long) (q_rm 2 47 0 0) X0) (n : Nat) (r0 : Nat) (v3 : Int32) (v4 : Int64) (v6 : Int64) (X : Mm) : Sm E (q_fin E q_eL X0 0 0) 0 0 184 [(0, .ref (q_P E + r0)), (3, .int v3), (4, .long v4), (6, .long v6)] [] X (fX12_worth_L184 n r0 v3 v4 v6 X) := by
  unfold fX12_worth_L184
  refine q_aload_n C 0 dX12_worth_184 rfl rfl ?_
  refine q_lload C 2 dX12_worth_185 rfl ?_
  refine q_lconst C (0 : Int64) dX12_worth_187 rfl ?_
  refine q_lcmp C dX12_worth_188 ?_
  refine q_if_ge C 198 dX12_worth_189 (by decide) (fun _ => ?_) (fun _ => ?_)
  · refine q_lload C 2 dX12_worth_198 rfl ?_
    refine q_sub C [(3, .int v3), (4, .long v4), (6, .long v6)] [1, 2, 3] rfl ?_
    exact gX12_worth_L200 C n v3 v4 v6 v4 r0 X
  · refine q_lload C 2 dX12_worth_192 rfl ?_
    refine q_lneg C dX12_worth_194 ?_
    refine q_goto C 200 dX12_worth_195 (by decide) ?_
    refine q_sub C [(3, .int v3), (4, .long v4), (6, .long v6)] [1, 2, 3] rfl ?_
    exact gX12_worth_L200 C n v3 v4 v6 ((-v4)) r0 X
theorem gX12_worth_L151 {E : q_E} {X0 : Mm} (C : Cx E cX12_worth RX12 10 (some .long) (q_rm 2 47 0 0) X0) (n : Nat) (r0 : Nat) (v1 : Int32) (v2 : Int32) (v3 : Int32) (v4 : Int64) (v6 : Int64) (X : Mm) : Sm E (q_fin E q_eL X0 0 0) 0 0 151 [(0, .ref (q_P E + r0)), (1, .int v1), (2, .int v2), (3, .int v3), (4, .long v4), (6, .long v6)] [] X (fX12_worth_L151 n r0 v1 v2 v3 v4 v6 X) := by
  unfold fX12_worth_L151
  refine q_aload_n C 0 dX12_worth_151 rfl rfl ?_
  refine q_chk (fun h57 => ?_)
  refine q_chk (fun h58 => ?_)
  refine p_getR C fgX12_11 rfl dX12_worth_152 h57 h58 ?_
  refine q_aload_n C 0 dX12_worth_155 rfl rfl ?_
  refine q_iload_n C 1 dX12_worth_156 rfl rfl ?_
  refine q_iconst C (0 : Int32) dX12_worth_157 rfl ?_
  refine q_cVI (As := (fun P => [.int v1, .int (0 : Int32)])) C [.ref (q_P E + (mR X r0 1))] (sX12_of r0 v1 (0 : Int32)) fcX12_66 rfl (fun _ => rfl) ⟨Nat.le_of_ble_eq_true rfl, Nat.le_of_ble_eq_true rfl⟩ ⟨Nat.le_of_ble_eq_true rfl, Nat.le_of_ble_eq_true rfl⟩ (Nat.le_of_ble_eq_true rfl) dX12_worth_158 h57 (fun w59 X158_60 => ?_)
  refine q_chk (fun h61 => ?_)
  refine q_chk (fun h62 => ?_)
  refine p_lald C dX12_worth_161 h61 h62 ?_
  refine q_lconst C (0 : Int64) dX12_worth_162 rfl ?_
  refine q_lcmp C dX12_worth_163 ?_
  refine q_if_ne C 184 dX12_worth_164 (by decide) (fun _ => ?_) (fun _ => ?_)
  · refine q_iload_n C 2 dX12_worth_167 rfl rfl ?_
    refine q_i2l C dX12_worth_168 ?_
    refine q_aload_n C 0 dX12_worth_169 rfl rfl ?_
    refine q_chk (fun h63 => ?_)
    refine q_chk (fun h64 => ?_)
    refine p_getR C fgX12_11 rfl dX12_worth_170 h63 h64 ?_
    refine q_aload_n C 0 dX12_worth_173 rfl rfl ?_
    refine q_iload_n C 1 dX12_worth_174 rfl rfl ?_
    refine q_bipush C (10 : Int32) dX12_worth_175 rfl ?_
    refine q_cVI (As := (fun P => [.int v1, .int (10 : Int32)])) C [.ref (q_P E + (mR X158_60 r0 1)), .long ((v2).toInt64)] (sX12_of r0 v1 (10 : Int32)) fcX12_66 rfl (fun _ => rfl) ⟨Nat.le_of_ble_eq_true rfl, Nat.le_of_ble_eq_true rfl⟩ ⟨Nat.le_of_ble_eq_true rfl, Nat.le_of_ble_eq_true rfl⟩ (Nat.le_of_ble_eq_true rfl) dX12_worth_177 h63 (fun w65 X177_66 => ?_)
    refine q_chk (fun h67 => ?_)
    refine q_chk (fun h68 => ?_)
    refine p_lald C dX12_worth_180 h67 h68 ?_
    refine q_lsub C dX12_worth_181 ?_
    refine q_nml (fun v4_182 => ?_)
    refine q_lstore C [(4, .long v4_182), (0, .ref (q_P E + r0)), (1, .int v1), (2, .int v2), (3, .int v3), (6, .long v6)] dX12_worth_182 (Nat.le_of_ble_eq_true rfl) rfl ?_
    refine q_sub C [(0, .ref (q_P E + r0)), (3, .int v3), (4, .long v4_182), (6, .long v6)] [1, 4, 0, 5] rfl ?_
    exact gX12_worth_L184 C n r0 v3 v4_182 v6 X177_66
  · refine q_sub C [(0, .ref (q_P E + r0)), (3, .int v3), (4, .long v4), (6, .long v6)] [0, 3, 4, 5] rfl ?_
    exact gX12_worth_L184 C n r0 v3 v4 v6 X158_60
theorem sX12_worth (n : Nat) (r0 : Nat) (v1 : Int32) (v2 : Int32) (v3 : Int32) : q_Ct yX12_worth cX12_worth 10 (some .long) 2 47 0 0 q_eL (fun P => [.ref (P + r0), .int v1, .int v2, .int v3]) (fX12_worth n r0 v1 v2 v3) := by
  refine q_meth (by decide +kernel) (fun P => Nat.le_of_ble_eq_true rfl) (fun E X C hn => ?_)
  show Sm E (q_fin E q_eL X 0 0) 0 0 0 [(0, .ref (q_P E + r0)), (1, .int v1), (2, .int v2), (3, .int v3)] [] X _
  unfold fX12_worth
  refine q_aload_n C 0 dX12_worth_0 rfl rfl ?_
  refine q_iconst C (0 : Int32) dX12_worth_1 rfl ?_
  refine q_chk (fun h2 => ?_)
  refine p_putI C fpX12_63 rfl dX12_worth_2 h2 ?_
  refine q_nmX (fun X2_1 => ?_)
  refine q_aload_n C 0 dX12_worth_5 rfl rfl ?_
  refine q_iload_n C 1 dX12_worth_6 rfl rfl ?_
  refine q_chk (fun h5 => ?_)
  refine q_cVI (As := (fun P => [.int v1])) C [] (sX12_isEvent r0 v1) fcX12_133 rfl (fun _ => rfl) ⟨Nat.le_of_ble_eq_true rfl, Nat.le_of_ble_eq_true rfl⟩ ⟨Nat.le_of_ble_eq_true rfl, Nat.le_of_ble_eq_true rfl⟩ (Nat.le_of_ble_eq_true rfl) dX12_worth_7 h5 (fun w3 X7_4 => ?_)
  refine q_if_eq C 55 dX12_worth_10 (by decide) (fun _ => ?_) (fun _ => ?_)
  · refine q_sub C [] [] rfl ?_
    exact gX12_worth_L55 C n X7_4
  · refine q_aload_n C 0 dX12_worth_13 rfl rfl ?_
    refine q_iload_n C 2 dX12_worth_14 rfl rfl ?_
    refine q_i2l C dX12_worth_15 ?_
    refine q_lconst C (0 : Int64) dX12_worth_16 rfl ?_
    refine q_ldc2 C dX12_worth_17 fkX12_403 ?_
    refine q_chk (fun h8 => ?_)
    refine q_cVI (As := (fun P => [.long ((v2).toInt64), .long (0 : Int64), .long (99999 : Int64)])) C [] (sX12_isIn r0 (((v2).toInt64)) (0 : Int64) (99999 : Int64)) fcX12_80 rfl (fun _ => rfl) ⟨Nat.le_of_ble_eq_true rfl, Nat.le_of_ble_eq_true rfl⟩ ⟨Nat.le_of_ble_eq_true rfl, Nat.le_of_ble_eq_true rfl⟩ (Nat.le_of_ble_eq_true rfl) dX12_worth_20 h8 (fun w6 X20_7 => ?_)
    refine q_if_eq C 55 dX12_worth_23 (by decide) (fun _ => ?_) (fun _ => ?_)
    · refine q_sub C [] [] rfl ?_
      exact gX12_worth_L55 C n X20_7
    · refine q_aload_n C 0 dX12_worth_26 rfl rfl ?_
      refine q_iload_n C 3 dX12_worth_27 rfl rfl ?_
      refine q_i2l C dX12_worth_28 ?_
      refine q_lconst C (0 : Int64) dX12_worth_29 rfl ?_
      refine q_lconst C (1 : Int64) dX12_worth_30 rfl ?_
      refine q_chk (fun h11 => ?_)
      refine q_cVI (As := (fun P => [.long ((v3).toInt64), .long (0 : Int64), .long (1 : Int64)])) C [] (sX12_isIn r0 (((v3).toInt64)) (0 : Int64) (1 : Int64)) fcX12_80 rfl (fun _ => rfl) ⟨Nat.le_of_ble_eq_true rfl, Nat.le_of_ble_eq_true rfl⟩ ⟨Nat.le_of_ble_eq_true rfl, Nat.le_of_ble_eq_true rfl⟩ (Nat.le_of_ble_eq_true rfl) dX12_worth_31 h11 (fun w9 X31_10 => ?_)
      refine q_if_eq C 55 dX12_worth_34 (by decide) (fun _ => ?_) (fun _ => ?_)
      · refine q_sub C [] [] rfl ?_
        exact gX12_worth_L55 C n X31_10
      · refine q_aload_n C 0 dX12_worth_37 rfl rfl ?_
        refine q_chk (fun h12 => ?_)
        refine q_chk (fun h13 => ?_)
        refine p_getR C fgX12_11 rfl dX12_worth_38 h12 h13 ?_
        refine q_aload_n C 0 dX12_worth_41 rfl rfl ?_
        refine q_iload_n C 1 dX12_worth_42 rfl rfl ?_
        refine q_iconst C (0 : Int32) dX12_worth_43 rfl ?_
        refine q_cVI (As := (fun P => [.int v1, .int (0 : Int32)])) C [.ref (q_P E + (mR X31_10 r0 1))] (sX12_of r0 v1 (0 : Int32)) fcX12_66 rfl (fun _ => rfl) ⟨Nat.le_of_ble_eq_true rfl, Nat.le_of_ble_eq_true rfl⟩ ⟨Nat.le_of_ble_eq_true rfl, Nat.le_of_ble_eq_true rfl⟩ (Nat.le_of_ble_eq_true rfl) dX12_worth_44 h12 (fun w14 X44_15 => ?_)
        refine q_chk (fun h16 => ?_)
        refine q_chk (fun h17 => ?_)
        refine p_lald C dX12_worth_47 h16 h17 ?_
        refine q_ldc2 C dX12_worth_48 fkX12_153 ?_
        refine q_lcmp C dX12_worth_51 ?_
        refine q_if_ne C 59 dX12_worth_52 (by decide) (fun _ => ?_) (fun _ => ?_)
        · refine q_sub C [] [] rfl ?_
          exact gX12_worth_L55 C n X44_15
        · refine q_aload_n C 0 dX12_worth_59 rfl rfl ?_
          refine q_chk (fun h18 => ?_)
          refine q_chk (fun h19 => ?_)
          refine p_getR C fgX12_11 rfl dX12_worth_60 h18 h19 ?_
          refine q_aload_n C 0 dX12_worth_63 rfl rfl ?_
          refine q_iload_n C 1 dX12_worth_64 rfl rfl ?_
          refine q_bipush C (9 : Int32) dX12_worth_65 rfl ?_
          refine q_cVI (As := (fun P => [.int v1, .int (9 : Int32)])) C [.ref (q_P E + (mR X44_15 r0 1))] (sX12_of r0 v1 (9 : Int32)) fcX12_66 rfl (fun _ => rfl) ⟨Nat.le_of_ble_eq_true rfl, Nat.le_of_ble_eq_true rfl⟩ ⟨Nat.le_of_ble_eq_true rfl, Nat.le_of_ble_eq_true rfl⟩ (Nat.le_of_ble_eq_true rfl) dX12_worth_67 h18 (fun w20 X67_21 => ?_)
          refine q_chk (fun h22 => ?_)
          refine q_chk (fun h23 => ?_)
          refine p_lald C dX12_worth_70 h22 h23 ?_
          refine q_iload_n C 2 dX12_worth_71 rfl rfl ?_
          refine q_i2l C dX12_worth_72 ?_
          refine q_lmul C dX12_worth_73 ?_
          refine q_nml (fun v4_74 => ?_)
          refine q_lstore C [(4, .long v4_74), (0, .ref (q_P E + r0)), (1, .int v1), (2, .int v2), (3, .int v3)] dX12_worth_74 (Nat.le_of_ble_eq_true rfl) rfl ?_
          refine q_aload_n C 1 dX12_worth_76 rfl rfl ?_
          refine q_chk (fun h25 => ?_)
          refine q_chk (fun h26 => ?_)
          refine p_getR C fgX12_11 rfl dX12_worth_77 h25 h26 ?_
          refine q_aload_n C 1 dX12_worth_80 rfl rfl ?_
          refine q_iload_n C 2 dX12_worth_81 rfl rfl ?_
          refine q_bipush C (8 : Int32) dX12_worth_82 rfl ?_
          refine q_cVI (As := (fun P => [.int v1, .int (8 : Int32)])) C [.ref (q_P E + (mR X67_21 r0 1))] (sX12_of r0 v1 (8 : Int32)) fcX12_66 rfl (fun _ => rfl) ⟨Nat.le_of_ble_eq_true rfl, Nat.le_of_ble_eq_true rfl⟩ ⟨Nat.le_of_ble_eq_true rfl, Nat.le_of_ble_eq_true rfl⟩ (Nat.le_of_ble_eq_true rfl) dX12_worth_84 h25 (fun w27 X84_28 => ?_)
          refine q_chk (fun h29 => ?_)
          refine q_chk (fun h30 => ?_)
          refine p_lald C dX12_worth_87 h29 h30 ?_
          refine q_aload_n C 1 dX12_worth_88 rfl rfl ?_
          refine q_chk (fun h31 => ?_)
          refine q_chk (fun h32 => ?_)
          refine p_getR C fgX12_11 rfl dX12_worth_89 h31 h32 ?_
          refine q_aload_n C 1 dX12_worth_92 rfl rfl ?_
          refine q_iload_n C 2 dX12_worth_93 rfl rfl ?_
          refine q_bipush C (9 : Int32) dX12_worth_94 rfl ?_
          refine q_cVI (As := (fun P => [.int v1, .int (9 : Int32)])) C [.ref (q_P E + (mR X84_28 r0 1)), .long (mJ X84_28 (mR X67_21 r0 1) (w27).toNatClampNeg)] (sX12_of r0 v1 (9 : Int32)) fcX12_66 rfl (fun _ => rfl) ⟨Nat.le_of_ble_eq_true rfl, Nat.le_of_ble_eq_true rfl⟩ ⟨Nat.le_of_ble_eq_true rfl, Nat.le_of_ble_eq_true rfl⟩ (Nat.le_of_ble_eq_true rfl) dX12_worth_96 h31 (fun w33 X96_34 => ?_)
          refine q_chk (fun h35 => ?_)
          refine q_chk (fun h36 => ?_)
          refine p_lald C dX12_worth_99 h35 h36 ?_
          refine q_ladd C dX12_worth_100 ?_
          refine q_nml (fun v6_101 => ?_)
          refine q_lstore C [(6, .long v6_101), (4, .long v4_74), (0, .ref (q_P E + r0)), (1, .int v1), (2, .int v2), (3, .int v3)] dX12_worth_101 (Nat.le_of_ble_eq_true rfl) rfl ?_
          refine q_aload_n C 2 dX12_worth_103 rfl rfl ?_
          refine q_chk (fun h38 => ?_)
          refine q_chk (fun h39 => ?_)
          refine p_getR C fgX12_11 rfl dX12_worth_104 h38 h39 ?_
          refine q_aload_n C 2 dX12_worth_107 rfl rfl ?_
          refine q_iload_n C 3 dX12_worth_108 rfl rfl ?_
          refine q_iconst C (0 : Int32) dX12_worth_109 rfl ?_
          refine q_cVI (As := (fun P => [.int v1, .int (0 : Int32)])) C [.ref (q_P E + (mR X96_34 r0 1))] (sX12_of r0 v1 (0 : Int32)) fcX12_66 rfl (fun _ => rfl) ⟨Nat.le_of_ble_eq_true rfl, Nat.le_of_ble_eq_true rfl⟩ ⟨Nat.le_of_ble_eq_true rfl, Nat.le_of_ble_eq_true rfl⟩ (Nat.le_of_ble_eq_true rfl) dX12_worth_110 h38 (fun w40 X110_41 => ?_)
          refine q_chk (fun h42 => ?_)
          refine q_chk (fun h43 => ?_)
          refine p_lald C dX12_worth_113 h42 h43 ?_
          refine q_ldc2 C dX12_worth_114 fkX12_136 ?_
          refine q_lcmp C dX12_worth_117 ?_
          refine q_if_ne C 151 dX12_worth_118 (by decide) (fun _ => ?_) (fun _ => ?_)
          · refine q_lload C 1 dX12_worth_121 rfl ?_
            refine q_aload_n C 2 dX12_worth_123 rfl rfl ?_
            refine q_chk (fun h44 => ?_)
            refine q_chk (fun h45 => ?_)
            refine p_getR C fgX12_11 rfl dX12_worth_124 h44 h45 ?_
            refine q_aload_n C 2 dX12_worth_127 rfl rfl ?_
            refine q_iload_n C 3 dX12_worth_128 rfl rfl ?_
            refine q_bipush C (8 : Int32) dX12_worth_129 rfl ?_
            refine q_cVI (As := (fun P => [.int v1, .int (8 : Int32)])) C [.ref (q_P E + (mR X110_41 r0 1)), .long v4_74] (sX12_of r0 v1 (8 : Int32)) fcX12_66 rfl (fun _ => rfl) ⟨Nat.le_of_ble_eq_true rfl, Nat.le_of_ble_eq_true rfl⟩ ⟨Nat.le_of_ble_eq_true rfl, Nat.le_of_ble_eq_true rfl⟩ (Nat.le_of_ble_eq_true rfl) dX12_worth_131 h44 (fun w46 X131_47 => ?_)
            refine q_chk (fun h48 => ?_)
            refine q_chk (fun h49 => ?_)
            refine p_lald C dX12_worth_134 h48 h49 ?_
            refine q_aload_n C 2 dX12_worth_135 rfl rfl ?_
            refine q_chk (fun h50 => ?_)
            refine q_chk (fun h51 => ?_)
            refine p_getR C fgX12_11 rfl dX12_worth_136 h50 h51 ?_
            refine q_aload_n C 2 dX12_worth_139 rfl rfl ?_
            refine q_iload_n C 3 dX12_worth_140 rfl rfl ?_
            refine q_bipush C (10 : Int32) dX12_worth_141 rfl ?_
            refine q_cVI (As := (fun P => [.int v1, .int (10 : Int32)])) C [.ref (q_P E + (mR X131_47 r0 1)), .long (mJ X131_47 (mR X110_41 r0 1) (w46).toNatClampNeg), .long v4_74] (sX12_of r0 v1 (10 : Int32)) fcX12_66 rfl (fun _ => rfl) ⟨Nat.le_of_ble_eq_true rfl, Nat.le_of_ble_eq_true rfl⟩ ⟨Nat.le_of_ble_eq_true rfl, Nat.le_of_ble_eq_true rfl⟩ (Nat.le_of_ble_eq_true rfl) dX12_worth_143 h50 (fun w52 X143_53 => ?_)
            refine q_chk (fun h54 => ?_)
            refine q_chk (fun h55 => ?_)
            refine p_lald C dX12_worth_146 h54 h55 ?_
            refine q_lmul C dX12_worth_147 ?_
            refine q_ladd C dX12_worth_148 ?_
            refine q_nml (fun v4_149 => ?_)
            refine q_lstore C [(4, .long v4_149), (6, .long v6_101), (0, .ref (q_P E + r0)), (1, .int v1), (2, .int v2), (3, .int v3)] dX12_worth_149 (Nat.le_of_ble_eq_true rfl) rfl ?_
            refine q_sub C [(0, .ref (q_P E + r0)), (1, .int v1), (2, .int v2), (3, .int v3), (4, .long v4_149), (6, .long v6_101)] [2, 3, 4, 5, 0, 1] rfl ?_
            exact gX12_worth_L151 C n r0 v1 v2 v3 v4_149 v6_101 X143_53
          · refine q_sub C [(0, .ref (q_P E + r0)), (1, .int v1), (2, .int v2), (3, .int v3), (4, .long v4_74), (6, .long v6_101)] [2, 3, 4, 5, 1, 0] rfl ?_
            exact gX12_worth_L151 C n r0 v1 v2 v3 v4_74 v6_101 X110_41
/-! RecordClaimsModel.canGo(I)Z -/
abbrev cX12_canGo : ByteArray := prog_14_method_98_code
def yX12_canGo : MethodName := ⟨RX12, "canGo", "(I)Z"⟩
theorem dX12_canGo_0 : decode cX12_canGo 0 = .ok (.aload_n 0, 1) := by decide +kernel
theorem dX12_canGo_1 : decode cX12_canGo 1 = .ok (.iload_n 1, 1) := by decide +kernel
theorem dX12_canGo_2 : decode cX12_canGo 2 = .ok (.i2l, 1) := by decide +kernel
theorem dX12_canGo_3 : decode cX12_canGo 3 = .ok (.lconst 0, 1) := by decide +kernel
theorem dX12_canGo_4 : decode cX12_canGo 4 = .ok (.ldc2_w 144, 3) := by decide +kernel
theorem dX12_canGo_7 : decode cX12_canGo 7 = .ok (.invokevirtual 80, 3) := by decide +kernel
theorem dX12_canGo_10 : decode cX12_canGo 10 = .ok (.ireturn, 1) := by decide +kernel
def fX12_canGo (r0 : Nat) (v1 : Int32) (X : Mm) : Option (Int32 × Mm) :=
if mT X r0 = 12 then
bd (fX12_isIn r0 (((v1).toInt64)) (0 : Int64) (99 : Int64) X) fun w1 X7_2 =>
if w1 = 0 ∨ w1 = 1 then some (w1, X7_2) else none
else none
theorem sX12_canGo (r0 : Nat) (v1 : Int32) : q_Ct yX12_canGo cX12_canGo 2 (some .boolean) 1 26 0 0 q_eI (fun P => [.ref (P + r0), .int v1]) (fX12_canGo r0 v1) := by
  refine q_meth (by decide +kernel) (fun P => Nat.le_of_ble_eq_true rfl) (fun E X C hn => ?_)
  show Sm E (q_fin E q_eI X 0 0) 0 0 0 [(0, .ref (q_P E + r0)), (1, .int v1)] [] X _
  unfold fX12_canGo
  refine q_aload_n C 0 dX12_canGo_0 rfl rfl ?_
  refine q_iload_n C 1 dX12_canGo_1 rfl rfl ?_
  refine q_i2l C dX12_canGo_2 ?_
  refine q_lconst C (0 : Int64) dX12_canGo_3 rfl ?_
  refine q_ldc2 C dX12_canGo_4 fkX12_144 ?_
  refine q_chk (fun h3 => ?_)
  refine q_cVI (As := (fun P => [.long ((v1).toInt64), .long (0 : Int64), .long (99 : Int64)])) C [] (sX12_isIn r0 (((v1).toInt64)) (0 : Int64) (99 : Int64)) fcX12_80 rfl (fun _ => rfl) ⟨Nat.le_of_ble_eq_true rfl, Nat.le_of_ble_eq_true rfl⟩ ⟨Nat.le_of_ble_eq_true rfl, Nat.le_of_ble_eq_true rfl⟩ (Nat.le_of_ble_eq_true rfl) dX12_canGo_7 h3 (fun w1 X7_2 => ?_)
  exact q_zret C dX12_canGo_10
/-! RecordClaimsModel.goesAhead(I)V -/
abbrev cX12_goesAhead : ByteArray := prog_14_method_99_code
def yX12_goesAhead : MethodName := ⟨RX12, "goesAhead", "(I)V"⟩
theorem dX12_goesAhead_0 : decode cX12_goesAhead 0 = .ok (.iconst 0, 1) := by decide +kernel
theorem dX12_goesAhead_1 : decode cX12_goesAhead 1 = .ok (.istore_n 2, 1) := by decide +kernel
theorem dX12_goesAhead_2 : decode cX12_goesAhead 2 = .ok (.iload_n 2, 1) := by decide +kernel
theorem dX12_goesAhead_3 : decode cX12_goesAhead 3 = .ok (.iload_n 1, 1) := by decide +kernel
theorem dX12_goesAhead_4 : decode cX12_goesAhead 4 = .ok (.if_icmp .ge 23, 3) := by decide +kernel
theorem dX12_goesAhead_7 : decode cX12_goesAhead 7 = .ok (.aload_n 0, 1) := by decide +kernel
theorem dX12_goesAhead_8 : decode cX12_goesAhead 8 = .ok (.invokevirtual 114, 3) := by decide +kernel
theorem dX12_goesAhead_11 : decode cX12_goesAhead 11 = .ok (.sipush 999, 3) := by decide +kernel
theorem dX12_goesAhead_14 : decode cX12_goesAhead 14 = .ok (.if_icmp .ge 13, 3) := by decide +kernel
theorem dX12_goesAhead_17 : decode cX12_goesAhead 17 = .ok (.aload_n 0, 1) := by decide +kernel
theorem dX12_goesAhead_18 : decode cX12_goesAhead 18 = .ok (.invokevirtual 146, 3) := by decide +kernel
theorem dX12_goesAhead_21 : decode cX12_goesAhead 21 = .ok (.iinc 2 1, 3) := by decide +kernel
theorem dX12_goesAhead_24 : decode cX12_goesAhead 24 = .ok (.goto (-22), 3) := by decide +kernel
theorem dX12_goesAhead_27 : decode cX12_goesAhead 27 = .ok (.return_, 1) := by decide +kernel
def fX12_goesAhead_L2 (n : Nat) : Nat → Nat → Int32 → Int32 → Mm → Option (Unit × Mm)
| 0, _, _, _, _ => none
| j + 1, r0, v1, v2, X =>
if v1 ≤ v2 then (
some ((), X)
) else (
if mT X r0 = 12 then
bd (fX12_today r0 X) fun w1 X8_2 =>
if (999 : Int32) ≤ w1 then (
some ((), X8_2)
) else (
if mT X8_2 r0 = 12 then
bd (fX12_oneDay n r0 X8_2) fun _ X18_5 =>
nm (v2 + (1 : Int32)) fun v2_21 =>
(fX12_goesAhead_L2 n j) r0 v1 v2_21 X18_5
else none
)
else none
)
def fX12_goesAhead (n : Nat) (r0 : Nat) (v1 : Int32) (X : Mm) : Option (Unit × Mm) :=
fX12_goesAhead_L2 n n r0 v1 (0 : Int32) X
theorem gX12_goesAhead_L2 {E : q_E} {X0 : Mm} (C : Cx E cX12_goesAhead RX12 3 none (q_rm 6 142 0 0) X0) (n : Nat) : ∀ (j : Nat) (r0 : Nat) (v1 : Int32) (v2 : Int32) (X : Mm), Sm E (q_fin E q_eV X0 0 0) 0 0 2 [(0, .ref (q_P E + r0)), (1, .int v1), (2, .int v2)] [] X (fX12_goesAhead_L2 n j r0 v1 v2 X) := by
  intro j
  induction j with
  | zero => intros; exact Sm.none
  | succ j ih =>
    intro r0 v1 v2 X
    rw [fX12_goesAhead_L2]
    refine q_iload_n C 2 dX12_goesAhead_2 rfl rfl ?_
    refine q_iload_n C 1 dX12_goesAhead_3 rfl rfl ?_
    refine q_icmp_ge C 27 dX12_goesAhead_4 (by decide) (fun _ => ?_) (fun _ => ?_)
    · exact q_vret C dX12_goesAhead_27
    · refine q_aload_n C 0 dX12_goesAhead_7 rfl rfl ?_
      refine q_chk (fun h3 => ?_)
      refine q_cVI (As := (fun P => [])) C [] (sX12_today r0) fcX12_114 rfl (fun _ => rfl) ⟨Nat.le_of_ble_eq_true rfl, Nat.le_of_ble_eq_true rfl⟩ ⟨Nat.le_of_ble_eq_true rfl, Nat.le_of_ble_eq_true rfl⟩ (Nat.le_of_ble_eq_true rfl) dX12_goesAhead_8 h3 (fun w1 X8_2 => ?_)
      refine q_sipush C (999 : Int32) dX12_goesAhead_11 rfl ?_
      refine q_icmp_ge C 27 dX12_goesAhead_14 (by decide) (fun _ => ?_) (fun _ => ?_)
      · exact q_vret C dX12_goesAhead_27
      · refine q_aload_n C 0 dX12_goesAhead_17 rfl rfl ?_
        refine q_chk (fun h6 => ?_)
        refine q_cVV (As := (fun P => [])) C [] (sX12_oneDay n r0) fcX12_146 rfl (fun _ => rfl) ⟨Nat.le_of_ble_eq_true rfl, Nat.le_of_ble_eq_true rfl⟩ ⟨Nat.le_of_ble_eq_true rfl, Nat.le_of_ble_eq_true rfl⟩ (Nat.le_of_ble_eq_true rfl) dX12_goesAhead_18 h6 (fun _ X18_5 => ?_)
        refine q_iincN C (1 : Int32) 2 (fun v2_21 => [(2, .int v2_21), (0, .ref (q_P E + r0)), (1, .int v1)]) dX12_goesAhead_21 rfl rfl (Nat.le_of_ble_eq_true rfl) (fun _ => rfl) (fun v2_21 => ?_)
        refine q_goto C 2 dX12_goesAhead_24 (by decide) ?_
        refine q_sub C [(0, .ref (q_P E + r0)), (1, .int v1), (2, .int v2_21)] [1, 2, 0] rfl ?_
        exact ih r0 v1 v2_21 X18_5
theorem sX12_goesAhead (n : Nat) (r0 : Nat) (v1 : Int32) : q_Ct yX12_goesAhead cX12_goesAhead 3 none 6 142 0 0 q_eV (fun P => [.ref (P + r0), .int v1]) (fX12_goesAhead n r0 v1) := by
  refine q_meth (by decide +kernel) (fun P => Nat.le_of_ble_eq_true rfl) (fun E X C hn => ?_)
  show Sm E (q_fin E q_eV X 0 0) 0 0 0 [(0, .ref (q_P E + r0)), (1, .int v1)] [] X _
  unfold fX12_goesAhead
  refine q_iconst C (0 : Int32) dX12_goesAhead_0 rfl ?_
  refine q_istore_n C [(2, .int (0 : Int32)), (0, .ref (q_P E + r0)), (1, .int v1)] dX12_goesAhead_1 rfl (Nat.le_of_ble_eq_true rfl) rfl ?_
  refine q_sub C [(0, .ref (q_P E + r0)), (1, .int v1), (2, .int (0 : Int32))] [1, 2, 0] rfl ?_
  exact gX12_goesAhead_L2 C n n r0 v1 (0 : Int32) X
/-! RecordClaimsModel.ahead(III)J -/
abbrev cX12_ahead : ByteArray := prog_14_method_100_code
def yX12_ahead : MethodName := ⟨RX12, "ahead", "(III)J"⟩
theorem dX12_ahead_0 : decode cX12_ahead 0 = .ok (.aload_n 0, 1) := by decide +kernel
theorem dX12_ahead_1 : decode cX12_ahead 1 = .ok (.iconst 0, 1) := by decide +kernel
theorem dX12_ahead_2 : decode cX12_ahead 2 = .ok (.putfield 63, 3) := by decide +kernel
theorem dX12_ahead_5 : decode cX12_ahead 5 = .ok (.aload_n 0, 1) := by decide +kernel
theorem dX12_ahead_6 : decode cX12_ahead 6 = .ok (.iload_n 1, 1) := by decide +kernel
theorem dX12_ahead_7 : decode cX12_ahead 7 = .ok (.invokevirtual 98, 3) := by decide +kernel
theorem dX12_ahead_10 : decode cX12_ahead 10 = .ok (.ifCond .eq 19, 3) := by decide +kernel
theorem dX12_ahead_13 : decode cX12_ahead 13 = .ok (.aload_n 0, 1) := by decide +kernel
theorem dX12_ahead_14 : decode cX12_ahead 14 = .ok (.iload_n 2, 1) := by decide +kernel
theorem dX12_ahead_15 : decode cX12_ahead 15 = .ok (.invokevirtual 102, 3) := by decide +kernel
theorem dX12_ahead_18 : decode cX12_ahead 18 = .ok (.ifCond .eq 11, 3) := by decide +kernel
theorem dX12_ahead_21 : decode cX12_ahead 21 = .ok (.aload_n 0, 1) := by decide +kernel
theorem dX12_ahead_22 : decode cX12_ahead 22 = .ok (.iload_n 3, 1) := by decide +kernel
theorem dX12_ahead_23 : decode cX12_ahead 23 = .ok (.invokevirtual 408, 3) := by decide +kernel
theorem dX12_ahead_26 : decode cX12_ahead 26 = .ok (.ifCond .ne 7, 3) := by decide +kernel
theorem dX12_ahead_29 : decode cX12_ahead 29 = .ok (.ldc2_w 117, 3) := by decide +kernel
theorem dX12_ahead_32 : decode cX12_ahead 32 = .ok (.lreturn, 1) := by decide +kernel
theorem dX12_ahead_33 : decode cX12_ahead 33 = .ok (.aload_n 0, 1) := by decide +kernel
theorem dX12_ahead_34 : decode cX12_ahead 34 = .ok (.aload_n 0, 1) := by decide +kernel
theorem dX12_ahead_35 : decode cX12_ahead 35 = .ok (.getfield 11, 3) := by decide +kernel
theorem dX12_ahead_38 : decode cX12_ahead 38 = .ok (.iconst 0, 1) := by decide +kernel
theorem dX12_ahead_39 : decode cX12_ahead 39 = .ok (.aload_n 0, 1) := by decide +kernel
theorem dX12_ahead_40 : decode cX12_ahead 40 = .ok (.getfield 18, 3) := by decide +kernel
theorem dX12_ahead_43 : decode cX12_ahead 43 = .ok (.iconst 0, 1) := by decide +kernel
theorem dX12_ahead_44 : decode cX12_ahead 44 = .ok (.invokevirtual 73, 3) := by decide +kernel
theorem dX12_ahead_47 : decode cX12_ahead 47 = .ok (.aload_n 0, 1) := by decide +kernel
theorem dX12_ahead_48 : decode cX12_ahead 48 = .ok (.iload_n 3, 1) := by decide +kernel
theorem dX12_ahead_49 : decode cX12_ahead 49 = .ok (.invokevirtual 411, 3) := by decide +kernel
theorem dX12_ahead_52 : decode cX12_ahead 52 = .ok (.aload_n 0, 1) := by decide +kernel
theorem dX12_ahead_53 : decode cX12_ahead 53 = .ok (.iload_n 1, 1) := by decide +kernel
theorem dX12_ahead_54 : decode cX12_ahead 54 = .ok (.i2l, 1) := by decide +kernel
theorem dX12_ahead_55 : decode cX12_ahead 55 = .ok (.iload_n 2, 1) := by decide +kernel
theorem dX12_ahead_56 : decode cX12_ahead 56 = .ok (.i2l, 1) := by decide +kernel
theorem dX12_ahead_57 : decode cX12_ahead 57 = .ok (.invokevirtual 171, 3) := by decide +kernel
theorem dX12_ahead_60 : decode cX12_ahead 60 = .ok (.lstore 4, 2) := by decide +kernel
theorem dX12_ahead_62 : decode cX12_ahead 62 = .ok (.aload_n 0, 1) := by decide +kernel
theorem dX12_ahead_63 : decode cX12_ahead 63 = .ok (.aload_n 0, 1) := by decide +kernel
theorem dX12_ahead_64 : decode cX12_ahead 64 = .ok (.getfield 18, 3) := by decide +kernel
theorem dX12_ahead_67 : decode cX12_ahead 67 = .ok (.iconst 0, 1) := by decide +kernel
theorem dX12_ahead_68 : decode cX12_ahead 68 = .ok (.aload_n 0, 1) := by decide +kernel
theorem dX12_ahead_69 : decode cX12_ahead 69 = .ok (.getfield 11, 3) := by decide +kernel
theorem dX12_ahead_72 : decode cX12_ahead 72 = .ok (.iconst 0, 1) := by decide +kernel
theorem dX12_ahead_73 : decode cX12_ahead 73 = .ok (.invokevirtual 73, 3) := by decide +kernel
theorem dX12_ahead_76 : decode cX12_ahead 76 = .ok (.lload 4, 2) := by decide +kernel
theorem dX12_ahead_78 : decode cX12_ahead 78 = .ok (.lreturn, 1) := by decide +kernel
theorem fcX12_408 : q_LV RX12 408 yX12_canGo cX12_canGo 2 (some .boolean) 1 12 := ⟨q_tb 1763 (by decide +kernel) rfl, q_tb 1765 (by decide +kernel) rfl, q_tbs (q := (yX12_canGo, 35)) 123 (by decide +kernel) rfl, q_tb 13 (by decide +kernel) rfl, q_tb 1766 (by decide +kernel) rfl, ⟨by decide +kernel, by decide +kernel, by decide +kernel⟩, TX12, 35, rfl⟩
theorem fgX12_18 : q_Fg RX12 18 12 3 := q_Fg.of (C := RX12) (T := TX12) (N := 35) rfl (by decide) inX12 1254 (by decide +kernel) rfl rfl
theorem fcX12_411 : q_LV RX12 411 yX12_goesAhead cX12_goesAhead 3 none 1 12 := ⟨q_tb 1767 (by decide +kernel) rfl, q_tb 1769 (by decide +kernel) rfl, q_tbs (q := (yX12_goesAhead, 35)) 124 (by decide +kernel) rfl, q_tb 13 (by decide +kernel) rfl, q_tb 1770 (by decide +kernel) rfl, ⟨by decide +kernel, by decide +kernel, by decide +kernel⟩, TX12, 35, rfl⟩
def fX12_ahead_L29 (n : Nat) (X : Mm) : Option (Int64 × Mm) :=
some ((-1 : Int64), X)
def fX12_ahead (n : Nat) (r0 : Nat) (v1 : Int32) (v2 : Int32) (v3 : Int32) (X : Mm) : Option (Int64 × Mm) :=
if mT X r0 = 12 then
nm (sI X r0 0 (0 : Int32)) fun X2_1 =>
if mT X2_1 r0 = 12 then
bd (fX12_isHolder r0 v1 X2_1) fun w3 X7_4 =>
if w3 = 0 then (
fX12_ahead_L29 n X7_4
) else (
if mT X7_4 r0 = 12 then
bd (fX12_isPaper r0 v2 X7_4) fun w6 X15_7 =>
if w6 = 0 then (
fX12_ahead_L29 n X15_7
) else (
if mT X15_7 r0 = 12 then
bd (fX12_canGo r0 v3 X15_7) fun w9 X23_10 =>
if w9 = 0 then (
fX12_ahead_L29 n X23_10
) else (
if mT X23_10 r0 = 12 then
if mR X23_10 r0 1 ≠ 0 then
if mR X23_10 r0 3 ≠ 0 then
bd (fX12_copies n r0 ((mR X23_10 r0 1)) (0 : Int32) ((mR X23_10 r0 3)) (0 : Int32) X23_10) fun _ X44_16 =>
if mT X44_16 r0 = 12 then
bd (fX12_goesAhead n r0 v3 X44_16) fun _ X49_18 =>
if mT X49_18 r0 = 12 then
bd (fX12_sharesOf r0 (((v1).toInt64)) (((v2).toInt64)) X49_18) fun w20 X57_21 =>
if mT X57_21 r0 = 12 then
if mR X57_21 r0 3 ≠ 0 then
if mR X57_21 r0 1 ≠ 0 then
bd (fX12_copies n r0 ((mR X57_21 r0 3)) (0 : Int32) ((mR X57_21 r0 1)) (0 : Int32) X57_21) fun _ X73_27 =>
some (w20, X73_27)
else none
else none
else none
else none
else none
else none
else none
else none
)
else none
)
else none
)
else none
else none
theorem gX12_ahead_L29 {E : q_E} {X0 : Mm} (C : Cx E cX12_ahead RX12 6 (some .long) (q_rm 7 164 0 0) X0) (n : Nat) (X : Mm) : Sm E (q_fin E q_eL X0 0 0) 0 0 29 [] [] X (fX12_ahead_L29 n  X) := by
  unfold fX12_ahead_L29
  refine q_ldc2 C dX12_ahead_29 fkX12_117 ?_
  exact q_lret C dX12_ahead_32
theorem sX12_ahead (n : Nat) (r0 : Nat) (v1 : Int32) (v2 : Int32) (v3 : Int32) : q_Ct yX12_ahead cX12_ahead 6 (some .long) 7 164 0 0 q_eL (fun P => [.ref (P + r0), .int v1, .int v2, .int v3]) (fX12_ahead n r0 v1 v2 v3) := by
  refine q_meth (by decide +kernel) (fun P => Nat.le_of_ble_eq_true rfl) (fun E X C hn => ?_)
  show Sm E (q_fin E q_eL X 0 0) 0 0 0 [(0, .ref (q_P E + r0)), (1, .int v1), (2, .int v2), (3, .int v3)] [] X _
  unfold fX12_ahead
  refine q_aload_n C 0 dX12_ahead_0 rfl rfl ?_
  refine q_iconst C (0 : Int32) dX12_ahead_1 rfl ?_
  refine q_chk (fun h2 => ?_)
  refine p_putI C fpX12_63 rfl dX12_ahead_2 h2 ?_
  refine q_nmX (fun X2_1 => ?_)
  refine q_aload_n C 0 dX12_ahead_5 rfl rfl ?_
  refine q_iload_n C 1 dX12_ahead_6 rfl rfl ?_
  refine q_chk (fun h5 => ?_)
  refine q_cVI (As := (fun P => [.int v1])) C [] (sX12_isHolder r0 v1) fcX12_98 rfl (fun _ => rfl) ⟨Nat.le_of_ble_eq_true rfl, Nat.le_of_ble_eq_true rfl⟩ ⟨Nat.le_of_ble_eq_true rfl, Nat.le_of_ble_eq_true rfl⟩ (Nat.le_of_ble_eq_true rfl) dX12_ahead_7 h5 (fun w3 X7_4 => ?_)
  refine q_if_eq C 29 dX12_ahead_10 (by decide) (fun _ => ?_) (fun _ => ?_)
  · refine q_sub C [] [] rfl ?_
    exact gX12_ahead_L29 C n X7_4
  · refine q_aload_n C 0 dX12_ahead_13 rfl rfl ?_
    refine q_iload_n C 2 dX12_ahead_14 rfl rfl ?_
    refine q_chk (fun h8 => ?_)
    refine q_cVI (As := (fun P => [.int v2])) C [] (sX12_isPaper r0 v2) fcX12_102 rfl (fun _ => rfl) ⟨Nat.le_of_ble_eq_true rfl, Nat.le_of_ble_eq_true rfl⟩ ⟨Nat.le_of_ble_eq_true rfl, Nat.le_of_ble_eq_true rfl⟩ (Nat.le_of_ble_eq_true rfl) dX12_ahead_15 h8 (fun w6 X15_7 => ?_)
    refine q_if_eq C 29 dX12_ahead_18 (by decide) (fun _ => ?_) (fun _ => ?_)
    · refine q_sub C [] [] rfl ?_
      exact gX12_ahead_L29 C n X15_7
    · refine q_aload_n C 0 dX12_ahead_21 rfl rfl ?_
      refine q_iload_n C 3 dX12_ahead_22 rfl rfl ?_
      refine q_chk (fun h11 => ?_)
      refine q_cVI (As := (fun P => [.int v3])) C [] (sX12_canGo r0 v3) fcX12_408 rfl (fun _ => rfl) ⟨Nat.le_of_ble_eq_true rfl, Nat.le_of_ble_eq_true rfl⟩ ⟨Nat.le_of_ble_eq_true rfl, Nat.le_of_ble_eq_true rfl⟩ (Nat.le_of_ble_eq_true rfl) dX12_ahead_23 h11 (fun w9 X23_10 => ?_)
      refine q_if_ne C 33 dX12_ahead_26 (by decide) (fun _ => ?_) (fun _ => ?_)
      · refine q_sub C [] [] rfl ?_
        exact gX12_ahead_L29 C n X23_10
      · refine q_aload_n C 0 dX12_ahead_33 rfl rfl ?_
        refine q_aload_n C 0 dX12_ahead_34 rfl rfl ?_
        refine q_chk (fun h12 => ?_)
        refine q_chk (fun h13 => ?_)
        refine p_getR C fgX12_11 rfl dX12_ahead_35 h12 h13 ?_
        refine q_iconst C (0 : Int32) dX12_ahead_38 rfl ?_
        refine q_aload_n C 0 dX12_ahead_39 rfl rfl ?_
        refine q_chk (fun h14 => ?_)
        refine p_getR C fgX12_18 rfl dX12_ahead_40 h12 h14 ?_
        refine q_iconst C (0 : Int32) dX12_ahead_43 rfl ?_
        refine q_cVV (As := (fun P => [.ref (P + (mR X23_10 r0 1)), .int (0 : Int32), .ref (P + (mR X23_10 r0 3)), .int (0 : Int32)])) C [] (sX12_copies n r0 ((mR X23_10 r0 1)) (0 : Int32) ((mR X23_10 r0 3)) (0 : Int32)) fcX12_73 rfl (fun _ => rfl) ⟨Nat.le_of_ble_eq_true rfl, Nat.le_of_ble_eq_true rfl⟩ ⟨Nat.le_of_ble_eq_true rfl, Nat.le_of_ble_eq_true rfl⟩ (Nat.le_of_ble_eq_true rfl) dX12_ahead_44 h12 (fun _ X44_16 => ?_)
        refine q_aload_n C 0 dX12_ahead_47 rfl rfl ?_
        refine q_iload_n C 3 dX12_ahead_48 rfl rfl ?_
        refine q_chk (fun h19 => ?_)
        refine q_cVV (As := (fun P => [.int v3])) C [] (sX12_goesAhead n r0 v3) fcX12_411 rfl (fun _ => rfl) ⟨Nat.le_of_ble_eq_true rfl, Nat.le_of_ble_eq_true rfl⟩ ⟨Nat.le_of_ble_eq_true rfl, Nat.le_of_ble_eq_true rfl⟩ (Nat.le_of_ble_eq_true rfl) dX12_ahead_49 h19 (fun _ X49_18 => ?_)
        refine q_aload_n C 0 dX12_ahead_52 rfl rfl ?_
        refine q_iload_n C 1 dX12_ahead_53 rfl rfl ?_
        refine q_i2l C dX12_ahead_54 ?_
        refine q_iload_n C 2 dX12_ahead_55 rfl rfl ?_
        refine q_i2l C dX12_ahead_56 ?_
        refine q_chk (fun h22 => ?_)
        refine q_cVL (As := (fun P => [.long ((v1).toInt64), .long ((v2).toInt64)])) C [] (sX12_sharesOf r0 (((v1).toInt64)) (((v2).toInt64))) fcX12_171 rfl (fun _ => rfl) ⟨Nat.le_of_ble_eq_true rfl, Nat.le_of_ble_eq_true rfl⟩ ⟨Nat.le_of_ble_eq_true rfl, Nat.le_of_ble_eq_true rfl⟩ (Nat.le_of_ble_eq_true rfl) dX12_ahead_57 h22 (fun w20 X57_21 => ?_)
        refine q_lstore C [(4, .long w20), (0, .ref (q_P E + r0)), (1, .int v1), (2, .int v2), (3, .int v3)] dX12_ahead_60 (Nat.le_of_ble_eq_true rfl) rfl ?_
        refine q_aload_n C 1 dX12_ahead_62 rfl rfl ?_
        refine q_aload_n C 1 dX12_ahead_63 rfl rfl ?_
        refine q_chk (fun h23 => ?_)
        refine q_chk (fun h24 => ?_)
        refine p_getR C fgX12_18 rfl dX12_ahead_64 h23 h24 ?_
        refine q_iconst C (0 : Int32) dX12_ahead_67 rfl ?_
        refine q_aload_n C 1 dX12_ahead_68 rfl rfl ?_
        refine q_chk (fun h25 => ?_)
        refine p_getR C fgX12_11 rfl dX12_ahead_69 h23 h25 ?_
        refine q_iconst C (0 : Int32) dX12_ahead_72 rfl ?_
        refine q_cVV (As := (fun P => [.ref (P + (mR X57_21 r0 3)), .int (0 : Int32), .ref (P + (mR X57_21 r0 1)), .int (0 : Int32)])) C [] (sX12_copies n r0 ((mR X57_21 r0 3)) (0 : Int32) ((mR X57_21 r0 1)) (0 : Int32)) fcX12_73 rfl (fun _ => rfl) ⟨Nat.le_of_ble_eq_true rfl, Nat.le_of_ble_eq_true rfl⟩ ⟨Nat.le_of_ble_eq_true rfl, Nat.le_of_ble_eq_true rfl⟩ (Nat.le_of_ble_eq_true rfl) dX12_ahead_73 h23 (fun _ X73_27 => ?_)
        refine q_lload C 0 dX12_ahead_76 rfl ?_
        exact q_lret C dX12_ahead_78
/-! RecordClaimsModel.purseAhead(II)J -/
abbrev cX12_purseAhead : ByteArray := prog_14_method_101_code
def yX12_purseAhead : MethodName := ⟨RX12, "purseAhead", "(II)J"⟩
theorem dX12_purseAhead_0 : decode cX12_purseAhead 0 = .ok (.aload_n 0, 1) := by decide +kernel
theorem dX12_purseAhead_1 : decode cX12_purseAhead 1 = .ok (.iconst 0, 1) := by decide +kernel
theorem dX12_purseAhead_2 : decode cX12_purseAhead 2 = .ok (.putfield 63, 3) := by decide +kernel
theorem dX12_purseAhead_5 : decode cX12_purseAhead 5 = .ok (.aload_n 0, 1) := by decide +kernel
theorem dX12_purseAhead_6 : decode cX12_purseAhead 6 = .ok (.iload_n 1, 1) := by decide +kernel
theorem dX12_purseAhead_7 : decode cX12_purseAhead 7 = .ok (.invokevirtual 98, 3) := by decide +kernel
theorem dX12_purseAhead_10 : decode cX12_purseAhead 10 = .ok (.ifCond .eq 11, 3) := by decide +kernel
theorem dX12_purseAhead_13 : decode cX12_purseAhead 13 = .ok (.aload_n 0, 1) := by decide +kernel
theorem dX12_purseAhead_14 : decode cX12_purseAhead 14 = .ok (.iload_n 2, 1) := by decide +kernel
theorem dX12_purseAhead_15 : decode cX12_purseAhead 15 = .ok (.invokevirtual 408, 3) := by decide +kernel
theorem dX12_purseAhead_18 : decode cX12_purseAhead 18 = .ok (.ifCond .ne 7, 3) := by decide +kernel
theorem dX12_purseAhead_21 : decode cX12_purseAhead 21 = .ok (.ldc2_w 381, 3) := by decide +kernel
theorem dX12_purseAhead_24 : decode cX12_purseAhead 24 = .ok (.lreturn, 1) := by decide +kernel
theorem dX12_purseAhead_25 : decode cX12_purseAhead 25 = .ok (.aload_n 0, 1) := by decide +kernel
theorem dX12_purseAhead_26 : decode cX12_purseAhead 26 = .ok (.aload_n 0, 1) := by decide +kernel
theorem dX12_purseAhead_27 : decode cX12_purseAhead 27 = .ok (.getfield 11, 3) := by decide +kernel
theorem dX12_purseAhead_30 : decode cX12_purseAhead 30 = .ok (.iconst 0, 1) := by decide +kernel
theorem dX12_purseAhead_31 : decode cX12_purseAhead 31 = .ok (.aload_n 0, 1) := by decide +kernel
theorem dX12_purseAhead_32 : decode cX12_purseAhead 32 = .ok (.getfield 18, 3) := by decide +kernel
theorem dX12_purseAhead_35 : decode cX12_purseAhead 35 = .ok (.iconst 0, 1) := by decide +kernel
theorem dX12_purseAhead_36 : decode cX12_purseAhead 36 = .ok (.invokevirtual 73, 3) := by decide +kernel
theorem dX12_purseAhead_39 : decode cX12_purseAhead 39 = .ok (.aload_n 0, 1) := by decide +kernel
theorem dX12_purseAhead_40 : decode cX12_purseAhead 40 = .ok (.iload_n 2, 1) := by decide +kernel
theorem dX12_purseAhead_41 : decode cX12_purseAhead 41 = .ok (.invokevirtual 411, 3) := by decide +kernel
theorem dX12_purseAhead_44 : decode cX12_purseAhead 44 = .ok (.aload_n 0, 1) := by decide +kernel
theorem dX12_purseAhead_45 : decode cX12_purseAhead 45 = .ok (.getfield 11, 3) := by decide +kernel
theorem dX12_purseAhead_48 : decode cX12_purseAhead 48 = .ok (.bipush 50, 2) := by decide +kernel
theorem dX12_purseAhead_50 : decode cX12_purseAhead 50 = .ok (.iload_n 1, 1) := by decide +kernel
theorem dX12_purseAhead_51 : decode cX12_purseAhead 51 = .ok (.iadd, 1) := by decide +kernel
theorem dX12_purseAhead_52 : decode cX12_purseAhead 52 = .ok (.laload, 1) := by decide +kernel
theorem dX12_purseAhead_53 : decode cX12_purseAhead 53 = .ok (.lstore_n 3, 1) := by decide +kernel
theorem dX12_purseAhead_54 : decode cX12_purseAhead 54 = .ok (.aload_n 0, 1) := by decide +kernel
theorem dX12_purseAhead_55 : decode cX12_purseAhead 55 = .ok (.aload_n 0, 1) := by decide +kernel
theorem dX12_purseAhead_56 : decode cX12_purseAhead 56 = .ok (.getfield 18, 3) := by decide +kernel
theorem dX12_purseAhead_59 : decode cX12_purseAhead 59 = .ok (.iconst 0, 1) := by decide +kernel
theorem dX12_purseAhead_60 : decode cX12_purseAhead 60 = .ok (.aload_n 0, 1) := by decide +kernel
theorem dX12_purseAhead_61 : decode cX12_purseAhead 61 = .ok (.getfield 11, 3) := by decide +kernel
theorem dX12_purseAhead_64 : decode cX12_purseAhead 64 = .ok (.iconst 0, 1) := by decide +kernel
theorem dX12_purseAhead_65 : decode cX12_purseAhead 65 = .ok (.invokevirtual 73, 3) := by decide +kernel
theorem dX12_purseAhead_68 : decode cX12_purseAhead 68 = .ok (.lload_n 3, 1) := by decide +kernel
theorem dX12_purseAhead_69 : decode cX12_purseAhead 69 = .ok (.lreturn, 1) := by decide +kernel
def fX12_purseAhead_L21 (n : Nat) (X : Mm) : Option (Int64 × Mm) :=
some ((-9223372036854775808 : Int64), X)
def fX12_purseAhead (n : Nat) (r0 : Nat) (v1 : Int32) (v2 : Int32) (X : Mm) : Option (Int64 × Mm) :=
if mT X r0 = 12 then
nm (sI X r0 0 (0 : Int32)) fun X2_1 =>
if mT X2_1 r0 = 12 then
bd (fX12_isHolder r0 v1 X2_1) fun w3 X7_4 =>
if w3 = 0 then (
fX12_purseAhead_L21 n X7_4
) else (
if mT X7_4 r0 = 12 then
bd (fX12_canGo r0 v2 X7_4) fun w6 X15_7 =>
if w6 = 0 then (
fX12_purseAhead_L21 n X15_7
) else (
if mT X15_7 r0 = 12 then
if mR X15_7 r0 1 ≠ 0 then
if mR X15_7 r0 3 ≠ 0 then
bd (fX12_copies n r0 ((mR X15_7 r0 1)) (0 : Int32) ((mR X15_7 r0 3)) (0 : Int32) X15_7) fun _ X36_13 =>
if mT X36_13 r0 = 12 then
bd (fX12_goesAhead n r0 v2 X36_13) fun _ X41_15 =>
if mT X41_15 r0 = 12 then
if mR X41_15 r0 1 ≠ 0 then
if mT X41_15 (mR X41_15 r0 1) = 15 then
if q_b X41_15 (mR X41_15 r0 1) ((50 : Int32) + v1) then
nm ((mJ X41_15 (mR X41_15 r0 1) (((50 : Int32) + v1)).toNatClampNeg)) fun v3_53 =>
if mR X41_15 r0 3 ≠ 0 then
bd (fX12_copies n r0 ((mR X41_15 r0 3)) (0 : Int32) ((mR X41_15 r0 1)) (0 : Int32) X41_15) fun _ X65_24 =>
some (v3_53, X65_24)
else none
else none
else none
else none
else none
else none
else none
else none
else none
)
else none
)
else none
else none
theorem gX12_purseAhead_L21 {E : q_E} {X0 : Mm} (C : Cx E cX12_purseAhead RX12 5 (some .long) (q_rm 7 164 0 0) X0) (n : Nat) (X : Mm) : Sm E (q_fin E q_eL X0 0 0) 0 0 21 [] [] X (fX12_purseAhead_L21 n  X) := by
  unfold fX12_purseAhead_L21
  refine q_ldc2 C dX12_purseAhead_21 fkX12_381 ?_
  exact q_lret C dX12_purseAhead_24
theorem sX12_purseAhead (n : Nat) (r0 : Nat) (v1 : Int32) (v2 : Int32) : q_Ct yX12_purseAhead cX12_purseAhead 5 (some .long) 7 164 0 0 q_eL (fun P => [.ref (P + r0), .int v1, .int v2]) (fX12_purseAhead n r0 v1 v2) := by
  refine q_meth (by decide +kernel) (fun P => Nat.le_of_ble_eq_true rfl) (fun E X C hn => ?_)
  show Sm E (q_fin E q_eL X 0 0) 0 0 0 [(0, .ref (q_P E + r0)), (1, .int v1), (2, .int v2)] [] X _
  unfold fX12_purseAhead
  refine q_aload_n C 0 dX12_purseAhead_0 rfl rfl ?_
  refine q_iconst C (0 : Int32) dX12_purseAhead_1 rfl ?_
  refine q_chk (fun h2 => ?_)
  refine p_putI C fpX12_63 rfl dX12_purseAhead_2 h2 ?_
  refine q_nmX (fun X2_1 => ?_)
  refine q_aload_n C 0 dX12_purseAhead_5 rfl rfl ?_
  refine q_iload_n C 1 dX12_purseAhead_6 rfl rfl ?_
  refine q_chk (fun h5 => ?_)
  refine q_cVI (As := (fun P => [.int v1])) C [] (sX12_isHolder r0 v1) fcX12_98 rfl (fun _ => rfl) ⟨Nat.le_of_ble_eq_true rfl, Nat.le_of_ble_eq_true rfl⟩ ⟨Nat.le_of_ble_eq_true rfl, Nat.le_of_ble_eq_true rfl⟩ (Nat.le_of_ble_eq_true rfl) dX12_purseAhead_7 h5 (fun w3 X7_4 => ?_)
  refine q_if_eq C 21 dX12_purseAhead_10 (by decide) (fun _ => ?_) (fun _ => ?_)
  · refine q_sub C [] [] rfl ?_
    exact gX12_purseAhead_L21 C n X7_4
  · refine q_aload_n C 0 dX12_purseAhead_13 rfl rfl ?_
    refine q_iload_n C 2 dX12_purseAhead_14 rfl rfl ?_
    refine q_chk (fun h8 => ?_)
    refine q_cVI (As := (fun P => [.int v2])) C [] (sX12_canGo r0 v2) fcX12_408 rfl (fun _ => rfl) ⟨Nat.le_of_ble_eq_true rfl, Nat.le_of_ble_eq_true rfl⟩ ⟨Nat.le_of_ble_eq_true rfl, Nat.le_of_ble_eq_true rfl⟩ (Nat.le_of_ble_eq_true rfl) dX12_purseAhead_15 h8 (fun w6 X15_7 => ?_)
    refine q_if_ne C 25 dX12_purseAhead_18 (by decide) (fun _ => ?_) (fun _ => ?_)
    · refine q_sub C [] [] rfl ?_
      exact gX12_purseAhead_L21 C n X15_7
    · refine q_aload_n C 0 dX12_purseAhead_25 rfl rfl ?_
      refine q_aload_n C 0 dX12_purseAhead_26 rfl rfl ?_
      refine q_chk (fun h9 => ?_)
      refine q_chk (fun h10 => ?_)
      refine p_getR C fgX12_11 rfl dX12_purseAhead_27 h9 h10 ?_
      refine q_iconst C (0 : Int32) dX12_purseAhead_30 rfl ?_
      refine q_aload_n C 0 dX12_purseAhead_31 rfl rfl ?_
      refine q_chk (fun h11 => ?_)
      refine p_getR C fgX12_18 rfl dX12_purseAhead_32 h9 h11 ?_
      refine q_iconst C (0 : Int32) dX12_purseAhead_35 rfl ?_
      refine q_cVV (As := (fun P => [.ref (P + (mR X15_7 r0 1)), .int (0 : Int32), .ref (P + (mR X15_7 r0 3)), .int (0 : Int32)])) C [] (sX12_copies n r0 ((mR X15_7 r0 1)) (0 : Int32) ((mR X15_7 r0 3)) (0 : Int32)) fcX12_73 rfl (fun _ => rfl) ⟨Nat.le_of_ble_eq_true rfl, Nat.le_of_ble_eq_true rfl⟩ ⟨Nat.le_of_ble_eq_true rfl, Nat.le_of_ble_eq_true rfl⟩ (Nat.le_of_ble_eq_true rfl) dX12_purseAhead_36 h9 (fun _ X36_13 => ?_)
      refine q_aload_n C 0 dX12_purseAhead_39 rfl rfl ?_
      refine q_iload_n C 2 dX12_purseAhead_40 rfl rfl ?_
      refine q_chk (fun h16 => ?_)
      refine q_cVV (As := (fun P => [.int v2])) C [] (sX12_goesAhead n r0 v2) fcX12_411 rfl (fun _ => rfl) ⟨Nat.le_of_ble_eq_true rfl, Nat.le_of_ble_eq_true rfl⟩ ⟨Nat.le_of_ble_eq_true rfl, Nat.le_of_ble_eq_true rfl⟩ (Nat.le_of_ble_eq_true rfl) dX12_purseAhead_41 h16 (fun _ X41_15 => ?_)
      refine q_aload_n C 0 dX12_purseAhead_44 rfl rfl ?_
      refine q_chk (fun h17 => ?_)
      refine q_chk (fun h18 => ?_)
      refine p_getR C fgX12_11 rfl dX12_purseAhead_45 h17 h18 ?_
      refine q_bipush C (50 : Int32) dX12_purseAhead_48 rfl ?_
      refine q_iload_n C 1 dX12_purseAhead_50 rfl rfl ?_
      refine q_iadd C dX12_purseAhead_51 ?_
      refine q_chk (fun h19 => ?_)
      refine q_chk (fun h20 => ?_)
      refine p_lald C dX12_purseAhead_52 h19 h20 ?_
      refine q_nml (fun v3_53 => ?_)
      refine q_lstore_n C [(3, .long v3_53), (0, .ref (q_P E + r0)), (1, .int v1), (2, .int v2)] dX12_purseAhead_53 rfl (Nat.le_of_ble_eq_true rfl) rfl ?_
      refine q_aload_n C 1 dX12_purseAhead_54 rfl rfl ?_
      refine q_aload_n C 1 dX12_purseAhead_55 rfl rfl ?_
      refine q_chk (fun h22 => ?_)
      refine p_getR C fgX12_18 rfl dX12_purseAhead_56 h17 h22 ?_
      refine q_iconst C (0 : Int32) dX12_purseAhead_59 rfl ?_
      refine q_aload_n C 1 dX12_purseAhead_60 rfl rfl ?_
      refine p_getR C fgX12_11 rfl dX12_purseAhead_61 h17 h18 ?_
      refine q_iconst C (0 : Int32) dX12_purseAhead_64 rfl ?_
      refine q_cVV (As := (fun P => [.ref (P + (mR X41_15 r0 3)), .int (0 : Int32), .ref (P + (mR X41_15 r0 1)), .int (0 : Int32)])) C [] (sX12_copies n r0 ((mR X41_15 r0 3)) (0 : Int32) ((mR X41_15 r0 1)) (0 : Int32)) fcX12_73 rfl (fun _ => rfl) ⟨Nat.le_of_ble_eq_true rfl, Nat.le_of_ble_eq_true rfl⟩ ⟨Nat.le_of_ble_eq_true rfl, Nat.le_of_ble_eq_true rfl⟩ (Nat.le_of_ble_eq_true rfl) dX12_purseAhead_65 h17 (fun _ X65_24 => ?_)
      refine q_lload_n C 0 dX12_purseAhead_68 rfl rfl ?_
      exact q_lret C dX12_purseAhead_69
/-! RecordClaimsModel.waits(I)I -/
abbrev cX12_waits : ByteArray := prog_14_method_102_code
def yX12_waits : MethodName := ⟨RX12, "waits", "(I)I"⟩
theorem dX12_waits_0 : decode cX12_waits 0 = .ok (.aload_n 0, 1) := by decide +kernel
theorem dX12_waits_1 : decode cX12_waits 1 = .ok (.iconst 0, 1) := by decide +kernel
theorem dX12_waits_2 : decode cX12_waits 2 = .ok (.putfield 63, 3) := by decide +kernel
theorem dX12_waits_5 : decode cX12_waits 5 = .ok (.aload_n 0, 1) := by decide +kernel
theorem dX12_waits_6 : decode cX12_waits 6 = .ok (.iload_n 1, 1) := by decide +kernel
theorem dX12_waits_7 : decode cX12_waits 7 = .ok (.invokevirtual 383, 3) := by decide +kernel
theorem dX12_waits_10 : decode cX12_waits 10 = .ok (.ifCond .ne 6, 3) := by decide +kernel
theorem dX12_waits_13 : decode cX12_waits 13 = .ok (.bipush (-2), 2) := by decide +kernel
theorem dX12_waits_15 : decode cX12_waits 15 = .ok (.ireturn, 1) := by decide +kernel
theorem dX12_waits_16 : decode cX12_waits 16 = .ok (.aload_n 0, 1) := by decide +kernel
theorem dX12_waits_17 : decode cX12_waits 17 = .ok (.getfield 11, 3) := by decide +kernel
theorem dX12_waits_20 : decode cX12_waits 20 = .ok (.aload_n 0, 1) := by decide +kernel
theorem dX12_waits_21 : decode cX12_waits 21 = .ok (.iload_n 1, 1) := by decide +kernel
theorem dX12_waits_22 : decode cX12_waits 22 = .ok (.bipush 7, 2) := by decide +kernel
theorem dX12_waits_24 : decode cX12_waits 24 = .ok (.invokevirtual 111, 3) := by decide +kernel
theorem dX12_waits_27 : decode cX12_waits 27 = .ok (.laload, 1) := by decide +kernel
theorem dX12_waits_28 : decode cX12_waits 28 = .ok (.lconst 0, 1) := by decide +kernel
theorem dX12_waits_29 : decode cX12_waits 29 = .ok (.lcmp, 1) := by decide +kernel
theorem dX12_waits_30 : decode cX12_waits 30 = .ok (.ifCond .eq 5, 3) := by decide +kernel
theorem dX12_waits_33 : decode cX12_waits 33 = .ok (.iconst (-1), 1) := by decide +kernel
theorem dX12_waits_34 : decode cX12_waits 34 = .ok (.ireturn, 1) := by decide +kernel
theorem dX12_waits_35 : decode cX12_waits 35 = .ok (.aload_n 0, 1) := by decide +kernel
theorem dX12_waits_36 : decode cX12_waits 36 = .ok (.aload_n 0, 1) := by decide +kernel
theorem dX12_waits_37 : decode cX12_waits 37 = .ok (.getfield 11, 3) := by decide +kernel
theorem dX12_waits_40 : decode cX12_waits 40 = .ok (.iconst 0, 1) := by decide +kernel
theorem dX12_waits_41 : decode cX12_waits 41 = .ok (.aload_n 0, 1) := by decide +kernel
theorem dX12_waits_42 : decode cX12_waits 42 = .ok (.getfield 18, 3) := by decide +kernel
theorem dX12_waits_45 : decode cX12_waits 45 = .ok (.iconst 0, 1) := by decide +kernel
theorem dX12_waits_46 : decode cX12_waits 46 = .ok (.invokevirtual 73, 3) := by decide +kernel
theorem dX12_waits_49 : decode cX12_waits 49 = .ok (.iconst 0, 1) := by decide +kernel
theorem dX12_waits_50 : decode cX12_waits 50 = .ok (.istore_n 2, 1) := by decide +kernel
theorem dX12_waits_51 : decode cX12_waits 51 = .ok (.iload_n 2, 1) := by decide +kernel
theorem dX12_waits_52 : decode cX12_waits 52 = .ok (.bipush 99, 2) := by decide +kernel
theorem dX12_waits_54 : decode cX12_waits 54 = .ok (.if_icmp .ge 41, 3) := by decide +kernel
theorem dX12_waits_57 : decode cX12_waits 57 = .ok (.aload_n 0, 1) := by decide +kernel
theorem dX12_waits_58 : decode cX12_waits 58 = .ok (.invokevirtual 114, 3) := by decide +kernel
theorem dX12_waits_61 : decode cX12_waits 61 = .ok (.sipush 999, 3) := by decide +kernel
theorem dX12_waits_64 : decode cX12_waits 64 = .ok (.if_icmp .ge 31, 3) := by decide +kernel
theorem dX12_waits_67 : decode cX12_waits 67 = .ok (.aload_n 0, 1) := by decide +kernel
theorem dX12_waits_68 : decode cX12_waits 68 = .ok (.getfield 11, 3) := by decide +kernel
theorem dX12_waits_71 : decode cX12_waits 71 = .ok (.aload_n 0, 1) := by decide +kernel
theorem dX12_waits_72 : decode cX12_waits 72 = .ok (.iload_n 1, 1) := by decide +kernel
theorem dX12_waits_73 : decode cX12_waits 73 = .ok (.bipush 7, 2) := by decide +kernel
theorem dX12_waits_75 : decode cX12_waits 75 = .ok (.invokevirtual 111, 3) := by decide +kernel
theorem dX12_waits_78 : decode cX12_waits 78 = .ok (.laload, 1) := by decide +kernel
theorem dX12_waits_79 : decode cX12_waits 79 = .ok (.lconst 0, 1) := by decide +kernel
theorem dX12_waits_80 : decode cX12_waits 80 = .ok (.lcmp, 1) := by decide +kernel
theorem dX12_waits_81 : decode cX12_waits 81 = .ok (.ifCond .ne 14, 3) := by decide +kernel
theorem dX12_waits_84 : decode cX12_waits 84 = .ok (.aload_n 0, 1) := by decide +kernel
theorem dX12_waits_85 : decode cX12_waits 85 = .ok (.invokevirtual 146, 3) := by decide +kernel
theorem dX12_waits_88 : decode cX12_waits 88 = .ok (.iload_n 2, 1) := by decide +kernel
theorem dX12_waits_89 : decode cX12_waits 89 = .ok (.iconst 1, 1) := by decide +kernel
theorem dX12_waits_90 : decode cX12_waits 90 = .ok (.iadd, 1) := by decide +kernel
theorem dX12_waits_91 : decode cX12_waits 91 = .ok (.istore_n 2, 1) := by decide +kernel
theorem dX12_waits_92 : decode cX12_waits 92 = .ok (.goto (-41), 3) := by decide +kernel
theorem dX12_waits_95 : decode cX12_waits 95 = .ok (.aload_n 0, 1) := by decide +kernel
theorem dX12_waits_96 : decode cX12_waits 96 = .ok (.getfield 11, 3) := by decide +kernel
theorem dX12_waits_99 : decode cX12_waits 99 = .ok (.aload_n 0, 1) := by decide +kernel
theorem dX12_waits_100 : decode cX12_waits 100 = .ok (.iload_n 1, 1) := by decide +kernel
theorem dX12_waits_101 : decode cX12_waits 101 = .ok (.bipush 7, 2) := by decide +kernel
theorem dX12_waits_103 : decode cX12_waits 103 = .ok (.invokevirtual 111, 3) := by decide +kernel
theorem dX12_waits_106 : decode cX12_waits 106 = .ok (.laload, 1) := by decide +kernel
theorem dX12_waits_107 : decode cX12_waits 107 = .ok (.lconst 0, 1) := by decide +kernel
theorem dX12_waits_108 : decode cX12_waits 108 = .ok (.lcmp, 1) := by decide +kernel
theorem dX12_waits_109 : decode cX12_waits 109 = .ok (.ifCond .eq 7, 3) := by decide +kernel
theorem dX12_waits_112 : decode cX12_waits 112 = .ok (.iconst 1, 1) := by decide +kernel
theorem dX12_waits_113 : decode cX12_waits 113 = .ok (.goto 4, 3) := by decide +kernel
theorem dX12_waits_116 : decode cX12_waits 116 = .ok (.iconst 0, 1) := by decide +kernel
theorem dX12_waits_117 : decode cX12_waits 117 = .ok (.istore_n 3, 1) := by decide +kernel
theorem dX12_waits_118 : decode cX12_waits 118 = .ok (.aload_n 0, 1) := by decide +kernel
theorem dX12_waits_119 : decode cX12_waits 119 = .ok (.aload_n 0, 1) := by decide +kernel
theorem dX12_waits_120 : decode cX12_waits 120 = .ok (.getfield 18, 3) := by decide +kernel
theorem dX12_waits_123 : decode cX12_waits 123 = .ok (.iconst 0, 1) := by decide +kernel
theorem dX12_waits_124 : decode cX12_waits 124 = .ok (.aload_n 0, 1) := by decide +kernel
theorem dX12_waits_125 : decode cX12_waits 125 = .ok (.getfield 11, 3) := by decide +kernel
theorem dX12_waits_128 : decode cX12_waits 128 = .ok (.iconst 0, 1) := by decide +kernel
theorem dX12_waits_129 : decode cX12_waits 129 = .ok (.invokevirtual 73, 3) := by decide +kernel
theorem dX12_waits_132 : decode cX12_waits 132 = .ok (.iload_n 3, 1) := by decide +kernel
theorem dX12_waits_133 : decode cX12_waits 133 = .ok (.ifCond .eq 7, 3) := by decide +kernel
theorem dX12_waits_136 : decode cX12_waits 136 = .ok (.iload_n 2, 1) := by decide +kernel
theorem dX12_waits_137 : decode cX12_waits 137 = .ok (.goto 4, 3) := by decide +kernel
theorem dX12_waits_140 : decode cX12_waits 140 = .ok (.iconst (-1), 1) := by decide +kernel
theorem dX12_waits_141 : decode cX12_waits 141 = .ok (.ireturn, 1) := by decide +kernel
def fX12_waits_L117 (n : Nat) (r0 : Nat) (v2 : Int32) (s0 : Int32) (X : Mm) : Option (Int32 × Mm) :=
if mT X r0 = 12 then
if mR X r0 3 ≠ 0 then
if mR X r0 1 ≠ 0 then
bd (fX12_copies n r0 ((mR X r0 3)) (0 : Int32) ((mR X r0 1)) (0 : Int32) X) fun _ X129_27 =>
if s0 = 0 then (
some ((-1 : Int32), X129_27)
) else (
some (v2, X129_27)
)
else none
else none
else none
def fX12_waits_L95 (n : Nat) (r0 : Nat) (v1 : Int32) (v2 : Int32) (X : Mm) : Option (Int32 × Mm) :=
if mT X r0 = 12 then
if mR X r0 1 ≠ 0 then
bd (fX12_at r0 v1 (7 : Int32) X) fun w19 X103_20 =>
if mT X103_20 (mR X r0 1) = 15 then
if q_b X103_20 (mR X r0 1) w19 then
if (lg_cmp (mJ X103_20 (mR X r0 1) (w19).toNatClampNeg) (0 : Int64)) = 0 then (
fX12_waits_L117 n r0 v2 (0 : Int32) X103_20
) else (
fX12_waits_L117 n r0 v2 (1 : Int32) X103_20
)
else none
else none
else none
else none
def fX12_waits_L51 (n : Nat) : Nat → Nat → Int32 → Int32 → Mm → Option (Int32 × Mm)
| 0, _, _, _, _ => none
| j + 1, r0, v1, v2, X =>
if (99 : Int32) ≤ v2 then (
fX12_waits_L95 n r0 v1 v2 X
) else (
if mT X r0 = 12 then
bd (fX12_today r0 X) fun w28 X58_29 =>
if (999 : Int32) ≤ w28 then (
fX12_waits_L95 n r0 v1 v2 X58_29
) else (
if mT X58_29 r0 = 12 then
if mR X58_29 r0 1 ≠ 0 then
bd (fX12_at r0 v1 (7 : Int32) X58_29) fun w33 X75_34 =>
if mT X75_34 (mR X58_29 r0 1) = 15 then
if q_b X75_34 (mR X58_29 r0 1) w33 then
if (lg_cmp (mJ X75_34 (mR X58_29 r0 1) (w33).toNatClampNeg) (0 : Int64)) = 0 then (
if mT X75_34 r0 = 12 then
bd (fX12_oneDay n r0 X75_34) fun _ X85_38 =>
nm ((v2 + (1 : Int32))) fun v2_91 =>
(fX12_waits_L51 n j) r0 v1 v2_91 X85_38
else none
) else (
fX12_waits_L95 n r0 v1 v2 X75_34
)
else none
else none
else none
else none
)
else none
)
def fX12_waits (n : Nat) (r0 : Nat) (v1 : Int32) (X : Mm) : Option (Int32 × Mm) :=
if mT X r0 = 12 then
nm (sI X r0 0 (0 : Int32)) fun X2_1 =>
if mT X2_1 r0 = 12 then
bd (fX12_isTrade r0 v1 X2_1) fun w3 X7_4 =>
if w3 = 0 then (
some ((-2 : Int32), X7_4)
) else (
if mT X7_4 r0 = 12 then
if mR X7_4 r0 1 ≠ 0 then
bd (fX12_at r0 v1 (7 : Int32) X7_4) fun w8 X24_9 =>
if mT X24_9 (mR X7_4 r0 1) = 15 then
if q_b X24_9 (mR X7_4 r0 1) w8 then
if (lg_cmp (mJ X24_9 (mR X7_4 r0 1) (w8).toNatClampNeg) (0 : Int64)) = 0 then (
if mT X24_9 r0 = 12 then
if mR X24_9 r0 1 ≠ 0 then
if mR X24_9 r0 3 ≠ 0 then
bd (fX12_copies n r0 ((mR X24_9 r0 1)) (0 : Int32) ((mR X24_9 r0 3)) (0 : Int32) X24_9) fun _ X46_16 =>
fX12_waits_L51 n n r0 v1 (0 : Int32) X46_16
else none
else none
else none
) else (
some ((-1 : Int32), X24_9)
)
else none
else none
else none
else none
)
else none
else none
theorem gX12_waits_L117 {E : q_E} {X0 : Mm} (C : Cx E cX12_waits RX12 4 (some .int) (q_rm 6 142 0 0) X0) (n : Nat) (r0 : Nat) (v2 : Int32) (s0 : Int32) (X : Mm) : Sm E (q_fin E q_eI X0 0 0) 0 0 117 [(0, .ref (q_P E + r0)), (2, .int v2)] [.int s0] X (fX12_waits_L117 n r0 v2 s0 X) := by
  unfold fX12_waits_L117
  refine q_istore_n C [(3, .int s0), (0, .ref (q_P E + r0)), (2, .int v2)] dX12_waits_117 rfl (Nat.le_of_ble_eq_true rfl) rfl ?_
  refine q_aload_n C 1 dX12_waits_118 rfl rfl ?_
  refine q_aload_n C 1 dX12_waits_119 rfl rfl ?_
  refine q_chk (fun h23 => ?_)
  refine q_chk (fun h24 => ?_)
  refine p_getR C fgX12_18 rfl dX12_waits_120 h23 h24 ?_
  refine q_iconst C (0 : Int32) dX12_waits_123 rfl ?_
  refine q_aload_n C 1 dX12_waits_124 rfl rfl ?_
  refine q_chk (fun h25 => ?_)
  refine p_getR C fgX12_11 rfl dX12_waits_125 h23 h25 ?_
  refine q_iconst C (0 : Int32) dX12_waits_128 rfl ?_
  refine q_cVV (As := (fun P => [.ref (P + (mR X r0 3)), .int (0 : Int32), .ref (P + (mR X r0 1)), .int (0 : Int32)])) C [] (sX12_copies n r0 ((mR X r0 3)) (0 : Int32) ((mR X r0 1)) (0 : Int32)) fcX12_73 rfl (fun _ => rfl) ⟨Nat.le_of_ble_eq_true rfl, Nat.le_of_ble_eq_true rfl⟩ ⟨Nat.le_of_ble_eq_true rfl, Nat.le_of_ble_eq_true rfl⟩ (Nat.le_of_ble_eq_true rfl) dX12_waits_129 h23 (fun _ X129_27 => ?_)
  refine q_iload_n C 0 dX12_waits_132 rfl rfl ?_
  refine q_if_eq C 140 dX12_waits_133 (by decide) (fun _ => ?_) (fun _ => ?_)
  · refine q_iconst C (-1 : Int32) dX12_waits_140 rfl ?_
    exact q_iret C dX12_waits_141
  · refine q_iload_n C 2 dX12_waits_136 rfl rfl ?_
    refine q_goto C 141 dX12_waits_137 (by decide) ?_
    exact q_iret C dX12_waits_141
theorem gX12_waits_L95 {E : q_E} {X0 : Mm} (C : Cx E cX12_waits RX12 4 (some .int) (q_rm 6 142 0 0) X0) (n : Nat) (r0 : Nat) (v1 : Int32) (v2 : Int32) (X : Mm) : Sm E (q_fin E q_eI X0 0 0) 0 0 95 [(0, .ref (q_P E + r0)), (1, .int v1), (2, .int v2)] [] X (fX12_waits_L95 n r0 v1 v2 X) := by
  unfold fX12_waits_L95
  refine q_aload_n C 0 dX12_waits_95 rfl rfl ?_
  refine q_chk (fun h17 => ?_)
  refine q_chk (fun h18 => ?_)
  refine p_getR C fgX12_11 rfl dX12_waits_96 h17 h18 ?_
  refine q_aload_n C 0 dX12_waits_99 rfl rfl ?_
  refine q_iload_n C 1 dX12_waits_100 rfl rfl ?_
  refine q_bipush C (7 : Int32) dX12_waits_101 rfl ?_
  refine q_cVI (As := (fun P => [.int v1, .int (7 : Int32)])) C [.ref (q_P E + (mR X r0 1))] (sX12_at r0 v1 (7 : Int32)) fcX12_111 rfl (fun _ => rfl) ⟨Nat.le_of_ble_eq_true rfl, Nat.le_of_ble_eq_true rfl⟩ ⟨Nat.le_of_ble_eq_true rfl, Nat.le_of_ble_eq_true rfl⟩ (Nat.le_of_ble_eq_true rfl) dX12_waits_103 h17 (fun w19 X103_20 => ?_)
  refine q_chk (fun h21 => ?_)
  refine q_chk (fun h22 => ?_)
  refine p_lald C dX12_waits_106 h21 h22 ?_
  refine q_lconst C (0 : Int64) dX12_waits_107 rfl ?_
  refine q_lcmp C dX12_waits_108 ?_
  refine q_if_eq C 116 dX12_waits_109 (by decide) (fun _ => ?_) (fun _ => ?_)
  · refine q_iconst C (0 : Int32) dX12_waits_116 rfl ?_
    refine q_sub C [(0, .ref (q_P E + r0)), (2, .int v2)] [0, 2] rfl ?_
    exact gX12_waits_L117 C n r0 v2 (0 : Int32) X103_20
  · refine q_iconst C (1 : Int32) dX12_waits_112 rfl ?_
    refine q_goto C 117 dX12_waits_113 (by decide) ?_
    refine q_sub C [(0, .ref (q_P E + r0)), (2, .int v2)] [0, 2] rfl ?_
    exact gX12_waits_L117 C n r0 v2 (1 : Int32) X103_20
theorem gX12_waits_L51 {E : q_E} {X0 : Mm} (C : Cx E cX12_waits RX12 4 (some .int) (q_rm 6 142 0 0) X0) (n : Nat) : ∀ (j : Nat) (r0 : Nat) (v1 : Int32) (v2 : Int32) (X : Mm), Sm E (q_fin E q_eI X0 0 0) 0 0 51 [(0, .ref (q_P E + r0)), (1, .int v1), (2, .int v2)] [] X (fX12_waits_L51 n j r0 v1 v2 X) := by
  intro j
  induction j with
  | zero => intros; exact Sm.none
  | succ j ih =>
    intro r0 v1 v2 X
    rw [fX12_waits_L51]
    refine q_iload_n C 2 dX12_waits_51 rfl rfl ?_
    refine q_bipush C (99 : Int32) dX12_waits_52 rfl ?_
    refine q_icmp_ge C 95 dX12_waits_54 (by decide) (fun _ => ?_) (fun _ => ?_)
    · exact gX12_waits_L95 C n r0 v1 v2 X
    · refine q_aload_n C 0 dX12_waits_57 rfl rfl ?_
      refine q_chk (fun h30 => ?_)
      refine q_cVI (As := (fun P => [])) C [] (sX12_today r0) fcX12_114 rfl (fun _ => rfl) ⟨Nat.le_of_ble_eq_true rfl, Nat.le_of_ble_eq_true rfl⟩ ⟨Nat.le_of_ble_eq_true rfl, Nat.le_of_ble_eq_true rfl⟩ (Nat.le_of_ble_eq_true rfl) dX12_waits_58 h30 (fun w28 X58_29 => ?_)
      refine q_sipush C (999 : Int32) dX12_waits_61 rfl ?_
      refine q_icmp_ge C 95 dX12_waits_64 (by decide) (fun _ => ?_) (fun _ => ?_)
      · exact gX12_waits_L95 C n r0 v1 v2 X58_29
      · refine q_aload_n C 0 dX12_waits_67 rfl rfl ?_
        refine q_chk (fun h31 => ?_)
        refine q_chk (fun h32 => ?_)
        refine p_getR C fgX12_11 rfl dX12_waits_68 h31 h32 ?_
        refine q_aload_n C 0 dX12_waits_71 rfl rfl ?_
        refine q_iload_n C 1 dX12_waits_72 rfl rfl ?_
        refine q_bipush C (7 : Int32) dX12_waits_73 rfl ?_
        refine q_cVI (As := (fun P => [.int v1, .int (7 : Int32)])) C [.ref (q_P E + (mR X58_29 r0 1))] (sX12_at r0 v1 (7 : Int32)) fcX12_111 rfl (fun _ => rfl) ⟨Nat.le_of_ble_eq_true rfl, Nat.le_of_ble_eq_true rfl⟩ ⟨Nat.le_of_ble_eq_true rfl, Nat.le_of_ble_eq_true rfl⟩ (Nat.le_of_ble_eq_true rfl) dX12_waits_75 h31 (fun w33 X75_34 => ?_)
        refine q_chk (fun h35 => ?_)
        refine q_chk (fun h36 => ?_)
        refine p_lald C dX12_waits_78 h35 h36 ?_
        refine q_lconst C (0 : Int64) dX12_waits_79 rfl ?_
        refine q_lcmp C dX12_waits_80 ?_
        refine q_if_ne C 95 dX12_waits_81 (by decide) (fun _ => ?_) (fun _ => ?_)
        · refine q_aload_n C 0 dX12_waits_84 rfl rfl ?_
          refine q_chk (fun h39 => ?_)
          refine q_cVV (As := (fun P => [])) C [] (sX12_oneDay n r0) fcX12_146 rfl (fun _ => rfl) ⟨Nat.le_of_ble_eq_true rfl, Nat.le_of_ble_eq_true rfl⟩ ⟨Nat.le_of_ble_eq_true rfl, Nat.le_of_ble_eq_true rfl⟩ (Nat.le_of_ble_eq_true rfl) dX12_waits_85 h39 (fun _ X85_38 => ?_)
          refine q_iload_n C 2 dX12_waits_88 rfl rfl ?_
          refine q_iconst C (1 : Int32) dX12_waits_89 rfl ?_
          refine q_iadd C dX12_waits_90 ?_
          refine q_nmi (fun v2_91 => ?_)
          refine q_istore_n C [(2, .int v2_91), (0, .ref (q_P E + r0)), (1, .int v1)] dX12_waits_91 rfl (Nat.le_of_ble_eq_true rfl) rfl ?_
          refine q_goto C 51 dX12_waits_92 (by decide) ?_
          refine q_sub C [(0, .ref (q_P E + r0)), (1, .int v1), (2, .int v2_91)] [1, 2, 0] rfl ?_
          exact ih r0 v1 v2_91 X85_38
        · exact gX12_waits_L95 C n r0 v1 v2 X75_34
theorem sX12_waits (n : Nat) (r0 : Nat) (v1 : Int32) : q_Ct yX12_waits cX12_waits 4 (some .int) 6 142 0 0 q_eI (fun P => [.ref (P + r0), .int v1]) (fX12_waits n r0 v1) := by
  refine q_meth (by decide +kernel) (fun P => Nat.le_of_ble_eq_true rfl) (fun E X C hn => ?_)
  show Sm E (q_fin E q_eI X 0 0) 0 0 0 [(0, .ref (q_P E + r0)), (1, .int v1)] [] X _
  unfold fX12_waits
  refine q_aload_n C 0 dX12_waits_0 rfl rfl ?_
  refine q_iconst C (0 : Int32) dX12_waits_1 rfl ?_
  refine q_chk (fun h2 => ?_)
  refine p_putI C fpX12_63 rfl dX12_waits_2 h2 ?_
  refine q_nmX (fun X2_1 => ?_)
  refine q_aload_n C 0 dX12_waits_5 rfl rfl ?_
  refine q_iload_n C 1 dX12_waits_6 rfl rfl ?_
  refine q_chk (fun h5 => ?_)
  refine q_cVI (As := (fun P => [.int v1])) C [] (sX12_isTrade r0 v1) fcX12_383 rfl (fun _ => rfl) ⟨Nat.le_of_ble_eq_true rfl, Nat.le_of_ble_eq_true rfl⟩ ⟨Nat.le_of_ble_eq_true rfl, Nat.le_of_ble_eq_true rfl⟩ (Nat.le_of_ble_eq_true rfl) dX12_waits_7 h5 (fun w3 X7_4 => ?_)
  refine q_if_ne C 16 dX12_waits_10 (by decide) (fun _ => ?_) (fun _ => ?_)
  · refine q_bipush C (-2 : Int32) dX12_waits_13 rfl ?_
    exact q_iret C dX12_waits_15
  · refine q_aload_n C 0 dX12_waits_16 rfl rfl ?_
    refine q_chk (fun h6 => ?_)
    refine q_chk (fun h7 => ?_)
    refine p_getR C fgX12_11 rfl dX12_waits_17 h6 h7 ?_
    refine q_aload_n C 0 dX12_waits_20 rfl rfl ?_
    refine q_iload_n C 1 dX12_waits_21 rfl rfl ?_
    refine q_bipush C (7 : Int32) dX12_waits_22 rfl ?_
    refine q_cVI (As := (fun P => [.int v1, .int (7 : Int32)])) C [.ref (q_P E + (mR X7_4 r0 1))] (sX12_at r0 v1 (7 : Int32)) fcX12_111 rfl (fun _ => rfl) ⟨Nat.le_of_ble_eq_true rfl, Nat.le_of_ble_eq_true rfl⟩ ⟨Nat.le_of_ble_eq_true rfl, Nat.le_of_ble_eq_true rfl⟩ (Nat.le_of_ble_eq_true rfl) dX12_waits_24 h6 (fun w8 X24_9 => ?_)
    refine q_chk (fun h10 => ?_)
    refine q_chk (fun h11 => ?_)
    refine p_lald C dX12_waits_27 h10 h11 ?_
    refine q_lconst C (0 : Int64) dX12_waits_28 rfl ?_
    refine q_lcmp C dX12_waits_29 ?_
    refine q_if_eq C 35 dX12_waits_30 (by decide) (fun _ => ?_) (fun _ => ?_)
    · refine q_aload_n C 0 dX12_waits_35 rfl rfl ?_
      refine q_aload_n C 0 dX12_waits_36 rfl rfl ?_
      refine q_chk (fun h12 => ?_)
      refine q_chk (fun h13 => ?_)
      refine p_getR C fgX12_11 rfl dX12_waits_37 h12 h13 ?_
      refine q_iconst C (0 : Int32) dX12_waits_40 rfl ?_
      refine q_aload_n C 0 dX12_waits_41 rfl rfl ?_
      refine q_chk (fun h14 => ?_)
      refine p_getR C fgX12_18 rfl dX12_waits_42 h12 h14 ?_
      refine q_iconst C (0 : Int32) dX12_waits_45 rfl ?_
      refine q_cVV (As := (fun P => [.ref (P + (mR X24_9 r0 1)), .int (0 : Int32), .ref (P + (mR X24_9 r0 3)), .int (0 : Int32)])) C [] (sX12_copies n r0 ((mR X24_9 r0 1)) (0 : Int32) ((mR X24_9 r0 3)) (0 : Int32)) fcX12_73 rfl (fun _ => rfl) ⟨Nat.le_of_ble_eq_true rfl, Nat.le_of_ble_eq_true rfl⟩ ⟨Nat.le_of_ble_eq_true rfl, Nat.le_of_ble_eq_true rfl⟩ (Nat.le_of_ble_eq_true rfl) dX12_waits_46 h12 (fun _ X46_16 => ?_)
      refine q_iconst C (0 : Int32) dX12_waits_49 rfl ?_
      refine q_istore_n C [(2, .int (0 : Int32)), (0, .ref (q_P E + r0)), (1, .int v1)] dX12_waits_50 rfl (Nat.le_of_ble_eq_true rfl) rfl ?_
      refine q_sub C [(0, .ref (q_P E + r0)), (1, .int v1), (2, .int (0 : Int32))] [1, 2, 0] rfl ?_
      exact gX12_waits_L51 C n n r0 v1 (0 : Int32) X46_16
    · refine q_iconst C (-1 : Int32) dX12_waits_33 rfl ?_
      exact q_iret C dX12_waits_34
/-! RecordClaimsModel.wants(II)J -/
abbrev cX12_wants : ByteArray := prog_14_method_103_code
def yX12_wants : MethodName := ⟨RX12, "wants", "(II)J"⟩
theorem dX12_wants_0 : decode cX12_wants 0 = .ok (.aload_n 0, 1) := by decide +kernel
theorem dX12_wants_1 : decode cX12_wants 1 = .ok (.iconst 0, 1) := by decide +kernel
theorem dX12_wants_2 : decode cX12_wants 2 = .ok (.putfield 63, 3) := by decide +kernel
theorem dX12_wants_5 : decode cX12_wants 5 = .ok (.aload_n 0, 1) := by decide +kernel
theorem dX12_wants_6 : decode cX12_wants 6 = .ok (.iload_n 1, 1) := by decide +kernel
theorem dX12_wants_7 : decode cX12_wants 7 = .ok (.invokevirtual 98, 3) := by decide +kernel
theorem dX12_wants_10 : decode cX12_wants 10 = .ok (.ifCond .eq 11, 3) := by decide +kernel
theorem dX12_wants_13 : decode cX12_wants 13 = .ok (.aload_n 0, 1) := by decide +kernel
theorem dX12_wants_14 : decode cX12_wants 14 = .ok (.iload_n 2, 1) := by decide +kernel
theorem dX12_wants_15 : decode cX12_wants 15 = .ok (.invokevirtual 102, 3) := by decide +kernel
theorem dX12_wants_18 : decode cX12_wants 18 = .ok (.ifCond .ne 7, 3) := by decide +kernel
theorem dX12_wants_21 : decode cX12_wants 21 = .ok (.ldc2_w 117, 3) := by decide +kernel
theorem dX12_wants_24 : decode cX12_wants 24 = .ok (.lreturn, 1) := by decide +kernel
theorem dX12_wants_25 : decode cX12_wants 25 = .ok (.aload_n 0, 1) := by decide +kernel
theorem dX12_wants_26 : decode cX12_wants 26 = .ok (.iload_n 1, 1) := by decide +kernel
theorem dX12_wants_27 : decode cX12_wants 27 = .ok (.i2l, 1) := by decide +kernel
theorem dX12_wants_28 : decode cX12_wants 28 = .ok (.iload_n 2, 1) := by decide +kernel
theorem dX12_wants_29 : decode cX12_wants 29 = .ok (.i2l, 1) := by decide +kernel
theorem dX12_wants_30 : decode cX12_wants 30 = .ok (.invokevirtual 171, 3) := by decide +kernel
theorem dX12_wants_33 : decode cX12_wants 33 = .ok (.lneg, 1) := by decide +kernel
theorem dX12_wants_34 : decode cX12_wants 34 = .ok (.lstore_n 3, 1) := by decide +kernel
theorem dX12_wants_35 : decode cX12_wants 35 = .ok (.iconst 0, 1) := by decide +kernel
theorem dX12_wants_36 : decode cX12_wants 36 = .ok (.istore 5, 2) := by decide +kernel
theorem dX12_wants_38 : decode cX12_wants 38 = .ok (.iload 5, 2) := by decide +kernel
theorem dX12_wants_40 : decode cX12_wants 40 = .ok (.aload_n 0, 1) := by decide +kernel
theorem dX12_wants_41 : decode cX12_wants 41 = .ok (.invokevirtual 87, 3) := by decide +kernel
theorem dX12_wants_44 : decode cX12_wants 44 = .ok (.if_icmp .ge 78, 3) := by decide +kernel
theorem dX12_wants_47 : decode cX12_wants 47 = .ok (.aload_n 0, 1) := by decide +kernel
theorem dX12_wants_48 : decode cX12_wants 48 = .ok (.getfield 11, 3) := by decide +kernel
theorem dX12_wants_51 : decode cX12_wants 51 = .ok (.aload_n 0, 1) := by decide +kernel
theorem dX12_wants_52 : decode cX12_wants 52 = .ok (.iload 5, 2) := by decide +kernel
theorem dX12_wants_54 : decode cX12_wants 54 = .ok (.bipush 7, 2) := by decide +kernel
theorem dX12_wants_56 : decode cX12_wants 56 = .ok (.invokevirtual 111, 3) := by decide +kernel
theorem dX12_wants_59 : decode cX12_wants 59 = .ok (.laload, 1) := by decide +kernel
theorem dX12_wants_60 : decode cX12_wants 60 = .ok (.lconst 0, 1) := by decide +kernel
theorem dX12_wants_61 : decode cX12_wants 61 = .ok (.lcmp, 1) := by decide +kernel
theorem dX12_wants_62 : decode cX12_wants 62 = .ok (.ifCond .ne 54, 3) := by decide +kernel
theorem dX12_wants_65 : decode cX12_wants 65 = .ok (.aload_n 0, 1) := by decide +kernel
theorem dX12_wants_66 : decode cX12_wants 66 = .ok (.getfield 11, 3) := by decide +kernel
theorem dX12_wants_69 : decode cX12_wants 69 = .ok (.aload_n 0, 1) := by decide +kernel
theorem dX12_wants_70 : decode cX12_wants 70 = .ok (.iload 5, 2) := by decide +kernel
theorem dX12_wants_72 : decode cX12_wants 72 = .ok (.iconst 1, 1) := by decide +kernel
theorem dX12_wants_73 : decode cX12_wants 73 = .ok (.invokevirtual 111, 3) := by decide +kernel
theorem dX12_wants_76 : decode cX12_wants 76 = .ok (.laload, 1) := by decide +kernel
theorem dX12_wants_77 : decode cX12_wants 77 = .ok (.iload_n 1, 1) := by decide +kernel
theorem dX12_wants_78 : decode cX12_wants 78 = .ok (.i2l, 1) := by decide +kernel
theorem dX12_wants_79 : decode cX12_wants 79 = .ok (.lcmp, 1) := by decide +kernel
theorem dX12_wants_80 : decode cX12_wants 80 = .ok (.ifCond .ne 36, 3) := by decide +kernel
theorem dX12_wants_83 : decode cX12_wants 83 = .ok (.aload_n 0, 1) := by decide +kernel
theorem dX12_wants_84 : decode cX12_wants 84 = .ok (.getfield 11, 3) := by decide +kernel
theorem dX12_wants_87 : decode cX12_wants 87 = .ok (.aload_n 0, 1) := by decide +kernel
theorem dX12_wants_88 : decode cX12_wants 88 = .ok (.iload 5, 2) := by decide +kernel
theorem dX12_wants_90 : decode cX12_wants 90 = .ok (.iconst 2, 1) := by decide +kernel
theorem dX12_wants_91 : decode cX12_wants 91 = .ok (.invokevirtual 111, 3) := by decide +kernel
theorem dX12_wants_94 : decode cX12_wants 94 = .ok (.laload, 1) := by decide +kernel
theorem dX12_wants_95 : decode cX12_wants 95 = .ok (.iload_n 2, 1) := by decide +kernel
theorem dX12_wants_96 : decode cX12_wants 96 = .ok (.i2l, 1) := by decide +kernel
theorem dX12_wants_97 : decode cX12_wants 97 = .ok (.lcmp, 1) := by decide +kernel
theorem dX12_wants_98 : decode cX12_wants 98 = .ok (.ifCond .ne 18, 3) := by decide +kernel
theorem dX12_wants_101 : decode cX12_wants 101 = .ok (.lload_n 3, 1) := by decide +kernel
theorem dX12_wants_102 : decode cX12_wants 102 = .ok (.aload_n 0, 1) := by decide +kernel
theorem dX12_wants_103 : decode cX12_wants 103 = .ok (.getfield 11, 3) := by decide +kernel
theorem dX12_wants_106 : decode cX12_wants 106 = .ok (.aload_n 0, 1) := by decide +kernel
theorem dX12_wants_107 : decode cX12_wants 107 = .ok (.iload 5, 2) := by decide +kernel
theorem dX12_wants_109 : decode cX12_wants 109 = .ok (.iconst 3, 1) := by decide +kernel
theorem dX12_wants_110 : decode cX12_wants 110 = .ok (.invokevirtual 111, 3) := by decide +kernel
theorem dX12_wants_113 : decode cX12_wants 113 = .ok (.laload, 1) := by decide +kernel
theorem dX12_wants_114 : decode cX12_wants 114 = .ok (.ladd, 1) := by decide +kernel
theorem dX12_wants_115 : decode cX12_wants 115 = .ok (.lstore_n 3, 1) := by decide +kernel
theorem dX12_wants_116 : decode cX12_wants 116 = .ok (.iinc 5 1, 3) := by decide +kernel
theorem dX12_wants_119 : decode cX12_wants 119 = .ok (.goto (-81), 3) := by decide +kernel
theorem dX12_wants_122 : decode cX12_wants 122 = .ok (.lload_n 3, 1) := by decide +kernel
theorem dX12_wants_123 : decode cX12_wants 123 = .ok (.lconst 0, 1) := by decide +kernel
theorem dX12_wants_124 : decode cX12_wants 124 = .ok (.lcmp, 1) := by decide +kernel
theorem dX12_wants_125 : decode cX12_wants 125 = .ok (.ifCond .le 7, 3) := by decide +kernel
theorem dX12_wants_128 : decode cX12_wants 128 = .ok (.lload_n 3, 1) := by decide +kernel
theorem dX12_wants_129 : decode cX12_wants 129 = .ok (.goto 4, 3) := by decide +kernel
theorem dX12_wants_132 : decode cX12_wants 132 = .ok (.lconst 0, 1) := by decide +kernel
theorem dX12_wants_133 : decode cX12_wants 133 = .ok (.lreturn, 1) := by decide +kernel
def fX12_wants_L21 (n : Nat) (X : Mm) : Option (Int64 × Mm) :=
some ((-1 : Int64), X)
def fX12_wants_L116 (n : Nat) (k38 : Nat → Int32 → Int32 → Int64 → Int32 → Mm → Option (Int64 × Mm)) (r0 : Nat) (v1 : Int32) (v2 : Int32) (v3 : Int64) (v5 : Int32) (X : Mm) : Option (Int64 × Mm) :=
nm (v5 + (1 : Int32)) fun v5_116 =>
k38 r0 v1 v2 v3 v5_116 X
def fX12_wants_L38 (n : Nat) : Nat → Nat → Int32 → Int32 → Int64 → Int32 → Mm → Option (Int64 × Mm)
| 0, _, _, _, _, _, _ => none
| j + 1, r0, v1, v2, v3, v5, X =>
if mT X r0 = 12 then
bd (fX12_tradeMany r0 X) fun w13 X41_14 =>
if w13 ≤ v5 then (
if (lg_cmp v3 (0 : Int64)) ≤ 0 then (
some ((0 : Int64), X41_14)
) else (
some (v3, X41_14)
)
) else (
if mT X41_14 r0 = 12 then
if mR X41_14 r0 1 ≠ 0 then
bd (fX12_at r0 v5 (7 : Int32) X41_14) fun w18 X56_19 =>
if mT X56_19 (mR X41_14 r0 1) = 15 then
if q_b X56_19 (mR X41_14 r0 1) w18 then
if (lg_cmp (mJ X56_19 (mR X41_14 r0 1) (w18).toNatClampNeg) (0 : Int64)) = 0 then (
if mT X56_19 r0 = 12 then
if mR X56_19 r0 1 ≠ 0 then
bd (fX12_at r0 v5 (1 : Int32) X56_19) fun w24 X73_25 =>
if mT X73_25 (mR X56_19 r0 1) = 15 then
if q_b X73_25 (mR X56_19 r0 1) w24 then
if (lg_cmp (mJ X73_25 (mR X56_19 r0 1) (w24).toNatClampNeg) ((v1).toInt64)) = 0 then (
if mT X73_25 r0 = 12 then
if mR X73_25 r0 1 ≠ 0 then
bd (fX12_at r0 v5 (2 : Int32) X73_25) fun w30 X91_31 =>
if mT X91_31 (mR X73_25 r0 1) = 15 then
if q_b X91_31 (mR X73_25 r0 1) w30 then
if (lg_cmp (mJ X91_31 (mR X73_25 r0 1) (w30).toNatClampNeg) ((v2).toInt64)) = 0 then (
if mT X91_31 r0 = 12 then
if mR X91_31 r0 1 ≠ 0 then
bd (fX12_at r0 v5 (3 : Int32) X91_31) fun w36 X110_37 =>
if mT X110_37 (mR X91_31 r0 1) = 15 then
if q_b X110_37 (mR X91_31 r0 1) w36 then
nm ((v3 + (mJ X110_37 (mR X91_31 r0 1) (w36).toNatClampNeg))) fun v3_115 =>
fX12_wants_L116 n (fX12_wants_L38 n j) r0 v1 v2 v3_115 v5 X110_37
else none
else none
else none
else none
) else (
fX12_wants_L116 n (fX12_wants_L38 n j) r0 v1 v2 v3 v5 X91_31
)
else none
else none
else none
else none
) else (
fX12_wants_L116 n (fX12_wants_L38 n j) r0 v1 v2 v3 v5 X73_25
)
else none
else none
else none
else none
) else (
fX12_wants_L116 n (fX12_wants_L38 n j) r0 v1 v2 v3 v5 X56_19
)
else none
else none
else none
else none
)
else none
def fX12_wants (n : Nat) (r0 : Nat) (v1 : Int32) (v2 : Int32) (X : Mm) : Option (Int64 × Mm) :=
if mT X r0 = 12 then
nm (sI X r0 0 (0 : Int32)) fun X2_1 =>
if mT X2_1 r0 = 12 then
bd (fX12_isHolder r0 v1 X2_1) fun w3 X7_4 =>
if w3 = 0 then (
fX12_wants_L21 n X7_4
) else (
if mT X7_4 r0 = 12 then
bd (fX12_isPaper r0 v2 X7_4) fun w6 X15_7 =>
if w6 = 0 then (
fX12_wants_L21 n X15_7
) else (
if mT X15_7 r0 = 12 then
bd (fX12_sharesOf r0 (((v1).toInt64)) (((v2).toInt64)) X15_7) fun w9 X30_10 =>
nm ((-w9)) fun v3_34 =>
fX12_wants_L38 n n r0 v1 v2 v3_34 (0 : Int32) X30_10
else none
)
else none
)
else none
else none
theorem gX12_wants_L21 {E : q_E} {X0 : Mm} (C : Cx E cX12_wants RX12 6 (some .long) (q_rm 2 47 0 0) X0) (n : Nat) (X : Mm) : Sm E (q_fin E q_eL X0 0 0) 0 0 21 [] [] X (fX12_wants_L21 n  X) := by
  unfold fX12_wants_L21
  refine q_ldc2 C dX12_wants_21 fkX12_117 ?_
  exact q_lret C dX12_wants_24
theorem gX12_wants_L116 {E : q_E} {X0 : Mm} (C : Cx E cX12_wants RX12 6 (some .long) (q_rm 2 47 0 0) X0) (n : Nat) (k38 : Nat → Int32 → Int32 → Int64 → Int32 → Mm → Option (Int64 × Mm)) (hk38 : ∀ (r0 : Nat) (v1 : Int32) (v2 : Int32) (v3 : Int64) (v5 : Int32) (X : Mm), Sm E (q_fin E q_eL X0 0 0) 0 0 38 [(0, .ref (q_P E + r0)), (1, .int v1), (2, .int v2), (3, .long v3), (5, .int v5)] [] X (k38 r0 v1 v2 v3 v5 X)) (r0 : Nat) (v1 : Int32) (v2 : Int32) (v3 : Int64) (v5 : Int32) (X : Mm) : Sm E (q_fin E q_eL X0 0 0) 0 0 116 [(0, .ref (q_P E + r0)), (1, .int v1), (2, .int v2), (3, .long v3), (5, .int v5)] [] X (fX12_wants_L116 n k38 r0 v1 v2 v3 v5 X) := by
  unfold fX12_wants_L116
  refine q_iincN C (1 : Int32) 4 (fun v5_116 => [(5, .int v5_116), (0, .ref (q_P E + r0)), (1, .int v1), (2, .int v2), (3, .long v3)]) dX12_wants_116 rfl rfl (Nat.le_of_ble_eq_true rfl) (fun _ => rfl) (fun v5_116 => ?_)
  refine q_goto C 38 dX12_wants_119 (by decide) ?_
  refine q_sub C [(0, .ref (q_P E + r0)), (1, .int v1), (2, .int v2), (3, .long v3), (5, .int v5_116)] [1, 2, 3, 4, 0] rfl ?_
  exact hk38 r0 v1 v2 v3 v5_116 X
theorem gX12_wants_L38 {E : q_E} {X0 : Mm} (C : Cx E cX12_wants RX12 6 (some .long) (q_rm 2 47 0 0) X0) (n : Nat) : ∀ (j : Nat) (r0 : Nat) (v1 : Int32) (v2 : Int32) (v3 : Int64) (v5 : Int32) (X : Mm), Sm E (q_fin E q_eL X0 0 0) 0 0 38 [(0, .ref (q_P E + r0)), (1, .int v1), (2, .int v2), (3, .long v3), (5, .int v5)] [] X (fX12_wants_L38 n j r0 v1 v2 v3 v5 X) := by
  intro j
  induction j with
  | zero => intros; exact Sm.none
  | succ j ih =>
    intro r0 v1 v2 v3 v5 X
    rw [fX12_wants_L38]
    refine q_iload C 4 dX12_wants_38 rfl ?_
    refine q_aload_n C 0 dX12_wants_40 rfl rfl ?_
    refine q_chk (fun h15 => ?_)
    refine q_cVI (As := (fun P => [])) C [.int v5] (sX12_tradeMany r0) fcX12_87 rfl (fun _ => rfl) ⟨Nat.le_of_ble_eq_true rfl, Nat.le_of_ble_eq_true rfl⟩ ⟨Nat.le_of_ble_eq_true rfl, Nat.le_of_ble_eq_true rfl⟩ (Nat.le_of_ble_eq_true rfl) dX12_wants_41 h15 (fun w13 X41_14 => ?_)
    refine q_icmp_ge C 122 dX12_wants_44 (by decide) (fun _ => ?_) (fun _ => ?_)
    · refine q_lload_n C 3 dX12_wants_122 rfl rfl ?_
      refine q_lconst C (0 : Int64) dX12_wants_123 rfl ?_
      refine q_lcmp C dX12_wants_124 ?_
      refine q_if_le C 132 dX12_wants_125 (by decide) (fun _ => ?_) (fun _ => ?_)
      · refine q_lconst C (0 : Int64) dX12_wants_132 rfl ?_
        exact q_lret C dX12_wants_133
      · refine q_lload_n C 3 dX12_wants_128 rfl rfl ?_
        refine q_goto C 133 dX12_wants_129 (by decide) ?_
        exact q_lret C dX12_wants_133
    · refine q_aload_n C 0 dX12_wants_47 rfl rfl ?_
      refine q_chk (fun h16 => ?_)
      refine q_chk (fun h17 => ?_)
      refine p_getR C fgX12_11 rfl dX12_wants_48 h16 h17 ?_
      refine q_aload_n C 0 dX12_wants_51 rfl rfl ?_
      refine q_iload C 4 dX12_wants_52 rfl ?_
      refine q_bipush C (7 : Int32) dX12_wants_54 rfl ?_
      refine q_cVI (As := (fun P => [.int v5, .int (7 : Int32)])) C [.ref (q_P E + (mR X41_14 r0 1))] (sX12_at r0 v5 (7 : Int32)) fcX12_111 rfl (fun _ => rfl) ⟨Nat.le_of_ble_eq_true rfl, Nat.le_of_ble_eq_true rfl⟩ ⟨Nat.le_of_ble_eq_true rfl, Nat.le_of_ble_eq_true rfl⟩ (Nat.le_of_ble_eq_true rfl) dX12_wants_56 h16 (fun w18 X56_19 => ?_)
      refine q_chk (fun h20 => ?_)
      refine q_chk (fun h21 => ?_)
      refine p_lald C dX12_wants_59 h20 h21 ?_
      refine q_lconst C (0 : Int64) dX12_wants_60 rfl ?_
      refine q_lcmp C dX12_wants_61 ?_
      refine q_if_ne C 116 dX12_wants_62 (by decide) (fun _ => ?_) (fun _ => ?_)
      · refine q_aload_n C 0 dX12_wants_65 rfl rfl ?_
        refine q_chk (fun h22 => ?_)
        refine q_chk (fun h23 => ?_)
        refine p_getR C fgX12_11 rfl dX12_wants_66 h22 h23 ?_
        refine q_aload_n C 0 dX12_wants_69 rfl rfl ?_
        refine q_iload C 4 dX12_wants_70 rfl ?_
        refine q_iconst C (1 : Int32) dX12_wants_72 rfl ?_
        refine q_cVI (As := (fun P => [.int v5, .int (1 : Int32)])) C [.ref (q_P E + (mR X56_19 r0 1))] (sX12_at r0 v5 (1 : Int32)) fcX12_111 rfl (fun _ => rfl) ⟨Nat.le_of_ble_eq_true rfl, Nat.le_of_ble_eq_true rfl⟩ ⟨Nat.le_of_ble_eq_true rfl, Nat.le_of_ble_eq_true rfl⟩ (Nat.le_of_ble_eq_true rfl) dX12_wants_73 h22 (fun w24 X73_25 => ?_)
        refine q_chk (fun h26 => ?_)
        refine q_chk (fun h27 => ?_)
        refine p_lald C dX12_wants_76 h26 h27 ?_
        refine q_iload_n C 1 dX12_wants_77 rfl rfl ?_
        refine q_i2l C dX12_wants_78 ?_
        refine q_lcmp C dX12_wants_79 ?_
        refine q_if_ne C 116 dX12_wants_80 (by decide) (fun _ => ?_) (fun _ => ?_)
        · refine q_aload_n C 0 dX12_wants_83 rfl rfl ?_
          refine q_chk (fun h28 => ?_)
          refine q_chk (fun h29 => ?_)
          refine p_getR C fgX12_11 rfl dX12_wants_84 h28 h29 ?_
          refine q_aload_n C 0 dX12_wants_87 rfl rfl ?_
          refine q_iload C 4 dX12_wants_88 rfl ?_
          refine q_iconst C (2 : Int32) dX12_wants_90 rfl ?_
          refine q_cVI (As := (fun P => [.int v5, .int (2 : Int32)])) C [.ref (q_P E + (mR X73_25 r0 1))] (sX12_at r0 v5 (2 : Int32)) fcX12_111 rfl (fun _ => rfl) ⟨Nat.le_of_ble_eq_true rfl, Nat.le_of_ble_eq_true rfl⟩ ⟨Nat.le_of_ble_eq_true rfl, Nat.le_of_ble_eq_true rfl⟩ (Nat.le_of_ble_eq_true rfl) dX12_wants_91 h28 (fun w30 X91_31 => ?_)
          refine q_chk (fun h32 => ?_)
          refine q_chk (fun h33 => ?_)
          refine p_lald C dX12_wants_94 h32 h33 ?_
          refine q_iload_n C 2 dX12_wants_95 rfl rfl ?_
          refine q_i2l C dX12_wants_96 ?_
          refine q_lcmp C dX12_wants_97 ?_
          refine q_if_ne C 116 dX12_wants_98 (by decide) (fun _ => ?_) (fun _ => ?_)
          · refine q_lload_n C 3 dX12_wants_101 rfl rfl ?_
            refine q_aload_n C 0 dX12_wants_102 rfl rfl ?_
            refine q_chk (fun h34 => ?_)
            refine q_chk (fun h35 => ?_)
            refine p_getR C fgX12_11 rfl dX12_wants_103 h34 h35 ?_
            refine q_aload_n C 0 dX12_wants_106 rfl rfl ?_
            refine q_iload C 4 dX12_wants_107 rfl ?_
            refine q_iconst C (3 : Int32) dX12_wants_109 rfl ?_
            refine q_cVI (As := (fun P => [.int v5, .int (3 : Int32)])) C [.ref (q_P E + (mR X91_31 r0 1)), .long v3] (sX12_at r0 v5 (3 : Int32)) fcX12_111 rfl (fun _ => rfl) ⟨Nat.le_of_ble_eq_true rfl, Nat.le_of_ble_eq_true rfl⟩ ⟨Nat.le_of_ble_eq_true rfl, Nat.le_of_ble_eq_true rfl⟩ (Nat.le_of_ble_eq_true rfl) dX12_wants_110 h34 (fun w36 X110_37 => ?_)
            refine q_chk (fun h38 => ?_)
            refine q_chk (fun h39 => ?_)
            refine p_lald C dX12_wants_113 h38 h39 ?_
            refine q_ladd C dX12_wants_114 ?_
            refine q_nml (fun v3_115 => ?_)
            refine q_lstore_n C [(3, .long v3_115), (0, .ref (q_P E + r0)), (1, .int v1), (2, .int v2), (5, .int v5)] dX12_wants_115 rfl (Nat.le_of_ble_eq_true rfl) rfl ?_
            refine q_sub C [(0, .ref (q_P E + r0)), (1, .int v1), (2, .int v2), (3, .long v3_115), (5, .int v5)] [1, 2, 3, 0, 4] rfl ?_
            exact gX12_wants_L116 C n (fX12_wants_L38 n j) ih r0 v1 v2 v3_115 v5 X110_37
          · exact gX12_wants_L116 C n (fX12_wants_L38 n j) ih r0 v1 v2 v3 v5 X91_31
        · exact gX12_wants_L116 C n (fX12_wants_L38 n j) ih r0 v1 v2 v3 v5 X73_25
      · exact gX12_wants_L116 C n (fX12_wants_L38 n j) ih r0 v1 v2 v3 v5 X56_19
theorem sX12_wants (n : Nat) (r0 : Nat) (v1 : Int32) (v2 : Int32) : q_Ct yX12_wants cX12_wants 6 (some .long) 2 47 0 0 q_eL (fun P => [.ref (P + r0), .int v1, .int v2]) (fX12_wants n r0 v1 v2) := by
  refine q_meth (by decide +kernel) (fun P => Nat.le_of_ble_eq_true rfl) (fun E X C hn => ?_)
  show Sm E (q_fin E q_eL X 0 0) 0 0 0 [(0, .ref (q_P E + r0)), (1, .int v1), (2, .int v2)] [] X _
  unfold fX12_wants
  refine q_aload_n C 0 dX12_wants_0 rfl rfl ?_
  refine q_iconst C (0 : Int32) dX12_wants_1 rfl ?_
  refine q_chk (fun h2 => ?_)
  refine p_putI C fpX12_63 rfl dX12_wants_2 h2 ?_
  refine q_nmX (fun X2_1 => ?_)
  refine q_aload_n C 0 dX12_wants_5 rfl rfl ?_
  refine q_iload_n C 1 dX12_wants_6 rfl rfl ?_
  refine q_chk (fun h5 => ?_)
  refine q_cVI (As := (fun P => [.int v1])) C [] (sX12_isHolder r0 v1) fcX12_98 rfl (fun _ => rfl) ⟨Nat.le_of_ble_eq_true rfl, Nat.le_of_ble_eq_true rfl⟩ ⟨Nat.le_of_ble_eq_true rfl, Nat.le_of_ble_eq_true rfl⟩ (Nat.le_of_ble_eq_true rfl) dX12_wants_7 h5 (fun w3 X7_4 => ?_)
  refine q_if_eq C 21 dX12_wants_10 (by decide) (fun _ => ?_) (fun _ => ?_)
  · refine q_sub C [] [] rfl ?_
    exact gX12_wants_L21 C n X7_4
  · refine q_aload_n C 0 dX12_wants_13 rfl rfl ?_
    refine q_iload_n C 2 dX12_wants_14 rfl rfl ?_
    refine q_chk (fun h8 => ?_)
    refine q_cVI (As := (fun P => [.int v2])) C [] (sX12_isPaper r0 v2) fcX12_102 rfl (fun _ => rfl) ⟨Nat.le_of_ble_eq_true rfl, Nat.le_of_ble_eq_true rfl⟩ ⟨Nat.le_of_ble_eq_true rfl, Nat.le_of_ble_eq_true rfl⟩ (Nat.le_of_ble_eq_true rfl) dX12_wants_15 h8 (fun w6 X15_7 => ?_)
    refine q_if_ne C 25 dX12_wants_18 (by decide) (fun _ => ?_) (fun _ => ?_)
    · refine q_sub C [] [] rfl ?_
      exact gX12_wants_L21 C n X15_7
    · refine q_aload_n C 0 dX12_wants_25 rfl rfl ?_
      refine q_iload_n C 1 dX12_wants_26 rfl rfl ?_
      refine q_i2l C dX12_wants_27 ?_
      refine q_iload_n C 2 dX12_wants_28 rfl rfl ?_
      refine q_i2l C dX12_wants_29 ?_
      refine q_chk (fun h11 => ?_)
      refine q_cVL (As := (fun P => [.long ((v1).toInt64), .long ((v2).toInt64)])) C [] (sX12_sharesOf r0 (((v1).toInt64)) (((v2).toInt64))) fcX12_171 rfl (fun _ => rfl) ⟨Nat.le_of_ble_eq_true rfl, Nat.le_of_ble_eq_true rfl⟩ ⟨Nat.le_of_ble_eq_true rfl, Nat.le_of_ble_eq_true rfl⟩ (Nat.le_of_ble_eq_true rfl) dX12_wants_30 h11 (fun w9 X30_10 => ?_)
      refine q_lneg C dX12_wants_33 ?_
      refine q_nml (fun v3_34 => ?_)
      refine q_lstore_n C [(3, .long v3_34), (0, .ref (q_P E + r0)), (1, .int v1), (2, .int v2)] dX12_wants_34 rfl (Nat.le_of_ble_eq_true rfl) rfl ?_
      refine q_iconst C (0 : Int32) dX12_wants_35 rfl ?_
      refine q_istore C [(5, .int (0 : Int32)), (3, .long v3_34), (0, .ref (q_P E + r0)), (1, .int v1), (2, .int v2)] dX12_wants_36 (Nat.le_of_ble_eq_true rfl) rfl ?_
      refine q_sub C [(0, .ref (q_P E + r0)), (1, .int v1), (2, .int v2), (3, .long v3_34), (5, .int (0 : Int32))] [2, 3, 4, 1, 0] rfl ?_
      exact gX12_wants_L38 C n n r0 v1 v2 v3_34 (0 : Int32) X30_10
/-! RecordClaimsModel.carries(III)I -/
abbrev cX12_carries : ByteArray := prog_14_method_104_code
def yX12_carries : MethodName := ⟨RX12, "carries", "(III)I"⟩
theorem dX12_carries_0 : decode cX12_carries 0 = .ok (.aload_n 0, 1) := by decide +kernel
theorem dX12_carries_1 : decode cX12_carries 1 = .ok (.iconst 0, 1) := by decide +kernel
theorem dX12_carries_2 : decode cX12_carries 2 = .ok (.putfield 63, 3) := by decide +kernel
theorem dX12_carries_5 : decode cX12_carries 5 = .ok (.aload_n 0, 1) := by decide +kernel
theorem dX12_carries_6 : decode cX12_carries 6 = .ok (.iload_n 1, 1) := by decide +kernel
theorem dX12_carries_7 : decode cX12_carries 7 = .ok (.invokevirtual 102, 3) := by decide +kernel
theorem dX12_carries_10 : decode cX12_carries 10 = .ok (.ifCond .eq 29, 3) := by decide +kernel
theorem dX12_carries_13 : decode cX12_carries 13 = .ok (.aload_n 0, 1) := by decide +kernel
theorem dX12_carries_14 : decode cX12_carries 14 = .ok (.iload_n 2, 1) := by decide +kernel
theorem dX12_carries_15 : decode cX12_carries 15 = .ok (.i2l, 1) := by decide +kernel
theorem dX12_carries_16 : decode cX12_carries 16 = .ok (.lconst 1, 1) := by decide +kernel
theorem dX12_carries_17 : decode cX12_carries 17 = .ok (.ldc2_w 109, 3) := by decide +kernel
theorem dX12_carries_20 : decode cX12_carries 20 = .ok (.invokevirtual 80, 3) := by decide +kernel
theorem dX12_carries_23 : decode cX12_carries 23 = .ok (.ifCond .eq 16, 3) := by decide +kernel
theorem dX12_carries_26 : decode cX12_carries 26 = .ok (.aload_n 0, 1) := by decide +kernel
theorem dX12_carries_27 : decode cX12_carries 27 = .ok (.iload_n 3, 1) := by decide +kernel
theorem dX12_carries_28 : decode cX12_carries 28 = .ok (.i2l, 1) := by decide +kernel
theorem dX12_carries_29 : decode cX12_carries 29 = .ok (.lconst 0, 1) := by decide +kernel
theorem dX12_carries_30 : decode cX12_carries 30 = .ok (.ldc2_w 136, 3) := by decide +kernel
theorem dX12_carries_33 : decode cX12_carries 33 = .ok (.invokevirtual 80, 3) := by decide +kernel
theorem dX12_carries_36 : decode cX12_carries 36 = .ok (.ifCond .ne 5, 3) := by decide +kernel
theorem dX12_carries_39 : decode cX12_carries 39 = .ok (.iconst (-1), 1) := by decide +kernel
theorem dX12_carries_40 : decode cX12_carries 40 = .ok (.ireturn, 1) := by decide +kernel
theorem dX12_carries_41 : decode cX12_carries 41 = .ok (.iconst 0, 1) := by decide +kernel
theorem dX12_carries_42 : decode cX12_carries 42 = .ok (.istore 4, 2) := by decide +kernel
theorem dX12_carries_44 : decode cX12_carries 44 = .ok (.iconst 0, 1) := by decide +kernel
theorem dX12_carries_45 : decode cX12_carries 45 = .ok (.istore 5, 2) := by decide +kernel
theorem dX12_carries_47 : decode cX12_carries 47 = .ok (.iload 5, 2) := by decide +kernel
theorem dX12_carries_49 : decode cX12_carries 49 = .ok (.aload_n 0, 1) := by decide +kernel
theorem dX12_carries_50 : decode cX12_carries 50 = .ok (.invokevirtual 91, 3) := by decide +kernel
theorem dX12_carries_53 : decode cX12_carries 53 = .ok (.if_icmp .ge 205, 3) := by decide +kernel
theorem dX12_carries_56 : decode cX12_carries 56 = .ok (.aload_n 0, 1) := by decide +kernel
theorem dX12_carries_57 : decode cX12_carries 57 = .ok (.getfield 11, 3) := by decide +kernel
theorem dX12_carries_60 : decode cX12_carries 60 = .ok (.aload_n 0, 1) := by decide +kernel
theorem dX12_carries_61 : decode cX12_carries 61 = .ok (.iload 5, 2) := by decide +kernel
theorem dX12_carries_63 : decode cX12_carries 63 = .ok (.iconst 1, 1) := by decide +kernel
theorem dX12_carries_64 : decode cX12_carries 64 = .ok (.invokevirtual 66, 3) := by decide +kernel
theorem dX12_carries_67 : decode cX12_carries 67 = .ok (.laload, 1) := by decide +kernel
theorem dX12_carries_68 : decode cX12_carries 68 = .ok (.iload_n 1, 1) := by decide +kernel
theorem dX12_carries_69 : decode cX12_carries 69 = .ok (.i2l, 1) := by decide +kernel
theorem dX12_carries_70 : decode cX12_carries 70 = .ok (.lcmp, 1) := by decide +kernel
theorem dX12_carries_71 : decode cX12_carries 71 = .ok (.ifCond .ne 181, 3) := by decide +kernel
theorem dX12_carries_74 : decode cX12_carries 74 = .ok (.aload_n 0, 1) := by decide +kernel
theorem dX12_carries_75 : decode cX12_carries 75 = .ok (.getfield 11, 3) := by decide +kernel
theorem dX12_carries_78 : decode cX12_carries 78 = .ok (.aload_n 0, 1) := by decide +kernel
theorem dX12_carries_79 : decode cX12_carries 79 = .ok (.iload 5, 2) := by decide +kernel
theorem dX12_carries_81 : decode cX12_carries 81 = .ok (.iconst 5, 1) := by decide +kernel
theorem dX12_carries_82 : decode cX12_carries 82 = .ok (.invokevirtual 66, 3) := by decide +kernel
theorem dX12_carries_85 : decode cX12_carries 85 = .ok (.laload, 1) := by decide +kernel
theorem dX12_carries_86 : decode cX12_carries 86 = .ok (.lconst 0, 1) := by decide +kernel
theorem dX12_carries_87 : decode cX12_carries 87 = .ok (.lcmp, 1) := by decide +kernel
theorem dX12_carries_88 : decode cX12_carries 88 = .ok (.ifCond .ne 164, 3) := by decide +kernel
theorem dX12_carries_91 : decode cX12_carries 91 = .ok (.aload_n 0, 1) := by decide +kernel
theorem dX12_carries_92 : decode cX12_carries 92 = .ok (.getfield 11, 3) := by decide +kernel
theorem dX12_carries_95 : decode cX12_carries 95 = .ok (.aload_n 0, 1) := by decide +kernel
theorem dX12_carries_96 : decode cX12_carries 96 = .ok (.iload 5, 2) := by decide +kernel
theorem dX12_carries_98 : decode cX12_carries 98 = .ok (.iconst 0, 1) := by decide +kernel
theorem dX12_carries_99 : decode cX12_carries 99 = .ok (.invokevirtual 66, 3) := by decide +kernel
theorem dX12_carries_102 : decode cX12_carries 102 = .ok (.laload, 1) := by decide +kernel
theorem dX12_carries_103 : decode cX12_carries 103 = .ok (.ldc2_w 153, 3) := by decide +kernel
theorem dX12_carries_106 : decode cX12_carries 106 = .ok (.lcmp, 1) := by decide +kernel
theorem dX12_carries_107 : decode cX12_carries 107 = .ok (.ifCond .ne 6, 3) := by decide +kernel
theorem dX12_carries_110 : decode cX12_carries 110 = .ok (.goto 142, 3) := by decide +kernel
theorem dX12_carries_113 : decode cX12_carries 113 = .ok (.aload_n 0, 1) := by decide +kernel
theorem dX12_carries_114 : decode cX12_carries 114 = .ok (.getfield 11, 3) := by decide +kernel
theorem dX12_carries_117 : decode cX12_carries 117 = .ok (.bipush 62, 2) := by decide +kernel
theorem dX12_carries_119 : decode cX12_carries 119 = .ok (.laload, 1) := by decide +kernel
theorem dX12_carries_120 : decode cX12_carries 120 = .ok (.aload_n 0, 1) := by decide +kernel
theorem dX12_carries_121 : decode cX12_carries 121 = .ok (.getfield 11, 3) := by decide +kernel
theorem dX12_carries_124 : decode cX12_carries 124 = .ok (.aload_n 0, 1) := by decide +kernel
theorem dX12_carries_125 : decode cX12_carries 125 = .ok (.iload 5, 2) := by decide +kernel
theorem dX12_carries_127 : decode cX12_carries 127 = .ok (.iconst 2, 1) := by decide +kernel
theorem dX12_carries_128 : decode cX12_carries 128 = .ok (.invokevirtual 66, 3) := by decide +kernel
theorem dX12_carries_131 : decode cX12_carries 131 = .ok (.laload, 1) := by decide +kernel
theorem dX12_carries_132 : decode cX12_carries 132 = .ok (.lcmp, 1) := by decide +kernel
theorem dX12_carries_133 : decode cX12_carries 133 = .ok (.ifCond .ge 7, 3) := by decide +kernel
theorem dX12_carries_136 : decode cX12_carries 136 = .ok (.iconst 1, 1) := by decide +kernel
theorem dX12_carries_137 : decode cX12_carries 137 = .ok (.goto 4, 3) := by decide +kernel
theorem dX12_carries_140 : decode cX12_carries 140 = .ok (.iconst 0, 1) := by decide +kernel
theorem dX12_carries_141 : decode cX12_carries 141 = .ok (.istore 6, 2) := by decide +kernel
theorem dX12_carries_143 : decode cX12_carries 143 = .ok (.aload_n 0, 1) := by decide +kernel
theorem dX12_carries_144 : decode cX12_carries 144 = .ok (.getfield 11, 3) := by decide +kernel
theorem dX12_carries_147 : decode cX12_carries 147 = .ok (.bipush 62, 2) := by decide +kernel
theorem dX12_carries_149 : decode cX12_carries 149 = .ok (.laload, 1) := by decide +kernel
theorem dX12_carries_150 : decode cX12_carries 150 = .ok (.iload_n 2, 1) := by decide +kernel
theorem dX12_carries_151 : decode cX12_carries 151 = .ok (.i2l, 1) := by decide +kernel
theorem dX12_carries_152 : decode cX12_carries 152 = .ok (.ladd, 1) := by decide +kernel
theorem dX12_carries_153 : decode cX12_carries 153 = .ok (.aload_n 0, 1) := by decide +kernel
theorem dX12_carries_154 : decode cX12_carries 154 = .ok (.getfield 11, 3) := by decide +kernel
theorem dX12_carries_157 : decode cX12_carries 157 = .ok (.aload_n 0, 1) := by decide +kernel
theorem dX12_carries_158 : decode cX12_carries 158 = .ok (.iload 5, 2) := by decide +kernel
theorem dX12_carries_160 : decode cX12_carries 160 = .ok (.iconst 3, 1) := by decide +kernel
theorem dX12_carries_161 : decode cX12_carries 161 = .ok (.invokevirtual 66, 3) := by decide +kernel
theorem dX12_carries_164 : decode cX12_carries 164 = .ok (.laload, 1) := by decide +kernel
theorem dX12_carries_165 : decode cX12_carries 165 = .ok (.lcmp, 1) := by decide +kernel
theorem dX12_carries_166 : decode cX12_carries 166 = .ok (.ifCond .gt 7, 3) := by decide +kernel
theorem dX12_carries_169 : decode cX12_carries 169 = .ok (.iconst 1, 1) := by decide +kernel
theorem dX12_carries_170 : decode cX12_carries 170 = .ok (.goto 4, 3) := by decide +kernel
theorem dX12_carries_173 : decode cX12_carries 173 = .ok (.iconst 0, 1) := by decide +kernel
theorem dX12_carries_174 : decode cX12_carries 174 = .ok (.istore 7, 2) := by decide +kernel
theorem dX12_carries_176 : decode cX12_carries 176 = .ok (.iload_n 3, 1) := by decide +kernel
theorem dX12_carries_177 : decode cX12_carries 177 = .ok (.ifCond .ne 21, 3) := by decide +kernel
theorem dX12_carries_180 : decode cX12_carries 180 = .ok (.iload 6, 2) := by decide +kernel
theorem dX12_carries_182 : decode cX12_carries 182 = .ok (.ifCond .eq 12, 3) := by decide +kernel
theorem dX12_carries_185 : decode cX12_carries 185 = .ok (.iload 7, 2) := by decide +kernel
theorem dX12_carries_187 : decode cX12_carries 187 = .ok (.ifCond .eq 7, 3) := by decide +kernel
theorem dX12_carries_190 : decode cX12_carries 190 = .ok (.iconst 1, 1) := by decide +kernel
theorem dX12_carries_191 : decode cX12_carries 191 = .ok (.goto 45, 3) := by decide +kernel
theorem dX12_carries_194 : decode cX12_carries 194 = .ok (.iconst 0, 1) := by decide +kernel
theorem dX12_carries_195 : decode cX12_carries 195 = .ok (.goto 41, 3) := by decide +kernel
theorem dX12_carries_198 : decode cX12_carries 198 = .ok (.iload_n 3, 1) := by decide +kernel
theorem dX12_carries_199 : decode cX12_carries 199 = .ok (.iconst 1, 1) := by decide +kernel
theorem dX12_carries_200 : decode cX12_carries 200 = .ok (.if_icmp .ne 21, 3) := by decide +kernel
theorem dX12_carries_203 : decode cX12_carries 203 = .ok (.iload 6, 2) := by decide +kernel
theorem dX12_carries_205 : decode cX12_carries 205 = .ok (.ifCond .eq 12, 3) := by decide +kernel
theorem dX12_carries_208 : decode cX12_carries 208 = .ok (.iload 7, 2) := by decide +kernel
theorem dX12_carries_210 : decode cX12_carries 210 = .ok (.ifCond .ne 7, 3) := by decide +kernel
theorem dX12_carries_213 : decode cX12_carries 213 = .ok (.iconst 1, 1) := by decide +kernel
theorem dX12_carries_214 : decode cX12_carries 214 = .ok (.goto 22, 3) := by decide +kernel
theorem dX12_carries_217 : decode cX12_carries 217 = .ok (.iconst 0, 1) := by decide +kernel
theorem dX12_carries_218 : decode cX12_carries 218 = .ok (.goto 18, 3) := by decide +kernel
theorem dX12_carries_221 : decode cX12_carries 221 = .ok (.iload 6, 2) := by decide +kernel
theorem dX12_carries_223 : decode cX12_carries 223 = .ok (.ifCond .ne 12, 3) := by decide +kernel
theorem dX12_carries_226 : decode cX12_carries 226 = .ok (.iload 7, 2) := by decide +kernel
theorem dX12_carries_228 : decode cX12_carries 228 = .ok (.ifCond .eq 7, 3) := by decide +kernel
theorem dX12_carries_231 : decode cX12_carries 231 = .ok (.iconst 1, 1) := by decide +kernel
theorem dX12_carries_232 : decode cX12_carries 232 = .ok (.goto 4, 3) := by decide +kernel
theorem dX12_carries_235 : decode cX12_carries 235 = .ok (.iconst 0, 1) := by decide +kernel
theorem dX12_carries_236 : decode cX12_carries 236 = .ok (.istore 8, 2) := by decide +kernel
theorem dX12_carries_238 : decode cX12_carries 238 = .ok (.iload 8, 2) := by decide +kernel
theorem dX12_carries_240 : decode cX12_carries 240 = .ok (.ifCond .eq 12, 3) := by decide +kernel
theorem dX12_carries_243 : decode cX12_carries 243 = .ok (.iload 4, 2) := by decide +kernel
theorem dX12_carries_245 : decode cX12_carries 245 = .ok (.iconst 1, 1) := by decide +kernel
theorem dX12_carries_246 : decode cX12_carries 246 = .ok (.iload 5, 2) := by decide +kernel
theorem dX12_carries_248 : decode cX12_carries 248 = .ok (.ishl, 1) := by decide +kernel
theorem dX12_carries_249 : decode cX12_carries 249 = .ok (.ior, 1) := by decide +kernel
theorem dX12_carries_250 : decode cX12_carries 250 = .ok (.istore 4, 2) := by decide +kernel
theorem dX12_carries_252 : decode cX12_carries 252 = .ok (.iinc 5 1, 3) := by decide +kernel
theorem dX12_carries_255 : decode cX12_carries 255 = .ok (.goto (-208), 3) := by decide +kernel
theorem dX12_carries_258 : decode cX12_carries 258 = .ok (.iload 4, 2) := by decide +kernel
theorem dX12_carries_260 : decode cX12_carries 260 = .ok (.ireturn, 1) := by decide +kernel
def fX12_carries_L39 (n : Nat) (X : Mm) : Option (Int32 × Mm) :=
some ((-1 : Int32), X)
def fX12_carries_L252 (n : Nat) (k47 : Nat → Int32 → Int32 → Int32 → Int32 → Int32 → Mm → Option (Int32 × Mm)) (r0 : Nat) (v1 : Int32) (v2 : Int32) (v3 : Int32) (v4 : Int32) (v5 : Int32) (X : Mm) : Option (Int32 × Mm) :=
nm (v5 + (1 : Int32)) fun v5_252 =>
k47 r0 v1 v2 v3 v4 v5_252 X
def fX12_carries_L236 (n : Nat) (k47 : Nat → Int32 → Int32 → Int32 → Int32 → Int32 → Mm → Option (Int32 × Mm)) (r0 : Nat) (v1 : Int32) (v2 : Int32) (v3 : Int32) (v4 : Int32) (v5 : Int32) (s0 : Int32) (X : Mm) : Option (Int32 × Mm) :=
if s0 = 0 then (
fX12_carries_L252 n k47 r0 v1 v2 v3 v4 v5 X
) else (
nm ((v4 ||| ((1 : Int32) <<< (v5 &&& 31)))) fun v4_250 =>
fX12_carries_L252 n k47 r0 v1 v2 v3 v4_250 v5 X
)
def fX12_carries_L194 (n : Nat) (k47 : Nat → Int32 → Int32 → Int32 → Int32 → Int32 → Mm → Option (Int32 × Mm)) (r0 : Nat) (v1 : Int32) (v2 : Int32) (v3 : Int32) (v4 : Int32) (v5 : Int32) (X : Mm) : Option (Int32 × Mm) :=
fX12_carries_L236 n k47 r0 v1 v2 v3 v4 v5 (0 : Int32) X
def fX12_carries_L217 (n : Nat) (k47 : Nat → Int32 → Int32 → Int32 → Int32 → Int32 → Mm → Option (Int32 × Mm)) (r0 : Nat) (v1 : Int32) (v2 : Int32) (v3 : Int32) (v4 : Int32) (v5 : Int32) (X : Mm) : Option (Int32 × Mm) :=
fX12_carries_L236 n k47 r0 v1 v2 v3 v4 v5 (0 : Int32) X
def fX12_carries_L235 (n : Nat) (k47 : Nat → Int32 → Int32 → Int32 → Int32 → Int32 → Mm → Option (Int32 × Mm)) (r0 : Nat) (v1 : Int32) (v2 : Int32) (v3 : Int32) (v4 : Int32) (v5 : Int32) (X : Mm) : Option (Int32 × Mm) :=
fX12_carries_L236 n k47 r0 v1 v2 v3 v4 v5 (0 : Int32) X
def fX12_carries_L174 (n : Nat) (k47 : Nat → Int32 → Int32 → Int32 → Int32 → Int32 → Mm → Option (Int32 × Mm)) (r0 : Nat) (v1 : Int32) (v2 : Int32) (v3 : Int32) (v4 : Int32) (v5 : Int32) (v6 : Int32) (s0 : Int32) (X : Mm) : Option (Int32 × Mm) :=
if v3 = 0 then (
if v6 = 0 then (
fX12_carries_L194 n k47 r0 v1 v2 v3 v4 v5 X
) else (
if s0 = 0 then (
fX12_carries_L194 n k47 r0 v1 v2 v3 v4 v5 X
) else (
fX12_carries_L236 n k47 r0 v1 v2 v3 v4 v5 (1 : Int32) X
)
)
) else (
if v3 = (1 : Int32) then (
if v6 = 0 then (
fX12_carries_L217 n k47 r0 v1 v2 v3 v4 v5 X
) else (
if s0 = 0 then (
fX12_carries_L236 n k47 r0 v1 v2 v3 v4 v5 (1 : Int32) X
) else (
fX12_carries_L217 n k47 r0 v1 v2 v3 v4 v5 X
)
)
) else (
if v6 = 0 then (
if s0 = 0 then (
fX12_carries_L235 n k47 r0 v1 v2 v3 v4 v5 X
) else (
fX12_carries_L236 n k47 r0 v1 v2 v3 v4 v5 (1 : Int32) X
)
) else (
fX12_carries_L235 n k47 r0 v1 v2 v3 v4 v5 X
)
)
)
def fX12_carries_L141 (n : Nat) (k47 : Nat → Int32 → Int32 → Int32 → Int32 → Int32 → Mm → Option (Int32 × Mm)) (r0 : Nat) (v1 : Int32) (v2 : Int32) (v3 : Int32) (v4 : Int32) (v5 : Int32) (s0 : Int32) (X : Mm) : Option (Int32 × Mm) :=
if mT X r0 = 12 then
if mR X r0 1 ≠ 0 then
if mT X (mR X r0 1) = 15 then
if q_b X (mR X r0 1) (62 : Int32) then
bd (fX12_of r0 v5 (3 : Int32) X) fun w45 X161_46 =>
if mT X161_46 (mR X r0 1) = 15 then
if q_b X161_46 (mR X r0 1) w45 then
if 0 < (lg_cmp ((mJ X (mR X r0 1) ((62 : Int32)).toNatClampNeg) + ((v2).toInt64)) (mJ X161_46 (mR X r0 1) (w45).toNatClampNeg)) then (
fX12_carries_L174 n k47 r0 v1 v2 v3 v4 v5 s0 (0 : Int32) X161_46
) else (
fX12_carries_L174 n k47 r0 v1 v2 v3 v4 v5 s0 (1 : Int32) X161_46
)
else none
else none
else none
else none
else none
else none
def fX12_carries_L47 (n : Nat) : Nat → Nat → Int32 → Int32 → Int32 → Int32 → Int32 → Mm → Option (Int32 × Mm)
| 0, _, _, _, _, _, _, _ => none
| j + 1, r0, v1, v2, v3, v4, v5, X =>
if mT X r0 = 12 then
bd (fX12_eventMany r0 X) fun w12 X50_13 =>
if w12 ≤ v5 then (
some (v4, X50_13)
) else (
if mT X50_13 r0 = 12 then
if mR X50_13 r0 1 ≠ 0 then
bd (fX12_of r0 v5 (1 : Int32) X50_13) fun w17 X64_18 =>
if mT X64_18 (mR X50_13 r0 1) = 15 then
if q_b X64_18 (mR X50_13 r0 1) w17 then
if (lg_cmp (mJ X64_18 (mR X50_13 r0 1) (w17).toNatClampNeg) ((v1).toInt64)) = 0 then (
if mT X64_18 r0 = 12 then
if mR X64_18 r0 1 ≠ 0 then
bd (fX12_of r0 v5 (5 : Int32) X64_18) fun w23 X82_24 =>
if mT X82_24 (mR X64_18 r0 1) = 15 then
if q_b X82_24 (mR X64_18 r0 1) w23 then
if (lg_cmp (mJ X82_24 (mR X64_18 r0 1) (w23).toNatClampNeg) (0 : Int64)) = 0 then (
if mT X82_24 r0 = 12 then
if mR X82_24 r0 1 ≠ 0 then
bd (fX12_of r0 v5 (0 : Int32) X82_24) fun w29 X99_30 =>
if mT X99_30 (mR X82_24 r0 1) = 15 then
if q_b X99_30 (mR X82_24 r0 1) w29 then
if (lg_cmp (mJ X99_30 (mR X82_24 r0 1) (w29).toNatClampNeg) (3 : Int64)) = 0 then (
fX12_carries_L252 n (fX12_carries_L47 n j) r0 v1 v2 v3 v4 v5 X99_30
) else (
if mT X99_30 r0 = 12 then
if mR X99_30 r0 1 ≠ 0 then
if mT X99_30 (mR X99_30 r0 1) = 15 then
if q_b X99_30 (mR X99_30 r0 1) (62 : Int32) then
bd (fX12_of r0 v5 (2 : Int32) X99_30) fun w37 X128_38 =>
if mT X128_38 (mR X99_30 r0 1) = 15 then
if q_b X128_38 (mR X99_30 r0 1) w37 then
if 0 ≤ (lg_cmp (mJ X99_30 (mR X99_30 r0 1) ((62 : Int32)).toNatClampNeg) (mJ X128_38 (mR X99_30 r0 1) (w37).toNatClampNeg)) then (
fX12_carries_L141 n (fX12_carries_L47 n j) r0 v1 v2 v3 v4 v5 (0 : Int32) X128_38
) else (
fX12_carries_L141 n (fX12_carries_L47 n j) r0 v1 v2 v3 v4 v5 (1 : Int32) X128_38
)
else none
else none
else none
else none
else none
else none
)
else none
else none
else none
else none
) else (
fX12_carries_L252 n (fX12_carries_L47 n j) r0 v1 v2 v3 v4 v5 X82_24
)
else none
else none
else none
else none
) else (
fX12_carries_L252 n (fX12_carries_L47 n j) r0 v1 v2 v3 v4 v5 X64_18
)
else none
else none
else none
else none
)
else none
def fX12_carries (n : Nat) (r0 : Nat) (v1 : Int32) (v2 : Int32) (v3 : Int32) (X : Mm) : Option (Int32 × Mm) :=
if mT X r0 = 12 then
nm (sI X r0 0 (0 : Int32)) fun X2_1 =>
if mT X2_1 r0 = 12 then
bd (fX12_isPaper r0 v1 X2_1) fun w3 X7_4 =>
if w3 = 0 then (
fX12_carries_L39 n X7_4
) else (
if mT X7_4 r0 = 12 then
bd (fX12_isIn r0 (((v2).toInt64)) (1 : Int64) (9 : Int64) X7_4) fun w6 X20_7 =>
if w6 = 0 then (
fX12_carries_L39 n X20_7
) else (
if mT X20_7 r0 = 12 then
bd (fX12_isIn r0 (((v3).toInt64)) (0 : Int64) (2 : Int64) X20_7) fun w9 X33_10 =>
if w9 = 0 then (
fX12_carries_L39 n X33_10
) else (
fX12_carries_L47 n n r0 v1 v2 v3 (0 : Int32) (0 : Int32) X33_10
)
else none
)
else none
)
else none
else none
theorem gX12_carries_L39 {E : q_E} {X0 : Mm} (C : Cx E cX12_carries RX12 9 (some .int) (q_rm 2 47 0 0) X0) (n : Nat) (X : Mm) : Sm E (q_fin E q_eI X0 0 0) 0 0 39 [] [] X (fX12_carries_L39 n  X) := by
  unfold fX12_carries_L39
  refine q_iconst C (-1 : Int32) dX12_carries_39 rfl ?_
  exact q_iret C dX12_carries_40
theorem gX12_carries_L252 {E : q_E} {X0 : Mm} (C : Cx E cX12_carries RX12 9 (some .int) (q_rm 2 47 0 0) X0) (n : Nat) (k47 : Nat → Int32 → Int32 → Int32 → Int32 → Int32 → Mm → Option (Int32 × Mm)) (hk47 : ∀ (r0 : Nat) (v1 : Int32) (v2 : Int32) (v3 : Int32) (v4 : Int32) (v5 : Int32) (X : Mm), Sm E (q_fin E q_eI X0 0 0) 0 0 47 [(0, .ref (q_P E + r0)), (1, .int v1), (2, .int v2), (3, .int v3), (4, .int v4), (5, .int v5)] [] X (k47 r0 v1 v2 v3 v4 v5 X)) (r0 : Nat) (v1 : Int32) (v2 : Int32) (v3 : Int32) (v4 : Int32) (v5 : Int32) (X : Mm) : Sm E (q_fin E q_eI X0 0 0) 0 0 252 [(0, .ref (q_P E + r0)), (1, .int v1), (2, .int v2), (3, .int v3), (4, .int v4), (5, .int v5)] [] X (fX12_carries_L252 n k47 r0 v1 v2 v3 v4 v5 X) := by
  unfold fX12_carries_L252
  refine q_iincN C (1 : Int32) 5 (fun v5_252 => [(5, .int v5_252), (0, .ref (q_P E + r0)), (1, .int v1), (2, .int v2), (3, .int v3), (4, .int v4)]) dX12_carries_252 rfl rfl (Nat.le_of_ble_eq_true rfl) (fun _ => rfl) (fun v5_252 => ?_)
  refine q_goto C 47 dX12_carries_255 (by decide) ?_
  refine q_sub C [(0, .ref (q_P E + r0)), (1, .int v1), (2, .int v2), (3, .int v3), (4, .int v4), (5, .int v5_252)] [1, 2, 3, 4, 5, 0] rfl ?_
  exact hk47 r0 v1 v2 v3 v4 v5_252 X
theorem gX12_carries_L236 {E : q_E} {X0 : Mm} (C : Cx E cX12_carries RX12 9 (some .int) (q_rm 2 47 0 0) X0) (n : Nat) (k47 : Nat → Int32 → Int32 → Int32 → Int32 → Int32 → Mm → Option (Int32 × Mm)) (hk47 : ∀ (r0 : Nat) (v1 : Int32) (v2 : Int32) (v3 : Int32) (v4 : Int32) (v5 : Int32) (X : Mm), Sm E (q_fin E q_eI X0 0 0) 0 0 47 [(0, .ref (q_P E + r0)), (1, .int v1), (2, .int v2), (3, .int v3), (4, .int v4), (5, .int v5)] [] X (k47 r0 v1 v2 v3 v4 v5 X)) (r0 : Nat) (v1 : Int32) (v2 : Int32) (v3 : Int32) (v4 : Int32) (v5 : Int32) (s0 : Int32) (X : Mm) : Sm E (q_fin E q_eI X0 0 0) 0 0 236 [(0, .ref (q_P E + r0)), (1, .int v1), (2, .int v2), (3, .int v3), (4, .int v4), (5, .int v5)] [.int s0] X (fX12_carries_L236 n k47 r0 v1 v2 v3 v4 v5 s0 X) := by
  unfold fX12_carries_L236
  refine q_istore C [(8, .int s0), (0, .ref (q_P E + r0)), (1, .int v1), (2, .int v2), (3, .int v3), (4, .int v4), (5, .int v5)] dX12_carries_236 (Nat.le_of_ble_eq_true rfl) rfl ?_
  refine q_iload C 0 dX12_carries_238 rfl ?_
  refine q_if_eq C 252 dX12_carries_240 (by decide) (fun _ => ?_) (fun _ => ?_)
  · refine q_sub C [(0, .ref (q_P E + r0)), (1, .int v1), (2, .int v2), (3, .int v3), (4, .int v4), (5, .int v5)] [1, 2, 3, 4, 5, 6] rfl ?_
    exact gX12_carries_L252 C n k47 hk47 r0 v1 v2 v3 v4 v5 X
  · refine q_iload C 5 dX12_carries_243 rfl ?_
    refine q_iconst C (1 : Int32) dX12_carries_245 rfl ?_
    refine q_iload C 6 dX12_carries_246 rfl ?_
    refine q_ishl C dX12_carries_248 ?_
    refine q_ior C dX12_carries_249 ?_
    refine q_nmi (fun v4_250 => ?_)
    refine q_istore C [(4, .int v4_250), (8, .int s0), (0, .ref (q_P E + r0)), (1, .int v1), (2, .int v2), (3, .int v3), (5, .int v5)] dX12_carries_250 (Nat.le_of_ble_eq_true rfl) rfl ?_
    refine q_sub C [(0, .ref (q_P E + r0)), (1, .int v1), (2, .int v2), (3, .int v3), (4, .int v4_250), (5, .int v5)] [2, 3, 4, 5, 0, 6] rfl ?_
    exact gX12_carries_L252 C n k47 hk47 r0 v1 v2 v3 v4_250 v5 X
theorem gX12_carries_L194 {E : q_E} {X0 : Mm} (C : Cx E cX12_carries RX12 9 (some .int) (q_rm 2 47 0 0) X0) (n : Nat) (k47 : Nat → Int32 → Int32 → Int32 → Int32 → Int32 → Mm → Option (Int32 × Mm)) (hk47 : ∀ (r0 : Nat) (v1 : Int32) (v2 : Int32) (v3 : Int32) (v4 : Int32) (v5 : Int32) (X : Mm), Sm E (q_fin E q_eI X0 0 0) 0 0 47 [(0, .ref (q_P E + r0)), (1, .int v1), (2, .int v2), (3, .int v3), (4, .int v4), (5, .int v5)] [] X (k47 r0 v1 v2 v3 v4 v5 X)) (r0 : Nat) (v1 : Int32) (v2 : Int32) (v3 : Int32) (v4 : Int32) (v5 : Int32) (X : Mm) : Sm E (q_fin E q_eI X0 0 0) 0 0 194 [(0, .ref (q_P E + r0)), (1, .int v1), (2, .int v2), (3, .int v3), (4, .int v4), (5, .int v5)] [] X (fX12_carries_L194 n k47 r0 v1 v2 v3 v4 v5 X) := by
  unfold fX12_carries_L194
  refine q_iconst C (0 : Int32) dX12_carries_194 rfl ?_
  refine q_goto C 236 dX12_carries_195 (by decide) ?_
  exact gX12_carries_L236 C n k47 hk47 r0 v1 v2 v3 v4 v5 (0 : Int32) X
theorem gX12_carries_L217 {E : q_E} {X0 : Mm} (C : Cx E cX12_carries RX12 9 (some .int) (q_rm 2 47 0 0) X0) (n : Nat) (k47 : Nat → Int32 → Int32 → Int32 → Int32 → Int32 → Mm → Option (Int32 × Mm)) (hk47 : ∀ (r0 : Nat) (v1 : Int32) (v2 : Int32) (v3 : Int32) (v4 : Int32) (v5 : Int32) (X : Mm), Sm E (q_fin E q_eI X0 0 0) 0 0 47 [(0, .ref (q_P E + r0)), (1, .int v1), (2, .int v2), (3, .int v3), (4, .int v4), (5, .int v5)] [] X (k47 r0 v1 v2 v3 v4 v5 X)) (r0 : Nat) (v1 : Int32) (v2 : Int32) (v3 : Int32) (v4 : Int32) (v5 : Int32) (X : Mm) : Sm E (q_fin E q_eI X0 0 0) 0 0 217 [(0, .ref (q_P E + r0)), (1, .int v1), (2, .int v2), (3, .int v3), (4, .int v4), (5, .int v5)] [] X (fX12_carries_L217 n k47 r0 v1 v2 v3 v4 v5 X) := by
  unfold fX12_carries_L217
  refine q_iconst C (0 : Int32) dX12_carries_217 rfl ?_
  refine q_goto C 236 dX12_carries_218 (by decide) ?_
  exact gX12_carries_L236 C n k47 hk47 r0 v1 v2 v3 v4 v5 (0 : Int32) X
theorem gX12_carries_L235 {E : q_E} {X0 : Mm} (C : Cx E cX12_carries RX12 9 (some .int) (q_rm 2 47 0 0) X0) (n : Nat) (k47 : Nat → Int32 → Int32 → Int32 → Int32 → Int32 → Mm → Option (Int32 × Mm)) (hk47 : ∀ (r0 : Nat) (v1 : Int32) (v2 : Int32) (v3 : Int32) (v4 : Int32) (v5 : Int32) (X : Mm), Sm E (q_fin E q_eI X0 0 0) 0 0 47 [(0, .ref (q_P E + r0)), (1, .int v1), (2, .int v2), (3, .int v3), (4, .int v4), (5, .int v5)] [] X (k47 r0 v1 v2 v3 v4 v5 X)) (r0 : Nat) (v1 : Int32) (v2 : Int32) (v3 : Int32) (v4 : Int32) (v5 : Int32) (X : Mm) : Sm E (q_fin E q_eI X0 0 0) 0 0 235 [(0, .ref (q_P E + r0)), (1, .int v1), (2, .int v2), (3, .int v3), (4, .int v4), (5, .int v5)] [] X (fX12_carries_L235 n k47 r0 v1 v2 v3 v4 v5 X) := by
  unfold fX12_carries_L235
  refine q_iconst C (0 : Int32) dX12_carries_235 rfl ?_
  exact gX12_carries_L236 C n k47 hk47 r0 v1 v2 v3 v4 v5 (0 : Int32) X
theorem gX12_carries_L174 {E : q_E} {X0 : Mm} (C : Cx E cX12_carries RX12 9 (some .int) (q_rm 2 47 0 0) X0) (n : Nat) (k47 : Nat → Int32 → Int32 → Int32 → Int32 → Int32 → Mm → Option (Int32 × Mm)) (hk47 : ∀ (r0 : Nat) (v1 : Int32) (v2 : Int32) (v3 : Int32) (v4 : Int32) (v5 : Int32) (X : Mm), Sm E (q_fin E q_eI X0 0 0) 0 0 47 [(0, .ref (q_P E + r0)), (1, .int v1), (2, .int v2), (3, .int v3), (4, .int v4), (5, .int v5)] [] X (k47 r0 v1 v2 v3 v4 v5 X)) (r0 : Nat) (v1 : Int32) (v2 : Int32) (v3 : Int32) (v4 : Int32) (v5 : Int32) (v6 : Int32) (s0 : Int32) (X : Mm) : Sm E (q_fin E q_eI X0 0 0) 0 0 174 [(0, .ref (q_P E + r0)), (1, .int v1), (2, .int v2), (3, .int v3), (4, .int v4), (5, .int v5), (6, .int v6)] [.int s0] X (fX12_carries_L174 n k47 r0 v1 v2 v3 v4 v5 v6 s0 X) := by
  unfold fX12_carries_L174
  refine q_istore C [(7, .int s0), (0, .ref (q_P E + r0)), (1, .int v1), (2, .int v2), (3, .int v3), (4, .int v4), (5, .int v5), (6, .int v6)] dX12_carries_174 (Nat.le_of_ble_eq_true rfl) rfl ?_
  refine q_iload_n C 4 dX12_carries_176 rfl rfl ?_
  refine q_if_ne C 198 dX12_carries_177 (by decide) (fun _ => ?_) (fun _ => ?_)
  · refine q_iload C 7 dX12_carries_180 rfl ?_
    refine q_if_eq C 194 dX12_carries_182 (by decide) (fun _ => ?_) (fun _ => ?_)
    · refine q_sub C [(0, .ref (q_P E + r0)), (1, .int v1), (2, .int v2), (3, .int v3), (4, .int v4), (5, .int v5)] [1, 2, 3, 4, 5, 6] rfl ?_
      exact gX12_carries_L194 C n k47 hk47 r0 v1 v2 v3 v4 v5 X
    · refine q_iload C 0 dX12_carries_185 rfl ?_
      refine q_if_eq C 194 dX12_carries_187 (by decide) (fun _ => ?_) (fun _ => ?_)
      · refine q_sub C [(0, .ref (q_P E + r0)), (1, .int v1), (2, .int v2), (3, .int v3), (4, .int v4), (5, .int v5)] [1, 2, 3, 4, 5, 6] rfl ?_
        exact gX12_carries_L194 C n k47 hk47 r0 v1 v2 v3 v4 v5 X
      · refine q_iconst C (1 : Int32) dX12_carries_190 rfl ?_
        refine q_goto C 236 dX12_carries_191 (by decide) ?_
        refine q_sub C [(0, .ref (q_P E + r0)), (1, .int v1), (2, .int v2), (3, .int v3), (4, .int v4), (5, .int v5)] [1, 2, 3, 4, 5, 6] rfl ?_
        exact gX12_carries_L236 C n k47 hk47 r0 v1 v2 v3 v4 v5 (1 : Int32) X
  · refine q_iload_n C 4 dX12_carries_198 rfl rfl ?_
    refine q_iconst C (1 : Int32) dX12_carries_199 rfl ?_
    refine q_icmp_ne C 221 dX12_carries_200 (by decide) (fun _ => ?_) (fun _ => ?_)
    · refine q_iload C 7 dX12_carries_203 rfl ?_
      refine q_if_eq C 217 dX12_carries_205 (by decide) (fun _ => ?_) (fun _ => ?_)
      · refine q_sub C [(0, .ref (q_P E + r0)), (1, .int v1), (2, .int v2), (3, .int v3), (4, .int v4), (5, .int v5)] [1, 2, 3, 4, 5, 6] rfl ?_
        exact gX12_carries_L217 C n k47 hk47 r0 v1 v2 v3 v4 v5 X
      · refine q_iload C 0 dX12_carries_208 rfl ?_
        refine q_if_ne C 217 dX12_carries_210 (by decide) (fun _ => ?_) (fun _ => ?_)
        · refine q_iconst C (1 : Int32) dX12_carries_213 rfl ?_
          refine q_goto C 236 dX12_carries_214 (by decide) ?_
          refine q_sub C [(0, .ref (q_P E + r0)), (1, .int v1), (2, .int v2), (3, .int v3), (4, .int v4), (5, .int v5)] [1, 2, 3, 4, 5, 6] rfl ?_
          exact gX12_carries_L236 C n k47 hk47 r0 v1 v2 v3 v4 v5 (1 : Int32) X
        · refine q_sub C [(0, .ref (q_P E + r0)), (1, .int v1), (2, .int v2), (3, .int v3), (4, .int v4), (5, .int v5)] [1, 2, 3, 4, 5, 6] rfl ?_
          exact gX12_carries_L217 C n k47 hk47 r0 v1 v2 v3 v4 v5 X
    · refine q_iload C 7 dX12_carries_221 rfl ?_
      refine q_if_ne C 235 dX12_carries_223 (by decide) (fun _ => ?_) (fun _ => ?_)
      · refine q_iload C 0 dX12_carries_226 rfl ?_
        refine q_if_eq C 235 dX12_carries_228 (by decide) (fun _ => ?_) (fun _ => ?_)
        · refine q_sub C [(0, .ref (q_P E + r0)), (1, .int v1), (2, .int v2), (3, .int v3), (4, .int v4), (5, .int v5)] [1, 2, 3, 4, 5, 6] rfl ?_
          exact gX12_carries_L235 C n k47 hk47 r0 v1 v2 v3 v4 v5 X
        · refine q_iconst C (1 : Int32) dX12_carries_231 rfl ?_
          refine q_goto C 236 dX12_carries_232 (by decide) ?_
          refine q_sub C [(0, .ref (q_P E + r0)), (1, .int v1), (2, .int v2), (3, .int v3), (4, .int v4), (5, .int v5)] [1, 2, 3, 4, 5, 6] rfl ?_
          exact gX12_carries_L236 C n k47 hk47 r0 v1 v2 v3 v4 v5 (1 : Int32) X
      · refine q_sub C [(0, .ref (q_P E + r0)), (1, .int v1), (2, .int v2), (3, .int v3), (4, .int v4), (5, .int v5)] [1, 2, 3, 4, 5, 6] rfl ?_
        exact gX12_carries_L235 C n k47 hk47 r0 v1 v2 v3 v4 v5 X
theorem gX12_carries_L141 {E : q_E} {X0 : Mm} (C : Cx E cX12_carries RX12 9 (some .int) (q_rm 2 47 0 0) X0) (n : Nat) (k47 : Nat → Int32 → Int32 → Int32 → Int32 → Int32 → Mm → Option (Int32 × Mm)) (hk47 : ∀ (r0 : Nat) (v1 : Int32) (v2 : Int32) (v3 : Int32) (v4 : Int32) (v5 : Int32) (X : Mm), Sm E (q_fin E q_eI X0 0 0) 0 0 47 [(0, .ref (q_P E + r0)), (1, .int v1), (2, .int v2), (3, .int v3), (4, .int v4), (5, .int v5)] [] X (k47 r0 v1 v2 v3 v4 v5 X)) (r0 : Nat) (v1 : Int32) (v2 : Int32) (v3 : Int32) (v4 : Int32) (v5 : Int32) (s0 : Int32) (X : Mm) : Sm E (q_fin E q_eI X0 0 0) 0 0 141 [(0, .ref (q_P E + r0)), (1, .int v1), (2, .int v2), (3, .int v3), (4, .int v4), (5, .int v5)] [.int s0] X (fX12_carries_L141 n k47 r0 v1 v2 v3 v4 v5 s0 X) := by
  unfold fX12_carries_L141
  refine q_istore C [(6, .int s0), (0, .ref (q_P E + r0)), (1, .int v1), (2, .int v2), (3, .int v3), (4, .int v4), (5, .int v5)] dX12_carries_141 (Nat.le_of_ble_eq_true rfl) rfl ?_
  refine q_aload_n C 1 dX12_carries_143 rfl rfl ?_
  refine q_chk (fun h41 => ?_)
  refine q_chk (fun h42 => ?_)
  refine p_getR C fgX12_11 rfl dX12_carries_144 h41 h42 ?_
  refine q_bipush C (62 : Int32) dX12_carries_147 rfl ?_
  refine q_chk (fun h43 => ?_)
  refine q_chk (fun h44 => ?_)
  refine p_lald C dX12_carries_149 h43 h44 ?_
  refine q_iload_n C 3 dX12_carries_150 rfl rfl ?_
  refine q_i2l C dX12_carries_151 ?_
  refine q_ladd C dX12_carries_152 ?_
  refine q_aload_n C 1 dX12_carries_153 rfl rfl ?_
  refine p_getR C fgX12_11 rfl dX12_carries_154 h41 h42 ?_
  refine q_aload_n C 1 dX12_carries_157 rfl rfl ?_
  refine q_iload C 6 dX12_carries_158 rfl ?_
  refine q_iconst C (3 : Int32) dX12_carries_160 rfl ?_
  refine q_cVI (As := (fun P => [.int v5, .int (3 : Int32)])) C [.ref (q_P E + (mR X r0 1)), .long ((mJ X (mR X r0 1) ((62 : Int32)).toNatClampNeg) + ((v2).toInt64))] (sX12_of r0 v5 (3 : Int32)) fcX12_66 rfl (fun _ => rfl) ⟨Nat.le_of_ble_eq_true rfl, Nat.le_of_ble_eq_true rfl⟩ ⟨Nat.le_of_ble_eq_true rfl, Nat.le_of_ble_eq_true rfl⟩ (Nat.le_of_ble_eq_true rfl) dX12_carries_161 h41 (fun w45 X161_46 => ?_)
  refine q_chk (fun h47 => ?_)
  refine q_chk (fun h48 => ?_)
  refine p_lald C dX12_carries_164 h47 h48 ?_
  refine q_lcmp C dX12_carries_165 ?_
  refine q_if_gt C 173 dX12_carries_166 (by decide) (fun _ => ?_) (fun _ => ?_)
  · refine q_iconst C (0 : Int32) dX12_carries_173 rfl ?_
    refine q_sub C [(0, .ref (q_P E + r0)), (1, .int v1), (2, .int v2), (3, .int v3), (4, .int v4), (5, .int v5), (6, .int s0)] [1, 2, 3, 4, 5, 6, 0] rfl ?_
    exact gX12_carries_L174 C n k47 hk47 r0 v1 v2 v3 v4 v5 s0 (0 : Int32) X161_46
  · refine q_iconst C (1 : Int32) dX12_carries_169 rfl ?_
    refine q_goto C 174 dX12_carries_170 (by decide) ?_
    refine q_sub C [(0, .ref (q_P E + r0)), (1, .int v1), (2, .int v2), (3, .int v3), (4, .int v4), (5, .int v5), (6, .int s0)] [1, 2, 3, 4, 5, 6, 0] rfl ?_
    exact gX12_carries_L174 C n k47 hk47 r0 v1 v2 v3 v4 v5 s0 (1 : Int32) X161_46
theorem gX12_carries_L47 {E : q_E} {X0 : Mm} (C : Cx E cX12_carries RX12 9 (some .int) (q_rm 2 47 0 0) X0) (n : Nat) : ∀ (j : Nat) (r0 : Nat) (v1 : Int32) (v2 : Int32) (v3 : Int32) (v4 : Int32) (v5 : Int32) (X : Mm), Sm E (q_fin E q_eI X0 0 0) 0 0 47 [(0, .ref (q_P E + r0)), (1, .int v1), (2, .int v2), (3, .int v3), (4, .int v4), (5, .int v5)] [] X (fX12_carries_L47 n j r0 v1 v2 v3 v4 v5 X) := by
  intro j
  induction j with
  | zero => intros; exact Sm.none
  | succ j ih =>
    intro r0 v1 v2 v3 v4 v5 X
    rw [fX12_carries_L47]
    refine q_iload C 5 dX12_carries_47 rfl ?_
    refine q_aload_n C 0 dX12_carries_49 rfl rfl ?_
    refine q_chk (fun h14 => ?_)
    refine q_cVI (As := (fun P => [])) C [.int v5] (sX12_eventMany r0) fcX12_91 rfl (fun _ => rfl) ⟨Nat.le_of_ble_eq_true rfl, Nat.le_of_ble_eq_true rfl⟩ ⟨Nat.le_of_ble_eq_true rfl, Nat.le_of_ble_eq_true rfl⟩ (Nat.le_of_ble_eq_true rfl) dX12_carries_50 h14 (fun w12 X50_13 => ?_)
    refine q_icmp_ge C 258 dX12_carries_53 (by decide) (fun _ => ?_) (fun _ => ?_)
    · refine q_iload C 4 dX12_carries_258 rfl ?_
      exact q_iret C dX12_carries_260
    · refine q_aload_n C 0 dX12_carries_56 rfl rfl ?_
      refine q_chk (fun h15 => ?_)
      refine q_chk (fun h16 => ?_)
      refine p_getR C fgX12_11 rfl dX12_carries_57 h15 h16 ?_
      refine q_aload_n C 0 dX12_carries_60 rfl rfl ?_
      refine q_iload C 5 dX12_carries_61 rfl ?_
      refine q_iconst C (1 : Int32) dX12_carries_63 rfl ?_
      refine q_cVI (As := (fun P => [.int v5, .int (1 : Int32)])) C [.ref (q_P E + (mR X50_13 r0 1))] (sX12_of r0 v5 (1 : Int32)) fcX12_66 rfl (fun _ => rfl) ⟨Nat.le_of_ble_eq_true rfl, Nat.le_of_ble_eq_true rfl⟩ ⟨Nat.le_of_ble_eq_true rfl, Nat.le_of_ble_eq_true rfl⟩ (Nat.le_of_ble_eq_true rfl) dX12_carries_64 h15 (fun w17 X64_18 => ?_)
      refine q_chk (fun h19 => ?_)
      refine q_chk (fun h20 => ?_)
      refine p_lald C dX12_carries_67 h19 h20 ?_
      refine q_iload_n C 1 dX12_carries_68 rfl rfl ?_
      refine q_i2l C dX12_carries_69 ?_
      refine q_lcmp C dX12_carries_70 ?_
      refine q_if_ne C 252 dX12_carries_71 (by decide) (fun _ => ?_) (fun _ => ?_)
      · refine q_aload_n C 0 dX12_carries_74 rfl rfl ?_
        refine q_chk (fun h21 => ?_)
        refine q_chk (fun h22 => ?_)
        refine p_getR C fgX12_11 rfl dX12_carries_75 h21 h22 ?_
        refine q_aload_n C 0 dX12_carries_78 rfl rfl ?_
        refine q_iload C 5 dX12_carries_79 rfl ?_
        refine q_iconst C (5 : Int32) dX12_carries_81 rfl ?_
        refine q_cVI (As := (fun P => [.int v5, .int (5 : Int32)])) C [.ref (q_P E + (mR X64_18 r0 1))] (sX12_of r0 v5 (5 : Int32)) fcX12_66 rfl (fun _ => rfl) ⟨Nat.le_of_ble_eq_true rfl, Nat.le_of_ble_eq_true rfl⟩ ⟨Nat.le_of_ble_eq_true rfl, Nat.le_of_ble_eq_true rfl⟩ (Nat.le_of_ble_eq_true rfl) dX12_carries_82 h21 (fun w23 X82_24 => ?_)
        refine q_chk (fun h25 => ?_)
        refine q_chk (fun h26 => ?_)
        refine p_lald C dX12_carries_85 h25 h26 ?_
        refine q_lconst C (0 : Int64) dX12_carries_86 rfl ?_
        refine q_lcmp C dX12_carries_87 ?_
        refine q_if_ne C 252 dX12_carries_88 (by decide) (fun _ => ?_) (fun _ => ?_)
        · refine q_aload_n C 0 dX12_carries_91 rfl rfl ?_
          refine q_chk (fun h27 => ?_)
          refine q_chk (fun h28 => ?_)
          refine p_getR C fgX12_11 rfl dX12_carries_92 h27 h28 ?_
          refine q_aload_n C 0 dX12_carries_95 rfl rfl ?_
          refine q_iload C 5 dX12_carries_96 rfl ?_
          refine q_iconst C (0 : Int32) dX12_carries_98 rfl ?_
          refine q_cVI (As := (fun P => [.int v5, .int (0 : Int32)])) C [.ref (q_P E + (mR X82_24 r0 1))] (sX12_of r0 v5 (0 : Int32)) fcX12_66 rfl (fun _ => rfl) ⟨Nat.le_of_ble_eq_true rfl, Nat.le_of_ble_eq_true rfl⟩ ⟨Nat.le_of_ble_eq_true rfl, Nat.le_of_ble_eq_true rfl⟩ (Nat.le_of_ble_eq_true rfl) dX12_carries_99 h27 (fun w29 X99_30 => ?_)
          refine q_chk (fun h31 => ?_)
          refine q_chk (fun h32 => ?_)
          refine p_lald C dX12_carries_102 h31 h32 ?_
          refine q_ldc2 C dX12_carries_103 fkX12_153 ?_
          refine q_lcmp C dX12_carries_106 ?_
          refine q_if_ne C 113 dX12_carries_107 (by decide) (fun _ => ?_) (fun _ => ?_)
          · refine q_goto C 252 dX12_carries_110 (by decide) ?_
            exact gX12_carries_L252 C n (fX12_carries_L47 n j) ih r0 v1 v2 v3 v4 v5 X99_30
          · refine q_aload_n C 0 dX12_carries_113 rfl rfl ?_
            refine q_chk (fun h33 => ?_)
            refine q_chk (fun h34 => ?_)
            refine p_getR C fgX12_11 rfl dX12_carries_114 h33 h34 ?_
            refine q_bipush C (62 : Int32) dX12_carries_117 rfl ?_
            refine q_chk (fun h35 => ?_)
            refine q_chk (fun h36 => ?_)
            refine p_lald C dX12_carries_119 h35 h36 ?_
            refine q_aload_n C 0 dX12_carries_120 rfl rfl ?_
            refine p_getR C fgX12_11 rfl dX12_carries_121 h33 h34 ?_
            refine q_aload_n C 0 dX12_carries_124 rfl rfl ?_
            refine q_iload C 5 dX12_carries_125 rfl ?_
            refine q_iconst C (2 : Int32) dX12_carries_127 rfl ?_
            refine q_cVI (As := (fun P => [.int v5, .int (2 : Int32)])) C [.ref (q_P E + (mR X99_30 r0 1)), .long (mJ X99_30 (mR X99_30 r0 1) ((62 : Int32)).toNatClampNeg)] (sX12_of r0 v5 (2 : Int32)) fcX12_66 rfl (fun _ => rfl) ⟨Nat.le_of_ble_eq_true rfl, Nat.le_of_ble_eq_true rfl⟩ ⟨Nat.le_of_ble_eq_true rfl, Nat.le_of_ble_eq_true rfl⟩ (Nat.le_of_ble_eq_true rfl) dX12_carries_128 h33 (fun w37 X128_38 => ?_)
            refine q_chk (fun h39 => ?_)
            refine q_chk (fun h40 => ?_)
            refine p_lald C dX12_carries_131 h39 h40 ?_
            refine q_lcmp C dX12_carries_132 ?_
            refine q_if_ge C 140 dX12_carries_133 (by decide) (fun _ => ?_) (fun _ => ?_)
            · refine q_iconst C (0 : Int32) dX12_carries_140 rfl ?_
              exact gX12_carries_L141 C n (fX12_carries_L47 n j) ih r0 v1 v2 v3 v4 v5 (0 : Int32) X128_38
            · refine q_iconst C (1 : Int32) dX12_carries_136 rfl ?_
              refine q_goto C 141 dX12_carries_137 (by decide) ?_
              exact gX12_carries_L141 C n (fX12_carries_L47 n j) ih r0 v1 v2 v3 v4 v5 (1 : Int32) X128_38
        · exact gX12_carries_L252 C n (fX12_carries_L47 n j) ih r0 v1 v2 v3 v4 v5 X82_24
      · exact gX12_carries_L252 C n (fX12_carries_L47 n j) ih r0 v1 v2 v3 v4 v5 X64_18
theorem sX12_carries (n : Nat) (r0 : Nat) (v1 : Int32) (v2 : Int32) (v3 : Int32) : q_Ct yX12_carries cX12_carries 9 (some .int) 2 47 0 0 q_eI (fun P => [.ref (P + r0), .int v1, .int v2, .int v3]) (fX12_carries n r0 v1 v2 v3) := by
  refine q_meth (by decide +kernel) (fun P => Nat.le_of_ble_eq_true rfl) (fun E X C hn => ?_)
  show Sm E (q_fin E q_eI X 0 0) 0 0 0 [(0, .ref (q_P E + r0)), (1, .int v1), (2, .int v2), (3, .int v3)] [] X _
  unfold fX12_carries
  refine q_aload_n C 0 dX12_carries_0 rfl rfl ?_
  refine q_iconst C (0 : Int32) dX12_carries_1 rfl ?_
  refine q_chk (fun h2 => ?_)
  refine p_putI C fpX12_63 rfl dX12_carries_2 h2 ?_
  refine q_nmX (fun X2_1 => ?_)
  refine q_aload_n C 0 dX12_carries_5 rfl rfl ?_
  refine q_iload_n C 1 dX12_carries_6 rfl rfl ?_
  refine q_chk (fun h5 => ?_)
  refine q_cVI (As := (fun P => [.int v1])) C [] (sX12_isPaper r0 v1) fcX12_102 rfl (fun _ => rfl) ⟨Nat.le_of_ble_eq_true rfl, Nat.le_of_ble_eq_true rfl⟩ ⟨Nat.le_of_ble_eq_true rfl, Nat.le_of_ble_eq_true rfl⟩ (Nat.le_of_ble_eq_true rfl) dX12_carries_7 h5 (fun w3 X7_4 => ?_)
  refine q_if_eq C 39 dX12_carries_10 (by decide) (fun _ => ?_) (fun _ => ?_)
  · refine q_sub C [] [] rfl ?_
    exact gX12_carries_L39 C n X7_4
  · refine q_aload_n C 0 dX12_carries_13 rfl rfl ?_
    refine q_iload_n C 2 dX12_carries_14 rfl rfl ?_
    refine q_i2l C dX12_carries_15 ?_
    refine q_lconst C (1 : Int64) dX12_carries_16 rfl ?_
    refine q_ldc2 C dX12_carries_17 fkX12_109 ?_
    refine q_chk (fun h8 => ?_)
    refine q_cVI (As := (fun P => [.long ((v2).toInt64), .long (1 : Int64), .long (9 : Int64)])) C [] (sX12_isIn r0 (((v2).toInt64)) (1 : Int64) (9 : Int64)) fcX12_80 rfl (fun _ => rfl) ⟨Nat.le_of_ble_eq_true rfl, Nat.le_of_ble_eq_true rfl⟩ ⟨Nat.le_of_ble_eq_true rfl, Nat.le_of_ble_eq_true rfl⟩ (Nat.le_of_ble_eq_true rfl) dX12_carries_20 h8 (fun w6 X20_7 => ?_)
    refine q_if_eq C 39 dX12_carries_23 (by decide) (fun _ => ?_) (fun _ => ?_)
    · refine q_sub C [] [] rfl ?_
      exact gX12_carries_L39 C n X20_7
    · refine q_aload_n C 0 dX12_carries_26 rfl rfl ?_
      refine q_iload_n C 3 dX12_carries_27 rfl rfl ?_
      refine q_i2l C dX12_carries_28 ?_
      refine q_lconst C (0 : Int64) dX12_carries_29 rfl ?_
      refine q_ldc2 C dX12_carries_30 fkX12_136 ?_
      refine q_chk (fun h11 => ?_)
      refine q_cVI (As := (fun P => [.long ((v3).toInt64), .long (0 : Int64), .long (2 : Int64)])) C [] (sX12_isIn r0 (((v3).toInt64)) (0 : Int64) (2 : Int64)) fcX12_80 rfl (fun _ => rfl) ⟨Nat.le_of_ble_eq_true rfl, Nat.le_of_ble_eq_true rfl⟩ ⟨Nat.le_of_ble_eq_true rfl, Nat.le_of_ble_eq_true rfl⟩ (Nat.le_of_ble_eq_true rfl) dX12_carries_33 h11 (fun w9 X33_10 => ?_)
      refine q_if_ne C 41 dX12_carries_36 (by decide) (fun _ => ?_) (fun _ => ?_)
      · refine q_sub C [] [] rfl ?_
        exact gX12_carries_L39 C n X33_10
      · refine q_iconst C (0 : Int32) dX12_carries_41 rfl ?_
        refine q_istore C [(4, .int (0 : Int32)), (0, .ref (q_P E + r0)), (1, .int v1), (2, .int v2), (3, .int v3)] dX12_carries_42 (Nat.le_of_ble_eq_true rfl) rfl ?_
        refine q_iconst C (0 : Int32) dX12_carries_44 rfl ?_
        refine q_istore C [(5, .int (0 : Int32)), (4, .int (0 : Int32)), (0, .ref (q_P E + r0)), (1, .int v1), (2, .int v2), (3, .int v3)] dX12_carries_45 (Nat.le_of_ble_eq_true rfl) rfl ?_
        refine q_sub C [(0, .ref (q_P E + r0)), (1, .int v1), (2, .int v2), (3, .int v3), (4, .int (0 : Int32)), (5, .int (0 : Int32))] [2, 3, 4, 5, 1, 0] rfl ?_
        exact gX12_carries_L47 C n n r0 v1 v2 v3 (0 : Int32) (0 : Int32) X33_10
/-! RecordClaimsModel.worst(II)J -/
abbrev cX12_worst : ByteArray := prog_14_method_105_code
def yX12_worst : MethodName := ⟨RX12, "worst", "(II)J"⟩
theorem dX12_worst_0 : decode cX12_worst 0 = .ok (.aload_n 0, 1) := by decide +kernel
theorem dX12_worst_1 : decode cX12_worst 1 = .ok (.iconst 0, 1) := by decide +kernel
theorem dX12_worst_2 : decode cX12_worst 2 = .ok (.putfield 63, 3) := by decide +kernel
theorem dX12_worst_5 : decode cX12_worst 5 = .ok (.aload_n 0, 1) := by decide +kernel
theorem dX12_worst_6 : decode cX12_worst 6 = .ok (.iload_n 1, 1) := by decide +kernel
theorem dX12_worst_7 : decode cX12_worst 7 = .ok (.invokevirtual 133, 3) := by decide +kernel
theorem dX12_worst_10 : decode cX12_worst 10 = .ok (.ifCond .eq 31, 3) := by decide +kernel
theorem dX12_worst_13 : decode cX12_worst 13 = .ok (.aload_n 0, 1) := by decide +kernel
theorem dX12_worst_14 : decode cX12_worst 14 = .ok (.getfield 11, 3) := by decide +kernel
theorem dX12_worst_17 : decode cX12_worst 17 = .ok (.aload_n 0, 1) := by decide +kernel
theorem dX12_worst_18 : decode cX12_worst 18 = .ok (.iload_n 1, 1) := by decide +kernel
theorem dX12_worst_19 : decode cX12_worst 19 = .ok (.bipush 6, 2) := by decide +kernel
theorem dX12_worst_21 : decode cX12_worst 21 = .ok (.invokevirtual 66, 3) := by decide +kernel
theorem dX12_worst_24 : decode cX12_worst 24 = .ok (.laload, 1) := by decide +kernel
theorem dX12_worst_25 : decode cX12_worst 25 = .ok (.lconst 0, 1) := by decide +kernel
theorem dX12_worst_26 : decode cX12_worst 26 = .ok (.lcmp, 1) := by decide +kernel
theorem dX12_worst_27 : decode cX12_worst 27 = .ok (.ifCond .eq 14, 3) := by decide +kernel
theorem dX12_worst_30 : decode cX12_worst 30 = .ok (.aload_n 0, 1) := by decide +kernel
theorem dX12_worst_31 : decode cX12_worst 31 = .ok (.iload_n 2, 1) := by decide +kernel
theorem dX12_worst_32 : decode cX12_worst 32 = .ok (.i2l, 1) := by decide +kernel
theorem dX12_worst_33 : decode cX12_worst 33 = .ok (.lconst 0, 1) := by decide +kernel
theorem dX12_worst_34 : decode cX12_worst 34 = .ok (.lconst 1, 1) := by decide +kernel
theorem dX12_worst_35 : decode cX12_worst 35 = .ok (.invokevirtual 80, 3) := by decide +kernel
theorem dX12_worst_38 : decode cX12_worst 38 = .ok (.ifCond .ne 7, 3) := by decide +kernel
theorem dX12_worst_41 : decode cX12_worst 41 = .ok (.ldc2_w 117, 3) := by decide +kernel
theorem dX12_worst_44 : decode cX12_worst 44 = .ok (.lreturn, 1) := by decide +kernel
theorem dX12_worst_45 : decode cX12_worst 45 = .ok (.iconst 0, 1) := by decide +kernel
theorem dX12_worst_46 : decode cX12_worst 46 = .ok (.istore_n 3, 1) := by decide +kernel
theorem dX12_worst_47 : decode cX12_worst 47 = .ok (.iload_n 3, 1) := by decide +kernel
theorem dX12_worst_48 : decode cX12_worst 48 = .ok (.aload_n 0, 1) := by decide +kernel
theorem dX12_worst_49 : decode cX12_worst 49 = .ok (.getfield 77, 3) := by decide +kernel
theorem dX12_worst_52 : decode cX12_worst 52 = .ok (.if_icmp .ge 16, 3) := by decide +kernel
theorem dX12_worst_55 : decode cX12_worst 55 = .ok (.aload_n 0, 1) := by decide +kernel
theorem dX12_worst_56 : decode cX12_worst 56 = .ok (.getfield 57, 3) := by decide +kernel
theorem dX12_worst_59 : decode cX12_worst 59 = .ok (.iload_n 3, 1) := by decide +kernel
theorem dX12_worst_60 : decode cX12_worst 60 = .ok (.lconst 0, 1) := by decide +kernel
theorem dX12_worst_61 : decode cX12_worst 61 = .ok (.lastore, 1) := by decide +kernel
theorem dX12_worst_62 : decode cX12_worst 62 = .ok (.iinc 3 1, 3) := by decide +kernel
theorem dX12_worst_65 : decode cX12_worst 65 = .ok (.goto (-18), 3) := by decide +kernel
theorem dX12_worst_68 : decode cX12_worst 68 = .ok (.iconst 0, 1) := by decide +kernel
theorem dX12_worst_69 : decode cX12_worst 69 = .ok (.istore_n 3, 1) := by decide +kernel
theorem dX12_worst_70 : decode cX12_worst 70 = .ok (.iload_n 3, 1) := by decide +kernel
theorem dX12_worst_71 : decode cX12_worst 71 = .ok (.i2l, 1) := by decide +kernel
theorem dX12_worst_72 : decode cX12_worst 72 = .ok (.aload_n 0, 1) := by decide +kernel
theorem dX12_worst_73 : decode cX12_worst 73 = .ok (.getfield 11, 3) := by decide +kernel
theorem dX12_worst_76 : decode cX12_worst 76 = .ok (.aload_n 0, 1) := by decide +kernel
theorem dX12_worst_77 : decode cX12_worst 77 = .ok (.iload_n 1, 1) := by decide +kernel
theorem dX12_worst_78 : decode cX12_worst 78 = .ok (.bipush 6, 2) := by decide +kernel
theorem dX12_worst_80 : decode cX12_worst 80 = .ok (.invokevirtual 66, 3) := by decide +kernel
theorem dX12_worst_83 : decode cX12_worst 83 = .ok (.laload, 1) := by decide +kernel
theorem dX12_worst_84 : decode cX12_worst 84 = .ok (.lcmp, 1) := by decide +kernel
theorem dX12_worst_85 : decode cX12_worst 85 = .ok (.ifCond .ge 51, 3) := by decide +kernel
theorem dX12_worst_88 : decode cX12_worst 88 = .ok (.aload_n 0, 1) := by decide +kernel
theorem dX12_worst_89 : decode cX12_worst 89 = .ok (.getfield 11, 3) := by decide +kernel
theorem dX12_worst_92 : decode cX12_worst 92 = .ok (.aload_n 0, 1) := by decide +kernel
theorem dX12_worst_93 : decode cX12_worst 93 = .ok (.iload_n 1, 1) := by decide +kernel
theorem dX12_worst_94 : decode cX12_worst 94 = .ok (.iload_n 3, 1) := by decide +kernel
theorem dX12_worst_95 : decode cX12_worst 95 = .ok (.iconst 0, 1) := by decide +kernel
theorem dX12_worst_96 : decode cX12_worst 96 = .ok (.invokevirtual 164, 3) := by decide +kernel
theorem dX12_worst_99 : decode cX12_worst 99 = .ok (.laload, 1) := by decide +kernel
theorem dX12_worst_100 : decode cX12_worst 100 = .ok (.l2i, 1) := by decide +kernel
theorem dX12_worst_101 : decode cX12_worst 101 = .ok (.istore 4, 2) := by decide +kernel
theorem dX12_worst_103 : decode cX12_worst 103 = .ok (.aload_n 0, 1) := by decide +kernel
theorem dX12_worst_104 : decode cX12_worst 104 = .ok (.getfield 57, 3) := by decide +kernel
theorem dX12_worst_107 : decode cX12_worst 107 = .ok (.iload 4, 2) := by decide +kernel
theorem dX12_worst_109 : decode cX12_worst 109 = .ok (.aload_n 0, 1) := by decide +kernel
theorem dX12_worst_110 : decode cX12_worst 110 = .ok (.getfield 57, 3) := by decide +kernel
theorem dX12_worst_113 : decode cX12_worst 113 = .ok (.iload 4, 2) := by decide +kernel
theorem dX12_worst_115 : decode cX12_worst 115 = .ok (.laload, 1) := by decide +kernel
theorem dX12_worst_116 : decode cX12_worst 116 = .ok (.aload_n 0, 1) := by decide +kernel
theorem dX12_worst_117 : decode cX12_worst 117 = .ok (.getfield 11, 3) := by decide +kernel
theorem dX12_worst_120 : decode cX12_worst 120 = .ok (.aload_n 0, 1) := by decide +kernel
theorem dX12_worst_121 : decode cX12_worst 121 = .ok (.iload_n 1, 1) := by decide +kernel
theorem dX12_worst_122 : decode cX12_worst 122 = .ok (.iload_n 3, 1) := by decide +kernel
theorem dX12_worst_123 : decode cX12_worst 123 = .ok (.iconst 2, 1) := by decide +kernel
theorem dX12_worst_124 : decode cX12_worst 124 = .ok (.invokevirtual 164, 3) := by decide +kernel
theorem dX12_worst_127 : decode cX12_worst 127 = .ok (.laload, 1) := by decide +kernel
theorem dX12_worst_128 : decode cX12_worst 128 = .ok (.ladd, 1) := by decide +kernel
theorem dX12_worst_129 : decode cX12_worst 129 = .ok (.lastore, 1) := by decide +kernel
theorem dX12_worst_130 : decode cX12_worst 130 = .ok (.iinc 3 1, 3) := by decide +kernel
theorem dX12_worst_133 : decode cX12_worst 133 = .ok (.goto (-63), 3) := by decide +kernel
theorem dX12_worst_136 : decode cX12_worst 136 = .ok (.iconst 0, 1) := by decide +kernel
theorem dX12_worst_137 : decode cX12_worst 137 = .ok (.istore_n 3, 1) := by decide +kernel
theorem dX12_worst_138 : decode cX12_worst 138 = .ok (.iconst 1, 1) := by decide +kernel
theorem dX12_worst_139 : decode cX12_worst 139 = .ok (.istore 4, 2) := by decide +kernel
theorem dX12_worst_141 : decode cX12_worst 141 = .ok (.iload 4, 2) := by decide +kernel
theorem dX12_worst_143 : decode cX12_worst 143 = .ok (.aload_n 0, 1) := by decide +kernel
theorem dX12_worst_144 : decode cX12_worst 144 = .ok (.getfield 77, 3) := by decide +kernel
theorem dX12_worst_147 : decode cX12_worst 147 = .ok (.if_icmp .ge 29, 3) := by decide +kernel
theorem dX12_worst_150 : decode cX12_worst 150 = .ok (.aload_n 0, 1) := by decide +kernel
theorem dX12_worst_151 : decode cX12_worst 151 = .ok (.getfield 57, 3) := by decide +kernel
theorem dX12_worst_154 : decode cX12_worst 154 = .ok (.iload 4, 2) := by decide +kernel
theorem dX12_worst_156 : decode cX12_worst 156 = .ok (.laload, 1) := by decide +kernel
theorem dX12_worst_157 : decode cX12_worst 157 = .ok (.aload_n 0, 1) := by decide +kernel
theorem dX12_worst_158 : decode cX12_worst 158 = .ok (.getfield 57, 3) := by decide +kernel
theorem dX12_worst_161 : decode cX12_worst 161 = .ok (.iload_n 3, 1) := by decide +kernel
theorem dX12_worst_162 : decode cX12_worst 162 = .ok (.laload, 1) := by decide +kernel
theorem dX12_worst_163 : decode cX12_worst 163 = .ok (.lcmp, 1) := by decide +kernel
theorem dX12_worst_164 : decode cX12_worst 164 = .ok (.ifCond .le 6, 3) := by decide +kernel
theorem dX12_worst_167 : decode cX12_worst 167 = .ok (.iload 4, 2) := by decide +kernel
theorem dX12_worst_169 : decode cX12_worst 169 = .ok (.istore_n 3, 1) := by decide +kernel
theorem dX12_worst_170 : decode cX12_worst 170 = .ok (.iinc 4 1, 3) := by decide +kernel
theorem dX12_worst_173 : decode cX12_worst 173 = .ok (.goto (-32), 3) := by decide +kernel
theorem dX12_worst_176 : decode cX12_worst 176 = .ok (.iload_n 2, 1) := by decide +kernel
theorem dX12_worst_177 : decode cX12_worst 177 = .ok (.ifCond .ne 8, 3) := by decide +kernel
theorem dX12_worst_180 : decode cX12_worst 180 = .ok (.iload_n 3, 1) := by decide +kernel
theorem dX12_worst_181 : decode cX12_worst 181 = .ok (.i2l, 1) := by decide +kernel
theorem dX12_worst_182 : decode cX12_worst 182 = .ok (.goto 9, 3) := by decide +kernel
theorem dX12_worst_185 : decode cX12_worst 185 = .ok (.aload_n 0, 1) := by decide +kernel
theorem dX12_worst_186 : decode cX12_worst 186 = .ok (.getfield 57, 3) := by decide +kernel
theorem dX12_worst_189 : decode cX12_worst 189 = .ok (.iload_n 3, 1) := by decide +kernel
theorem dX12_worst_190 : decode cX12_worst 190 = .ok (.laload, 1) := by decide +kernel
theorem dX12_worst_191 : decode cX12_worst 191 = .ok (.lreturn, 1) := by decide +kernel
def fX12_worst_L41 (n : Nat) (X : Mm) : Option (Int64 × Mm) :=
some ((-1 : Int64), X)
def fX12_worst_L170 (n : Nat) (k141 : Nat → Int32 → Int32 → Int32 → Mm → Option (Int64 × Mm)) (r0 : Nat) (v2 : Int32) (v3 : Int32) (v4 : Int32) (X : Mm) : Option (Int64 × Mm) :=
nm (v4 + (1 : Int32)) fun v4_170 =>
k141 r0 v2 v3 v4_170 X
def fX12_worst_L141 (n : Nat) : Nat → Nat → Int32 → Int32 → Int32 → Mm → Option (Int64 × Mm)
| 0, _, _, _, _, _ => none
| j + 1, r0, v2, v3, v4, X =>
if mT X r0 = 12 then
if (mI X r0 6) ≤ v4 then (
if v2 = 0 then (
some (((v3).toInt64), X)
) else (
if mR X r0 32 ≠ 0 then
if mT X (mR X r0 32) = 15 then
if q_b X (mR X r0 32) v3 then
some ((mJ X (mR X r0 32) (v3).toNatClampNeg), X)
else none
else none
else none
)
) else (
if mR X r0 32 ≠ 0 then
if mT X (mR X r0 32) = 15 then
if q_b X (mR X r0 32) v4 then
if q_b X (mR X r0 32) v3 then
if (lg_cmp (mJ X (mR X r0 32) (v4).toNatClampNeg) (mJ X (mR X r0 32) (v3).toNatClampNeg)) ≤ 0 then (
fX12_worst_L170 n (fX12_worst_L141 n j) r0 v2 v3 v4 X
) else (
fX12_worst_L170 n (fX12_worst_L141 n j) r0 v2 v4 v4 X
)
else none
else none
else none
else none
)
else none
def fX12_worst_L70 (n : Nat) : Nat → Nat → Int32 → Int32 → Int32 → Mm → Option (Int64 × Mm)
| 0, _, _, _, _, _ => none
| j + 1, r0, v1, v2, v3, X =>
if mT X r0 = 12 then
if mR X r0 1 ≠ 0 then
bd (fX12_of r0 v1 (6 : Int32) X) fun w18 X80_19 =>
if mT X80_19 (mR X r0 1) = 15 then
if q_b X80_19 (mR X r0 1) w18 then
if 0 ≤ (lg_cmp ((v3).toInt64) (mJ X80_19 (mR X r0 1) (w18).toNatClampNeg)) then (
fX12_worst_L141 n n r0 v2 (0 : Int32) (1 : Int32) X80_19
) else (
if mT X80_19 r0 = 12 then
if mR X80_19 r0 1 ≠ 0 then
bd (fX12_ofClaim r0 v1 v3 (0 : Int32) X80_19) fun w32 X96_33 =>
if mT X96_33 (mR X80_19 r0 1) = 15 then
if q_b X96_33 (mR X80_19 r0 1) w32 then
nm ((((mJ X96_33 (mR X80_19 r0 1) (w32).toNatClampNeg)).toInt32)) fun v4_101 =>
if mT X96_33 r0 = 12 then
if mR X96_33 r0 32 ≠ 0 then
if mT X96_33 (mR X96_33 r0 32) = 15 then
if q_b X96_33 (mR X96_33 r0 32) v4_101 then
if mR X96_33 r0 1 ≠ 0 then
bd (fX12_ofClaim r0 v1 v3 (2 : Int32) X96_33) fun w42 X124_43 =>
if mT X124_43 (mR X96_33 r0 1) = 15 then
if q_b X124_43 (mR X96_33 r0 1) w42 then
if mT X124_43 (mR X96_33 r0 32) = 15 then
if q_b X124_43 (mR X96_33 r0 32) v4_101 then
nm (sJ X124_43 (mR X96_33 r0 32) (v4_101).toNatClampNeg ((mJ X96_33 (mR X96_33 r0 32) (v4_101).toNatClampNeg) + (mJ X124_43 (mR X96_33 r0 1) (w42).toNatClampNeg))) fun X129_46 =>
nm (v3 + (1 : Int32)) fun v3_130 =>
(fX12_worst_L70 n j) r0 v1 v2 v3_130 X129_46
else none
else none
else none
else none
else none
else none
else none
else none
else none
else none
else none
else none
else none
)
else none
else none
else none
else none
def fX12_worst_L47 (n : Nat) : Nat → Nat → Int32 → Int32 → Int32 → Mm → Option (Int64 × Mm)
| 0, _, _, _, _, _ => none
| j + 1, r0, v1, v2, v3, X =>
if mT X r0 = 12 then
if (mI X r0 6) ≤ v3 then (
fX12_worst_L70 n n r0 v1 v2 (0 : Int32) X
) else (
if mR X r0 32 ≠ 0 then
if mT X (mR X r0 32) = 15 then
if q_b X (mR X r0 32) v3 then
nm (sJ X (mR X r0 32) (v3).toNatClampNeg (0 : Int64)) fun X61_50 =>
nm (v3 + (1 : Int32)) fun v3_62 =>
(fX12_worst_L47 n j) r0 v1 v2 v3_62 X61_50
else none
else none
else none
)
else none
def fX12_worst (n : Nat) (r0 : Nat) (v1 : Int32) (v2 : Int32) (X : Mm) : Option (Int64 × Mm) :=
if mT X r0 = 12 then
nm (sI X r0 0 (0 : Int32)) fun X2_1 =>
if mT X2_1 r0 = 12 then
bd (fX12_isEvent r0 v1 X2_1) fun w3 X7_4 =>
if w3 = 0 then (
fX12_worst_L41 n X7_4
) else (
if mT X7_4 r0 = 12 then
if mR X7_4 r0 1 ≠ 0 then
bd (fX12_of r0 v1 (6 : Int32) X7_4) fun w8 X21_9 =>
if mT X21_9 (mR X7_4 r0 1) = 15 then
if q_b X21_9 (mR X7_4 r0 1) w8 then
if (lg_cmp (mJ X21_9 (mR X7_4 r0 1) (w8).toNatClampNeg) (0 : Int64)) = 0 then (
fX12_worst_L41 n X21_9
) else (
if mT X21_9 r0 = 12 then
bd (fX12_isIn r0 (((v2).toInt64)) (0 : Int64) (1 : Int64) X21_9) fun w12 X35_13 =>
if w12 = 0 then (
fX12_worst_L41 n X35_13
) else (
fX12_worst_L47 n n r0 v1 v2 (0 : Int32) X35_13
)
else none
)
else none
else none
else none
else none
)
else none
else none
theorem gX12_worst_L41 {E : q_E} {X0 : Mm} (C : Cx E cX12_worst RX12 5 (some .long) (q_rm 2 47 0 0) X0) (n : Nat) (X : Mm) : Sm E (q_fin E q_eL X0 0 0) 0 0 41 [] [] X (fX12_worst_L41 n  X) := by
  unfold fX12_worst_L41
  refine q_ldc2 C dX12_worst_41 fkX12_117 ?_
  exact q_lret C dX12_worst_44
theorem gX12_worst_L170 {E : q_E} {X0 : Mm} (C : Cx E cX12_worst RX12 5 (some .long) (q_rm 2 47 0 0) X0) (n : Nat) (k141 : Nat → Int32 → Int32 → Int32 → Mm → Option (Int64 × Mm)) (hk141 : ∀ (r0 : Nat) (v2 : Int32) (v3 : Int32) (v4 : Int32) (X : Mm), Sm E (q_fin E q_eL X0 0 0) 0 0 141 [(0, .ref (q_P E + r0)), (2, .int v2), (3, .int v3), (4, .int v4)] [] X (k141 r0 v2 v3 v4 X)) (r0 : Nat) (v2 : Int32) (v3 : Int32) (v4 : Int32) (X : Mm) : Sm E (q_fin E q_eL X0 0 0) 0 0 170 [(0, .ref (q_P E + r0)), (2, .int v2), (3, .int v3), (4, .int v4)] [] X (fX12_worst_L170 n k141 r0 v2 v3 v4 X) := by
  unfold fX12_worst_L170
  refine q_iincN C (1 : Int32) 3 (fun v4_170 => [(4, .int v4_170), (0, .ref (q_P E + r0)), (2, .int v2), (3, .int v3)]) dX12_worst_170 rfl rfl (Nat.le_of_ble_eq_true rfl) (fun _ => rfl) (fun v4_170 => ?_)
  refine q_goto C 141 dX12_worst_173 (by decide) ?_
  refine q_sub C [(0, .ref (q_P E + r0)), (2, .int v2), (3, .int v3), (4, .int v4_170)] [1, 2, 3, 0] rfl ?_
  exact hk141 r0 v2 v3 v4_170 X
theorem gX12_worst_L141 {E : q_E} {X0 : Mm} (C : Cx E cX12_worst RX12 5 (some .long) (q_rm 2 47 0 0) X0) (n : Nat) : ∀ (j : Nat) (r0 : Nat) (v2 : Int32) (v3 : Int32) (v4 : Int32) (X : Mm), Sm E (q_fin E q_eL X0 0 0) 0 0 141 [(0, .ref (q_P E + r0)), (2, .int v2), (3, .int v3), (4, .int v4)] [] X (fX12_worst_L141 n j r0 v2 v3 v4 X) := by
  intro j
  induction j with
  | zero => intros; exact Sm.none
  | succ j ih =>
    intro r0 v2 v3 v4 X
    rw [fX12_worst_L141]
    refine q_iload C 3 dX12_worst_141 rfl ?_
    refine q_aload_n C 0 dX12_worst_143 rfl rfl ?_
    refine q_chk (fun h22 => ?_)
    refine p_getI C fgX12_77 rfl dX12_worst_144 h22 ?_
    refine q_icmp_ge C 176 dX12_worst_147 (by decide) (fun _ => ?_) (fun _ => ?_)
    · refine q_iload_n C 1 dX12_worst_176 rfl rfl ?_
      refine q_if_ne C 185 dX12_worst_177 (by decide) (fun _ => ?_) (fun _ => ?_)
      · refine q_iload_n C 2 dX12_worst_180 rfl rfl ?_
        refine q_i2l C dX12_worst_181 ?_
        refine q_goto C 191 dX12_worst_182 (by decide) ?_
        exact q_lret C dX12_worst_191
      · refine q_aload_n C 0 dX12_worst_185 rfl rfl ?_
        refine q_chk (fun h23 => ?_)
        refine p_getR C fgX12_57 rfl dX12_worst_186 h22 h23 ?_
        refine q_iload_n C 2 dX12_worst_189 rfl rfl ?_
        refine q_chk (fun h24 => ?_)
        refine q_chk (fun h25 => ?_)
        refine p_lald C dX12_worst_190 h24 h25 ?_
        exact q_lret C dX12_worst_191
    · refine q_aload_n C 0 dX12_worst_150 rfl rfl ?_
      refine q_chk (fun h26 => ?_)
      refine p_getR C fgX12_57 rfl dX12_worst_151 h22 h26 ?_
      refine q_iload C 3 dX12_worst_154 rfl ?_
      refine q_chk (fun h27 => ?_)
      refine q_chk (fun h28 => ?_)
      refine p_lald C dX12_worst_156 h27 h28 ?_
      refine q_aload_n C 0 dX12_worst_157 rfl rfl ?_
      refine p_getR C fgX12_57 rfl dX12_worst_158 h22 h26 ?_
      refine q_iload_n C 2 dX12_worst_161 rfl rfl ?_
      refine q_chk (fun h29 => ?_)
      refine p_lald C dX12_worst_162 h27 h29 ?_
      refine q_lcmp C dX12_worst_163 ?_
      refine q_if_le C 170 dX12_worst_164 (by decide) (fun _ => ?_) (fun _ => ?_)
      · exact gX12_worst_L170 C n (fX12_worst_L141 n j) ih r0 v2 v3 v4 X
      · refine q_iload C 3 dX12_worst_167 rfl ?_
        refine q_istore_n C [(3, .int v4), (0, .ref (q_P E + r0)), (2, .int v2), (4, .int v4)] dX12_worst_169 rfl (Nat.le_of_ble_eq_true rfl) rfl ?_
        refine q_sub C [(0, .ref (q_P E + r0)), (2, .int v2), (3, .int v4), (4, .int v4)] [1, 2, 0, 3] rfl ?_
        exact gX12_worst_L170 C n (fX12_worst_L141 n j) ih r0 v2 v4 v4 X
theorem gX12_worst_L70 {E : q_E} {X0 : Mm} (C : Cx E cX12_worst RX12 5 (some .long) (q_rm 2 47 0 0) X0) (n : Nat) : ∀ (j : Nat) (r0 : Nat) (v1 : Int32) (v2 : Int32) (v3 : Int32) (X : Mm), Sm E (q_fin E q_eL X0 0 0) 0 0 70 [(0, .ref (q_P E + r0)), (1, .int v1), (2, .int v2), (3, .int v3)] [] X (fX12_worst_L70 n j r0 v1 v2 v3 X) := by
  intro j
  induction j with
  | zero => intros; exact Sm.none
  | succ j ih =>
    intro r0 v1 v2 v3 X
    rw [fX12_worst_L70]
    refine q_iload_n C 3 dX12_worst_70 rfl rfl ?_
    refine q_i2l C dX12_worst_71 ?_
    refine q_aload_n C 0 dX12_worst_72 rfl rfl ?_
    refine q_chk (fun h16 => ?_)
    refine q_chk (fun h17 => ?_)
    refine p_getR C fgX12_11 rfl dX12_worst_73 h16 h17 ?_
    refine q_aload_n C 0 dX12_worst_76 rfl rfl ?_
    refine q_iload_n C 1 dX12_worst_77 rfl rfl ?_
    refine q_bipush C (6 : Int32) dX12_worst_78 rfl ?_
    refine q_cVI (As := (fun P => [.int v1, .int (6 : Int32)])) C [.ref (q_P E + (mR X r0 1)), .long ((v3).toInt64)] (sX12_of r0 v1 (6 : Int32)) fcX12_66 rfl (fun _ => rfl) ⟨Nat.le_of_ble_eq_true rfl, Nat.le_of_ble_eq_true rfl⟩ ⟨Nat.le_of_ble_eq_true rfl, Nat.le_of_ble_eq_true rfl⟩ (Nat.le_of_ble_eq_true rfl) dX12_worst_80 h16 (fun w18 X80_19 => ?_)
    refine q_chk (fun h20 => ?_)
    refine q_chk (fun h21 => ?_)
    refine p_lald C dX12_worst_83 h20 h21 ?_
    refine q_lcmp C dX12_worst_84 ?_
    refine q_if_ge C 136 dX12_worst_85 (by decide) (fun _ => ?_) (fun _ => ?_)
    · refine q_iconst C (0 : Int32) dX12_worst_136 rfl ?_
      refine q_istore_n C [(3, .int (0 : Int32)), (0, .ref (q_P E + r0)), (1, .int v1), (2, .int v2)] dX12_worst_137 rfl (Nat.le_of_ble_eq_true rfl) rfl ?_
      refine q_iconst C (1 : Int32) dX12_worst_138 rfl ?_
      refine q_istore C [(4, .int (1 : Int32)), (3, .int (0 : Int32)), (0, .ref (q_P E + r0)), (1, .int v1), (2, .int v2)] dX12_worst_139 (Nat.le_of_ble_eq_true rfl) rfl ?_
      refine q_sub C [(0, .ref (q_P E + r0)), (2, .int v2), (3, .int (0 : Int32)), (4, .int (1 : Int32))] [2, 4, 1, 0] rfl ?_
      exact gX12_worst_L141 C n n r0 v2 (0 : Int32) (1 : Int32) X80_19
    · refine q_aload_n C 0 dX12_worst_88 rfl rfl ?_
      refine q_chk (fun h30 => ?_)
      refine q_chk (fun h31 => ?_)
      refine p_getR C fgX12_11 rfl dX12_worst_89 h30 h31 ?_
      refine q_aload_n C 0 dX12_worst_92 rfl rfl ?_
      refine q_iload_n C 1 dX12_worst_93 rfl rfl ?_
      refine q_iload_n C 3 dX12_worst_94 rfl rfl ?_
      refine q_iconst C (0 : Int32) dX12_worst_95 rfl ?_
      refine q_cVI (As := (fun P => [.int v1, .int v3, .int (0 : Int32)])) C [.ref (q_P E + (mR X80_19 r0 1))] (sX12_ofClaim r0 v1 v3 (0 : Int32)) fcX12_164 rfl (fun _ => rfl) ⟨Nat.le_of_ble_eq_true rfl, Nat.le_of_ble_eq_true rfl⟩ ⟨Nat.le_of_ble_eq_true rfl, Nat.le_of_ble_eq_true rfl⟩ (Nat.le_of_ble_eq_true rfl) dX12_worst_96 h30 (fun w32 X96_33 => ?_)
      refine q_chk (fun h34 => ?_)
      refine q_chk (fun h35 => ?_)
      refine p_lald C dX12_worst_99 h34 h35 ?_
      refine q_l2i C dX12_worst_100 ?_
      refine q_nmi (fun v4_101 => ?_)
      refine q_istore C [(4, .int v4_101), (0, .ref (q_P E + r0)), (1, .int v1), (2, .int v2), (3, .int v3)] dX12_worst_101 (Nat.le_of_ble_eq_true rfl) rfl ?_
      refine q_aload_n C 1 dX12_worst_103 rfl rfl ?_
      refine q_chk (fun h37 => ?_)
      refine q_chk (fun h38 => ?_)
      refine p_getR C fgX12_57 rfl dX12_worst_104 h37 h38 ?_
      refine q_iload C 0 dX12_worst_107 rfl ?_
      refine q_aload_n C 1 dX12_worst_109 rfl rfl ?_
      refine p_getR C fgX12_57 rfl dX12_worst_110 h37 h38 ?_
      refine q_iload C 0 dX12_worst_113 rfl ?_
      refine q_chk (fun h39 => ?_)
      refine q_chk (fun h40 => ?_)
      refine p_lald C dX12_worst_115 h39 h40 ?_
      refine q_aload_n C 1 dX12_worst_116 rfl rfl ?_
      refine q_chk (fun h41 => ?_)
      refine p_getR C fgX12_11 rfl dX12_worst_117 h37 h41 ?_
      refine q_aload_n C 1 dX12_worst_120 rfl rfl ?_
      refine q_iload_n C 2 dX12_worst_121 rfl rfl ?_
      refine q_iload_n C 4 dX12_worst_122 rfl rfl ?_
      refine q_iconst C (2 : Int32) dX12_worst_123 rfl ?_
      refine q_cVI (As := (fun P => [.int v1, .int v3, .int (2 : Int32)])) C [.ref (q_P E + (mR X96_33 r0 1)), .long (mJ X96_33 (mR X96_33 r0 32) (v4_101).toNatClampNeg), .int v4_101, .ref (q_P E + (mR X96_33 r0 32))] (sX12_ofClaim r0 v1 v3 (2 : Int32)) fcX12_164 rfl (fun _ => rfl) ⟨Nat.le_of_ble_eq_true rfl, Nat.le_of_ble_eq_true rfl⟩ ⟨Nat.le_of_ble_eq_true rfl, Nat.le_of_ble_eq_true rfl⟩ (Nat.le_of_ble_eq_true rfl) dX12_worst_124 h37 (fun w42 X124_43 => ?_)
      refine q_chk (fun h44 => ?_)
      refine q_chk (fun h45 => ?_)
      refine p_lald C dX12_worst_127 h44 h45 ?_
      refine q_ladd C dX12_worst_128 ?_
      refine q_chk (fun h47 => ?_)
      refine q_chk (fun h48 => ?_)
      refine p_last C dX12_worst_129 h47 h48 ?_
      refine q_nmX (fun X129_46 => ?_)
      refine q_iincN C (1 : Int32) 4 (fun v3_130 => [(3, .int v3_130), (4, .int v4_101), (0, .ref (q_P E + r0)), (1, .int v1), (2, .int v2)]) dX12_worst_130 rfl rfl (Nat.le_of_ble_eq_true rfl) (fun _ => rfl) (fun v3_130 => ?_)
      refine q_goto C 70 dX12_worst_133 (by decide) ?_
      refine q_sub C [(0, .ref (q_P E + r0)), (1, .int v1), (2, .int v2), (3, .int v3_130)] [2, 3, 4, 0] rfl ?_
      exact ih r0 v1 v2 v3_130 X129_46
theorem gX12_worst_L47 {E : q_E} {X0 : Mm} (C : Cx E cX12_worst RX12 5 (some .long) (q_rm 2 47 0 0) X0) (n : Nat) : ∀ (j : Nat) (r0 : Nat) (v1 : Int32) (v2 : Int32) (v3 : Int32) (X : Mm), Sm E (q_fin E q_eL X0 0 0) 0 0 47 [(0, .ref (q_P E + r0)), (1, .int v1), (2, .int v2), (3, .int v3)] [] X (fX12_worst_L47 n j r0 v1 v2 v3 X) := by
  intro j
  induction j with
  | zero => intros; exact Sm.none
  | succ j ih =>
    intro r0 v1 v2 v3 X
    rw [fX12_worst_L47]
    refine q_iload_n C 3 dX12_worst_47 rfl rfl ?_
    refine q_aload_n C 0 dX12_worst_48 rfl rfl ?_
    refine q_chk (fun h15 => ?_)
    refine p_getI C fgX12_77 rfl dX12_worst_49 h15 ?_
    refine q_icmp_ge C 68 dX12_worst_52 (by decide) (fun _ => ?_) (fun _ => ?_)
    · refine q_iconst C (0 : Int32) dX12_worst_68 rfl ?_
      refine q_istore_n C [(3, .int (0 : Int32)), (0, .ref (q_P E + r0)), (1, .int v1), (2, .int v2)] dX12_worst_69 rfl (Nat.le_of_ble_eq_true rfl) rfl ?_
      refine q_sub C [(0, .ref (q_P E + r0)), (1, .int v1), (2, .int v2), (3, .int (0 : Int32))] [1, 2, 3, 0] rfl ?_
      exact gX12_worst_L70 C n n r0 v1 v2 (0 : Int32) X
    · refine q_aload_n C 0 dX12_worst_55 rfl rfl ?_
      refine q_chk (fun h49 => ?_)
      refine p_getR C fgX12_57 rfl dX12_worst_56 h15 h49 ?_
      refine q_iload_n C 3 dX12_worst_59 rfl rfl ?_
      refine q_lconst C (0 : Int64) dX12_worst_60 rfl ?_
      refine q_chk (fun h51 => ?_)
      refine q_chk (fun h52 => ?_)
      refine p_last C dX12_worst_61 h51 h52 ?_
      refine q_nmX (fun X61_50 => ?_)
      refine q_iincN C (1 : Int32) 3 (fun v3_62 => [(3, .int v3_62), (0, .ref (q_P E + r0)), (1, .int v1), (2, .int v2)]) dX12_worst_62 rfl rfl (Nat.le_of_ble_eq_true rfl) (fun _ => rfl) (fun v3_62 => ?_)
      refine q_goto C 47 dX12_worst_65 (by decide) ?_
      refine q_sub C [(0, .ref (q_P E + r0)), (1, .int v1), (2, .int v2), (3, .int v3_62)] [1, 2, 3, 0] rfl ?_
      exact ih r0 v1 v2 v3_62 X61_50
theorem sX12_worst (n : Nat) (r0 : Nat) (v1 : Int32) (v2 : Int32) : q_Ct yX12_worst cX12_worst 5 (some .long) 2 47 0 0 q_eL (fun P => [.ref (P + r0), .int v1, .int v2]) (fX12_worst n r0 v1 v2) := by
  refine q_meth (by decide +kernel) (fun P => Nat.le_of_ble_eq_true rfl) (fun E X C hn => ?_)
  show Sm E (q_fin E q_eL X 0 0) 0 0 0 [(0, .ref (q_P E + r0)), (1, .int v1), (2, .int v2)] [] X _
  unfold fX12_worst
  refine q_aload_n C 0 dX12_worst_0 rfl rfl ?_
  refine q_iconst C (0 : Int32) dX12_worst_1 rfl ?_
  refine q_chk (fun h2 => ?_)
  refine p_putI C fpX12_63 rfl dX12_worst_2 h2 ?_
  refine q_nmX (fun X2_1 => ?_)
  refine q_aload_n C 0 dX12_worst_5 rfl rfl ?_
  refine q_iload_n C 1 dX12_worst_6 rfl rfl ?_
  refine q_chk (fun h5 => ?_)
  refine q_cVI (As := (fun P => [.int v1])) C [] (sX12_isEvent r0 v1) fcX12_133 rfl (fun _ => rfl) ⟨Nat.le_of_ble_eq_true rfl, Nat.le_of_ble_eq_true rfl⟩ ⟨Nat.le_of_ble_eq_true rfl, Nat.le_of_ble_eq_true rfl⟩ (Nat.le_of_ble_eq_true rfl) dX12_worst_7 h5 (fun w3 X7_4 => ?_)
  refine q_if_eq C 41 dX12_worst_10 (by decide) (fun _ => ?_) (fun _ => ?_)
  · refine q_sub C [] [] rfl ?_
    exact gX12_worst_L41 C n X7_4
  · refine q_aload_n C 0 dX12_worst_13 rfl rfl ?_
    refine q_chk (fun h6 => ?_)
    refine q_chk (fun h7 => ?_)
    refine p_getR C fgX12_11 rfl dX12_worst_14 h6 h7 ?_
    refine q_aload_n C 0 dX12_worst_17 rfl rfl ?_
    refine q_iload_n C 1 dX12_worst_18 rfl rfl ?_
    refine q_bipush C (6 : Int32) dX12_worst_19 rfl ?_
    refine q_cVI (As := (fun P => [.int v1, .int (6 : Int32)])) C [.ref (q_P E + (mR X7_4 r0 1))] (sX12_of r0 v1 (6 : Int32)) fcX12_66 rfl (fun _ => rfl) ⟨Nat.le_of_ble_eq_true rfl, Nat.le_of_ble_eq_true rfl⟩ ⟨Nat.le_of_ble_eq_true rfl, Nat.le_of_ble_eq_true rfl⟩ (Nat.le_of_ble_eq_true rfl) dX12_worst_21 h6 (fun w8 X21_9 => ?_)
    refine q_chk (fun h10 => ?_)
    refine q_chk (fun h11 => ?_)
    refine p_lald C dX12_worst_24 h10 h11 ?_
    refine q_lconst C (0 : Int64) dX12_worst_25 rfl ?_
    refine q_lcmp C dX12_worst_26 ?_
    refine q_if_eq C 41 dX12_worst_27 (by decide) (fun _ => ?_) (fun _ => ?_)
    · refine q_sub C [] [] rfl ?_
      exact gX12_worst_L41 C n X21_9
    · refine q_aload_n C 0 dX12_worst_30 rfl rfl ?_
      refine q_iload_n C 2 dX12_worst_31 rfl rfl ?_
      refine q_i2l C dX12_worst_32 ?_
      refine q_lconst C (0 : Int64) dX12_worst_33 rfl ?_
      refine q_lconst C (1 : Int64) dX12_worst_34 rfl ?_
      refine q_chk (fun h14 => ?_)
      refine q_cVI (As := (fun P => [.long ((v2).toInt64), .long (0 : Int64), .long (1 : Int64)])) C [] (sX12_isIn r0 (((v2).toInt64)) (0 : Int64) (1 : Int64)) fcX12_80 rfl (fun _ => rfl) ⟨Nat.le_of_ble_eq_true rfl, Nat.le_of_ble_eq_true rfl⟩ ⟨Nat.le_of_ble_eq_true rfl, Nat.le_of_ble_eq_true rfl⟩ (Nat.le_of_ble_eq_true rfl) dX12_worst_35 h14 (fun w12 X35_13 => ?_)
      refine q_if_ne C 45 dX12_worst_38 (by decide) (fun _ => ?_) (fun _ => ?_)
      · refine q_sub C [] [] rfl ?_
        exact gX12_worst_L41 C n X35_13
      · refine q_iconst C (0 : Int32) dX12_worst_45 rfl ?_
        refine q_istore_n C [(3, .int (0 : Int32)), (0, .ref (q_P E + r0)), (1, .int v1), (2, .int v2)] dX12_worst_46 rfl (Nat.le_of_ble_eq_true rfl) rfl ?_
        refine q_sub C [(0, .ref (q_P E + r0)), (1, .int v1), (2, .int v2), (3, .int (0 : Int32))] [1, 2, 3, 0] rfl ?_
        exact gX12_worst_L47 C n n r0 v1 v2 (0 : Int32) X35_13
/-! RecordClaimsModel.puts(I)V -/
abbrev cX12_puts : ByteArray := prog_14_method_106_code
def yX12_puts : MethodName := ⟨RX12, "puts", "(I)V"⟩
theorem dX12_puts_0 : decode cX12_puts 0 = .ok (.aload_n 0, 1) := by decide +kernel
theorem dX12_puts_1 : decode cX12_puts 1 = .ok (.getfield 60, 3) := by decide +kernel
theorem dX12_puts_4 : decode cX12_puts 4 = .ok (.aload_n 0, 1) := by decide +kernel
theorem dX12_puts_5 : decode cX12_puts 5 = .ok (.getfield 414, 3) := by decide +kernel
theorem dX12_puts_8 : decode cX12_puts 8 = .ok (.iload_n 1, 1) := by decide +kernel
theorem dX12_puts_9 : decode cX12_puts 9 = .ok (.i2b, 1) := by decide +kernel
theorem dX12_puts_10 : decode cX12_puts 10 = .ok (.bastore, 1) := by decide +kernel
theorem dX12_puts_11 : decode cX12_puts 11 = .ok (.aload_n 0, 1) := by decide +kernel
theorem dX12_puts_12 : decode cX12_puts 12 = .ok (.aload_n 0, 1) := by decide +kernel
theorem dX12_puts_13 : decode cX12_puts 13 = .ok (.getfield 414, 3) := by decide +kernel
theorem dX12_puts_16 : decode cX12_puts 16 = .ok (.iconst 1, 1) := by decide +kernel
theorem dX12_puts_17 : decode cX12_puts 17 = .ok (.iadd, 1) := by decide +kernel
theorem dX12_puts_18 : decode cX12_puts 18 = .ok (.putfield 414, 3) := by decide +kernel
theorem dX12_puts_21 : decode cX12_puts 21 = .ok (.return_, 1) := by decide +kernel
theorem fgX12_60 : q_Fg RX12 60 12 33 := q_Fg.of (C := RX12) (T := TX12) (N := 35) rfl (by decide) inX12 1284 (by decide +kernel) rfl rfl
theorem fgX12_414 : q_Fg RX12 414 12 34 := q_Fg.of (C := RX12) (T := TX12) (N := 35) rfl (by decide) inX12 1285 (by decide +kernel) rfl rfl
theorem fpX12_414 : q_Fp RX12 414 12 34 .int false := ⟨RX12, TX12, 35, tyX12, rfl, by decide, inX12, q_tb 1285 (by decide +kernel) rfl, tyX12_ok, nmX12, rfl, rfl, fun h => by first | rfl | cases h⟩
def fX12_puts (r0 : Nat) (v1 : Int32) (X : Mm) : Option (Unit × Mm) :=
if mT X r0 = 12 then
if mR X r0 33 ≠ 0 then
if mT X (mR X r0 33) = 16 then
if q_b X (mR X r0 33) (mI X r0 34) then
nm (sI X (mR X r0 33) ((mI X r0 34)).toNatClampNeg (((v1).toInt8.toInt32)).toInt8.toInt32) fun X10_3 =>
if mT X10_3 r0 = 12 then
nm (sI X10_3 r0 34 ((mI X10_3 r0 34) + (1 : Int32))) fun X18_7 =>
some ((), X18_7)
else none
else none
else none
else none
else none
theorem sX12_puts (r0 : Nat) (v1 : Int32) : q_Ct yX12_puts cX12_puts 2 none 0 0 0 0 q_eV (fun P => [.ref (P + r0), .int v1]) (fX12_puts r0 v1) := by
  refine q_meth (by decide +kernel) (fun P => Nat.le_of_ble_eq_true rfl) (fun E X C hn => ?_)
  show Sm E (q_fin E q_eV X 0 0) 0 0 0 [(0, .ref (q_P E + r0)), (1, .int v1)] [] X _
  unfold fX12_puts
  refine q_aload_n C 0 dX12_puts_0 rfl rfl ?_
  refine q_chk (fun h1 => ?_)
  refine q_chk (fun h2 => ?_)
  refine p_getR C fgX12_60 rfl dX12_puts_1 h1 h2 ?_
  refine q_aload_n C 0 dX12_puts_4 rfl rfl ?_
  refine p_getI C fgX12_414 rfl dX12_puts_5 h1 ?_
  refine q_iload_n C 1 dX12_puts_8 rfl rfl ?_
  refine q_i2b C dX12_puts_9 ?_
  refine q_chk (fun h4 => ?_)
  refine q_chk (fun h5 => ?_)
  refine p_bast C dX12_puts_10 h4 h5 ?_
  refine q_nmX (fun X10_3 => ?_)
  refine q_aload_n C 0 dX12_puts_11 rfl rfl ?_
  refine q_aload_n C 0 dX12_puts_12 rfl rfl ?_
  refine q_chk (fun h6 => ?_)
  refine p_getI C fgX12_414 rfl dX12_puts_13 h6 ?_
  refine q_iconst C (1 : Int32) dX12_puts_16 rfl ?_
  refine q_iadd C dX12_puts_17 ?_
  refine p_putI C fpX12_414 rfl dX12_puts_18 h6 ?_
  refine q_nmX (fun X18_7 => ?_)
  exact q_vret C dX12_puts_21
