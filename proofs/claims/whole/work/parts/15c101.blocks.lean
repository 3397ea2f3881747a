/-! blocks of WarmSide, by program -/
-- WarmSide.rests(II)I
theorem c101_0 : cdA 101 0 = some (.iload_n 1) := by decide +kernel
theorem c101_1 : cdA 101 1 = some (.bipush 12) := by decide +kernel
theorem c101_3 : cdA 101 3 = some (.invokestatic 67) := by decide +kernel
theorem m101_67 : mthR (moN 101) 67 = 126 := by decide +kernel
theorem c101_105 : cdA 101 105 = some (.ifCond .ne 6) := by decide +kernel
theorem c101_111 : cdA 101 111 = some (.iload 5) := by decide +kernel
theorem c101_113 : cdA 101 113 = some (.iload_n 2) := by decide +kernel
theorem c101_114 : cdA 101 114 = some (.if_icmp .ne 11) := by decide +kernel
theorem c101_125 : cdA 101 125 = some (.iinc 5 1) := by decide +kernel
theorem c101_117 : cdA 101 117 = some (.aload_n 0) := by decide +kernel
theorem c101_118 : cdA 101 118 = some (.getfield 28) := by decide +kernel
theorem f101_28 : fldR (moN 101) 28 = some (11, 2) := by decide +kernel
theorem c101_121 : cdA 101 121 = some (.getfield 214) := by decide +kernel
theorem f101_214 : fldR (moN 101) 214 = some (7, 7) := by decide +kernel
theorem c101_124 : cdA 101 124 = some (.ireturn) := by decide +kernel
theorem R101 : mK 101 = 0 := by decide +kernel
theorem c101_108 : cdA 101 108 = some (.goto 20) := by decide +kernel
theorem c101_128 : cdA 101 128 = some (.iinc 6 1) := by decide +kernel
theorem c101_131 : cdA 101 131 = some (.goto (-72)) := by decide +kernel
theorem c101_14 : cdA 101 14 = some (.ireturn) := by decide +kernel
theorem c101_26 : cdA 101 26 = some (.ireturn) := by decide +kernel
theorem c101_31 : cdA 101 31 = some (.istore_n 3) := by decide +kernel
theorem c101_32 : cdA 101 32 = some (.aload_n 0) := by decide +kernel
theorem c101_33 : cdA 101 33 = some (.getfield 28) := by decide +kernel
theorem c101_36 : cdA 101 36 = some (.iload_n 1) := by decide +kernel
theorem c101_37 : cdA 101 37 = some (.invokevirtual 205) := by decide +kernel
theorem m101_205 : mthR (moN 101) 205 = 60 := by decide +kernel
theorem c101_40 : cdA 101 40 = some (.aload_n 0) := by decide +kernel
theorem c101_41 : cdA 101 41 = some (.getfield 28) := by decide +kernel
theorem c101_44 : cdA 101 44 = some (.getfield 214) := by decide +kernel
theorem c101_47 : cdA 101 47 = some (.iload_n 3) := by decide +kernel
theorem c101_48 : cdA 101 48 = some (.iconst (-1)) := by decide +kernel
theorem c101_49 : cdA 101 49 = some (.ixor) := by decide +kernel
theorem c101_50 : cdA 101 50 = some (.iand) := by decide +kernel
theorem c101_51 : cdA 101 51 = some (.istore 4) := by decide +kernel
theorem c101_53 : cdA 101 53 = some (.iconst 0) := by decide +kernel
theorem c101_54 : cdA 101 54 = some (.istore 5) := by decide +kernel
theorem c101_56 : cdA 101 56 = some (.iconst 0) := by decide +kernel
theorem c101_57 : cdA 101 57 = some (.istore 6) := by decide +kernel
theorem c101_59 : cdA 101 59 = some (.iload 6) := by decide +kernel
theorem c101_61 : cdA 101 61 = some (.bipush 16) := by decide +kernel
theorem c101_63 : cdA 101 63 = some (.if_icmp .ge 71) := by decide +kernel
theorem c101_134 : cdA 101 134 = some (.iload_n 2) := by decide +kernel
theorem c101_135 : cdA 101 135 = some (.ifCond .ge 8) := by decide +kernel
theorem c101_143 : cdA 101 143 = some (.bipush (-9)) := by decide +kernel
theorem c101_145 : cdA 101 145 = some (.ireturn) := by decide +kernel
theorem c101_138 : cdA 101 138 = some (.iload 5) := by decide +kernel
theorem c101_140 : cdA 101 140 = some (.goto 5) := by decide +kernel
theorem c101_66 : cdA 101 66 = some (.iload 6) := by decide +kernel
theorem c101_68 : cdA 101 68 = some (.iload_n 3) := by decide +kernel
theorem c101_69 : cdA 101 69 = some (.iconst (-1)) := by decide +kernel
theorem c101_70 : cdA 101 70 = some (.ixor) := by decide +kernel
theorem c101_71 : cdA 101 71 = some (.iand) := by decide +kernel
theorem c101_72 : cdA 101 72 = some (.ifCond .eq 6) := by decide +kernel
theorem c101_78 : cdA 101 78 = some (.aload_n 0) := by decide +kernel
theorem c101_79 : cdA 101 79 = some (.getfield 28) := by decide +kernel
theorem c101_82 : cdA 101 82 = some (.iload 4) := by decide +kernel
theorem c101_84 : cdA 101 84 = some (.iload 6) := by decide +kernel
theorem c101_86 : cdA 101 86 = some (.ior) := by decide +kernel
theorem c101_87 : cdA 101 87 = some (.putfield 214) := by decide +kernel
theorem c101_90 : cdA 101 90 = some (.aload_n 0) := by decide +kernel
theorem c101_91 : cdA 101 91 = some (.getfield 28) := by decide +kernel
theorem c101_94 : cdA 101 94 = some (.invokevirtual 217) := by decide +kernel
theorem m101_217 : mthR (moN 101) 217 = 68 := by decide +kernel
theorem c101_75 : cdA 101 75 = some (.goto 53) := by decide +kernel
theorem c101_6 : cdA 101 6 = some (.ifCond .eq 9) := by decide +kernel
theorem c101_15 : cdA 101 15 = some (.iload_n 2) := by decide +kernel
theorem c101_16 : cdA 101 16 = some (.iconst (-1)) := by decide +kernel
theorem c101_17 : cdA 101 17 = some (.if_icmp .ge 10) := by decide +kernel
theorem c101_27 : cdA 101 27 = some (.aload_n 0) := by decide +kernel
theorem c101_28 : cdA 101 28 = some (.invokevirtual 211) := by decide +kernel
theorem m101_211 : mthR (moN 101) 211 = 132 := by decide +kernel
theorem F129 : mF 129 0 3 true := by unfold mF; decide +kernel
theorem K129 : ¬ mK 129 = 4 := by decide +kernel
theorem S129_0 : SH0[0]? = some (.inl (moN 129)) := by decide +kernel
theorem c101_20 : cdA 101 20 = some (.aload_n 0) := by decide +kernel
theorem c101_21 : cdA 101 21 = some (.bipush (-4)) := by decide +kernel
theorem c101_23 : cdA 101 23 = some (.invokevirtual 71) := by decide +kernel
theorem m101_71 : mthR (moN 101) 71 = 124 := by decide +kernel
theorem c101_9 : cdA 101 9 = some (.aload_n 0) := by decide +kernel
theorem c101_10 : cdA 101 10 = some (.iconst (-1)) := by decide +kernel
theorem c101_11 : cdA 101 11 = some (.invokevirtual 71) := by decide +kernel
theorem c101_97 : cdA 101 97 = some (.aload_n 0) := by decide +kernel
theorem c101_98 : cdA 101 98 = some (.iload_n 3) := by decide +kernel
theorem c101_99 : cdA 101 99 = some (.iload 6) := by decide +kernel
theorem c101_101 : cdA 101 101 = some (.iload_n 1) := by decide +kernel
theorem c101_102 : cdA 101 102 = some (.invokevirtual 220) := by decide +kernel
theorem m101_220 : mthR (moN 101) 220 = 133 := by decide +kernel
theorem F130 : mF 130 3 6 true := by unfold mF; decide +kernel
theorem K130 : ¬ mK 130 = 4 := by decide +kernel
theorem S130_0 : SH0[0]? = some (.inl (moN 130)) := by decide +kernel
theorem b101_0 {d : Nat} {h : HP} {Q : PV → HP → Prop} {v1 v2 : Int} (H : X d 123 0 [some (I v1), some (I 12)] [] h (fun r h' => X (d + 1) 101 6 [some (P 0), some (I v1), some (I v2), none, none, none, none] [r] h' Q)) : X (d + 1) 101 0 [some (P 0), some (I v1), some (I v2), none, none, none, none] [] h Q :=
  s_iload_n c101_0 rfl (s_bipush c101_1 ⟨by decide, by decide⟩ (s_cSi c101_3 m101_67 F123 K123 rfl (Nat.le_of_ble_eq_true rfl) rfl rfl H))
theorem b101_105 {d : Nat} {h : HP} {Q : PV → HP → Prop} {v1 v2 v3 v4 v5 v6 s0 : Int} (H : ((¬ s0 = 0) → (((¬ v5 = v2) → X d 101 128 [some (P 0), some (I v1), some (I v2), some (I v3), some (I v4), some (I (w32 (v5 + 1))), some (I v6)] [] h Q) ∧ (¬ (¬ v5 = v2) → Q (I (h 41 7)) h))) ∧ (¬ (¬ s0 = 0) → X d 101 128 [some (P 0), some (I v1), some (I v2), some (I v3), some (I v4), some (I v5), some (I v6)] [] h Q)) : X d 101 105 [some (P 0), some (I v1), some (I v2), some (I v3), some (I v4), some (I v5), some (I v6)] [I s0] h Q :=
  s_if 111 (¬ s0 = 0) c101_105 (by decide) rfl ⟨fun q1 => s_iload c101_111 rfl (s_iload_n c101_113 rfl (s_ifc 125 (¬ v5 = v2) c101_114 (by decide) rfl ⟨fun q2 => s_iinc c101_125 rfl rfl rfl (((H.1 q1).1 q2)), fun q2 => s_aload_n c101_117 rfl (s_getP 41 c101_118 f101_28 t11_2 sh_0 g_0_2 (by decide) (by decide) (s_getI c101_121 f101_214 t7_7 sh_41 (s_retI c101_124 R101 ((H.1 q1).2 q2))))⟩)), fun q1 => s_goto 128 c101_108 (by decide) ((H.2 q1))⟩
theorem b101_128 {d : Nat} {h : HP} {Q : PV → HP → Prop} {v1 v2 v3 v4 v5 v6 : Int} (H : X d 101 59 [some (P 0), some (I v1), some (I v2), some (I v3), some (I v4), some (I v5), some (I (w32 (v6 + 1)))] [] h Q) : X d 101 128 [some (P 0), some (I v1), some (I v2), some (I v3), some (I v4), some (I v5), some (I v6)] [] h Q :=
  s_iinc c101_128 rfl rfl rfl (s_goto 59 c101_131 (by decide) (H))
theorem b101_14 {d : Nat} {h : HP} {Q : PV → HP → Prop} {v1 v2 s0 : Int} (H : Q (I s0) h) : X d 101 14 [some (P 0), some (I v1), some (I v2), none, none, none, none] [I s0] h Q :=
  s_retI c101_14 R101 H
theorem b101_26 {d : Nat} {h : HP} {Q : PV → HP → Prop} {v1 v2 s0 : Int} (H : Q (I s0) h) : X d 101 26 [some (P 0), some (I v1), some (I v2), none, none, none, none] [I s0] h Q :=
  s_retI c101_26 R101 H
theorem b101_31 {d : Nat} {h : HP} {Q : PV → HP → Prop} {v1 v2 s0 : Int} (H : X d 57 0 [some (P 41), some (I v1), none] [] h (fun _ h' => X (d + 1) 101 40 [some (P 0), some (I v1), some (I v2), some (I s0), none, none, none] [] h' Q)) : X (d + 1) 101 31 [some (P 0), some (I v1), some (I v2), none, none, none, none] [I s0] h Q :=
  s_istore_n c101_31 rfl (s_aload_n c101_32 rfl (s_getP 41 c101_33 f101_28 t11_2 sh_0 g_0_2 (by decide) (by decide) (s_iload_n c101_36 rfl (s_cVv c101_37 m101_205 F57 K57 rfl (Nat.le_of_ble_eq_true rfl) rfl S57_41 rfl H))))
theorem b101_40 {d : Nat} {h : HP} {Q : PV → HP → Prop} {v1 v2 v3 : Int} (H : X d 101 59 [some (P 0), some (I v1), some (I v2), some (I v3), some (I (bAnd (h 41 7) (bXor v3 (-1)))), some (I 0), some (I 0)] [] h Q) : X d 101 40 [some (P 0), some (I v1), some (I v2), some (I v3), none, none, none] [] h Q :=
  s_aload_n c101_40 rfl (s_getP 41 c101_41 f101_28 t11_2 sh_0 g_0_2 (by decide) (by decide) (s_getI c101_44 f101_214 t7_7 sh_41 (s_iload_n c101_47 rfl (s_iconst c101_48 rfl (s_ixor c101_49 (s_iand c101_50 (s_istore c101_51 rfl (s_iconst c101_53 rfl (s_istore c101_54 rfl (s_iconst c101_56 rfl (s_istore c101_57 rfl (H))))))))))))
theorem b101_59 {d : Nat} {h : HP} {Q : PV → HP → Prop} {v1 v2 v3 v4 v5 v6 : Int} (H : ((16 ≤ v6) → (((0 ≤ v2) → Q (I (-9)) h) ∧ (¬ (0 ≤ v2) → Q (I v5) h))) ∧ (¬ (16 ≤ v6) → ((((bAnd v6 (bXor v3 (-1))) = 0) → X d 65 0 [some (P 41), none] [] (up2 h 41 7 (bOr v4 v6)) (fun _ h' => X (d + 1) 101 97 [some (P 0), some (I v1), some (I v2), some (I v3), some (I v4), some (I v5), some (I v6)] [] h' Q)) ∧ (¬ ((bAnd v6 (bXor v3 (-1))) = 0) → X (d + 1) 101 128 [some (P 0), some (I v1), some (I v2), some (I v3), some (I v4), some (I v5), some (I v6)] [] h Q)))) : X (d + 1) 101 59 [some (P 0), some (I v1), some (I v2), some (I v3), some (I v4), some (I v5), some (I v6)] [] h Q :=
  s_iload c101_59 rfl (s_bipush c101_61 ⟨by decide, by decide⟩ (s_ifc 134 (16 ≤ v6) c101_63 (by decide) rfl ⟨fun q3 => s_iload_n c101_134 rfl (s_if 143 (0 ≤ v2) c101_135 (by decide) rfl ⟨fun q4 => s_bipush c101_143 ⟨by decide, by decide⟩ (s_retI c101_145 R101 ((H.1 q3).1 q4)), fun q4 => s_iload c101_138 rfl (s_goto 145 c101_140 (by decide) (s_retI c101_145 R101 ((H.1 q3).2 q4)))⟩), fun q3 => s_iload c101_66 rfl (s_iload_n c101_68 rfl (s_iconst c101_69 rfl (s_ixor c101_70 (s_iand c101_71 (s_if 78 ((bAnd v6 (bXor v3 (-1))) = 0) c101_72 (by decide) rfl ⟨fun q5 => s_aload_n c101_78 rfl (s_getP 41 c101_79 f101_28 t11_2 sh_0 g_0_2 (by decide) (by decide) (s_iload c101_82 rfl (s_iload c101_84 rfl (s_ior c101_86 (s_putI c101_87 f101_214 t7_7 n7_7 sh_41 (s_aload_n c101_90 rfl (s_getP 41 c101_91 f101_28 t11_2 sh_0 g_0_2 (by decide) (by decide) (s_cVv c101_94 m101_217 F65 K65 rfl (Nat.le_of_ble_eq_true rfl) rfl S65_41 rfl ((H.2 q3).1 q5))))))))), fun q5 => s_goto 128 c101_75 (by decide) (((H.2 q3).2 q5))⟩)))))⟩))
theorem b101_6 {d : Nat} {h : HP} {Q : PV → HP → Prop} {v1 v2 s0 : Int} (H : ((s0 = 0) → ((((-1) ≤ v2) → X d 129 0 [some (P 0), none, none] [] h (fun r h' => X (d + 1) 101 31 [some (P 0), some (I v1), some (I v2), none, none, none, none] [r] h' Q)) ∧ (¬ ((-1) ≤ v2) → X d 121 0 [some (P 0), some (I (-4))] [] h (fun r h' => X (d + 1) 101 26 [some (P 0), some (I v1), some (I v2), none, none, none, none] [r] h' Q)))) ∧ (¬ (s0 = 0) → X d 121 0 [some (P 0), some (I (-1))] [] h (fun r h' => X (d + 1) 101 14 [some (P 0), some (I v1), some (I v2), none, none, none, none] [r] h' Q))) : X (d + 1) 101 6 [some (P 0), some (I v1), some (I v2), none, none, none, none] [I s0] h Q :=
  s_if 15 (s0 = 0) c101_6 (by decide) rfl ⟨fun q6 => s_iload_n c101_15 rfl (s_iconst c101_16 rfl (s_ifc 27 ((-1) ≤ v2) c101_17 (by decide) rfl ⟨fun q7 => s_aload_n c101_27 rfl (s_cVi c101_28 m101_211 F129 K129 rfl (Nat.le_of_ble_eq_true rfl) rfl S129_0 rfl ((H.1 q6).1 q7)), fun q7 => s_aload_n c101_20 rfl (s_bipush c101_21 ⟨by decide, by decide⟩ (s_cVi c101_23 m101_71 F121 K121 rfl (Nat.le_of_ble_eq_true rfl) rfl S121_0 rfl ((H.1 q6).2 q7)))⟩)), fun q6 => s_aload_n c101_9 rfl (s_iconst c101_10 rfl (s_cVi c101_11 m101_71 F121 K121 rfl (Nat.le_of_ble_eq_true rfl) rfl S121_0 rfl (H.2 q6)))⟩
theorem b101_97 {d : Nat} {h : HP} {Q : PV → HP → Prop} {v1 v2 v3 v4 v5 v6 : Int} (H : X d 130 0 [some (P 0), some (I v3), some (I v6), some (I v1), none, none] [] h (fun r h' => X (d + 1) 101 105 [some (P 0), some (I v1), some (I v2), some (I v3), some (I v4), some (I v5), some (I v6)] [r] h' Q)) : X (d + 1) 101 97 [some (P 0), some (I v1), some (I v2), some (I v3), some (I v4), some (I v5), some (I v6)] [] h Q :=
  s_aload_n c101_97 rfl (s_iload_n c101_98 rfl (s_iload c101_99 rfl (s_iload_n c101_101 rfl (s_cVi c101_102 m101_220 F130 K130 rfl (Nat.le_of_ble_eq_true rfl) rfl S130_0 rfl H))))
-- WarmSide.swap([III)I
theorem b126f_0 {d : Nat} {h : HP} {Q : PV → HP → Prop} {v1 v2 : Int} (H : (0 ≤ v1 ∧ v1 < 3) ∧ ((0 ≤ v1 ∧ v1 < 3) ∧ Q (I (h 35 v1.toNat)) (up2 h 35 v1.toNat v2))) : X d 126 0 [some (P 35), some (I v1), some (I v2), none] [] h Q :=
  s_aload_n c126_0 rfl (s_iload_n c126_1 rfl (s_iald c126_2 sh_35 ⟨H.1, s_istore_n c126_3 rfl (s_aload_n c126_4 rfl (s_iload_n c126_5 rfl (s_iload_n c126_6 rfl (s_iast c126_7 sh_35 ⟨H.2.1, s_iload_n c126_8 rfl (s_retI c126_9 R126 H.2.2)⟩))))⟩))
-- WarmSide.span(II)I
theorem c102_0 : cdA 102 0 = some (.iload_n 1) := by decide +kernel
theorem c102_1 : cdA 102 1 = some (.iconst 3) := by decide +kernel
theorem c102_2 : cdA 102 2 = some (.invokestatic 67) := by decide +kernel
theorem m102_67 : mthR (moN 102) 67 = 126 := by decide +kernel
theorem c102_14 : cdA 102 14 = some (.ireturn) := by decide +kernel
theorem R102 : mK 102 = 0 := by decide +kernel
theorem c102_25 : cdA 102 25 = some (.ireturn) := by decide +kernel
theorem c102_38 : cdA 102 38 = some (.ireturn) := by decide +kernel
theorem c102_5 : cdA 102 5 = some (.ifCond .eq 10) := by decide +kernel
theorem c102_15 : cdA 102 15 = some (.iload_n 2) := by decide +kernel
theorem c102_16 : cdA 102 16 = some (.ifCond .ge 10) := by decide +kernel
theorem c102_26 : cdA 102 26 = some (.iload_n 2) := by decide +kernel
theorem c102_27 : cdA 102 27 = some (.bipush 50) := by decide +kernel
theorem c102_29 : cdA 102 29 = some (.if_icmp .le 10) := by decide +kernel
theorem c102_39 : cdA 102 39 = some (.aload_n 0) := by decide +kernel
theorem c102_40 : cdA 102 40 = some (.getfield 10) := by decide +kernel
theorem f102_10 : fldR (moN 102) 10 = some (11, 0) := by decide +kernel
theorem c102_43 : cdA 102 43 = some (.getfield 100) := by decide +kernel
theorem f102_100 : fldR (moN 102) 100 = some (1, 5) := by decide +kernel
theorem c102_46 : cdA 102 46 = some (.getfield 223) := by decide +kernel
theorem f102_223 : fldR (moN 102) 223 = some (8, 4) := by decide +kernel
theorem c102_49 : cdA 102 49 = some (.iload_n 1) := by decide +kernel
theorem c102_50 : cdA 102 50 = some (.iload_n 2) := by decide +kernel
theorem c102_51 : cdA 102 51 = some (.invokestatic 96) := by decide +kernel
theorem m102_96 : mthR (moN 102) 96 = 129 := by decide +kernel
theorem c102_32 : cdA 102 32 = some (.aload_n 0) := by decide +kernel
theorem c102_33 : cdA 102 33 = some (.bipush (-6)) := by decide +kernel
theorem c102_35 : cdA 102 35 = some (.invokevirtual 71) := by decide +kernel
theorem m102_71 : mthR (moN 102) 71 = 124 := by decide +kernel
theorem c102_19 : cdA 102 19 = some (.aload_n 0) := by decide +kernel
theorem c102_20 : cdA 102 20 = some (.bipush (-4)) := by decide +kernel
theorem c102_22 : cdA 102 22 = some (.invokevirtual 71) := by decide +kernel
theorem c102_8 : cdA 102 8 = some (.aload_n 0) := by decide +kernel
theorem c102_9 : cdA 102 9 = some (.bipush (-2)) := by decide +kernel
theorem c102_11 : cdA 102 11 = some (.invokevirtual 71) := by decide +kernel
theorem c102_54 : cdA 102 54 = some (.ireturn) := by decide +kernel
theorem b102_0 {d : Nat} {h : HP} {Q : PV → HP → Prop} {v1 v2 : Int} (H : X d 123 0 [some (I v1), some (I 3)] [] h (fun r h' => X (d + 1) 102 5 [some (P 0), some (I v1), some (I v2)] [r] h' Q)) : X (d + 1) 102 0 [some (P 0), some (I v1), some (I v2)] [] h Q :=
  s_iload_n c102_0 rfl (s_iconst c102_1 rfl (s_cSi c102_2 m102_67 F123 K123 rfl (Nat.le_of_ble_eq_true rfl) rfl rfl H))
theorem b102_14 {d : Nat} {h : HP} {Q : PV → HP → Prop} {v1 v2 s0 : Int} (H : Q (I s0) h) : X d 102 14 [some (P 0), some (I v1), some (I v2)] [I s0] h Q :=
  s_retI c102_14 R102 H
theorem b102_25 {d : Nat} {h : HP} {Q : PV → HP → Prop} {v1 v2 s0 : Int} (H : Q (I s0) h) : X d 102 25 [some (P 0), some (I v1), some (I v2)] [I s0] h Q :=
  s_retI c102_25 R102 H
theorem b102_38 {d : Nat} {h : HP} {Q : PV → HP → Prop} {v1 v2 s0 : Int} (H : Q (I s0) h) : X d 102 38 [some (P 0), some (I v1), some (I v2)] [I s0] h Q :=
  s_retI c102_38 R102 H
theorem b102_5 {d : Nat} {h : HP} {Q : PV → HP → Prop} {v1 v2 s0 : Int} (H : ((s0 = 0) → (((0 ≤ v2) → (((v2 ≤ 50) → X d 126 0 [some (P 35), some (I v1), some (I v2), none] [] h (fun r h' => X (d + 1) 102 54 [some (P 0), some (I v1), some (I v2)] [r] h' Q)) ∧ (¬ (v2 ≤ 50) → X d 121 0 [some (P 0), some (I (-6))] [] h (fun r h' => X (d + 1) 102 38 [some (P 0), some (I v1), some (I v2)] [r] h' Q)))) ∧ (¬ (0 ≤ v2) → X d 121 0 [some (P 0), some (I (-4))] [] h (fun r h' => X (d + 1) 102 25 [some (P 0), some (I v1), some (I v2)] [r] h' Q)))) ∧ (¬ (s0 = 0) → X d 121 0 [some (P 0), some (I (-2))] [] h (fun r h' => X (d + 1) 102 14 [some (P 0), some (I v1), some (I v2)] [r] h' Q))) : X (d + 1) 102 5 [some (P 0), some (I v1), some (I v2)] [I s0] h Q :=
  s_if 15 (s0 = 0) c102_5 (by decide) rfl ⟨fun q1 => s_iload_n c102_15 rfl (s_if 26 (0 ≤ v2) c102_16 (by decide) rfl ⟨fun q2 => s_iload_n c102_26 rfl (s_bipush c102_27 ⟨by decide, by decide⟩ (s_ifc 39 (v2 ≤ 50) c102_29 (by decide) rfl ⟨fun q3 => s_aload_n c102_39 rfl (s_getP 1 c102_40 f102_10 t11_0 sh_0 g_0_0 (by decide) (by decide) (s_getP 30 c102_43 f102_100 t1_5 sh_1 g_1_5 (by decide) (by decide) (s_getP 35 c102_46 f102_223 t8_4 sh_30 g_30_4 (by decide) (by decide) (s_iload_n c102_49 rfl (s_iload_n c102_50 rfl (s_cSi c102_51 m102_96 F126 K126 rfl (Nat.le_of_ble_eq_true rfl) rfl rfl (((H.1 q1).1 q2).1 q3))))))), fun q3 => s_aload_n c102_32 rfl (s_bipush c102_33 ⟨by decide, by decide⟩ (s_cVi c102_35 m102_71 F121 K121 rfl (Nat.le_of_ble_eq_true rfl) rfl S121_0 rfl (((H.1 q1).1 q2).2 q3)))⟩)), fun q2 => s_aload_n c102_19 rfl (s_bipush c102_20 ⟨by decide, by decide⟩ (s_cVi c102_22 m102_71 F121 K121 rfl (Nat.le_of_ble_eq_true rfl) rfl S121_0 rfl ((H.1 q1).2 q2)))⟩), fun q1 => s_aload_n c102_8 rfl (s_bipush c102_9 ⟨by decide, by decide⟩ (s_cVi c102_11 m102_71 F121 K121 rfl (Nat.le_of_ble_eq_true rfl) rfl S121_0 rfl (H.2 q1)))⟩
theorem b102_54 {d : Nat} {h : HP} {Q : PV → HP → Prop} {v1 v2 s0 : Int} (H : Q (I s0) h) : X d 102 54 [some (P 0), some (I v1), some (I v2)] [I s0] h Q :=
  s_retI c102_54 R102 H
-- WarmSide.worst(IIZ)I
theorem c103_0 : cdA 103 0 = some (.aload_n 0) := by decide +kernel
theorem c103_1 : cdA 103 1 = some (.iload_n 1) := by decide +kernel
theorem c103_2 : cdA 103 2 = some (.invokevirtual 88) := by decide +kernel
theorem m103_88 : mthR (moN 103) 88 = 127 := by decide +kernel
theorem c103_14 : cdA 103 14 = some (.ifCond .eq 9) := by decide +kernel
theorem c103_23 : cdA 103 23 = some (.aload_n 0) := by decide +kernel
theorem c103_24 : cdA 103 24 = some (.getfield 28) := by decide +kernel
theorem f103_28 : fldR (moN 103) 28 = some (11, 2) := by decide +kernel
theorem c103_27 : cdA 103 27 = some (.iload_n 2) := by decide +kernel
theorem c103_28 : cdA 103 28 = some (.invokevirtual 205) := by decide +kernel
theorem m103_205 : mthR (moN 103) 205 = 60 := by decide +kernel
theorem c103_17 : cdA 103 17 = some (.aload_n 0) := by decide +kernel
theorem c103_18 : cdA 103 18 = some (.iconst (-1)) := by decide +kernel
theorem c103_19 : cdA 103 19 = some (.invokevirtual 71) := by decide +kernel
theorem m103_71 : mthR (moN 103) 71 = 124 := by decide +kernel
theorem c103_22 : cdA 103 22 = some (.ireturn) := by decide +kernel
theorem R103 : mK 103 = 0 := by decide +kernel
theorem c103_31 : cdA 103 31 = some (.aload_n 0) := by decide +kernel
theorem c103_32 : cdA 103 32 = some (.getfield 28) := by decide +kernel
theorem c103_35 : cdA 103 35 = some (.iload_n 3) := by decide +kernel
theorem c103_36 : cdA 103 36 = some (.invokevirtual 226) := by decide +kernel
theorem m103_226 : mthR (moN 103) 226 = 63 := by decide +kernel
theorem F60 : mF 60 1 3 true := by unfold mF; decide +kernel
theorem K60 : mK 60 = 4 := by decide +kernel
theorem S60_41 : SH0[41]? = some (.inl (moN 60)) := by decide +kernel
theorem c103_39 : cdA 103 39 = some (.aload_n 0) := by decide +kernel
theorem c103_40 : cdA 103 40 = some (.getfield 28) := by decide +kernel
theorem c103_43 : cdA 103 43 = some (.iload_n 1) := by decide +kernel
theorem c103_44 : cdA 103 44 = some (.invokevirtual 208) := by decide +kernel
theorem m103_208 : mthR (moN 103) 208 = 65 := by decide +kernel
theorem c103_47 : cdA 103 47 = some (.ireturn) := by decide +kernel
theorem c103_5 : cdA 103 5 = some (.ifCond .ne 12) := by decide +kernel
theorem c103_8 : cdA 103 8 = some (.iload_n 2) := by decide +kernel
theorem c103_9 : cdA 103 9 = some (.bipush 12) := by decide +kernel
theorem c103_11 : cdA 103 11 = some (.invokestatic 67) := by decide +kernel
theorem m103_67 : mthR (moN 103) 67 = 126 := by decide +kernel
theorem b103_0 {d : Nat} {h : HP} {Q : PV → HP → Prop} {v1 v2 v3 : Int} (H : X d 124 0 [some (P 0), some (I v1)] [] h (fun r h' => X (d + 1) 103 5 [some (P 0), some (I v1), some (I v2), some (I v3)] [r] h' Q)) : X (d + 1) 103 0 [some (P 0), some (I v1), some (I v2), some (I v3)] [] h Q :=
  s_aload_n c103_0 rfl (s_iload_n c103_1 rfl (s_cVi c103_2 m103_88 F124 K124 rfl (Nat.le_of_ble_eq_true rfl) rfl S124_0 rfl H))
theorem b103_14 {d : Nat} {h : HP} {Q : PV → HP → Prop} {v1 v2 v3 s0 : Int} (H : ((s0 = 0) → X d 57 0 [some (P 41), some (I v2), none] [] h (fun _ h' => X (d + 1) 103 31 [some (P 0), some (I v1), some (I v2), some (I v3)] [] h' Q)) ∧ (¬ (s0 = 0) → X (d + 1) 103 17 [some (P 0), some (I v1), some (I v2), some (I v3)] [] h Q)) : X (d + 1) 103 14 [some (P 0), some (I v1), some (I v2), some (I v3)] [I s0] h Q :=
  s_if 23 (s0 = 0) c103_14 (by decide) rfl ⟨fun q1 => s_aload_n c103_23 rfl (s_getP 41 c103_24 f103_28 t11_2 sh_0 g_0_2 (by decide) (by decide) (s_iload_n c103_27 rfl (s_cVv c103_28 m103_205 F57 K57 rfl (Nat.le_of_ble_eq_true rfl) rfl S57_41 rfl (H.1 q1)))), fun q1 => (H.2 q1)⟩
theorem b103_17 {d : Nat} {h : HP} {Q : PV → HP → Prop} {v1 v2 v3 : Int} (H : X d 121 0 [some (P 0), some (I (-1))] [] h (fun r h' => X (d + 1) 103 22 [some (P 0), some (I v1), some (I v2), some (I v3)] [r] h' Q)) : X (d + 1) 103 17 [some (P 0), some (I v1), some (I v2), some (I v3)] [] h Q :=
  s_aload_n c103_17 rfl (s_iconst c103_18 rfl (s_cVi c103_19 m103_71 F121 K121 rfl (Nat.le_of_ble_eq_true rfl) rfl S121_0 rfl H))
theorem b103_22 {d : Nat} {h : HP} {Q : PV → HP → Prop} {v1 v2 v3 s0 : Int} (H : Q (I s0) h) : X d 103 22 [some (P 0), some (I v1), some (I v2), some (I v3)] [I s0] h Q :=
  s_retI c103_22 R103 H
theorem b103_31 {d : Nat} {h : HP} {Q : PV → HP → Prop} {v1 v2 v3 : Int} (H : X d 60 0 [some (P 41), some (I v3), none] [] h (fun _ h' => X (d + 1) 103 39 [some (P 0), some (I v1), some (I v2), some (I v3)] [] h' Q)) : X (d + 1) 103 31 [some (P 0), some (I v1), some (I v2), some (I v3)] [] h Q :=
  s_aload_n c103_31 rfl (s_getP 41 c103_32 f103_28 t11_2 sh_0 g_0_2 (by decide) (by decide) (s_iload_n c103_35 rfl (s_cVv c103_36 m103_226 F60 K60 rfl (Nat.le_of_ble_eq_true rfl) rfl S60_41 rfl H)))
theorem b103_39 {d : Nat} {h : HP} {Q : PV → HP → Prop} {v1 v2 v3 : Int} (H : X d 62 0 [some (P 41), some (I v1)] [] h (fun r h' => X (d + 1) 103 47 [some (P 0), some (I v1), some (I v2), some (I v3)] [r] h' Q)) : X (d + 1) 103 39 [some (P 0), some (I v1), some (I v2), some (I v3)] [] h Q :=
  s_aload_n c103_39 rfl (s_getP 41 c103_40 f103_28 t11_2 sh_0 g_0_2 (by decide) (by decide) (s_iload_n c103_43 rfl (s_cVi c103_44 m103_208 F62 K62 rfl (Nat.le_of_ble_eq_true rfl) rfl S62_41 rfl H)))
theorem b103_47 {d : Nat} {h : HP} {Q : PV → HP → Prop} {v1 v2 v3 s0 : Int} (H : Q (I s0) h) : X d 103 47 [some (P 0), some (I v1), some (I v2), some (I v3)] [I s0] h Q :=
  s_retI c103_47 R103 H
theorem b103_5 {d : Nat} {h : HP} {Q : PV → HP → Prop} {v1 v2 v3 s0 : Int} (H : ((¬ s0 = 0) → X (d + 1) 103 17 [some (P 0), some (I v1), some (I v2), some (I v3)] [] h Q) ∧ (¬ (¬ s0 = 0) → X d 123 0 [some (I v2), some (I 12)] [] h (fun r h' => X (d + 1) 103 14 [some (P 0), some (I v1), some (I v2), some (I v3)] [r] h' Q))) : X (d + 1) 103 5 [some (P 0), some (I v1), some (I v2), some (I v3)] [I s0] h Q :=
  s_if 17 (¬ s0 = 0) c103_5 (by decide) rfl ⟨fun q2 => (H.1 q2), fun q2 => s_iload_n c103_8 rfl (s_bipush c103_9 ⟨by decide, by decide⟩ (s_cSi c103_11 m103_67 F123 K123 rfl (Nat.le_of_ble_eq_true rfl) rfl rfl (H.2 q2)))⟩
-- WarmSide.repeat(I)I
theorem c104_0 : cdA 104 0 = some (.iload_n 1) := by decide +kernel
theorem c104_1 : cdA 104 1 = some (.iconst 2) := by decide +kernel
theorem c104_2 : cdA 104 2 = some (.invokestatic 67) := by decide +kernel
theorem m104_67 : mthR (moN 104) 67 = 126 := by decide +kernel
theorem c104_14 : cdA 104 14 = some (.ireturn) := by decide +kernel
theorem R104 : mK 104 = 0 := by decide +kernel
theorem c104_35 : cdA 104 35 = some (.invokevirtual 230) := by decide +kernel
theorem m104_230 : mthR (moN 104) 230 = 51 := by decide +kernel
theorem F48 : mF 48 2 6 true := by unfold mF; decide +kernel
theorem K48 : ¬ mK 48 = 4 := by decide +kernel
theorem S48_52 : SH0[52]? = some (.inl (moN 48)) := by decide +kernel
theorem c104_38 : cdA 104 38 = some (.ireturn) := by decide +kernel
theorem c104_5 : cdA 104 5 = some (.ifCond .eq 10) := by decide +kernel
theorem c104_15 : cdA 104 15 = some (.aload_n 0) := by decide +kernel
theorem c104_16 : cdA 104 16 = some (.getfield 37) := by decide +kernel
theorem f104_37 : fldR (moN 104) 37 = some (11, 3) := by decide +kernel
theorem c104_19 : cdA 104 19 = some (.aload_n 0) := by decide +kernel
theorem c104_20 : cdA 104 20 = some (.getfield 63) := by decide +kernel
theorem f104_63 : fldR (moN 104) 63 = some (11, 8) := by decide +kernel
theorem c104_23 : cdA 104 23 = some (.bipush 12) := by decide +kernel
theorem c104_25 : cdA 104 25 = some (.irem) := by decide +kernel
theorem c104_26 : cdA 104 26 = some (.iload_n 1) := by decide +kernel
theorem c104_27 : cdA 104 27 = some (.ifCond .ne 7) := by decide +kernel
theorem c104_34 : cdA 104 34 = some (.iconst 0) := by decide +kernel
theorem c104_30 : cdA 104 30 = some (.iconst 1) := by decide +kernel
theorem c104_31 : cdA 104 31 = some (.goto 4) := by decide +kernel
theorem c104_8 : cdA 104 8 = some (.aload_n 0) := by decide +kernel
theorem c104_9 : cdA 104 9 = some (.bipush (-2)) := by decide +kernel
theorem c104_11 : cdA 104 11 = some (.invokevirtual 71) := by decide +kernel
theorem m104_71 : mthR (moN 104) 71 = 124 := by decide +kernel
theorem b104_0 {d : Nat} {h : HP} {Q : PV → HP → Prop} {v1 : Int} (H : X d 123 0 [some (I v1), some (I 2)] [] h (fun r h' => X (d + 1) 104 5 [some (P 0), some (I v1)] [r] h' Q)) : X (d + 1) 104 0 [some (P 0), some (I v1)] [] h Q :=
  s_iload_n c104_0 rfl (s_iconst c104_1 rfl (s_cSi c104_2 m104_67 F123 K123 rfl (Nat.le_of_ble_eq_true rfl) rfl rfl H))
theorem b104_14 {d : Nat} {h : HP} {Q : PV → HP → Prop} {v1 s0 : Int} (H : Q (I s0) h) : X d 104 14 [some (P 0), some (I v1)] [I s0] h Q :=
  s_retI c104_14 R104 H
theorem b104_35 {d : Nat} {h : HP} {Q : PV → HP → Prop} {v1 s1 s2 : Int} (H : X d 48 0 [some (P 52), some (I s1), some (I s2), none, none, none] [] h (fun r h' => X (d + 1) 104 38 [some (P 0), some (I v1)] [r] h' Q)) : X (d + 1) 104 35 [some (P 0), some (I v1)] [I s2, I s1, P 52] h Q :=
  s_cVi c104_35 m104_230 F48 K48 rfl (Nat.le_of_ble_eq_true rfl) rfl S48_52 rfl H
theorem b104_38 {d : Nat} {h : HP} {Q : PV → HP → Prop} {v1 s0 : Int} (H : Q (I s0) h) : X d 104 38 [some (P 0), some (I v1)] [I s0] h Q :=
  s_retI c104_38 R104 H
theorem b104_5 {d : Nat} {h : HP} {Q : PV → HP → Prop} {v1 s0 : Int} (H : ((s0 = 0) → (((¬ v1 = 0) → X (d + 1) 104 35 [some (P 0), some (I v1)] [I 0, I (Int.tmod (h 0 8) 12), P 52] h Q) ∧ (¬ (¬ v1 = 0) → X (d + 1) 104 35 [some (P 0), some (I v1)] [I 1, I (Int.tmod (h 0 8) 12), P 52] h Q))) ∧ (¬ (s0 = 0) → X d 121 0 [some (P 0), some (I (-2))] [] h (fun r h' => X (d + 1) 104 14 [some (P 0), some (I v1)] [r] h' Q))) : X (d + 1) 104 5 [some (P 0), some (I v1)] [I s0] h Q :=
  s_if 15 (s0 = 0) c104_5 (by decide) rfl ⟨fun q1 => s_aload_n c104_15 rfl (s_getP 52 c104_16 f104_37 t11_3 sh_0 g_0_3 (by decide) (by decide) (s_aload_n c104_19 rfl (s_getI c104_20 f104_63 t11_8 sh_0 (s_bipush c104_23 ⟨by decide, by decide⟩ (s_irem c104_25 (by decide) (s_iload_n c104_26 rfl (s_if 34 (¬ v1 = 0) c104_27 (by decide) rfl ⟨fun q2 => s_iconst c104_34 rfl (((H.1 q1).1 q2)), fun q2 => s_iconst c104_30 rfl (s_goto 35 c104_31 (by decide) (((H.1 q1).2 q2)))⟩))))))), fun q1 => s_aload_n c104_8 rfl (s_bipush c104_9 ⟨by decide, by decide⟩ (s_cVi c104_11 m104_71 F121 K121 rfl (Nat.le_of_ble_eq_true rfl) rfl S121_0 rfl (H.2 q1)))⟩
-- WarmSide.age(IIIZ)I
theorem c105_0 : cdA 105 0 = some (.aload_n 0) := by decide +kernel
theorem c105_1 : cdA 105 1 = some (.iload_n 1) := by decide +kernel
theorem c105_2 : cdA 105 2 = some (.invokevirtual 88) := by decide +kernel
theorem m105_88 : mthR (moN 105) 88 = 127 := by decide +kernel
theorem c105_100 : cdA 105 100 = some (.iload_n 3) := by decide +kernel
theorem c105_101 : cdA 105 101 = some (.if_icmp .le 6) := by decide +kernel
theorem c105_107 : cdA 105 107 = some (.iinc 5 1) := by decide +kernel
theorem c105_110 : cdA 105 110 = some (.goto (-34)) := by decide +kernel
theorem c105_104 : cdA 105 104 = some (.iload 5) := by decide +kernel
theorem c105_106 : cdA 105 106 = some (.ireturn) := by decide +kernel
theorem R105 : mK 105 = 0 := by decide +kernel
theorem c105_14 : cdA 105 14 = some (.ifCond .eq 9) := by decide +kernel
theorem c105_23 : cdA 105 23 = some (.iload_n 3) := by decide +kernel
theorem c105_24 : cdA 105 24 = some (.ifCond .ge 10) := by decide +kernel
theorem c105_34 : cdA 105 34 = some (.iload_n 3) := by decide +kernel
theorem c105_35 : cdA 105 35 = some (.sipush 600) := by decide +kernel
theorem c105_38 : cdA 105 38 = some (.if_icmp .le 10) := by decide +kernel
theorem c105_48 : cdA 105 48 = some (.aload_n 0) := by decide +kernel
theorem c105_49 : cdA 105 49 = some (.getfield 28) := by decide +kernel
theorem f105_28 : fldR (moN 105) 28 = some (11, 2) := by decide +kernel
theorem c105_52 : cdA 105 52 = some (.iload_n 2) := by decide +kernel
theorem c105_53 : cdA 105 53 = some (.invokevirtual 205) := by decide +kernel
theorem m105_205 : mthR (moN 105) 205 = 60 := by decide +kernel
theorem c105_41 : cdA 105 41 = some (.aload_n 0) := by decide +kernel
theorem c105_42 : cdA 105 42 = some (.bipush (-6)) := by decide +kernel
theorem c105_44 : cdA 105 44 = some (.invokevirtual 71) := by decide +kernel
theorem m105_71 : mthR (moN 105) 71 = 124 := by decide +kernel
theorem c105_27 : cdA 105 27 = some (.aload_n 0) := by decide +kernel
theorem c105_28 : cdA 105 28 = some (.bipush (-4)) := by decide +kernel
theorem c105_30 : cdA 105 30 = some (.invokevirtual 71) := by decide +kernel
theorem c105_17 : cdA 105 17 = some (.aload_n 0) := by decide +kernel
theorem c105_18 : cdA 105 18 = some (.iconst (-1)) := by decide +kernel
theorem c105_19 : cdA 105 19 = some (.invokevirtual 71) := by decide +kernel
theorem c105_22 : cdA 105 22 = some (.ireturn) := by decide +kernel
theorem c105_33 : cdA 105 33 = some (.ireturn) := by decide +kernel
theorem c105_47 : cdA 105 47 = some (.ireturn) := by decide +kernel
theorem c105_5 : cdA 105 5 = some (.ifCond .ne 12) := by decide +kernel
theorem c105_8 : cdA 105 8 = some (.iload_n 2) := by decide +kernel
theorem c105_9 : cdA 105 9 = some (.bipush 12) := by decide +kernel
theorem c105_11 : cdA 105 11 = some (.invokestatic 67) := by decide +kernel
theorem m105_67 : mthR (moN 105) 67 = 126 := by decide +kernel
theorem c105_56 : cdA 105 56 = some (.aload_n 0) := by decide +kernel
theorem c105_57 : cdA 105 57 = some (.getfield 28) := by decide +kernel
theorem c105_60 : cdA 105 60 = some (.iload 4) := by decide +kernel
theorem c105_62 : cdA 105 62 = some (.ifCond .ne 7) := by decide +kernel
theorem c105_69 : cdA 105 69 = some (.iconst 0) := by decide +kernel
theorem c105_65 : cdA 105 65 = some (.iconst 1) := by decide +kernel
theorem c105_66 : cdA 105 66 = some (.goto 4) := by decide +kernel
theorem c105_70 : cdA 105 70 = some (.invokevirtual 226) := by decide +kernel
theorem m105_226 : mthR (moN 105) 226 = 63 := by decide +kernel
theorem c105_73 : cdA 105 73 = some (.iconst 0) := by decide +kernel
theorem c105_74 : cdA 105 74 = some (.istore 5) := by decide +kernel
theorem c105_76 : cdA 105 76 = some (.iload 5) := by decide +kernel
theorem c105_78 : cdA 105 78 = some (.bipush 10) := by decide +kernel
theorem c105_80 : cdA 105 80 = some (.if_icmp .ge 33) := by decide +kernel
theorem c105_113 : cdA 105 113 = some (.bipush (-9)) := by decide +kernel
theorem c105_115 : cdA 105 115 = some (.ireturn) := by decide +kernel
theorem c105_83 : cdA 105 83 = some (.aload_n 0) := by decide +kernel
theorem c105_84 : cdA 105 84 = some (.getfield 28) := by decide +kernel
theorem c105_87 : cdA 105 87 = some (.iload 5) := by decide +kernel
theorem c105_89 : cdA 105 89 = some (.putfield 234) := by decide +kernel
theorem f105_234 : fldR (moN 105) 234 = some (7, 3) := by decide +kernel
theorem c105_92 : cdA 105 92 = some (.aload_n 0) := by decide +kernel
theorem c105_93 : cdA 105 93 = some (.getfield 28) := by decide +kernel
theorem c105_96 : cdA 105 96 = some (.iload_n 1) := by decide +kernel
theorem c105_97 : cdA 105 97 = some (.invokevirtual 208) := by decide +kernel
theorem m105_208 : mthR (moN 105) 208 = 65 := by decide +kernel
theorem b105_0 {d : Nat} {h : HP} {Q : PV → HP → Prop} {v1 v2 v3 v4 : Int} (H : X d 124 0 [some (P 0), some (I v1)] [] h (fun r h' => X (d + 1) 105 5 [some (P 0), some (I v1), some (I v2), some (I v3), some (I v4), none] [r] h' Q)) : X (d + 1) 105 0 [some (P 0), some (I v1), some (I v2), some (I v3), some (I v4), none] [] h Q :=
  s_aload_n c105_0 rfl (s_iload_n c105_1 rfl (s_cVi c105_2 m105_88 F124 K124 rfl (Nat.le_of_ble_eq_true rfl) rfl S124_0 rfl H))
theorem b105_100 {d : Nat} {h : HP} {Q : PV → HP → Prop} {v1 v2 v3 v4 v5 s0 : Int} (H : ((s0 ≤ v3) → X d 105 76 [some (P 0), some (I v1), some (I v2), some (I v3), some (I v4), some (I (w32 (v5 + 1)))] [] h Q) ∧ (¬ (s0 ≤ v3) → Q (I v5) h)) : X d 105 100 [some (P 0), some (I v1), some (I v2), some (I v3), some (I v4), some (I v5)] [I s0] h Q :=
  s_iload_n c105_100 rfl (s_ifc 107 (s0 ≤ v3) c105_101 (by decide) rfl ⟨fun q1 => s_iinc c105_107 rfl rfl rfl (s_goto 76 c105_110 (by decide) ((H.1 q1))), fun q1 => s_iload c105_104 rfl (s_retI c105_106 R105 (H.2 q1))⟩)
theorem b105_14 {d : Nat} {h : HP} {Q : PV → HP → Prop} {v1 v2 v3 v4 s0 : Int} (H : ((s0 = 0) → (((0 ≤ v3) → (((v3 ≤ 600) → X d 57 0 [some (P 41), some (I v2), none] [] h (fun _ h' => X (d + 1) 105 56 [some (P 0), some (I v1), some (I v2), some (I v3), some (I v4), none] [] h' Q)) ∧ (¬ (v3 ≤ 600) → X d 121 0 [some (P 0), some (I (-6))] [] h (fun r h' => X (d + 1) 105 47 [some (P 0), some (I v1), some (I v2), some (I v3), some (I v4), none] [r] h' Q)))) ∧ (¬ (0 ≤ v3) → X d 121 0 [some (P 0), some (I (-4))] [] h (fun r h' => X (d + 1) 105 33 [some (P 0), some (I v1), some (I v2), some (I v3), some (I v4), none] [r] h' Q)))) ∧ (¬ (s0 = 0) → X (d + 1) 105 17 [some (P 0), some (I v1), some (I v2), some (I v3), some (I v4), none] [] h Q)) : X (d + 1) 105 14 [some (P 0), some (I v1), some (I v2), some (I v3), some (I v4), none] [I s0] h Q :=
  s_if 23 (s0 = 0) c105_14 (by decide) rfl ⟨fun q2 => s_iload_n c105_23 rfl (s_if 34 (0 ≤ v3) c105_24 (by decide) rfl ⟨fun q3 => s_iload_n c105_34 rfl (s_sipush c105_35 ⟨by decide, by decide⟩ (s_ifc 48 (v3 ≤ 600) c105_38 (by decide) rfl ⟨fun q4 => s_aload_n c105_48 rfl (s_getP 41 c105_49 f105_28 t11_2 sh_0 g_0_2 (by decide) (by decide) (s_iload_n c105_52 rfl (s_cVv c105_53 m105_205 F57 K57 rfl (Nat.le_of_ble_eq_true rfl) rfl S57_41 rfl (((H.1 q2).1 q3).1 q4)))), fun q4 => s_aload_n c105_41 rfl (s_bipush c105_42 ⟨by decide, by decide⟩ (s_cVi c105_44 m105_71 F121 K121 rfl (Nat.le_of_ble_eq_true rfl) rfl S121_0 rfl (((H.1 q2).1 q3).2 q4)))⟩)), fun q3 => s_aload_n c105_27 rfl (s_bipush c105_28 ⟨by decide, by decide⟩ (s_cVi c105_30 m105_71 F121 K121 rfl (Nat.le_of_ble_eq_true rfl) rfl S121_0 rfl ((H.1 q2).2 q3)))⟩), fun q2 => (H.2 q2)⟩
theorem b105_17 {d : Nat} {h : HP} {Q : PV → HP → Prop} {v1 v2 v3 v4 : Int} (H : X d 121 0 [some (P 0), some (I (-1))] [] h (fun r h' => X (d + 1) 105 22 [some (P 0), some (I v1), some (I v2), some (I v3), some (I v4), none] [r] h' Q)) : X (d + 1) 105 17 [some (P 0), some (I v1), some (I v2), some (I v3), some (I v4), none] [] h Q :=
  s_aload_n c105_17 rfl (s_iconst c105_18 rfl (s_cVi c105_19 m105_71 F121 K121 rfl (Nat.le_of_ble_eq_true rfl) rfl S121_0 rfl H))
theorem b105_22 {d : Nat} {h : HP} {Q : PV → HP → Prop} {v1 v2 v3 v4 s0 : Int} (H : Q (I s0) h) : X d 105 22 [some (P 0), some (I v1), some (I v2), some (I v3), some (I v4), none] [I s0] h Q :=
  s_retI c105_22 R105 H
theorem b105_33 {d : Nat} {h : HP} {Q : PV → HP → Prop} {v1 v2 v3 v4 s0 : Int} (H : Q (I s0) h) : X d 105 33 [some (P 0), some (I v1), some (I v2), some (I v3), some (I v4), none] [I s0] h Q :=
  s_retI c105_33 R105 H
theorem b105_47 {d : Nat} {h : HP} {Q : PV → HP → Prop} {v1 v2 v3 v4 s0 : Int} (H : Q (I s0) h) : X d 105 47 [some (P 0), some (I v1), some (I v2), some (I v3), some (I v4), none] [I s0] h Q :=
  s_retI c105_47 R105 H
theorem b105_5 {d : Nat} {h : HP} {Q : PV → HP → Prop} {v1 v2 v3 v4 s0 : Int} (H : ((¬ s0 = 0) → X (d + 1) 105 17 [some (P 0), some (I v1), some (I v2), some (I v3), some (I v4), none] [] h Q) ∧ (¬ (¬ s0 = 0) → X d 123 0 [some (I v2), some (I 12)] [] h (fun r h' => X (d + 1) 105 14 [some (P 0), some (I v1), some (I v2), some (I v3), some (I v4), none] [r] h' Q))) : X (d + 1) 105 5 [some (P 0), some (I v1), some (I v2), some (I v3), some (I v4), none] [I s0] h Q :=
  s_if 17 (¬ s0 = 0) c105_5 (by decide) rfl ⟨fun q5 => (H.1 q5), fun q5 => s_iload_n c105_8 rfl (s_bipush c105_9 ⟨by decide, by decide⟩ (s_cSi c105_11 m105_67 F123 K123 rfl (Nat.le_of_ble_eq_true rfl) rfl rfl (H.2 q5)))⟩
theorem b105_56 {d : Nat} {h : HP} {Q : PV → HP → Prop} {v1 v2 v3 v4 : Int} (H : ((¬ v4 = 0) → X d 105 70 [some (P 0), some (I v1), some (I v2), some (I v3), some (I v4), none] [I 0, P 41] h Q) ∧ (¬ (¬ v4 = 0) → X d 105 70 [some (P 0), some (I v1), some (I v2), some (I v3), some (I v4), none] [I 1, P 41] h Q)) : X d 105 56 [some (P 0), some (I v1), some (I v2), some (I v3), some (I v4), none] [] h Q :=
  s_aload_n c105_56 rfl (s_getP 41 c105_57 f105_28 t11_2 sh_0 g_0_2 (by decide) (by decide) (s_iload c105_60 rfl (s_if 69 (¬ v4 = 0) c105_62 (by decide) rfl ⟨fun q6 => s_iconst c105_69 rfl ((H.1 q6)), fun q6 => s_iconst c105_65 rfl (s_goto 70 c105_66 (by decide) ((H.2 q6)))⟩)))
theorem b105_70 {d : Nat} {h : HP} {Q : PV → HP → Prop} {v1 v2 v3 v4 s1 : Int} (H : X d 60 0 [some (P 41), some (I s1), none] [] h (fun _ h' => X (d + 1) 105 73 [some (P 0), some (I v1), some (I v2), some (I v3), some (I v4), none] [] h' Q)) : X (d + 1) 105 70 [some (P 0), some (I v1), some (I v2), some (I v3), some (I v4), none] [I s1, P 41] h Q :=
  s_cVv c105_70 m105_226 F60 K60 rfl (Nat.le_of_ble_eq_true rfl) rfl S60_41 rfl H
theorem b105_73 {d : Nat} {h : HP} {Q : PV → HP → Prop} {v1 v2 v3 v4 : Int} (H : X d 105 76 [some (P 0), some (I v1), some (I v2), some (I v3), some (I v4), some (I 0)] [] h Q) : X d 105 73 [some (P 0), some (I v1), some (I v2), some (I v3), some (I v4), none] [] h Q :=
  s_iconst c105_73 rfl (s_istore c105_74 rfl (H))
theorem b105_76 {d : Nat} {h : HP} {Q : PV → HP → Prop} {v1 v2 v3 v4 v5 : Int} (H : ((10 ≤ v5) → Q (I (-9)) h) ∧ (¬ (10 ≤ v5) → X d 62 0 [some (P 41), some (I v1)] [] (up2 h 41 3 v5) (fun r h' => X (d + 1) 105 100 [some (P 0), some (I v1), some (I v2), some (I v3), some (I v4), some (I v5)] [r] h' Q))) : X (d + 1) 105 76 [some (P 0), some (I v1), some (I v2), some (I v3), some (I v4), some (I v5)] [] h Q :=
  s_iload c105_76 rfl (s_bipush c105_78 ⟨by decide, by decide⟩ (s_ifc 113 (10 ≤ v5) c105_80 (by decide) rfl ⟨fun q7 => s_bipush c105_113 ⟨by decide, by decide⟩ (s_retI c105_115 R105 (H.1 q7)), fun q7 => s_aload_n c105_83 rfl (s_getP 41 c105_84 f105_28 t11_2 sh_0 g_0_2 (by decide) (by decide) (s_iload c105_87 rfl (s_putI c105_89 f105_234 t7_3 n7_3 sh_41 (s_aload_n c105_92 rfl (s_getP 41 c105_93 f105_28 t11_2 sh_0 g_0_2 (by decide) (by decide) (s_iload_n c105_96 rfl (s_cVi c105_97 m105_208 F62 K62 rfl (Nat.le_of_ble_eq_true rfl) rfl S62_41 rfl (H.2 q7))))))))⟩))
-- WarmSide.refuseStarred(I)I
theorem c122_0 : cdA 122 0 = some (.ldc_w 310) := by decide +kernel
theorem k122_310 : cstR (moN 122) 310 = some 1000000000 := by decide +kernel
theorem c122_3 : cdA 122 3 = some (.aload_n 0) := by decide +kernel
theorem c122_4 : cdA 122 4 = some (.iload_n 1) := by decide +kernel
theorem c122_5 : cdA 122 5 = some (.invokevirtual 71) := by decide +kernel
theorem m122_71 : mthR (moN 122) 71 = 124 := by decide +kernel
theorem c122_8 : cdA 122 8 = some (.isub) := by decide +kernel
theorem c122_9 : cdA 122 9 = some (.ireturn) := by decide +kernel
theorem R122 : mK 122 = 0 := by decide +kernel
theorem b122_0 {d : Nat} {h : HP} {Q : PV → HP → Prop} {v1 : Int} (H : X d 121 0 [some (P 0), some (I v1)] [] h (fun r h' => X (d + 1) 122 8 [some (P 0), some (I v1)] [r, I 1000000000] h' Q)) : X (d + 1) 122 0 [some (P 0), some (I v1)] [] h Q :=
  s_ldcw c122_0 k122_310 rfl (s_aload_n c122_3 rfl (s_iload_n c122_4 rfl (s_cVi c122_5 m122_71 F121 K121 rfl (Nat.le_of_ble_eq_true rfl) rfl S121_0 rfl H)))
theorem b122_8 {d : Nat} {h : HP} {Q : PV → HP → Prop} {v1 s0 s1 : Int} (H : Q (I (w32 (s0 - s1))) h) : X d 122 8 [some (P 0), some (I v1)] [I s1, I s0] h Q :=
  s_isub c122_8 (s_retI c122_9 R122 H)
-- WarmSide.bolt(IIII)I
theorem c106_0 : cdA 106 0 = some (.iload_n 1) := by decide +kernel
theorem c106_1 : cdA 106 1 = some (.aload_n 0) := by decide +kernel
theorem c106_2 : cdA 106 2 = some (.getfield 10) := by decide +kernel
theorem f106_10 : fldR (moN 106) 10 = some (11, 0) := by decide +kernel
theorem c106_5 : cdA 106 5 = some (.getfield 128) := by decide +kernel
theorem f106_128 : fldR (moN 106) 128 = some (1, 1) := by decide +kernel
theorem c106_8 : cdA 106 8 = some (.getfield 139) := by decide +kernel
theorem f106_139 : fldR (moN 106) 139 = some (2, 1) := by decide +kernel
theorem c106_11 : cdA 106 11 = some (.invokestatic 67) := by decide +kernel
theorem m106_67 : mthR (moN 106) 67 = 126 := by decide +kernel
theorem c106_103 : cdA 106 103 = some (.goto 4) := by decide +kernel
theorem c106_107 : cdA 106 107 = some (.iastore) := by decide +kernel
theorem c106_108 : cdA 106 108 = some (.aload_n 0) := by decide +kernel
theorem c106_109 : cdA 106 109 = some (.getfield 28) := by decide +kernel
theorem f106_28 : fldR (moN 106) 28 = some (11, 2) := by decide +kernel
theorem c106_112 : cdA 106 112 = some (.iload_n 2) := by decide +kernel
theorem c106_113 : cdA 106 113 = some (.invokevirtual 208) := by decide +kernel
theorem m106_208 : mthR (moN 106) 208 = 65 := by decide +kernel
theorem c106_116 : cdA 106 116 = some (.iload 5) := by decide +kernel
theorem c106_118 : cdA 106 118 = some (.isub) := by decide +kernel
theorem c106_119 : cdA 106 119 = some (.ireturn) := by decide +kernel
theorem R106 : mK 106 = 0 := by decide +kernel
theorem c106_14 : cdA 106 14 = some (.ifCond .ne 20) := by decide +kernel
theorem c106_17 : cdA 106 17 = some (.aload_n 0) := by decide +kernel
theorem c106_18 : cdA 106 18 = some (.iload_n 2) := by decide +kernel
theorem c106_19 : cdA 106 19 = some (.invokevirtual 88) := by decide +kernel
theorem m106_88 : mthR (moN 106) 88 = 127 := by decide +kernel
theorem c106_22 : cdA 106 22 = some (.ifCond .ne 12) := by decide +kernel
theorem c106_25 : cdA 106 25 = some (.iload_n 3) := by decide +kernel
theorem c106_26 : cdA 106 26 = some (.bipush 12) := by decide +kernel
theorem c106_28 : cdA 106 28 = some (.invokestatic 67) := by decide +kernel
theorem c106_31 : cdA 106 31 = some (.ifCond .eq 9) := by decide +kernel
theorem c106_40 : cdA 106 40 = some (.iload 4) := by decide +kernel
theorem c106_42 : cdA 106 42 = some (.iconst 2) := by decide +kernel
theorem c106_43 : cdA 106 43 = some (.invokestatic 67) := by decide +kernel
theorem c106_34 : cdA 106 34 = some (.aload_n 0) := by decide +kernel
theorem c106_35 : cdA 106 35 = some (.iconst (-1)) := by decide +kernel
theorem c106_36 : cdA 106 36 = some (.invokevirtual 235) := by decide +kernel
theorem m106_235 : mthR (moN 106) 235 = 125 := by decide +kernel
theorem F122 : mF 122 1 2 true := by unfold mF; decide +kernel
theorem K122 : ¬ mK 122 = 4 := by decide +kernel
theorem S122_0 : SH0[0]? = some (.inl (moN 122)) := by decide +kernel
theorem c106_39 : cdA 106 39 = some (.ireturn) := by decide +kernel
theorem c106_46 : cdA 106 46 = some (.ifCond .eq 10) := by decide +kernel
theorem c106_56 : cdA 106 56 = some (.aload_n 0) := by decide +kernel
theorem c106_57 : cdA 106 57 = some (.getfield 28) := by decide +kernel
theorem c106_60 : cdA 106 60 = some (.iload_n 3) := by decide +kernel
theorem c106_61 : cdA 106 61 = some (.invokevirtual 205) := by decide +kernel
theorem m106_205 : mthR (moN 106) 205 = 60 := by decide +kernel
theorem c106_49 : cdA 106 49 = some (.aload_n 0) := by decide +kernel
theorem c106_50 : cdA 106 50 = some (.bipush (-2)) := by decide +kernel
theorem c106_52 : cdA 106 52 = some (.invokevirtual 235) := by decide +kernel
theorem c106_55 : cdA 106 55 = some (.ireturn) := by decide +kernel
theorem c106_64 : cdA 106 64 = some (.aload_n 0) := by decide +kernel
theorem c106_65 : cdA 106 65 = some (.getfield 28) := by decide +kernel
theorem c106_68 : cdA 106 68 = some (.iload_n 2) := by decide +kernel
theorem c106_69 : cdA 106 69 = some (.invokevirtual 208) := by decide +kernel
theorem c106_72 : cdA 106 72 = some (.istore 5) := by decide +kernel
theorem c106_74 : cdA 106 74 = some (.aload_n 0) := by decide +kernel
theorem c106_75 : cdA 106 75 = some (.getfield 28) := by decide +kernel
theorem c106_78 : cdA 106 78 = some (.getfield 238) := by decide +kernel
theorem f106_238 : fldR (moN 106) 238 = some (7, 13) := by decide +kernel
theorem c106_81 : cdA 106 81 = some (.iload_n 1) := by decide +kernel
theorem c106_82 : cdA 106 82 = some (.iload 4) := by decide +kernel
theorem c106_84 : cdA 106 84 = some (.ifCond .ne 22) := by decide +kernel
theorem c106_106 : cdA 106 106 = some (.iconst 0) := by decide +kernel
theorem c106_87 : cdA 106 87 = some (.bipush 99) := by decide +kernel
theorem c106_89 : cdA 106 89 = some (.aload_n 0) := by decide +kernel
theorem c106_90 : cdA 106 90 = some (.getfield 28) := by decide +kernel
theorem c106_93 : cdA 106 93 = some (.getfield 238) := by decide +kernel
theorem c106_96 : cdA 106 96 = some (.iload_n 1) := by decide +kernel
theorem c106_97 : cdA 106 97 = some (.iaload) := by decide +kernel
theorem c106_98 : cdA 106 98 = some (.iconst 1) := by decide +kernel
theorem c106_99 : cdA 106 99 = some (.iadd) := by decide +kernel
theorem c106_100 : cdA 106 100 = some (.invokestatic 241) := by decide +kernel
theorem m106_241 : mthR (moN 106) 241 = 228 := by decide +kernel
theorem b106_0 {d : Nat} {h : HP} {Q : PV → HP → Prop} {v1 v2 v3 v4 : Int} (H : X d 123 0 [some (I v1), some (I (h 12 1))] [] h (fun r h' => X (d + 1) 106 14 [some (P 0), some (I v1), some (I v2), some (I v3), some (I v4), none] [r] h' Q)) : X (d + 1) 106 0 [some (P 0), some (I v1), some (I v2), some (I v3), some (I v4), none] [] h Q :=
  s_iload_n c106_0 rfl (s_aload_n c106_1 rfl (s_getP 1 c106_2 f106_10 t11_0 sh_0 g_0_0 (by decide) (by decide) (s_getP 12 c106_5 f106_128 t1_1 sh_1 g_1_1 (by decide) (by decide) (s_getI c106_8 f106_139 t2_1 sh_12 (s_cSi c106_11 m106_67 F123 K123 rfl (Nat.le_of_ble_eq_true rfl) rfl rfl H)))))
theorem b106_103 {d : Nat} {h : HP} {Q : PV → HP → Prop} {v1 v2 v3 v4 v5 s1 s2 : Int} (H : X d 106 107 [some (P 0), some (I v1), some (I v2), some (I v3), some (I v4), some (I v5)] [I s2, I s1, P 43] h Q) : X d 106 103 [some (P 0), some (I v1), some (I v2), some (I v3), some (I v4), some (I v5)] [I s2, I s1, P 43] h Q :=
  s_goto 107 c106_103 (by decide) (H)
theorem b106_107 {d : Nat} {h : HP} {Q : PV → HP → Prop} {v1 v2 v3 v4 v5 s1 s2 : Int} (H : (0 ≤ s1 ∧ s1 < 20) ∧ X d 62 0 [some (P 41), some (I v2)] [] (up2 h 43 s1.toNat s2) (fun r h' => X (d + 1) 106 116 [some (P 0), some (I v1), some (I v2), some (I v3), some (I v4), some (I v5)] [r] h' Q)) : X (d + 1) 106 107 [some (P 0), some (I v1), some (I v2), some (I v3), some (I v4), some (I v5)] [I s2, I s1, P 43] h Q :=
  s_iast c106_107 sh_43 ⟨H.1, s_aload_n c106_108 rfl (s_getP 41 c106_109 f106_28 t11_2 sh_0 g_0_2 (by decide) (by decide) (s_iload_n c106_112 rfl (s_cVi c106_113 m106_208 F62 K62 rfl (Nat.le_of_ble_eq_true rfl) rfl S62_41 rfl H.2)))⟩
theorem b106_116 {d : Nat} {h : HP} {Q : PV → HP → Prop} {v1 v2 v3 v4 v5 s0 : Int} (H : Q (I (w32 (s0 - v5))) h) : X d 106 116 [some (P 0), some (I v1), some (I v2), some (I v3), some (I v4), some (I v5)] [I s0] h Q :=
  s_iload c106_116 rfl (s_isub c106_118 (s_retI c106_119 R106 H))
theorem b106_14 {d : Nat} {h : HP} {Q : PV → HP → Prop} {v1 v2 v3 v4 s0 : Int} (H : ((¬ s0 = 0) → X (d + 1) 106 34 [some (P 0), some (I v1), some (I v2), some (I v3), some (I v4), none] [] h Q) ∧ (¬ (¬ s0 = 0) → X d 124 0 [some (P 0), some (I v2)] [] h (fun r h' => X (d + 1) 106 22 [some (P 0), some (I v1), some (I v2), some (I v3), some (I v4), none] [r] h' Q))) : X (d + 1) 106 14 [some (P 0), some (I v1), some (I v2), some (I v3), some (I v4), none] [I s0] h Q :=
  s_if 34 (¬ s0 = 0) c106_14 (by decide) rfl ⟨fun q1 => (H.1 q1), fun q1 => s_aload_n c106_17 rfl (s_iload_n c106_18 rfl (s_cVi c106_19 m106_88 F124 K124 rfl (Nat.le_of_ble_eq_true rfl) rfl S124_0 rfl (H.2 q1)))⟩
theorem b106_22 {d : Nat} {h : HP} {Q : PV → HP → Prop} {v1 v2 v3 v4 s0 : Int} (H : ((¬ s0 = 0) → X (d + 1) 106 34 [some (P 0), some (I v1), some (I v2), some (I v3), some (I v4), none] [] h Q) ∧ (¬ (¬ s0 = 0) → X d 123 0 [some (I v3), some (I 12)] [] h (fun r h' => X (d + 1) 106 31 [some (P 0), some (I v1), some (I v2), some (I v3), some (I v4), none] [r] h' Q))) : X (d + 1) 106 22 [some (P 0), some (I v1), some (I v2), some (I v3), some (I v4), none] [I s0] h Q :=
  s_if 34 (¬ s0 = 0) c106_22 (by decide) rfl ⟨fun q2 => (H.1 q2), fun q2 => s_iload_n c106_25 rfl (s_bipush c106_26 ⟨by decide, by decide⟩ (s_cSi c106_28 m106_67 F123 K123 rfl (Nat.le_of_ble_eq_true rfl) rfl rfl (H.2 q2)))⟩
theorem b106_31 {d : Nat} {h : HP} {Q : PV → HP → Prop} {v1 v2 v3 v4 s0 : Int} (H : ((s0 = 0) → X d 123 0 [some (I v4), some (I 2)] [] h (fun r h' => X (d + 1) 106 46 [some (P 0), some (I v1), some (I v2), some (I v3), some (I v4), none] [r] h' Q)) ∧ (¬ (s0 = 0) → X (d + 1) 106 34 [some (P 0), some (I v1), some (I v2), some (I v3), some (I v4), none] [] h Q)) : X (d + 1) 106 31 [some (P 0), some (I v1), some (I v2), some (I v3), some (I v4), none] [I s0] h Q :=
  s_if 40 (s0 = 0) c106_31 (by decide) rfl ⟨fun q3 => s_iload c106_40 rfl (s_iconst c106_42 rfl (s_cSi c106_43 m106_67 F123 K123 rfl (Nat.le_of_ble_eq_true rfl) rfl rfl (H.1 q3))), fun q3 => (H.2 q3)⟩
theorem b106_34 {d : Nat} {h : HP} {Q : PV → HP → Prop} {v1 v2 v3 v4 : Int} (H : X d 122 0 [some (P 0), some (I (-1))] [] h (fun r h' => X (d + 1) 106 39 [some (P 0), some (I v1), some (I v2), some (I v3), some (I v4), none] [r] h' Q)) : X (d + 1) 106 34 [some (P 0), some (I v1), some (I v2), some (I v3), some (I v4), none] [] h Q :=
  s_aload_n c106_34 rfl (s_iconst c106_35 rfl (s_cVi c106_36 m106_235 F122 K122 rfl (Nat.le_of_ble_eq_true rfl) rfl S122_0 rfl H))
theorem b106_39 {d : Nat} {h : HP} {Q : PV → HP → Prop} {v1 v2 v3 v4 s0 : Int} (H : Q (I s0) h) : X d 106 39 [some (P 0), some (I v1), some (I v2), some (I v3), some (I v4), none] [I s0] h Q :=
  s_retI c106_39 R106 H
theorem b106_46 {d : Nat} {h : HP} {Q : PV → HP → Prop} {v1 v2 v3 v4 s0 : Int} (H : ((s0 = 0) → X d 57 0 [some (P 41), some (I v3), none] [] h (fun _ h' => X (d + 1) 106 64 [some (P 0), some (I v1), some (I v2), some (I v3), some (I v4), none] [] h' Q)) ∧ (¬ (s0 = 0) → X d 122 0 [some (P 0), some (I (-2))] [] h (fun r h' => X (d + 1) 106 55 [some (P 0), some (I v1), some (I v2), some (I v3), some (I v4), none] [r] h' Q))) : X (d + 1) 106 46 [some (P 0), some (I v1), some (I v2), some (I v3), some (I v4), none] [I s0] h Q :=
  s_if 56 (s0 = 0) c106_46 (by decide) rfl ⟨fun q4 => s_aload_n c106_56 rfl (s_getP 41 c106_57 f106_28 t11_2 sh_0 g_0_2 (by decide) (by decide) (s_iload_n c106_60 rfl (s_cVv c106_61 m106_205 F57 K57 rfl (Nat.le_of_ble_eq_true rfl) rfl S57_41 rfl (H.1 q4)))), fun q4 => s_aload_n c106_49 rfl (s_bipush c106_50 ⟨by decide, by decide⟩ (s_cVi c106_52 m106_235 F122 K122 rfl (Nat.le_of_ble_eq_true rfl) rfl S122_0 rfl (H.2 q4)))⟩
theorem b106_55 {d : Nat} {h : HP} {Q : PV → HP → Prop} {v1 v2 v3 v4 s0 : Int} (H : Q (I s0) h) : X d 106 55 [some (P 0), some (I v1), some (I v2), some (I v3), some (I v4), none] [I s0] h Q :=
  s_retI c106_55 R106 H
theorem b106_64 {d : Nat} {h : HP} {Q : PV → HP → Prop} {v1 v2 v3 v4 : Int} (H : X d 62 0 [some (P 41), some (I v2)] [] h (fun r h' => X (d + 1) 106 72 [some (P 0), some (I v1), some (I v2), some (I v3), some (I v4), none] [r] h' Q)) : X (d + 1) 106 64 [some (P 0), some (I v1), some (I v2), some (I v3), some (I v4), none] [] h Q :=
  s_aload_n c106_64 rfl (s_getP 41 c106_65 f106_28 t11_2 sh_0 g_0_2 (by decide) (by decide) (s_iload_n c106_68 rfl (s_cVi c106_69 m106_208 F62 K62 rfl (Nat.le_of_ble_eq_true rfl) rfl S62_41 rfl H)))
theorem b106_72 {d : Nat} {h : HP} {Q : PV → HP → Prop} {v1 v2 v3 v4 s0 : Int} (H : ((¬ v4 = 0) → X (d + 1) 106 107 [some (P 0), some (I v1), some (I v2), some (I v3), some (I v4), some (I s0)] [I 0, I v1, P 43] h Q) ∧ (¬ (¬ v4 = 0) → ((0 ≤ v1 ∧ v1 < 20) ∧ X d 225 0 [some (I 99), some (I (w32 ((h 43 v1.toNat) + 1)))] [] h (fun r h' => X (d + 1) 106 103 [some (P 0), some (I v1), some (I v2), some (I v3), some (I v4), some (I s0)] [r, I v1, P 43] h' Q)))) : X (d + 1) 106 72 [some (P 0), some (I v1), some (I v2), some (I v3), some (I v4), none] [I s0] h Q :=
  s_istore c106_72 rfl (s_aload_n c106_74 rfl (s_getP 41 c106_75 f106_28 t11_2 sh_0 g_0_2 (by decide) (by decide) (s_getP 43 c106_78 f106_238 t7_13 sh_41 g_41_13 (by decide) (by decide) (s_iload_n c106_81 rfl (s_iload c106_82 rfl (s_if 106 (¬ v4 = 0) c106_84 (by decide) rfl ⟨fun q5 => s_iconst c106_106 rfl ((H.1 q5)), fun q5 => s_bipush c106_87 ⟨by decide, by decide⟩ (s_aload_n c106_89 rfl (s_getP 41 c106_90 f106_28 t11_2 sh_0 g_0_2 (by decide) (by decide) (s_getP 43 c106_93 f106_238 t7_13 sh_41 g_41_13 (by decide) (by decide) (s_iload_n c106_96 rfl (s_iald c106_97 sh_43 ⟨(H.2 q5).1, s_iconst c106_98 rfl (s_iadd c106_99 (s_cSi c106_100 m106_241 F225 K225 rfl (Nat.le_of_ble_eq_true rfl) rfl rfl (H.2 q5).2))⟩)))))⟩))))))
-- WarmSide.matters(II)I
theorem c107_0 : cdA 107 0 = some (.aload_n 0) := by decide +kernel
theorem c107_1 : cdA 107 1 = some (.iload_n 1) := by decide +kernel
theorem c107_2 : cdA 107 2 = some (.invokevirtual 88) := by decide +kernel
theorem m107_88 : mthR (moN 107) 88 = 127 := by decide +kernel
theorem c107_129 : cdA 107 129 = some (.iinc 6 1) := by decide +kernel
theorem c107_132 : cdA 107 132 = some (.goto (-82)) := by decide +kernel
theorem c107_14 : cdA 107 14 = some (.ifCond .eq 9) := by decide +kernel
theorem c107_23 : cdA 107 23 = some (.aload_n 0) := by decide +kernel
theorem c107_24 : cdA 107 24 = some (.getfield 28) := by decide +kernel
theorem f107_28 : fldR (moN 107) 28 = some (11, 2) := by decide +kernel
theorem c107_27 : cdA 107 27 = some (.iload_n 2) := by decide +kernel
theorem c107_28 : cdA 107 28 = some (.invokevirtual 205) := by decide +kernel
theorem m107_205 : mthR (moN 107) 205 = 60 := by decide +kernel
theorem c107_17 : cdA 107 17 = some (.aload_n 0) := by decide +kernel
theorem c107_18 : cdA 107 18 = some (.iconst (-1)) := by decide +kernel
theorem c107_19 : cdA 107 19 = some (.invokevirtual 71) := by decide +kernel
theorem m107_71 : mthR (moN 107) 71 = 124 := by decide +kernel
theorem c107_22 : cdA 107 22 = some (.ireturn) := by decide +kernel
theorem R107 : mK 107 = 0 := by decide +kernel
theorem c107_31 : cdA 107 31 = some (.aload_n 0) := by decide +kernel
theorem c107_32 : cdA 107 32 = some (.getfield 28) := by decide +kernel
theorem c107_35 : cdA 107 35 = some (.iload_n 1) := by decide +kernel
theorem c107_36 : cdA 107 36 = some (.invokevirtual 208) := by decide +kernel
theorem m107_208 : mthR (moN 107) 208 = 65 := by decide +kernel
theorem c107_39 : cdA 107 39 = some (.istore_n 3) := by decide +kernel
theorem c107_40 : cdA 107 40 = some (.bipush (-9)) := by decide +kernel
theorem c107_42 : cdA 107 42 = some (.istore 4) := by decide +kernel
theorem c107_44 : cdA 107 44 = some (.iconst (-1)) := by decide +kernel
theorem c107_45 : cdA 107 45 = some (.istore 5) := by decide +kernel
theorem c107_47 : cdA 107 47 = some (.iconst 0) := by decide +kernel
theorem c107_48 : cdA 107 48 = some (.istore 6) := by decide +kernel
theorem c107_5 : cdA 107 5 = some (.ifCond .ne 12) := by decide +kernel
theorem c107_8 : cdA 107 8 = some (.iload_n 2) := by decide +kernel
theorem c107_9 : cdA 107 9 = some (.bipush 12) := by decide +kernel
theorem c107_11 : cdA 107 11 = some (.invokestatic 67) := by decide +kernel
theorem m107_67 : mthR (moN 107) 67 = 126 := by decide +kernel
theorem c107_50 : cdA 107 50 = some (.iload 6) := by decide +kernel
theorem c107_52 : cdA 107 52 = some (.aload_n 0) := by decide +kernel
theorem c107_53 : cdA 107 53 = some (.getfield 10) := by decide +kernel
theorem f107_10 : fldR (moN 107) 10 = some (11, 0) := by decide +kernel
theorem c107_56 : cdA 107 56 = some (.getfield 128) := by decide +kernel
theorem f107_128 : fldR (moN 107) 128 = some (1, 1) := by decide +kernel
theorem c107_59 : cdA 107 59 = some (.getfield 139) := by decide +kernel
theorem f107_139 : fldR (moN 107) 139 = some (2, 1) := by decide +kernel
theorem c107_62 : cdA 107 62 = some (.if_icmp .ge 73) := by decide +kernel
theorem c107_135 : cdA 107 135 = some (.iload 4) := by decide +kernel
theorem c107_137 : cdA 107 137 = some (.ireturn) := by decide +kernel
theorem c107_65 : cdA 107 65 = some (.aload_n 0) := by decide +kernel
theorem c107_66 : cdA 107 66 = some (.getfield 28) := by decide +kernel
theorem c107_69 : cdA 107 69 = some (.getfield 238) := by decide +kernel
theorem f107_238 : fldR (moN 107) 238 = some (7, 13) := by decide +kernel
theorem c107_72 : cdA 107 72 = some (.iload 6) := by decide +kernel
theorem c107_74 : cdA 107 74 = some (.iconst 0) := by decide +kernel
theorem c107_75 : cdA 107 75 = some (.iastore) := by decide +kernel
theorem c107_76 : cdA 107 76 = some (.aload_n 0) := by decide +kernel
theorem c107_77 : cdA 107 77 = some (.getfield 28) := by decide +kernel
theorem c107_80 : cdA 107 80 = some (.iload_n 1) := by decide +kernel
theorem c107_81 : cdA 107 81 = some (.invokevirtual 208) := by decide +kernel
theorem c107_84 : cdA 107 84 = some (.iload_n 3) := by decide +kernel
theorem c107_85 : cdA 107 85 = some (.isub) := by decide +kernel
theorem c107_86 : cdA 107 86 = some (.invokestatic 246) := by decide +kernel
theorem m107_246 : mthR (moN 107) 246 = 226 := by decide +kernel
theorem F223 : mF 223 1 1 false := by unfold mF; decide +kernel
theorem K223 : ¬ mK 223 = 4 := by decide +kernel
theorem c107_89 : cdA 107 89 = some (.istore 7) := by decide +kernel
theorem c107_91 : cdA 107 91 = some (.aload_n 0) := by decide +kernel
theorem c107_92 : cdA 107 92 = some (.getfield 28) := by decide +kernel
theorem c107_95 : cdA 107 95 = some (.getfield 238) := by decide +kernel
theorem c107_98 : cdA 107 98 = some (.iload 6) := by decide +kernel
theorem c107_100 : cdA 107 100 = some (.aload_n 0) := by decide +kernel
theorem c107_101 : cdA 107 101 = some (.getfield 10) := by decide +kernel
theorem c107_104 : cdA 107 104 = some (.getfield 128) := by decide +kernel
theorem c107_107 : cdA 107 107 = some (.getfield 249) := by decide +kernel
theorem f107_249 : fldR (moN 107) 249 = some (2, 4) := by decide +kernel
theorem c107_110 : cdA 107 110 = some (.iload 6) := by decide +kernel
theorem c107_112 : cdA 107 112 = some (.iaload) := by decide +kernel
theorem c107_113 : cdA 107 113 = some (.iastore) := by decide +kernel
theorem c107_114 : cdA 107 114 = some (.iload 7) := by decide +kernel
theorem c107_116 : cdA 107 116 = some (.iload 5) := by decide +kernel
theorem c107_118 : cdA 107 118 = some (.if_icmp .le 11) := by decide +kernel
theorem c107_121 : cdA 107 121 = some (.iload 7) := by decide +kernel
theorem c107_123 : cdA 107 123 = some (.istore 5) := by decide +kernel
theorem c107_125 : cdA 107 125 = some (.iload 6) := by decide +kernel
theorem c107_127 : cdA 107 127 = some (.istore 4) := by decide +kernel
theorem b107_0 {d : Nat} {h : HP} {Q : PV → HP → Prop} {v1 v2 : Int} (H : X d 124 0 [some (P 0), some (I v1)] [] h (fun r h' => X (d + 1) 107 5 [some (P 0), some (I v1), some (I v2), none, none, none, none, none] [r] h' Q)) : X (d + 1) 107 0 [some (P 0), some (I v1), some (I v2), none, none, none, none, none] [] h Q :=
  s_aload_n c107_0 rfl (s_iload_n c107_1 rfl (s_cVi c107_2 m107_88 F124 K124 rfl (Nat.le_of_ble_eq_true rfl) rfl S124_0 rfl H))
theorem b107_129 {d : Nat} {h : HP} {Q : PV → HP → Prop} {v1 v2 v3 v4 v5 v6 v7 : Int} (H : X d 107 50 [some (P 0), some (I v1), some (I v2), some (I v3), some (I v4), some (I v5), some (I (w32 (v6 + 1))), none] [] h Q) : X d 107 129 [some (P 0), some (I v1), some (I v2), some (I v3), some (I v4), some (I v5), some (I v6), some (I v7)] [] h Q :=
  s_iinc c107_129 rfl rfl rfl (s_goto 50 c107_132 (by decide) (X_weak (A := [some (P 0), some (I v1), some (I v2), some (I v3), some (I v4), some (I v5), some (I (w32 (v6 + 1))), none]) (B := [some (P 0), some (I v1), some (I v2), some (I v3), some (I v4), some (I v5), some (I (w32 (v6 + 1))), some (I v7)]) ⟨Or.inl rfl, Or.inl rfl, Or.inl rfl, Or.inl rfl, Or.inl rfl, Or.inl rfl, Or.inl rfl, Or.inr ⟨rfl, _, rfl, rfl⟩, trivial⟩ H))
theorem b107_14 {d : Nat} {h : HP} {Q : PV → HP → Prop} {v1 v2 s0 : Int} (H : ((s0 = 0) → X d 57 0 [some (P 41), some (I v2), none] [] h (fun _ h' => X (d + 1) 107 31 [some (P 0), some (I v1), some (I v2), none, none, none, none, none] [] h' Q)) ∧ (¬ (s0 = 0) → X (d + 1) 107 17 [some (P 0), some (I v1), some (I v2), none, none, none, none, none] [] h Q)) : X (d + 1) 107 14 [some (P 0), some (I v1), some (I v2), none, none, none, none, none] [I s0] h Q :=
  s_if 23 (s0 = 0) c107_14 (by decide) rfl ⟨fun q1 => s_aload_n c107_23 rfl (s_getP 41 c107_24 f107_28 t11_2 sh_0 g_0_2 (by decide) (by decide) (s_iload_n c107_27 rfl (s_cVv c107_28 m107_205 F57 K57 rfl (Nat.le_of_ble_eq_true rfl) rfl S57_41 rfl (H.1 q1)))), fun q1 => (H.2 q1)⟩
theorem b107_17 {d : Nat} {h : HP} {Q : PV → HP → Prop} {v1 v2 : Int} (H : X d 121 0 [some (P 0), some (I (-1))] [] h (fun r h' => X (d + 1) 107 22 [some (P 0), some (I v1), some (I v2), none, none, none, none, none] [r] h' Q)) : X (d + 1) 107 17 [some (P 0), some (I v1), some (I v2), none, none, none, none, none] [] h Q :=
  s_aload_n c107_17 rfl (s_iconst c107_18 rfl (s_cVi c107_19 m107_71 F121 K121 rfl (Nat.le_of_ble_eq_true rfl) rfl S121_0 rfl H))
theorem b107_22 {d : Nat} {h : HP} {Q : PV → HP → Prop} {v1 v2 s0 : Int} (H : Q (I s0) h) : X d 107 22 [some (P 0), some (I v1), some (I v2), none, none, none, none, none] [I s0] h Q :=
  s_retI c107_22 R107 H
theorem b107_31 {d : Nat} {h : HP} {Q : PV → HP → Prop} {v1 v2 : Int} (H : X d 62 0 [some (P 41), some (I v1)] [] h (fun r h' => X (d + 1) 107 39 [some (P 0), some (I v1), some (I v2), none, none, none, none, none] [r] h' Q)) : X (d + 1) 107 31 [some (P 0), some (I v1), some (I v2), none, none, none, none, none] [] h Q :=
  s_aload_n c107_31 rfl (s_getP 41 c107_32 f107_28 t11_2 sh_0 g_0_2 (by decide) (by decide) (s_iload_n c107_35 rfl (s_cVi c107_36 m107_208 F62 K62 rfl (Nat.le_of_ble_eq_true rfl) rfl S62_41 rfl H)))
theorem b107_39 {d : Nat} {h : HP} {Q : PV → HP → Prop} {v1 v2 s0 : Int} (H : X d 107 50 [some (P 0), some (I v1), some (I v2), some (I s0), some (I (-9)), some (I (-1)), some (I 0), none] [] h Q) : X d 107 39 [some (P 0), some (I v1), some (I v2), none, none, none, none, none] [I s0] h Q :=
  s_istore_n c107_39 rfl (s_bipush c107_40 ⟨by decide, by decide⟩ (s_istore c107_42 rfl (s_iconst c107_44 rfl (s_istore c107_45 rfl (s_iconst c107_47 rfl (s_istore c107_48 rfl (H)))))))
theorem b107_5 {d : Nat} {h : HP} {Q : PV → HP → Prop} {v1 v2 s0 : Int} (H : ((¬ s0 = 0) → X (d + 1) 107 17 [some (P 0), some (I v1), some (I v2), none, none, none, none, none] [] h Q) ∧ (¬ (¬ s0 = 0) → X d 123 0 [some (I v2), some (I 12)] [] h (fun r h' => X (d + 1) 107 14 [some (P 0), some (I v1), some (I v2), none, none, none, none, none] [r] h' Q))) : X (d + 1) 107 5 [some (P 0), some (I v1), some (I v2), none, none, none, none, none] [I s0] h Q :=
  s_if 17 (¬ s0 = 0) c107_5 (by decide) rfl ⟨fun q2 => (H.1 q2), fun q2 => s_iload_n c107_8 rfl (s_bipush c107_9 ⟨by decide, by decide⟩ (s_cSi c107_11 m107_67 F123 K123 rfl (Nat.le_of_ble_eq_true rfl) rfl rfl (H.2 q2)))⟩
theorem b107_50 {d : Nat} {h : HP} {Q : PV → HP → Prop} {v1 v2 v3 v4 v5 v6 : Int} (H : (((h 12 1) ≤ v6) → Q (I v4) h) ∧ (¬ ((h 12 1) ≤ v6) → ((0 ≤ v6 ∧ v6 < 20) ∧ X d 62 0 [some (P 41), some (I v1)] [] (up2 h 43 v6.toNat 0) (fun r h' => X (d + 1) 107 84 [some (P 0), some (I v1), some (I v2), some (I v3), some (I v4), some (I v5), some (I v6), none] [r] h' Q)))) : X (d + 1) 107 50 [some (P 0), some (I v1), some (I v2), some (I v3), some (I v4), some (I v5), some (I v6), none] [] h Q :=
  s_iload c107_50 rfl (s_aload_n c107_52 rfl (s_getP 1 c107_53 f107_10 t11_0 sh_0 g_0_0 (by decide) (by decide) (s_getP 12 c107_56 f107_128 t1_1 sh_1 g_1_1 (by decide) (by decide) (s_getI c107_59 f107_139 t2_1 sh_12 (s_ifc 135 ((h 12 1) ≤ v6) c107_62 (by decide) rfl ⟨fun q3 => s_iload c107_135 rfl (s_retI c107_137 R107 (H.1 q3)), fun q3 => s_aload_n c107_65 rfl (s_getP 41 c107_66 f107_28 t11_2 sh_0 g_0_2 (by decide) (by decide) (s_getP 43 c107_69 f107_238 t7_13 sh_41 g_41_13 (by decide) (by decide) (s_iload c107_72 rfl (s_iconst c107_74 rfl (s_iast c107_75 sh_43 ⟨(H.2 q3).1, s_aload_n c107_76 rfl (s_getP 41 c107_77 f107_28 t11_2 sh_0 g_0_2 (by decide) (by decide) (s_iload_n c107_80 rfl (s_cVi c107_81 m107_208 F62 K62 rfl (Nat.le_of_ble_eq_true rfl) rfl S62_41 rfl (H.2 q3).2)))⟩)))))⟩)))))
theorem b107_84 {d : Nat} {h : HP} {Q : PV → HP → Prop} {v1 v2 v3 v4 v5 v6 s0 : Int} (H : X d 223 0 [some (I (w32 (s0 - v3)))] [] h (fun r h' => X (d + 1) 107 89 [some (P 0), some (I v1), some (I v2), some (I v3), some (I v4), some (I v5), some (I v6), none] [r] h' Q)) : X (d + 1) 107 84 [some (P 0), some (I v1), some (I v2), some (I v3), some (I v4), some (I v5), some (I v6), none] [I s0] h Q :=
  s_iload_n c107_84 rfl (s_isub c107_85 (s_cSi c107_86 m107_246 F223 K223 rfl (Nat.le_of_ble_eq_true rfl) rfl rfl H))
theorem b107_89 {d : Nat} {h : HP} {Q : PV → HP → Prop} {v1 v2 v3 v4 v5 v6 s0 : Int} (H : (0 ≤ v6 ∧ v6 < 20) ∧ ((0 ≤ v6 ∧ v6 < 20) ∧ (((s0 ≤ v5) → X d 107 129 [some (P 0), some (I v1), some (I v2), some (I v3), some (I v4), some (I v5), some (I v6), some (I s0)] [] (up2 h 43 v6.toNat (h 15 v6.toNat)) Q) ∧ (¬ (s0 ≤ v5) → X d 107 129 [some (P 0), some (I v1), some (I v2), some (I v3), some (I v6), some (I s0), some (I v6), some (I s0)] [] (up2 h 43 v6.toNat (h 15 v6.toNat)) Q)))) : X d 107 89 [some (P 0), some (I v1), some (I v2), some (I v3), some (I v4), some (I v5), some (I v6), none] [I s0] h Q :=
  s_istore c107_89 rfl (s_aload_n c107_91 rfl (s_getP 41 c107_92 f107_28 t11_2 sh_0 g_0_2 (by decide) (by decide) (s_getP 43 c107_95 f107_238 t7_13 sh_41 g_41_13 (by decide) (by decide) (s_iload c107_98 rfl (s_aload_n c107_100 rfl (s_getP 1 c107_101 f107_10 t11_0 sh_0 g_0_0 (by decide) (by decide) (s_getP 12 c107_104 f107_128 t1_1 sh_1 g_1_1 (by decide) (by decide) (s_getP 15 c107_107 f107_249 t2_4 sh_12 g_12_4 (by decide) (by decide) (s_iload c107_110 rfl (s_iald c107_112 sh_15 ⟨H.1, s_iast c107_113 sh_43 ⟨H.2.1, s_iload c107_114 rfl (s_iload c107_116 rfl (s_ifc 129 (s0 ≤ v5) c107_118 (by decide) rfl ⟨fun q4 => (H.2.2.1 q4), fun q4 => s_iload c107_121 rfl (s_istore c107_123 rfl (s_iload c107_125 rfl (s_istore c107_127 rfl ((H.2.2.2 q4)))))⟩))⟩⟩))))))))))
-- WarmSide.test(IIIII)I
theorem c108_0 : cdA 108 0 = some (.aload_n 0) := by decide +kernel
theorem c108_1 : cdA 108 1 = some (.iload_n 1) := by decide +kernel
theorem c108_2 : cdA 108 2 = some (.invokevirtual 88) := by decide +kernel
theorem m108_88 : mthR (moN 108) 88 = 127 := by decide +kernel
theorem c108_13 : cdA 108 13 = some (.ifCond .eq 9) := by decide +kernel
theorem c108_22 : cdA 108 22 = some (.iload_n 2) := by decide +kernel
theorem c108_23 : cdA 108 23 = some (.ifCond .lt 13) := by decide +kernel
theorem c108_26 : cdA 108 26 = some (.iload 4) := by decide +kernel
theorem c108_28 : cdA 108 28 = some (.ifCond .lt 8) := by decide +kernel
theorem c108_31 : cdA 108 31 = some (.iload 5) := by decide +kernel
theorem c108_33 : cdA 108 33 = some (.ifCond .ge 10) := by decide +kernel
theorem c108_43 : cdA 108 43 = some (.iload_n 2) := by decide +kernel
theorem c108_44 : cdA 108 44 = some (.sipush 999) := by decide +kernel
theorem c108_47 : cdA 108 47 = some (.if_icmp .gt 30) := by decide +kernel
theorem c108_50 : cdA 108 50 = some (.iload 4) := by decide +kernel
theorem c108_52 : cdA 108 52 = some (.sipush 600) := by decide +kernel
theorem c108_55 : cdA 108 55 = some (.if_icmp .gt 22) := by decide +kernel
theorem c108_58 : cdA 108 58 = some (.iload 5) := by decide +kernel
theorem c108_60 : cdA 108 60 = some (.bipush 99) := by decide +kernel
theorem c108_62 : cdA 108 62 = some (.if_icmp .gt 15) := by decide +kernel
theorem c108_65 : cdA 108 65 = some (.aload_n 0) := by decide +kernel
theorem c108_66 : cdA 108 66 = some (.getfield 51) := by decide +kernel
theorem f108_51 : fldR (moN 108) 51 = some (11, 5) := by decide +kernel
theorem t11_5 : fcl 11 5 = 2 := by decide +kernel
theorem c108_69 : cdA 108 69 = some (.getfield 250) := by decide +kernel
theorem f108_250 : fldR (moN 108) 250 = some (10, 0) := by decide +kernel
theorem c108_72 : cdA 108 72 = some (.bipush 10) := by decide +kernel
theorem c108_74 : cdA 108 74 = some (.if_icmp .lt 10) := by decide +kernel
theorem c108_84 : cdA 108 84 = some (.aload_n 0) := by decide +kernel
theorem c108_85 : cdA 108 85 = some (.getfield 51) := by decide +kernel
theorem c108_88 : cdA 108 88 = some (.iload_n 1) := by decide +kernel
theorem c108_89 : cdA 108 89 = some (.iload_n 2) := by decide +kernel
theorem c108_90 : cdA 108 90 = some (.iload_n 3) := by decide +kernel
theorem c108_91 : cdA 108 91 = some (.iload 4) := by decide +kernel
theorem c108_93 : cdA 108 93 = some (.iload 5) := by decide +kernel
theorem c108_95 : cdA 108 95 = some (.invokevirtual 251) := by decide +kernel
theorem m108_251 : mthR (moN 108) 251 = 81 := by decide +kernel
theorem F78 : mF 78 5 7 true := by unfold mF; decide +kernel
theorem K78 : ¬ mK 78 = 4 := by decide +kernel
theorem S78_61 : SH0[61]? = some (.inl (moN 78)) := by decide +kernel
theorem c108_16 : cdA 108 16 = some (.aload_n 0) := by decide +kernel
theorem c108_17 : cdA 108 17 = some (.iconst (-1)) := by decide +kernel
theorem c108_18 : cdA 108 18 = some (.invokevirtual 71) := by decide +kernel
theorem m108_71 : mthR (moN 108) 71 = 124 := by decide +kernel
theorem c108_21 : cdA 108 21 = some (.ireturn) := by decide +kernel
theorem R108 : mK 108 = 0 := by decide +kernel
theorem c108_36 : cdA 108 36 = some (.aload_n 0) := by decide +kernel
theorem c108_37 : cdA 108 37 = some (.bipush (-4)) := by decide +kernel
theorem c108_39 : cdA 108 39 = some (.invokevirtual 71) := by decide +kernel
theorem c108_42 : cdA 108 42 = some (.ireturn) := by decide +kernel
theorem c108_5 : cdA 108 5 = some (.ifCond .ne 11) := by decide +kernel
theorem c108_8 : cdA 108 8 = some (.aload_n 0) := by decide +kernel
theorem c108_9 : cdA 108 9 = some (.iload_n 3) := by decide +kernel
theorem c108_10 : cdA 108 10 = some (.invokevirtual 88) := by decide +kernel
theorem c108_77 : cdA 108 77 = some (.aload_n 0) := by decide +kernel
theorem c108_78 : cdA 108 78 = some (.bipush (-6)) := by decide +kernel
theorem c108_80 : cdA 108 80 = some (.invokevirtual 71) := by decide +kernel
theorem c108_83 : cdA 108 83 = some (.ireturn) := by decide +kernel
theorem c108_98 : cdA 108 98 = some (.ireturn) := by decide +kernel
theorem b108_0 {d : Nat} {h : HP} {Q : PV → HP → Prop} {v1 v2 v3 v4 v5 : Int} (H : X d 124 0 [some (P 0), some (I v1)] [] h (fun r h' => X (d + 1) 108 5 [some (P 0), some (I v1), some (I v2), some (I v3), some (I v4), some (I v5)] [r] h' Q)) : X (d + 1) 108 0 [some (P 0), some (I v1), some (I v2), some (I v3), some (I v4), some (I v5)] [] h Q :=
  s_aload_n c108_0 rfl (s_iload_n c108_1 rfl (s_cVi c108_2 m108_88 F124 K124 rfl (Nat.le_of_ble_eq_true rfl) rfl S124_0 rfl H))
theorem b108_13 {d : Nat} {h : HP} {Q : PV → HP → Prop} {v1 v2 v3 v4 v5 s0 : Int} (H : ((s0 = 0) → (((v2 < 0) → X (d + 1) 108 36 [some (P 0), some (I v1), some (I v2), some (I v3), some (I v4), some (I v5)] [] h Q) ∧ (¬ (v2 < 0) → (((v4 < 0) → X (d + 1) 108 36 [some (P 0), some (I v1), some (I v2), some (I v3), some (I v4), some (I v5)] [] h Q) ∧ (¬ (v4 < 0) → (((0 ≤ v5) → (((999 < v2) → X (d + 1) 108 77 [some (P 0), some (I v1), some (I v2), some (I v3), some (I v4), some (I v5)] [] h Q) ∧ (¬ (999 < v2) → (((600 < v4) → X (d + 1) 108 77 [some (P 0), some (I v1), some (I v2), some (I v3), some (I v4), some (I v5)] [] h Q) ∧ (¬ (600 < v4) → (((99 < v5) → X (d + 1) 108 77 [some (P 0), some (I v1), some (I v2), some (I v3), some (I v4), some (I v5)] [] h Q) ∧ (¬ (99 < v5) → ((((h 61 0) < 10) → X d 78 0 [some (P 61), some (I v1), some (I v2), some (I v3), some (I v4), some (I v5), none] [] h (fun r h' => X (d + 1) 108 98 [some (P 0), some (I v1), some (I v2), some (I v3), some (I v4), some (I v5)] [r] h' Q)) ∧ (¬ ((h 61 0) < 10) → X (d + 1) 108 77 [some (P 0), some (I v1), some (I v2), some (I v3), some (I v4), some (I v5)] [] h Q))))))))) ∧ (¬ (0 ≤ v5) → X (d + 1) 108 36 [some (P 0), some (I v1), some (I v2), some (I v3), some (I v4), some (I v5)] [] h Q))))))) ∧ (¬ (s0 = 0) → X (d + 1) 108 16 [some (P 0), some (I v1), some (I v2), some (I v3), some (I v4), some (I v5)] [] h Q)) : X (d + 1) 108 13 [some (P 0), some (I v1), some (I v2), some (I v3), some (I v4), some (I v5)] [I s0] h Q :=
  s_if 22 (s0 = 0) c108_13 (by decide) rfl ⟨fun q1 => s_iload_n c108_22 rfl (s_if 36 (v2 < 0) c108_23 (by decide) rfl ⟨fun q2 => ((H.1 q1).1 q2), fun q2 => s_iload c108_26 rfl (s_if 36 (v4 < 0) c108_28 (by decide) rfl ⟨fun q3 => (((H.1 q1).2 q2).1 q3), fun q3 => s_iload c108_31 rfl (s_if 43 (0 ≤ v5) c108_33 (by decide) rfl ⟨fun q4 => s_iload_n c108_43 rfl (s_sipush c108_44 ⟨by decide, by decide⟩ (s_ifc 77 (999 < v2) c108_47 (by decide) rfl ⟨fun q5 => (((((H.1 q1).2 q2).2 q3).1 q4).1 q5), fun q5 => s_iload c108_50 rfl (s_sipush c108_52 ⟨by decide, by decide⟩ (s_ifc 77 (600 < v4) c108_55 (by decide) rfl ⟨fun q6 => ((((((H.1 q1).2 q2).2 q3).1 q4).2 q5).1 q6), fun q6 => s_iload c108_58 rfl (s_bipush c108_60 ⟨by decide, by decide⟩ (s_ifc 77 (99 < v5) c108_62 (by decide) rfl ⟨fun q7 => (((((((H.1 q1).2 q2).2 q3).1 q4).2 q5).2 q6).1 q7), fun q7 => s_aload_n c108_65 rfl (s_getP 61 c108_66 f108_51 t11_5 sh_0 g_0_5 (by decide) (by decide) (s_getI c108_69 f108_250 t10_0 sh_61 (s_bipush c108_72 ⟨by decide, by decide⟩ (s_ifc 84 ((h 61 0) < 10) c108_74 (by decide) rfl ⟨fun q8 => s_aload_n c108_84 rfl (s_getP 61 c108_85 f108_51 t11_5 sh_0 g_0_5 (by decide) (by decide) (s_iload_n c108_88 rfl (s_iload_n c108_89 rfl (s_iload_n c108_90 rfl (s_iload c108_91 rfl (s_iload c108_93 rfl (s_cVi c108_95 m108_251 F78 K78 rfl (Nat.le_of_ble_eq_true rfl) rfl S78_61 rfl ((((((((H.1 q1).2 q2).2 q3).1 q4).2 q5).2 q6).2 q7).1 q8)))))))), fun q8 => ((((((((H.1 q1).2 q2).2 q3).1 q4).2 q5).2 q6).2 q7).2 q8)⟩))))⟩))⟩))⟩)), fun q4 => ((((H.1 q1).2 q2).2 q3).2 q4)⟩)⟩)⟩), fun q1 => (H.2 q1)⟩
theorem b108_16 {d : Nat} {h : HP} {Q : PV → HP → Prop} {v1 v2 v3 v4 v5 : Int} (H : X d 121 0 [some (P 0), some (I (-1))] [] h (fun r h' => X (d + 1) 108 21 [some (P 0), some (I v1), some (I v2), some (I v3), some (I v4), some (I v5)] [r] h' Q)) : X (d + 1) 108 16 [some (P 0), some (I v1), some (I v2), some (I v3), some (I v4), some (I v5)] [] h Q :=
  s_aload_n c108_16 rfl (s_iconst c108_17 rfl (s_cVi c108_18 m108_71 F121 K121 rfl (Nat.le_of_ble_eq_true rfl) rfl S121_0 rfl H))
theorem b108_21 {d : Nat} {h : HP} {Q : PV → HP → Prop} {v1 v2 v3 v4 v5 s0 : Int} (H : Q (I s0) h) : X d 108 21 [some (P 0), some (I v1), some (I v2), some (I v3), some (I v4), some (I v5)] [I s0] h Q :=
  s_retI c108_21 R108 H
theorem b108_36 {d : Nat} {h : HP} {Q : PV → HP → Prop} {v1 v2 v3 v4 v5 : Int} (H : X d 121 0 [some (P 0), some (I (-4))] [] h (fun r h' => X (d + 1) 108 42 [some (P 0), some (I v1), some (I v2), some (I v3), some (I v4), some (I v5)] [r] h' Q)) : X (d + 1) 108 36 [some (P 0), some (I v1), some (I v2), some (I v3), some (I v4), some (I v5)] [] h Q :=
  s_aload_n c108_36 rfl (s_bipush c108_37 ⟨by decide, by decide⟩ (s_cVi c108_39 m108_71 F121 K121 rfl (Nat.le_of_ble_eq_true rfl) rfl S121_0 rfl H))
theorem b108_42 {d : Nat} {h : HP} {Q : PV → HP → Prop} {v1 v2 v3 v4 v5 s0 : Int} (H : Q (I s0) h) : X d 108 42 [some (P 0), some (I v1), some (I v2), some (I v3), some (I v4), some (I v5)] [I s0] h Q :=
  s_retI c108_42 R108 H
theorem b108_5 {d : Nat} {h : HP} {Q : PV → HP → Prop} {v1 v2 v3 v4 v5 s0 : Int} (H : ((¬ s0 = 0) → X (d + 1) 108 16 [some (P 0), some (I v1), some (I v2), some (I v3), some (I v4), some (I v5)] [] h Q) ∧ (¬ (¬ s0 = 0) → X d 124 0 [some (P 0), some (I v3)] [] h (fun r h' => X (d + 1) 108 13 [some (P 0), some (I v1), some (I v2), some (I v3), some (I v4), some (I v5)] [r] h' Q))) : X (d + 1) 108 5 [some (P 0), some (I v1), some (I v2), some (I v3), some (I v4), some (I v5)] [I s0] h Q :=
  s_if 16 (¬ s0 = 0) c108_5 (by decide) rfl ⟨fun q9 => (H.1 q9), fun q9 => s_aload_n c108_8 rfl (s_iload_n c108_9 rfl (s_cVi c108_10 m108_88 F124 K124 rfl (Nat.le_of_ble_eq_true rfl) rfl S124_0 rfl (H.2 q9)))⟩
theorem b108_77 {d : Nat} {h : HP} {Q : PV → HP → Prop} {v1 v2 v3 v4 v5 : Int} (H : X d 121 0 [some (P 0), some (I (-6))] [] h (fun r h' => X (d + 1) 108 83 [some (P 0), some (I v1), some (I v2), some (I v3), some (I v4), some (I v5)] [r] h' Q)) : X (d + 1) 108 77 [some (P 0), some (I v1), some (I v2), some (I v3), some (I v4), some (I v5)] [] h Q :=
  s_aload_n c108_77 rfl (s_bipush c108_78 ⟨by decide, by decide⟩ (s_cVi c108_80 m108_71 F121 K121 rfl (Nat.le_of_ble_eq_true rfl) rfl S121_0 rfl H))
theorem b108_83 {d : Nat} {h : HP} {Q : PV → HP → Prop} {v1 v2 v3 v4 v5 s0 : Int} (H : Q (I s0) h) : X d 108 83 [some (P 0), some (I v1), some (I v2), some (I v3), some (I v4), some (I v5)] [I s0] h Q :=
  s_retI c108_83 R108 H
theorem b108_98 {d : Nat} {h : HP} {Q : PV → HP → Prop} {v1 v2 v3 v4 v5 s0 : Int} (H : Q (I s0) h) : X d 108 98 [some (P 0), some (I v1), some (I v2), some (I v3), some (I v4), some (I v5)] [I s0] h Q :=
  s_retI c108_98 R108 H
-- WarmSide.allTrialsFit()Z
theorem c131_0 : cdA 131 0 = some (.iconst 0) := by decide +kernel
theorem c131_1 : cdA 131 1 = some (.istore_n 1) := by decide +kernel
theorem c131_2 : cdA 131 2 = some (.iload_n 1) := by decide +kernel
theorem c131_3 : cdA 131 3 = some (.aload_n 0) := by decide +kernel
theorem c131_4 : cdA 131 4 = some (.getfield 51) := by decide +kernel
theorem f131_51 : fldR (moN 131) 51 = some (11, 5) := by decide +kernel
theorem c131_7 : cdA 131 7 = some (.getfield 250) := by decide +kernel
theorem f131_250 : fldR (moN 131) 250 = some (10, 0) := by decide +kernel
theorem c131_10 : cdA 131 10 = some (.if_icmp .ge 86) := by decide +kernel
theorem c131_96 : cdA 131 96 = some (.iconst 1) := by decide +kernel
theorem c131_97 : cdA 131 97 = some (.ireturn) := by decide +kernel
theorem R131 : mK 131 = 3 := by decide +kernel
theorem c131_13 : cdA 131 13 = some (.aload_n 0) := by decide +kernel
theorem c131_14 : cdA 131 14 = some (.getfield 28) := by decide +kernel
theorem f131_28 : fldR (moN 131) 28 = some (11, 2) := by decide +kernel
theorem c131_17 : cdA 131 17 = some (.aload_n 0) := by decide +kernel
theorem c131_18 : cdA 131 18 = some (.getfield 51) := by decide +kernel
theorem c131_21 : cdA 131 21 = some (.getfield 324) := by decide +kernel
theorem f131_324 : fldR (moN 131) 324 = some (10, 1) := by decide +kernel
theorem c131_24 : cdA 131 24 = some (.iload_n 1) := by decide +kernel
theorem c131_25 : cdA 131 25 = some (.iaload) := by decide +kernel
theorem c131_26 : cdA 131 26 = some (.putfield 327) := by decide +kernel
theorem f131_327 : fldR (moN 131) 327 = some (7, 10) := by decide +kernel
theorem c131_29 : cdA 131 29 = some (.aload_n 0) := by decide +kernel
theorem c131_30 : cdA 131 30 = some (.getfield 28) := by decide +kernel
theorem c131_33 : cdA 131 33 = some (.aload_n 0) := by decide +kernel
theorem c131_34 : cdA 131 34 = some (.getfield 51) := by decide +kernel
theorem c131_37 : cdA 131 37 = some (.getfield 330) := by decide +kernel
theorem f131_330 : fldR (moN 131) 330 = some (10, 2) := by decide +kernel
theorem c131_40 : cdA 131 40 = some (.iload_n 1) := by decide +kernel
theorem c131_41 : cdA 131 41 = some (.iaload) := by decide +kernel
theorem c131_42 : cdA 131 42 = some (.putfield 333) := by decide +kernel
theorem f131_333 : fldR (moN 131) 333 = some (7, 11) := by decide +kernel
theorem c131_45 : cdA 131 45 = some (.aload_n 0) := by decide +kernel
theorem c131_46 : cdA 131 46 = some (.getfield 28) := by decide +kernel
theorem c131_49 : cdA 131 49 = some (.aload_n 0) := by decide +kernel
theorem c131_50 : cdA 131 50 = some (.getfield 51) := by decide +kernel
theorem c131_53 : cdA 131 53 = some (.getfield 336) := by decide +kernel
theorem f131_336 : fldR (moN 131) 336 = some (10, 3) := by decide +kernel
theorem c131_56 : cdA 131 56 = some (.iload_n 1) := by decide +kernel
theorem c131_57 : cdA 131 57 = some (.iaload) := by decide +kernel
theorem c131_58 : cdA 131 58 = some (.invokevirtual 208) := by decide +kernel
theorem m131_208 : mthR (moN 131) 208 = 65 := by decide +kernel
theorem c131_61 : cdA 131 61 = some (.aload_n 0) := by decide +kernel
theorem c131_62 : cdA 131 62 = some (.getfield 51) := by decide +kernel
theorem c131_65 : cdA 131 65 = some (.getfield 339) := by decide +kernel
theorem f131_339 : fldR (moN 131) 339 = some (10, 4) := by decide +kernel
theorem c131_68 : cdA 131 68 = some (.iload_n 1) := by decide +kernel
theorem c131_69 : cdA 131 69 = some (.iaload) := by decide +kernel
theorem c131_70 : cdA 131 70 = some (.isub) := by decide +kernel
theorem c131_71 : cdA 131 71 = some (.istore_n 2) := by decide +kernel
theorem c131_72 : cdA 131 72 = some (.iload_n 2) := by decide +kernel
theorem c131_73 : cdA 131 73 = some (.invokestatic 246) := by decide +kernel
theorem m131_246 : mthR (moN 131) 246 = 226 := by decide +kernel
theorem c131_76 : cdA 131 76 = some (.aload_n 0) := by decide +kernel
theorem c131_77 : cdA 131 77 = some (.getfield 51) := by decide +kernel
theorem c131_80 : cdA 131 80 = some (.getfield 341) := by decide +kernel
theorem f131_341 : fldR (moN 131) 341 = some (10, 5) := by decide +kernel
theorem c131_83 : cdA 131 83 = some (.iload_n 1) := by decide +kernel
theorem c131_84 : cdA 131 84 = some (.iaload) := by decide +kernel
theorem c131_85 : cdA 131 85 = some (.if_icmp .le 5) := by decide +kernel
theorem c131_90 : cdA 131 90 = some (.iinc 1 1) := by decide +kernel
theorem c131_93 : cdA 131 93 = some (.goto (-91)) := by decide +kernel
theorem c131_88 : cdA 131 88 = some (.iconst 0) := by decide +kernel
theorem c131_89 : cdA 131 89 = some (.ireturn) := by decide +kernel
theorem b131_0 {d : Nat} {h : HP} {Q : PV → HP → Prop} (H : X d 131 2 [some (P 0), some (I 0), none] [] h Q) : X d 131 0 [some (P 0), none, none] [] h Q :=
  s_iconst c131_0 rfl (s_istore_n c131_1 rfl (H))
theorem b131_2 {d : Nat} {h : HP} {Q : PV → HP → Prop} {v1 : Int} (H : (((h 61 0) ≤ v1) → Q (I 1) h) ∧ (¬ ((h 61 0) ≤ v1) → ((0 ≤ v1 ∧ v1 < 10) ∧ ((0 ≤ v1 ∧ v1 < 10) ∧ ((0 ≤ v1 ∧ v1 < 10) ∧ X d 62 0 [some (P 41), some (I (h 64 v1.toNat))] [] (up2 (up2 h 41 10 (h 62 v1.toNat)) 41 11 (h 63 v1.toNat)) (fun r h' => X (d + 1) 131 61 [some (P 0), some (I v1), none] [r] h' Q)))))) : X (d + 1) 131 2 [some (P 0), some (I v1), none] [] h Q :=
  s_iload_n c131_2 rfl (s_aload_n c131_3 rfl (s_getP 61 c131_4 f131_51 t11_5 sh_0 g_0_5 (by decide) (by decide) (s_getI c131_7 f131_250 t10_0 sh_61 (s_ifc 96 ((h 61 0) ≤ v1) c131_10 (by decide) rfl ⟨fun q1 => s_iconst c131_96 rfl (s_retZ c131_97 R131 ⟨by decide, (H.1 q1)⟩), fun q1 => s_aload_n c131_13 rfl (s_getP 41 c131_14 f131_28 t11_2 sh_0 g_0_2 (by decide) (by decide) (s_aload_n c131_17 rfl (s_getP 61 c131_18 f131_51 t11_5 sh_0 g_0_5 (by decide) (by decide) (s_getP 62 c131_21 f131_324 t10_1 sh_61 g_61_1 (by decide) (by decide) (s_iload_n c131_24 rfl (s_iald c131_25 sh_62 ⟨(H.2 q1).1, s_putI c131_26 f131_327 t7_10 n7_10 sh_41 (s_aload_n c131_29 rfl (s_getP 41 c131_30 f131_28 t11_2 sh_0 g_0_2 (by decide) (by decide) (s_aload_n c131_33 rfl (s_getP 61 c131_34 f131_51 t11_5 sh_0 g_0_5 (by decide) (by decide) (s_getP 63 c131_37 f131_330 t10_2 sh_61 g_61_2 (by decide) (by decide) (s_iload_n c131_40 rfl (s_iald c131_41 sh_63 ⟨(H.2 q1).2.1, s_putI c131_42 f131_333 t7_11 n7_11 sh_41 (s_aload_n c131_45 rfl (s_getP 41 c131_46 f131_28 t11_2 sh_0 g_0_2 (by decide) (by decide) (s_aload_n c131_49 rfl (s_getP 61 c131_50 f131_51 t11_5 sh_0 g_0_5 (by decide) (by decide) (s_getP 64 c131_53 f131_336 t10_3 sh_61 g_61_3 (by decide) (by decide) (s_iload_n c131_56 rfl (s_iald c131_57 sh_64 ⟨(H.2 q1).2.2.1, s_cVi c131_58 m131_208 F62 K62 rfl (Nat.le_of_ble_eq_true rfl) rfl S62_41 rfl (H.2 q1).2.2.2⟩)))))))⟩)))))))⟩))))))⟩))))
theorem b131_61 {d : Nat} {h : HP} {Q : PV → HP → Prop} {v1 s0 : Int} (H : (0 ≤ v1 ∧ v1 < 10) ∧ X d 223 0 [some (I (w32 (s0 - (h 65 v1.toNat))))] [] h (fun r h' => X (d + 1) 131 76 [some (P 0), some (I v1), some (I (w32 (s0 - (h 65 v1.toNat))))] [r] h' Q)) : X (d + 1) 131 61 [some (P 0), some (I v1), none] [I s0] h Q :=
  s_aload_n c131_61 rfl (s_getP 61 c131_62 f131_51 t11_5 sh_0 g_0_5 (by decide) (by decide) (s_getP 65 c131_65 f131_339 t10_4 sh_61 g_61_4 (by decide) (by decide) (s_iload_n c131_68 rfl (s_iald c131_69 sh_65 ⟨H.1, s_isub c131_70 (s_istore_n c131_71 rfl (s_iload_n c131_72 rfl (s_cSi c131_73 m131_246 F223 K223 rfl (Nat.le_of_ble_eq_true rfl) rfl rfl H.2)))⟩))))
theorem b131_76 {d : Nat} {h : HP} {Q : PV → HP → Prop} {v1 v2 s0 : Int} (H : (0 ≤ v1 ∧ v1 < 10) ∧ (((s0 ≤ (h 66 v1.toNat)) → X d 131 2 [some (P 0), some (I (w32 (v1 + 1))), none] [] h Q) ∧ (¬ (s0 ≤ (h 66 v1.toNat)) → Q (I 0) h))) : X d 131 76 [some (P 0), some (I v1), some (I v2)] [I s0] h Q :=
  s_aload_n c131_76 rfl (s_getP 61 c131_77 f131_51 t11_5 sh_0 g_0_5 (by decide) (by decide) (s_getP 66 c131_80 f131_341 t10_5 sh_61 g_61_5 (by decide) (by decide) (s_iload_n c131_83 rfl (s_iald c131_84 sh_66 ⟨H.1, s_ifc 90 (s0 ≤ (h 66 v1.toNat)) c131_85 (by decide) rfl ⟨fun q2 => s_iinc c131_90 rfl rfl rfl (s_goto 2 c131_93 (by decide) (X_weak (A := [some (P 0), some (I (w32 (v1 + 1))), none]) (B := [some (P 0), some (I (w32 (v1 + 1))), some (I v2)]) ⟨Or.inl rfl, Or.inl rfl, Or.inr ⟨rfl, _, rfl, rfl⟩, trivial⟩ (H.2.1 q2))), fun q2 => s_iconst c131_88 rfl (s_retZ c131_89 R131 ⟨by decide, (H.2.2 q2)⟩)⟩⟩))))
-- WarmSide.fits(II)I
theorem c109_0 : cdA 109 0 = some (.iload_n 1) := by decide +kernel
theorem c109_1 : cdA 109 1 = some (.aload_n 0) := by decide +kernel
theorem c109_2 : cdA 109 2 = some (.getfield 10) := by decide +kernel
theorem f109_10 : fldR (moN 109) 10 = some (11, 0) := by decide +kernel
theorem c109_5 : cdA 109 5 = some (.getfield 128) := by decide +kernel
theorem f109_128 : fldR (moN 109) 128 = some (1, 1) := by decide +kernel
theorem c109_8 : cdA 109 8 = some (.getfield 139) := by decide +kernel
theorem f109_139 : fldR (moN 109) 139 = some (2, 1) := by decide +kernel
theorem c109_11 : cdA 109 11 = some (.invokestatic 67) := by decide +kernel
theorem m109_67 : mthR (moN 109) 67 = 126 := by decide +kernel
theorem c109_104 : cdA 109 104 = some (.iinc 6 1) := by decide +kernel
theorem c109_107 : cdA 109 107 = some (.goto (-49)) := by decide +kernel
theorem c109_14 : cdA 109 14 = some (.ifCond .eq 9) := by decide +kernel
theorem c109_23 : cdA 109 23 = some (.iload_n 2) := by decide +kernel
theorem c109_24 : cdA 109 24 = some (.iconst 3) := by decide +kernel
theorem c109_25 : cdA 109 25 = some (.invokestatic 67) := by decide +kernel
theorem c109_17 : cdA 109 17 = some (.aload_n 0) := by decide +kernel
theorem c109_18 : cdA 109 18 = some (.iconst (-1)) := by decide +kernel
theorem c109_19 : cdA 109 19 = some (.invokevirtual 71) := by decide +kernel
theorem m109_71 : mthR (moN 109) 71 = 124 := by decide +kernel
theorem c109_22 : cdA 109 22 = some (.ireturn) := by decide +kernel
theorem R109 : mK 109 = 0 := by decide +kernel
theorem c109_28 : cdA 109 28 = some (.ifCond .eq 10) := by decide +kernel
theorem c109_38 : cdA 109 38 = some (.aload_n 0) := by decide +kernel
theorem c109_39 : cdA 109 39 = some (.getfield 28) := by decide +kernel
theorem f109_28 : fldR (moN 109) 28 = some (11, 2) := by decide +kernel
theorem c109_42 : cdA 109 42 = some (.invokevirtual 254) := by decide +kernel
theorem m109_254 : mthR (moN 109) 254 = 61 := by decide +kernel
theorem F58 : mF 58 0 1 true := by unfold mF; decide +kernel
theorem K58 : mK 58 = 4 := by decide +kernel
theorem S58_41 : SH0[41]? = some (.inl (moN 58)) := by decide +kernel
theorem c109_31 : cdA 109 31 = some (.aload_n 0) := by decide +kernel
theorem c109_32 : cdA 109 32 = some (.bipush (-2)) := by decide +kernel
theorem c109_34 : cdA 109 34 = some (.invokevirtual 71) := by decide +kernel
theorem c109_37 : cdA 109 37 = some (.ireturn) := by decide +kernel
theorem c109_45 : cdA 109 45 = some (.iconst 0) := by decide +kernel
theorem c109_46 : cdA 109 46 = some (.istore_n 3) := by decide +kernel
theorem c109_47 : cdA 109 47 = some (.bipush (-9)) := by decide +kernel
theorem c109_49 : cdA 109 49 = some (.istore 4) := by decide +kernel
theorem c109_51 : cdA 109 51 = some (.bipush (-9)) := by decide +kernel
theorem c109_53 : cdA 109 53 = some (.istore 5) := by decide +kernel
theorem c109_55 : cdA 109 55 = some (.iconst 1) := by decide +kernel
theorem c109_56 : cdA 109 56 = some (.istore 6) := by decide +kernel
theorem c109_58 : cdA 109 58 = some (.iload 6) := by decide +kernel
theorem c109_60 : cdA 109 60 = some (.bipush 40) := by decide +kernel
theorem c109_62 : cdA 109 62 = some (.if_icmp .gt 48) := by decide +kernel
theorem c109_110 : cdA 109 110 = some (.iload_n 2) := by decide +kernel
theorem c109_111 : cdA 109 111 = some (.ifCond .ne 7) := by decide +kernel
theorem c109_118 : cdA 109 118 = some (.iload_n 2) := by decide +kernel
theorem c109_119 : cdA 109 119 = some (.iconst 1) := by decide +kernel
theorem c109_120 : cdA 109 120 = some (.if_icmp .ne 8) := by decide +kernel
theorem c109_128 : cdA 109 128 = some (.iload 5) := by decide +kernel
theorem c109_130 : cdA 109 130 = some (.ireturn) := by decide +kernel
theorem c109_123 : cdA 109 123 = some (.iload 4) := by decide +kernel
theorem c109_125 : cdA 109 125 = some (.goto 5) := by decide +kernel
theorem c109_114 : cdA 109 114 = some (.iload_n 3) := by decide +kernel
theorem c109_115 : cdA 109 115 = some (.goto 15) := by decide +kernel
theorem c109_65 : cdA 109 65 = some (.aload_n 0) := by decide +kernel
theorem c109_66 : cdA 109 66 = some (.getfield 28) := by decide +kernel
theorem c109_69 : cdA 109 69 = some (.getfield 238) := by decide +kernel
theorem f109_238 : fldR (moN 109) 238 = some (7, 13) := by decide +kernel
theorem c109_72 : cdA 109 72 = some (.iload_n 1) := by decide +kernel
theorem c109_73 : cdA 109 73 = some (.iload 6) := by decide +kernel
theorem c109_75 : cdA 109 75 = some (.iastore) := by decide +kernel
theorem c109_76 : cdA 109 76 = some (.aload_n 0) := by decide +kernel
theorem c109_77 : cdA 109 77 = some (.invokevirtual 257) := by decide +kernel
theorem m109_257 : mthR (moN 109) 257 = 134 := by decide +kernel
theorem F131 : mF 131 0 3 true := by unfold mF; decide +kernel
theorem K131 : ¬ mK 131 = 4 := by decide +kernel
theorem S131_0 : SH0[0]? = some (.inl (moN 131)) := by decide +kernel
theorem c109_80 : cdA 109 80 = some (.ifCond .ne 6) := by decide +kernel
theorem c109_86 : cdA 109 86 = some (.iinc 3 1) := by decide +kernel
theorem c109_89 : cdA 109 89 = some (.iload 6) := by decide +kernel
theorem c109_91 : cdA 109 91 = some (.istore 5) := by decide +kernel
theorem c109_93 : cdA 109 93 = some (.iload 4) := by decide +kernel
theorem c109_95 : cdA 109 95 = some (.bipush (-9)) := by decide +kernel
theorem c109_97 : cdA 109 97 = some (.if_icmp .ne 7) := by decide +kernel
theorem c109_100 : cdA 109 100 = some (.iload 6) := by decide +kernel
theorem c109_102 : cdA 109 102 = some (.istore 4) := by decide +kernel
theorem c109_83 : cdA 109 83 = some (.goto 21) := by decide +kernel
theorem b109_0 {d : Nat} {h : HP} {Q : PV → HP → Prop} {v1 v2 : Int} (H : X d 123 0 [some (I v1), some (I (h 12 1))] [] h (fun r h' => X (d + 1) 109 14 [some (P 0), some (I v1), some (I v2), none, none, none, none] [r] h' Q)) : X (d + 1) 109 0 [some (P 0), some (I v1), some (I v2), none, none, none, none] [] h Q :=
  s_iload_n c109_0 rfl (s_aload_n c109_1 rfl (s_getP 1 c109_2 f109_10 t11_0 sh_0 g_0_0 (by decide) (by decide) (s_getP 12 c109_5 f109_128 t1_1 sh_1 g_1_1 (by decide) (by decide) (s_getI c109_8 f109_139 t2_1 sh_12 (s_cSi c109_11 m109_67 F123 K123 rfl (Nat.le_of_ble_eq_true rfl) rfl rfl H)))))
theorem b109_104 {d : Nat} {h : HP} {Q : PV → HP → Prop} {v1 v2 v3 v4 v5 v6 : Int} (H : X d 109 58 [some (P 0), some (I v1), some (I v2), some (I v3), some (I v4), some (I v5), some (I (w32 (v6 + 1)))] [] h Q) : X d 109 104 [some (P 0), some (I v1), some (I v2), some (I v3), some (I v4), some (I v5), some (I v6)] [] h Q :=
  s_iinc c109_104 rfl rfl rfl (s_goto 58 c109_107 (by decide) (H))
theorem b109_14 {d : Nat} {h : HP} {Q : PV → HP → Prop} {v1 v2 s0 : Int} (H : ((s0 = 0) → X d 123 0 [some (I v2), some (I 3)] [] h (fun r h' => X (d + 1) 109 28 [some (P 0), some (I v1), some (I v2), none, none, none, none] [r] h' Q)) ∧ (¬ (s0 = 0) → X d 121 0 [some (P 0), some (I (-1))] [] h (fun r h' => X (d + 1) 109 22 [some (P 0), some (I v1), some (I v2), none, none, none, none] [r] h' Q))) : X (d + 1) 109 14 [some (P 0), some (I v1), some (I v2), none, none, none, none] [I s0] h Q :=
  s_if 23 (s0 = 0) c109_14 (by decide) rfl ⟨fun q1 => s_iload_n c109_23 rfl (s_iconst c109_24 rfl (s_cSi c109_25 m109_67 F123 K123 rfl (Nat.le_of_ble_eq_true rfl) rfl rfl (H.1 q1))), fun q1 => s_aload_n c109_17 rfl (s_iconst c109_18 rfl (s_cVi c109_19 m109_71 F121 K121 rfl (Nat.le_of_ble_eq_true rfl) rfl S121_0 rfl (H.2 q1)))⟩
theorem b109_22 {d : Nat} {h : HP} {Q : PV → HP → Prop} {v1 v2 s0 : Int} (H : Q (I s0) h) : X d 109 22 [some (P 0), some (I v1), some (I v2), none, none, none, none] [I s0] h Q :=
  s_retI c109_22 R109 H
theorem b109_28 {d : Nat} {h : HP} {Q : PV → HP → Prop} {v1 v2 s0 : Int} (H : ((s0 = 0) → X d 58 0 [some (P 41)] [] h (fun _ h' => X (d + 1) 109 45 [some (P 0), some (I v1), some (I v2), none, none, none, none] [] h' Q)) ∧ (¬ (s0 = 0) → X d 121 0 [some (P 0), some (I (-2))] [] h (fun r h' => X (d + 1) 109 37 [some (P 0), some (I v1), some (I v2), none, none, none, none] [r] h' Q))) : X (d + 1) 109 28 [some (P 0), some (I v1), some (I v2), none, none, none, none] [I s0] h Q :=
  s_if 38 (s0 = 0) c109_28 (by decide) rfl ⟨fun q2 => s_aload_n c109_38 rfl (s_getP 41 c109_39 f109_28 t11_2 sh_0 g_0_2 (by decide) (by decide) (s_cVv c109_42 m109_254 F58 K58 rfl (Nat.le_of_ble_eq_true rfl) rfl S58_41 rfl (H.1 q2))), fun q2 => s_aload_n c109_31 rfl (s_bipush c109_32 ⟨by decide, by decide⟩ (s_cVi c109_34 m109_71 F121 K121 rfl (Nat.le_of_ble_eq_true rfl) rfl S121_0 rfl (H.2 q2)))⟩
theorem b109_37 {d : Nat} {h : HP} {Q : PV → HP → Prop} {v1 v2 s0 : Int} (H : Q (I s0) h) : X d 109 37 [some (P 0), some (I v1), some (I v2), none, none, none, none] [I s0] h Q :=
  s_retI c109_37 R109 H
theorem b109_45 {d : Nat} {h : HP} {Q : PV → HP → Prop} {v1 v2 : Int} (H : X d 109 58 [some (P 0), some (I v1), some (I v2), some (I 0), some (I (-9)), some (I (-9)), some (I 1)] [] h Q) : X d 109 45 [some (P 0), some (I v1), some (I v2), none, none, none, none] [] h Q :=
  s_iconst c109_45 rfl (s_istore_n c109_46 rfl (s_bipush c109_47 ⟨by decide, by decide⟩ (s_istore c109_49 rfl (s_bipush c109_51 ⟨by decide, by decide⟩ (s_istore c109_53 rfl (s_iconst c109_55 rfl (s_istore c109_56 rfl (H))))))))
theorem b109_58 {d : Nat} {h : HP} {Q : PV → HP → Prop} {v1 v2 v3 v4 v5 v6 : Int} (H : ((40 < v6) → (((¬ v2 = 0) → (((¬ v2 = 1) → Q (I v5) h) ∧ (¬ (¬ v2 = 1) → Q (I v4) h))) ∧ (¬ (¬ v2 = 0) → Q (I v3) h))) ∧ (¬ (40 < v6) → ((0 ≤ v1 ∧ v1 < 20) ∧ X d 131 0 [some (P 0), none, none] [] (up2 h 43 v1.toNat v6) (fun r h' => X (d + 1) 109 80 [some (P 0), some (I v1), some (I v2), some (I v3), some (I v4), some (I v5), some (I v6)] [r] h' Q)))) : X (d + 1) 109 58 [some (P 0), some (I v1), some (I v2), some (I v3), some (I v4), some (I v5), some (I v6)] [] h Q :=
  s_iload c109_58 rfl (s_bipush c109_60 ⟨by decide, by decide⟩ (s_ifc 110 (40 < v6) c109_62 (by decide) rfl ⟨fun q3 => s_iload_n c109_110 rfl (s_if 118 (¬ v2 = 0) c109_111 (by decide) rfl ⟨fun q4 => s_iload_n c109_118 rfl (s_iconst c109_119 rfl (s_ifc 128 (¬ v2 = 1) c109_120 (by decide) rfl ⟨fun q5 => s_iload c109_128 rfl (s_retI c109_130 R109 (((H.1 q3).1 q4).1 q5)), fun q5 => s_iload c109_123 rfl (s_goto 130 c109_125 (by decide) (s_retI c109_130 R109 (((H.1 q3).1 q4).2 q5)))⟩)), fun q4 => s_iload_n c109_114 rfl (s_goto 130 c109_115 (by decide) (s_retI c109_130 R109 ((H.1 q3).2 q4)))⟩), fun q3 => s_aload_n c109_65 rfl (s_getP 41 c109_66 f109_28 t11_2 sh_0 g_0_2 (by decide) (by decide) (s_getP 43 c109_69 f109_238 t7_13 sh_41 g_41_13 (by decide) (by decide) (s_iload_n c109_72 rfl (s_iload c109_73 rfl (s_iast c109_75 sh_43 ⟨(H.2 q3).1, s_aload_n c109_76 rfl (s_cVi c109_77 m109_257 F131 K131 rfl (Nat.le_of_ble_eq_true rfl) rfl S131_0 rfl (H.2 q3).2)⟩)))))⟩))
theorem b109_80 {d : Nat} {h : HP} {Q : PV → HP → Prop} {v1 v2 v3 v4 v5 v6 s0 : Int} (H : ((¬ s0 = 0) → (((¬ v4 = (-9)) → X d 109 104 [some (P 0), some (I v1), some (I v2), some (I (w32 (v3 + 1))), some (I v4), some (I v6), some (I v6)] [] h Q) ∧ (¬ (¬ v4 = (-9)) → X d 109 104 [some (P 0), some (I v1), some (I v2), some (I (w32 (v3 + 1))), some (I v6), some (I v6), some (I v6)] [] h Q))) ∧ (¬ (¬ s0 = 0) → X d 109 104 [some (P 0), some (I v1), some (I v2), some (I v3), some (I v4), some (I v5), some (I v6)] [] h Q)) : X d 109 80 [some (P 0), some (I v1), some (I v2), some (I v3), some (I v4), some (I v5), some (I v6)] [I s0] h Q :=
  s_if 86 (¬ s0 = 0) c109_80 (by decide) rfl ⟨fun q6 => s_iinc c109_86 rfl rfl rfl (s_iload c109_89 rfl (s_istore c109_91 rfl (s_iload c109_93 rfl (s_bipush c109_95 ⟨by decide, by decide⟩ (s_ifc 104 (¬ v4 = (-9)) c109_97 (by decide) rfl ⟨fun q7 => ((H.1 q6).1 q7), fun q7 => s_iload c109_100 rfl (s_istore c109_102 rfl (((H.1 q6).2 q7)))⟩))))), fun q6 => s_goto 104 c109_83 (by decide) ((H.2 q6))⟩
-- WarmSide.strangers(II)Z
theorem c125_0 : cdA 125 0 = some (.iload_n 0) := by decide +kernel
theorem c125_1 : cdA 125 1 = some (.ifCond .lt 9) := by decide +kernel
theorem c125_10 : cdA 125 10 = some (.iconst 1) := by decide +kernel
theorem c125_11 : cdA 125 11 = some (.goto 4) := by decide +kernel
theorem c125_15 : cdA 125 15 = some (.ireturn) := by decide +kernel
theorem R125 : mK 125 = 3 := by decide +kernel
theorem c125_4 : cdA 125 4 = some (.iload_n 0) := by decide +kernel
theorem c125_5 : cdA 125 5 = some (.iload_n 1) := by decide +kernel
theorem c125_6 : cdA 125 6 = some (.ishr) := by decide +kernel
theorem c125_7 : cdA 125 7 = some (.ifCond .eq 7) := by decide +kernel
theorem c125_14 : cdA 125 14 = some (.iconst 0) := by decide +kernel
theorem b125_0 {d : Nat} {h : HP} {Q : PV → HP → Prop} {v0 v1 : Int} (H : ((v0 < 0) → Q (I 1) h) ∧ (¬ (v0 < 0) → ((((bShr v0 v1) = 0) → Q (I 0) h) ∧ (¬ ((bShr v0 v1) = 0) → Q (I 1) h)))) : X d 125 0 [some (I v0), some (I v1)] [] h Q :=
  s_iload_n c125_0 rfl (s_if 10 (v0 < 0) c125_1 (by decide) rfl ⟨fun q1 => s_iconst c125_10 rfl (s_goto 15 c125_11 (by decide) (s_retZ c125_15 R125 ⟨by decide, (H.1 q1)⟩)), fun q1 => s_iload_n c125_4 rfl (s_iload_n c125_5 rfl (s_ishr c125_6 (s_if 14 ((bShr v0 v1) = 0) c125_7 (by decide) rfl ⟨fun q2 => s_iconst c125_14 rfl (s_retZ c125_15 R125 ⟨by decide, ((H.2 q1).1 q2)⟩), fun q2 => s_iconst c125_10 rfl (s_goto 15 c125_11 (by decide) (s_retZ c125_15 R125 ⟨by decide, ((H.2 q1).2 q2)⟩))⟩)))⟩)
-- WarmSide.place(IIII)I
theorem c110_0 : cdA 110 0 = some (.iload_n 1) := by decide +kernel
theorem c110_1 : cdA 110 1 = some (.bipush 12) := by decide +kernel
theorem c110_3 : cdA 110 3 = some (.invokestatic 67) := by decide +kernel
theorem m110_67 : mthR (moN 110) 67 = 126 := by decide +kernel
theorem c110_102 : cdA 110 102 = some (.bipush (-9)) := by decide +kernel
theorem c110_104 : cdA 110 104 = some (.istore 6) := by decide +kernel
theorem c110_106 : cdA 110 106 = some (.iconst 0) := by decide +kernel
theorem c110_107 : cdA 110 107 = some (.istore 7) := by decide +kernel
theorem c110_109 : cdA 110 109 = some (.iconst 0) := by decide +kernel
theorem c110_110 : cdA 110 110 = some (.istore 8) := by decide +kernel
theorem c110_112 : cdA 110 112 = some (.iload 8) := by decide +kernel
theorem c110_114 : cdA 110 114 = some (.iconst 1) := by decide +kernel
theorem c110_115 : cdA 110 115 = some (.iconst 3) := by decide +kernel
theorem c110_116 : cdA 110 116 = some (.iload 5) := by decide +kernel
theorem c110_118 : cdA 110 118 = some (.imul) := by decide +kernel
theorem c110_119 : cdA 110 119 = some (.ishl) := by decide +kernel
theorem c110_120 : cdA 110 120 = some (.if_icmp .ge 59) := by decide +kernel
theorem c110_179 : cdA 110 179 = some (.iload 4) := by decide +kernel
theorem c110_181 : cdA 110 181 = some (.ifCond .eq 10) := by decide +kernel
theorem c110_191 : cdA 110 191 = some (.iload 6) := by decide +kernel
theorem c110_193 : cdA 110 193 = some (.ireturn) := by decide +kernel
theorem R110 : mK 110 = 0 := by decide +kernel
theorem c110_184 : cdA 110 184 = some (.iload 6) := by decide +kernel
theorem c110_186 : cdA 110 186 = some (.bipush (-9)) := by decide +kernel
theorem c110_188 : cdA 110 188 = some (.if_icmp .ne 6) := by decide +kernel
theorem c110_194 : cdA 110 194 = some (.iload 7) := by decide +kernel
theorem c110_196 : cdA 110 196 = some (.iconst 3) := by decide +kernel
theorem c110_197 : cdA 110 197 = some (.iload 5) := by decide +kernel
theorem c110_199 : cdA 110 199 = some (.iload 4) := by decide +kernel
theorem c110_201 : cdA 110 201 = some (.isub) := by decide +kernel
theorem c110_202 : cdA 110 202 = some (.imul) := by decide +kernel
theorem c110_203 : cdA 110 203 = some (.ishr) := by decide +kernel
theorem c110_204 : cdA 110 204 = some (.bipush 7) := by decide +kernel
theorem c110_206 : cdA 110 206 = some (.iand) := by decide +kernel
theorem c110_207 : cdA 110 207 = some (.ireturn) := by decide +kernel
theorem c110_123 : cdA 110 123 = some (.aload_n 0) := by decide +kernel
theorem c110_124 : cdA 110 124 = some (.getfield 28) := by decide +kernel
theorem f110_28 : fldR (moN 110) 28 = some (11, 2) := by decide +kernel
theorem c110_127 : cdA 110 127 = some (.iload_n 2) := by decide +kernel
theorem c110_128 : cdA 110 128 = some (.iload_n 3) := by decide +kernel
theorem c110_129 : cdA 110 129 = some (.iload 8) := by decide +kernel
theorem c110_131 : cdA 110 131 = some (.iload 5) := by decide +kernel
theorem c110_133 : cdA 110 133 = some (.invokevirtual 269) := by decide +kernel
theorem m110_269 : mthR (moN 110) 269 = 64 := by decide +kernel
theorem F61 : mF 61 4 9 true := by unfold mF; decide +kernel
theorem K61 : ¬ mK 61 = 4 := by decide +kernel
theorem S61_41 : SH0[41]? = some (.inl (moN 61)) := by decide +kernel
theorem c110_136 : cdA 110 136 = some (.ifCond .ne 6) := by decide +kernel
theorem c110_142 : cdA 110 142 = some (.aload_n 0) := by decide +kernel
theorem c110_143 : cdA 110 143 = some (.getfield 28) := by decide +kernel
theorem c110_146 : cdA 110 146 = some (.invokevirtual 273) := by decide +kernel
theorem m110_273 : mthR (moN 110) 273 = 66 := by decide +kernel
theorem F63 : mF 63 0 3 true := by unfold mF; decide +kernel
theorem K63 : ¬ mK 63 = 4 := by decide +kernel
theorem S63_41 : SH0[41]? = some (.inl (moN 63)) := by decide +kernel
theorem c110_139 : cdA 110 139 = some (.goto 34) := by decide +kernel
theorem c110_149 : cdA 110 149 = some (.istore 9) := by decide +kernel
theorem c110_151 : cdA 110 151 = some (.iload 6) := by decide +kernel
theorem c110_153 : cdA 110 153 = some (.bipush (-9)) := by decide +kernel
theorem c110_155 : cdA 110 155 = some (.if_icmp .eq 10) := by decide +kernel
theorem c110_158 : cdA 110 158 = some (.iload 9) := by decide +kernel
theorem c110_160 : cdA 110 160 = some (.iload 6) := by decide +kernel
theorem c110_162 : cdA 110 162 = some (.if_icmp .ge 11) := by decide +kernel
theorem c110_165 : cdA 110 165 = some (.iload 9) := by decide +kernel
theorem c110_167 : cdA 110 167 = some (.istore 6) := by decide +kernel
theorem c110_169 : cdA 110 169 = some (.iload 8) := by decide +kernel
theorem c110_171 : cdA 110 171 = some (.istore 7) := by decide +kernel
theorem c110_173 : cdA 110 173 = some (.iinc 8 1) := by decide +kernel
theorem c110_176 : cdA 110 176 = some (.goto (-64)) := by decide +kernel
theorem c110_23 : cdA 110 23 = some (.ifCond .ne 20) := by decide +kernel
theorem c110_26 : cdA 110 26 = some (.iload_n 3) := by decide +kernel
theorem c110_27 : cdA 110 27 = some (.aload_n 0) := by decide +kernel
theorem c110_28 : cdA 110 28 = some (.getfield 10) := by decide +kernel
theorem f110_10 : fldR (moN 110) 10 = some (11, 0) := by decide +kernel
theorem c110_31 : cdA 110 31 = some (.getfield 75) := by decide +kernel
theorem f110_75 : fldR (moN 110) 75 = some (1, 0) := by decide +kernel
theorem c110_34 : cdA 110 34 = some (.getfield 79) := by decide +kernel
theorem f110_79 : fldR (moN 110) 79 = some (4, 0) := by decide +kernel
theorem c110_37 : cdA 110 37 = some (.invokestatic 261) := by decide +kernel
theorem m110_261 : mthR (moN 110) 261 = 128 := by decide +kernel
theorem F125 : mF 125 2 2 false := by unfold mF; decide +kernel
theorem K125 : ¬ mK 125 = 4 := by decide +kernel
theorem c110_40 : cdA 110 40 = some (.ifCond .eq 9) := by decide +kernel
theorem c110_49 : cdA 110 49 = some (.iload 4) := by decide +kernel
theorem c110_51 : cdA 110 51 = some (.iconst 4) := by decide +kernel
theorem c110_52 : cdA 110 52 = some (.invokestatic 67) := by decide +kernel
theorem c110_43 : cdA 110 43 = some (.aload_n 0) := by decide +kernel
theorem c110_44 : cdA 110 44 = some (.iconst (-1)) := by decide +kernel
theorem c110_45 : cdA 110 45 = some (.invokevirtual 71) := by decide +kernel
theorem m110_71 : mthR (moN 110) 71 = 124 := by decide +kernel
theorem c110_48 : cdA 110 48 = some (.ireturn) := by decide +kernel
theorem c110_55 : cdA 110 55 = some (.ifCond .eq 10) := by decide +kernel
theorem c110_65 : cdA 110 65 = some (.iload_n 2) := by decide +kernel
theorem c110_66 : cdA 110 66 = some (.invokestatic 264) := by decide +kernel
theorem m110_264 : mthR (moN 110) 264 = 225 := by decide +kernel
theorem c110_58 : cdA 110 58 = some (.aload_n 0) := by decide +kernel
theorem c110_59 : cdA 110 59 = some (.bipush (-2)) := by decide +kernel
theorem c110_61 : cdA 110 61 = some (.invokevirtual 71) := by decide +kernel
theorem c110_6 : cdA 110 6 = some (.ifCond .ne 37) := by decide +kernel
theorem c110_9 : cdA 110 9 = some (.iload_n 2) := by decide +kernel
theorem c110_10 : cdA 110 10 = some (.aload_n 0) := by decide +kernel
theorem c110_11 : cdA 110 11 = some (.getfield 10) := by decide +kernel
theorem c110_14 : cdA 110 14 = some (.getfield 142) := by decide +kernel
theorem f110_142 : fldR (moN 110) 142 = some (1, 3) := by decide +kernel
theorem c110_17 : cdA 110 17 = some (.getfield 150) := by decide +kernel
theorem f110_150 : fldR (moN 110) 150 = some (3, 2) := by decide +kernel
theorem c110_20 : cdA 110 20 = some (.invokestatic 261) := by decide +kernel
theorem c110_64 : cdA 110 64 = some (.ireturn) := by decide +kernel
theorem c110_69 : cdA 110 69 = some (.istore 5) := by decide +kernel
theorem c110_71 : cdA 110 71 = some (.iload 5) := by decide +kernel
theorem c110_73 : cdA 110 73 = some (.iconst 3) := by decide +kernel
theorem c110_74 : cdA 110 74 = some (.if_icmp .le 10) := by decide +kernel
theorem c110_84 : cdA 110 84 = some (.iload 4) := by decide +kernel
theorem c110_86 : cdA 110 86 = some (.iload 5) := by decide +kernel
theorem c110_88 : cdA 110 88 = some (.if_icmp .le 6) := by decide +kernel
theorem c110_94 : cdA 110 94 = some (.aload_n 0) := by decide +kernel
theorem c110_95 : cdA 110 95 = some (.getfield 28) := by decide +kernel
theorem c110_98 : cdA 110 98 = some (.iload_n 1) := by decide +kernel
theorem c110_99 : cdA 110 99 = some (.invokevirtual 205) := by decide +kernel
theorem m110_205 : mthR (moN 110) 205 = 60 := by decide +kernel
theorem c110_91 : cdA 110 91 = some (.bipush (-9)) := by decide +kernel
theorem c110_93 : cdA 110 93 = some (.ireturn) := by decide +kernel
theorem c110_77 : cdA 110 77 = some (.aload_n 0) := by decide +kernel
theorem c110_78 : cdA 110 78 = some (.bipush (-6)) := by decide +kernel
theorem c110_80 : cdA 110 80 = some (.invokevirtual 71) := by decide +kernel
theorem c110_83 : cdA 110 83 = some (.ireturn) := by decide +kernel
theorem b110_0 {d : Nat} {h : HP} {Q : PV → HP → Prop} {v1 v2 v3 v4 : Int} (H : X d 123 0 [some (I v1), some (I 12)] [] h (fun r h' => X (d + 1) 110 6 [some (P 0), some (I v1), some (I v2), some (I v3), some (I v4), none, none, none, none, none] [r] h' Q)) : X (d + 1) 110 0 [some (P 0), some (I v1), some (I v2), some (I v3), some (I v4), none, none, none, none, none] [] h Q :=
  s_iload_n c110_0 rfl (s_bipush c110_1 ⟨by decide, by decide⟩ (s_cSi c110_3 m110_67 F123 K123 rfl (Nat.le_of_ble_eq_true rfl) rfl rfl H))
theorem b110_102 {d : Nat} {h : HP} {Q : PV → HP → Prop} {v1 v2 v3 v4 v5 : Int} (H : X d 110 112 [some (P 0), some (I v1), some (I v2), some (I v3), some (I v4), some (I v5), some (I (-9)), some (I 0), some (I 0), none] [] h Q) : X d 110 102 [some (P 0), some (I v1), some (I v2), some (I v3), some (I v4), some (I v5), none, none, none, none] [] h Q :=
  s_bipush c110_102 ⟨by decide, by decide⟩ (s_istore c110_104 rfl (s_iconst c110_106 rfl (s_istore c110_107 rfl (s_iconst c110_109 rfl (s_istore c110_110 rfl (H))))))
theorem b110_112 {d : Nat} {h : HP} {Q : PV → HP → Prop} {v1 v2 v3 v4 v5 v6 v7 v8 : Int} (H : (((bShl 1 (w32 (3 * v5))) ≤ v8) → (((v4 = 0) → Q (I v6) h) ∧ (¬ (v4 = 0) → (((¬ v6 = (-9)) → Q (I (bAnd (bShr v7 (w32 (3 * (w32 (v5 - v4))))) 7)) h) ∧ (¬ (¬ v6 = (-9)) → Q (I v6) h))))) ∧ (¬ ((bShl 1 (w32 (3 * v5))) ≤ v8) → X d 61 0 [some (P 41), some (I v2), some (I v3), some (I v8), some (I v5), none, none, none, none] [] h (fun r h' => X (d + 1) 110 136 [some (P 0), some (I v1), some (I v2), some (I v3), some (I v4), some (I v5), some (I v6), some (I v7), some (I v8), none] [r] h' Q))) : X (d + 1) 110 112 [some (P 0), some (I v1), some (I v2), some (I v3), some (I v4), some (I v5), some (I v6), some (I v7), some (I v8), none] [] h Q :=
  s_iload c110_112 rfl (s_iconst c110_114 rfl (s_iconst c110_115 rfl (s_iload c110_116 rfl (s_imul c110_118 (s_ishl c110_119 (s_ifc 179 ((bShl 1 (w32 (3 * v5))) ≤ v8) c110_120 (by decide) rfl ⟨fun q1 => s_iload c110_179 rfl (s_if 191 (v4 = 0) c110_181 (by decide) rfl ⟨fun q2 => s_iload c110_191 rfl (s_retI c110_193 R110 ((H.1 q1).1 q2)), fun q2 => s_iload c110_184 rfl (s_bipush c110_186 ⟨by decide, by decide⟩ (s_ifc 194 (¬ v6 = (-9)) c110_188 (by decide) rfl ⟨fun q3 => s_iload c110_194 rfl (s_iconst c110_196 rfl (s_iload c110_197 rfl (s_iload c110_199 rfl (s_isub c110_201 (s_imul c110_202 (s_ishr c110_203 (s_bipush c110_204 ⟨by decide, by decide⟩ (s_iand c110_206 (s_retI c110_207 R110 (((H.1 q1).2 q2).1 q3)))))))))), fun q3 => s_iload c110_191 rfl (s_retI c110_193 R110 (((H.1 q1).2 q2).2 q3))⟩))⟩), fun q1 => s_aload_n c110_123 rfl (s_getP 41 c110_124 f110_28 t11_2 sh_0 g_0_2 (by decide) (by decide) (s_iload_n c110_127 rfl (s_iload_n c110_128 rfl (s_iload c110_129 rfl (s_iload c110_131 rfl (s_cVi c110_133 m110_269 F61 K61 rfl (Nat.le_of_ble_eq_true rfl) rfl S61_41 rfl (H.2 q1)))))))⟩))))))
theorem b110_136 {d : Nat} {h : HP} {Q : PV → HP → Prop} {v1 v2 v3 v4 v5 v6 v7 v8 s0 : Int} (H : ((¬ s0 = 0) → X d 63 0 [some (P 41), none, none] [] h (fun r h' => X (d + 1) 110 149 [some (P 0), some (I v1), some (I v2), some (I v3), some (I v4), some (I v5), some (I v6), some (I v7), some (I v8), none] [r] h' Q)) ∧ (¬ (¬ s0 = 0) → X (d + 1) 110 173 [some (P 0), some (I v1), some (I v2), some (I v3), some (I v4), some (I v5), some (I v6), some (I v7), some (I v8), none] [] h Q)) : X (d + 1) 110 136 [some (P 0), some (I v1), some (I v2), some (I v3), some (I v4), some (I v5), some (I v6), some (I v7), some (I v8), none] [I s0] h Q :=
  s_if 142 (¬ s0 = 0) c110_136 (by decide) rfl ⟨fun q4 => s_aload_n c110_142 rfl (s_getP 41 c110_143 f110_28 t11_2 sh_0 g_0_2 (by decide) (by decide) (s_cVi c110_146 m110_273 F63 K63 rfl (Nat.le_of_ble_eq_true rfl) rfl S63_41 rfl (H.1 q4))), fun q4 => s_goto 173 c110_139 (by decide) ((H.2 q4))⟩
theorem b110_149 {d : Nat} {h : HP} {Q : PV → HP → Prop} {v1 v2 v3 v4 v5 v6 v7 v8 s0 : Int} (H : ((v6 = (-9)) → X d 110 165 [some (P 0), some (I v1), some (I v2), some (I v3), some (I v4), some (I v5), some (I v6), some (I v7), some (I v8), some (I s0)] [] h Q) ∧ (¬ (v6 = (-9)) → (((v6 ≤ s0) → X d 110 173 [some (P 0), some (I v1), some (I v2), some (I v3), some (I v4), some (I v5), some (I v6), some (I v7), some (I v8), none] [] h Q) ∧ (¬ (v6 ≤ s0) → X d 110 165 [some (P 0), some (I v1), some (I v2), some (I v3), some (I v4), some (I v5), some (I v6), some (I v7), some (I v8), some (I s0)] [] h Q)))) : X d 110 149 [some (P 0), some (I v1), some (I v2), some (I v3), some (I v4), some (I v5), some (I v6), some (I v7), some (I v8), none] [I s0] h Q :=
  s_istore c110_149 rfl (s_iload c110_151 rfl (s_bipush c110_153 ⟨by decide, by decide⟩ (s_ifc 165 (v6 = (-9)) c110_155 (by decide) rfl ⟨fun q5 => (H.1 q5), fun q5 => s_iload c110_158 rfl (s_iload c110_160 rfl (s_ifc 173 (v6 ≤ s0) c110_162 (by decide) rfl ⟨fun q6 => X_weak (A := [some (P 0), some (I v1), some (I v2), some (I v3), some (I v4), some (I v5), some (I v6), some (I v7), some (I v8), none]) (B := [some (P 0), some (I v1), some (I v2), some (I v3), some (I v4), some (I v5), some (I v6), some (I v7), some (I v8), some (I s0)]) ⟨Or.inl rfl, Or.inl rfl, Or.inl rfl, Or.inl rfl, Or.inl rfl, Or.inl rfl, Or.inl rfl, Or.inl rfl, Or.inl rfl, Or.inr ⟨rfl, _, rfl, rfl⟩, trivial⟩ ((H.2 q5).1 q6), fun q6 => ((H.2 q5).2 q6)⟩))⟩)))
theorem b110_165 {d : Nat} {h : HP} {Q : PV → HP → Prop} {v1 v2 v3 v4 v5 v6 v7 v8 v9 : Int} (H : X d 110 173 [some (P 0), some (I v1), some (I v2), some (I v3), some (I v4), some (I v5), some (I v9), some (I v8), some (I v8), none] [] h Q) : X d 110 165 [some (P 0), some (I v1), some (I v2), some (I v3), some (I v4), some (I v5), some (I v6), some (I v7), some (I v8), some (I v9)] [] h Q :=
  s_iload c110_165 rfl (s_istore c110_167 rfl (s_iload c110_169 rfl (s_istore c110_171 rfl (X_weak (A := [some (P 0), some (I v1), some (I v2), some (I v3), some (I v4), some (I v5), some (I v9), some (I v8), some (I v8), none]) (B := [some (P 0), some (I v1), some (I v2), some (I v3), some (I v4), some (I v5), some (I v9), some (I v8), some (I v8), some (I v9)]) ⟨Or.inl rfl, Or.inl rfl, Or.inl rfl, Or.inl rfl, Or.inl rfl, Or.inl rfl, Or.inl rfl, Or.inl rfl, Or.inl rfl, Or.inr ⟨rfl, _, rfl, rfl⟩, trivial⟩ H))))
theorem b110_173 {d : Nat} {h : HP} {Q : PV → HP → Prop} {v1 v2 v3 v4 v5 v6 v7 v8 : Int} (H : X d 110 112 [some (P 0), some (I v1), some (I v2), some (I v3), some (I v4), some (I v5), some (I v6), some (I v7), some (I (w32 (v8 + 1))), none] [] h Q) : X d 110 173 [some (P 0), some (I v1), some (I v2), some (I v3), some (I v4), some (I v5), some (I v6), some (I v7), some (I v8), none] [] h Q :=
  s_iinc c110_173 rfl rfl rfl (s_goto 112 c110_176 (by decide) (H))
theorem b110_23 {d : Nat} {h : HP} {Q : PV → HP → Prop} {v1 v2 v3 v4 s0 : Int} (H : ((¬ s0 = 0) → X (d + 1) 110 43 [some (P 0), some (I v1), some (I v2), some (I v3), some (I v4), none, none, none, none, none] [] h Q) ∧ (¬ (¬ s0 = 0) → X d 125 0 [some (I v3), some (I (h 2 0))] [] h (fun r h' => X (d + 1) 110 40 [some (P 0), some (I v1), some (I v2), some (I v3), some (I v4), none, none, none, none, none] [r] h' Q))) : X (d + 1) 110 23 [some (P 0), some (I v1), some (I v2), some (I v3), some (I v4), none, none, none, none, none] [I s0] h Q :=
  s_if 43 (¬ s0 = 0) c110_23 (by decide) rfl ⟨fun q7 => (H.1 q7), fun q7 => s_iload_n c110_26 rfl (s_aload_n c110_27 rfl (s_getP 1 c110_28 f110_10 t11_0 sh_0 g_0_0 (by decide) (by decide) (s_getP 2 c110_31 f110_75 t1_0 sh_1 g_1_0 (by decide) (by decide) (s_getI c110_34 f110_79 t4_0 sh_2 (s_cSi c110_37 m110_261 F125 K125 rfl (Nat.le_of_ble_eq_true rfl) rfl rfl (H.2 q7))))))⟩
theorem b110_40 {d : Nat} {h : HP} {Q : PV → HP → Prop} {v1 v2 v3 v4 s0 : Int} (H : ((s0 = 0) → X d 123 0 [some (I v4), some (I 4)] [] h (fun r h' => X (d + 1) 110 55 [some (P 0), some (I v1), some (I v2), some (I v3), some (I v4), none, none, none, none, none] [r] h' Q)) ∧ (¬ (s0 = 0) → X (d + 1) 110 43 [some (P 0), some (I v1), some (I v2), some (I v3), some (I v4), none, none, none, none, none] [] h Q)) : X (d + 1) 110 40 [some (P 0), some (I v1), some (I v2), some (I v3), some (I v4), none, none, none, none, none] [I s0] h Q :=
  s_if 49 (s0 = 0) c110_40 (by decide) rfl ⟨fun q8 => s_iload c110_49 rfl (s_iconst c110_51 rfl (s_cSi c110_52 m110_67 F123 K123 rfl (Nat.le_of_ble_eq_true rfl) rfl rfl (H.1 q8))), fun q8 => (H.2 q8)⟩
theorem b110_43 {d : Nat} {h : HP} {Q : PV → HP → Prop} {v1 v2 v3 v4 : Int} (H : X d 121 0 [some (P 0), some (I (-1))] [] h (fun r h' => X (d + 1) 110 48 [some (P 0), some (I v1), some (I v2), some (I v3), some (I v4), none, none, none, none, none] [r] h' Q)) : X (d + 1) 110 43 [some (P 0), some (I v1), some (I v2), some (I v3), some (I v4), none, none, none, none, none] [] h Q :=
  s_aload_n c110_43 rfl (s_iconst c110_44 rfl (s_cVi c110_45 m110_71 F121 K121 rfl (Nat.le_of_ble_eq_true rfl) rfl S121_0 rfl H))
theorem b110_48 {d : Nat} {h : HP} {Q : PV → HP → Prop} {v1 v2 v3 v4 s0 : Int} (H : Q (I s0) h) : X d 110 48 [some (P 0), some (I v1), some (I v2), some (I v3), some (I v4), none, none, none, none, none] [I s0] h Q :=
  s_retI c110_48 R110 H
theorem b110_55 {d : Nat} {h : HP} {Q : PV → HP → Prop} {v1 v2 v3 v4 s0 : Int} (H : ((s0 = 0) → X d 222 0 [some (I v2)] [] h (fun r h' => X (d + 1) 110 69 [some (P 0), some (I v1), some (I v2), some (I v3), some (I v4), none, none, none, none, none] [r] h' Q)) ∧ (¬ (s0 = 0) → X d 121 0 [some (P 0), some (I (-2))] [] h (fun r h' => X (d + 1) 110 64 [some (P 0), some (I v1), some (I v2), some (I v3), some (I v4), none, none, none, none, none] [r] h' Q))) : X (d + 1) 110 55 [some (P 0), some (I v1), some (I v2), some (I v3), some (I v4), none, none, none, none, none] [I s0] h Q :=
  s_if 65 (s0 = 0) c110_55 (by decide) rfl ⟨fun q9 => s_iload_n c110_65 rfl (s_cSi c110_66 m110_264 F222 K222 rfl (Nat.le_of_ble_eq_true rfl) rfl rfl (H.1 q9)), fun q9 => s_aload_n c110_58 rfl (s_bipush c110_59 ⟨by decide, by decide⟩ (s_cVi c110_61 m110_71 F121 K121 rfl (Nat.le_of_ble_eq_true rfl) rfl S121_0 rfl (H.2 q9)))⟩
theorem b110_6 {d : Nat} {h : HP} {Q : PV → HP → Prop} {v1 v2 v3 v4 s0 : Int} (H : ((¬ s0 = 0) → X (d + 1) 110 43 [some (P 0), some (I v1), some (I v2), some (I v3), some (I v4), none, none, none, none, none] [] h Q) ∧ (¬ (¬ s0 = 0) → X d 125 0 [some (I v2), some (I (h 22 2))] [] h (fun r h' => X (d + 1) 110 23 [some (P 0), some (I v1), some (I v2), some (I v3), some (I v4), none, none, none, none, none] [r] h' Q))) : X (d + 1) 110 6 [some (P 0), some (I v1), some (I v2), some (I v3), some (I v4), none, none, none, none, none] [I s0] h Q :=
  s_if 43 (¬ s0 = 0) c110_6 (by decide) rfl ⟨fun q10 => (H.1 q10), fun q10 => s_iload_n c110_9 rfl (s_aload_n c110_10 rfl (s_getP 1 c110_11 f110_10 t11_0 sh_0 g_0_0 (by decide) (by decide) (s_getP 22 c110_14 f110_142 t1_3 sh_1 g_1_3 (by decide) (by decide) (s_getI c110_17 f110_150 t3_2 sh_22 (s_cSi c110_20 m110_261 F125 K125 rfl (Nat.le_of_ble_eq_true rfl) rfl rfl (H.2 q10))))))⟩
theorem b110_64 {d : Nat} {h : HP} {Q : PV → HP → Prop} {v1 v2 v3 v4 s0 : Int} (H : Q (I s0) h) : X d 110 64 [some (P 0), some (I v1), some (I v2), some (I v3), some (I v4), none, none, none, none, none] [I s0] h Q :=
  s_retI c110_64 R110 H
theorem b110_69 {d : Nat} {h : HP} {Q : PV → HP → Prop} {v1 v2 v3 v4 s0 : Int} (H : ((s0 ≤ 3) → (((v4 ≤ s0) → X d 57 0 [some (P 41), some (I v1), none] [] h (fun _ h' => X (d + 1) 110 102 [some (P 0), some (I v1), some (I v2), some (I v3), some (I v4), some (I s0), none, none, none, none] [] h' Q)) ∧ (¬ (v4 ≤ s0) → Q (I (-9)) h))) ∧ (¬ (s0 ≤ 3) → X d 121 0 [some (P 0), some (I (-6))] [] h (fun r h' => X (d + 1) 110 83 [some (P 0), some (I v1), some (I v2), some (I v3), some (I v4), some (I s0), none, none, none, none] [r] h' Q))) : X (d + 1) 110 69 [some (P 0), some (I v1), some (I v2), some (I v3), some (I v4), none, none, none, none, none] [I s0] h Q :=
  s_istore c110_69 rfl (s_iload c110_71 rfl (s_iconst c110_73 rfl (s_ifc 84 (s0 ≤ 3) c110_74 (by decide) rfl ⟨fun q11 => s_iload c110_84 rfl (s_iload c110_86 rfl (s_ifc 94 (v4 ≤ s0) c110_88 (by decide) rfl ⟨fun q12 => s_aload_n c110_94 rfl (s_getP 41 c110_95 f110_28 t11_2 sh_0 g_0_2 (by decide) (by decide) (s_iload_n c110_98 rfl (s_cVv c110_99 m110_205 F57 K57 rfl (Nat.le_of_ble_eq_true rfl) rfl S57_41 rfl ((H.1 q11).1 q12)))), fun q12 => s_bipush c110_91 ⟨by decide, by decide⟩ (s_retI c110_93 R110 ((H.1 q11).2 q12))⟩)), fun q11 => s_aload_n c110_77 rfl (s_bipush c110_78 ⟨by decide, by decide⟩ (s_cVi c110_80 m110_71 F121 K121 rfl (Nat.le_of_ble_eq_true rfl) rfl S121_0 rfl (H.2 q11)))⟩)))
theorem b110_83 {d : Nat} {h : HP} {Q : PV → HP → Prop} {v1 v2 v3 v4 v5 s0 : Int} (H : Q (I s0) h) : X d 110 83 [some (P 0), some (I v1), some (I v2), some (I v3), some (I v4), some (I v5), none, none, none, none] [I s0] h Q :=
  s_retI c110_83 R110 H
-- WarmSide.marks(III)I
theorem c111_0 : cdA 111 0 = some (.aload_n 0) := by decide +kernel
theorem c111_1 : cdA 111 1 = some (.iload_n 1) := by decide +kernel
theorem c111_2 : cdA 111 2 = some (.invokevirtual 88) := by decide +kernel
theorem m111_88 : mthR (moN 111) 88 = 127 := by decide +kernel
theorem c111_13 : cdA 111 13 = some (.ireturn) := by decide +kernel
theorem R111 : mK 111 = 0 := by decide +kernel
theorem c111_23 : cdA 111 23 = some (.aload_n 0) := by decide +kernel
theorem c111_24 : cdA 111 24 = some (.bipush (-4)) := by decide +kernel
theorem c111_26 : cdA 111 26 = some (.invokevirtual 71) := by decide +kernel
theorem m111_71 : mthR (moN 111) 71 = 124 := by decide +kernel
theorem c111_29 : cdA 111 29 = some (.ireturn) := by decide +kernel
theorem c111_43 : cdA 111 43 = some (.ireturn) := by decide +kernel
theorem c111_5 : cdA 111 5 = some (.ifCond .eq 9) := by decide +kernel
theorem c111_14 : cdA 111 14 = some (.iload_n 2) := by decide +kernel
theorem c111_15 : cdA 111 15 = some (.ifCond .lt 8) := by decide +kernel
theorem c111_18 : cdA 111 18 = some (.iload_n 3) := by decide +kernel
theorem c111_19 : cdA 111 19 = some (.iload_n 2) := by decide +kernel
theorem c111_20 : cdA 111 20 = some (.if_icmp .ge 10) := by decide +kernel
theorem c111_30 : cdA 111 30 = some (.iload_n 3) := by decide +kernel
theorem c111_31 : cdA 111 31 = some (.sipush 600) := by decide +kernel
theorem c111_34 : cdA 111 34 = some (.if_icmp .le 10) := by decide +kernel
theorem c111_44 : cdA 111 44 = some (.aload_n 0) := by decide +kernel
theorem c111_45 : cdA 111 45 = some (.getfield 10) := by decide +kernel
theorem f111_10 : fldR (moN 111) 10 = some (11, 0) := by decide +kernel
theorem c111_48 : cdA 111 48 = some (.getfield 75) := by decide +kernel
theorem f111_75 : fldR (moN 111) 75 = some (1, 0) := by decide +kernel
theorem c111_51 : cdA 111 51 = some (.getfield 199) := by decide +kernel
theorem f111_199 : fldR (moN 111) 199 = some (4, 8) := by decide +kernel
theorem c111_54 : cdA 111 54 = some (.iload_n 1) := by decide +kernel
theorem c111_55 : cdA 111 55 = some (.iload_n 2) := by decide +kernel
theorem c111_56 : cdA 111 56 = some (.iastore) := by decide +kernel
theorem c111_57 : cdA 111 57 = some (.aload_n 0) := by decide +kernel
theorem c111_58 : cdA 111 58 = some (.getfield 10) := by decide +kernel
theorem c111_61 : cdA 111 61 = some (.getfield 75) := by decide +kernel
theorem c111_64 : cdA 111 64 = some (.getfield 202) := by decide +kernel
theorem f111_202 : fldR (moN 111) 202 = some (4, 9) := by decide +kernel
theorem c111_67 : cdA 111 67 = some (.iload_n 1) := by decide +kernel
theorem c111_68 : cdA 111 68 = some (.iload_n 3) := by decide +kernel
theorem c111_69 : cdA 111 69 = some (.iastore) := by decide +kernel
theorem c111_70 : cdA 111 70 = some (.iconst 1) := by decide +kernel
theorem c111_71 : cdA 111 71 = some (.ireturn) := by decide +kernel
theorem c111_37 : cdA 111 37 = some (.aload_n 0) := by decide +kernel
theorem c111_38 : cdA 111 38 = some (.bipush (-6)) := by decide +kernel
theorem c111_40 : cdA 111 40 = some (.invokevirtual 71) := by decide +kernel
theorem c111_8 : cdA 111 8 = some (.aload_n 0) := by decide +kernel
theorem c111_9 : cdA 111 9 = some (.iconst (-1)) := by decide +kernel
theorem c111_10 : cdA 111 10 = some (.invokevirtual 71) := by decide +kernel
theorem b111_0 {d : Nat} {h : HP} {Q : PV → HP → Prop} {v1 v2 v3 : Int} (H : X d 124 0 [some (P 0), some (I v1)] [] h (fun r h' => X (d + 1) 111 5 [some (P 0), some (I v1), some (I v2), some (I v3)] [r] h' Q)) : X (d + 1) 111 0 [some (P 0), some (I v1), some (I v2), some (I v3)] [] h Q :=
  s_aload_n c111_0 rfl (s_iload_n c111_1 rfl (s_cVi c111_2 m111_88 F124 K124 rfl (Nat.le_of_ble_eq_true rfl) rfl S124_0 rfl H))
theorem b111_13 {d : Nat} {h : HP} {Q : PV → HP → Prop} {v1 v2 v3 s0 : Int} (H : Q (I s0) h) : X d 111 13 [some (P 0), some (I v1), some (I v2), some (I v3)] [I s0] h Q :=
  s_retI c111_13 R111 H
theorem b111_23 {d : Nat} {h : HP} {Q : PV → HP → Prop} {v1 v2 v3 : Int} (H : X d 121 0 [some (P 0), some (I (-4))] [] h (fun r h' => X (d + 1) 111 29 [some (P 0), some (I v1), some (I v2), some (I v3)] [r] h' Q)) : X (d + 1) 111 23 [some (P 0), some (I v1), some (I v2), some (I v3)] [] h Q :=
  s_aload_n c111_23 rfl (s_bipush c111_24 ⟨by decide, by decide⟩ (s_cVi c111_26 m111_71 F121 K121 rfl (Nat.le_of_ble_eq_true rfl) rfl S121_0 rfl H))
theorem b111_29 {d : Nat} {h : HP} {Q : PV → HP → Prop} {v1 v2 v3 s0 : Int} (H : Q (I s0) h) : X d 111 29 [some (P 0), some (I v1), some (I v2), some (I v3)] [I s0] h Q :=
  s_retI c111_29 R111 H
theorem b111_43 {d : Nat} {h : HP} {Q : PV → HP → Prop} {v1 v2 v3 s0 : Int} (H : Q (I s0) h) : X d 111 43 [some (P 0), some (I v1), some (I v2), some (I v3)] [I s0] h Q :=
  s_retI c111_43 R111 H
theorem b111_5 {d : Nat} {h : HP} {Q : PV → HP → Prop} {v1 v2 v3 s0 : Int} (H : ((s0 = 0) → (((v2 < 0) → X (d + 1) 111 23 [some (P 0), some (I v1), some (I v2), some (I v3)] [] h Q) ∧ (¬ (v2 < 0) → (((v2 ≤ v3) → (((v3 ≤ 600) → ((0 ≤ v1 ∧ v1 < 8) ∧ ((0 ≤ v1 ∧ v1 < 8) ∧ Q (I 1) (up2 (up2 h 10 v1.toNat v2) 11 v1.toNat v3)))) ∧ (¬ (v3 ≤ 600) → X d 121 0 [some (P 0), some (I (-6))] [] h (fun r h' => X (d + 1) 111 43 [some (P 0), some (I v1), some (I v2), some (I v3)] [r] h' Q)))) ∧ (¬ (v2 ≤ v3) → X (d + 1) 111 23 [some (P 0), some (I v1), some (I v2), some (I v3)] [] h Q))))) ∧ (¬ (s0 = 0) → X d 121 0 [some (P 0), some (I (-1))] [] h (fun r h' => X (d + 1) 111 13 [some (P 0), some (I v1), some (I v2), some (I v3)] [r] h' Q))) : X (d + 1) 111 5 [some (P 0), some (I v1), some (I v2), some (I v3)] [I s0] h Q :=
  s_if 14 (s0 = 0) c111_5 (by decide) rfl ⟨fun q1 => s_iload_n c111_14 rfl (s_if 23 (v2 < 0) c111_15 (by decide) rfl ⟨fun q2 => ((H.1 q1).1 q2), fun q2 => s_iload_n c111_18 rfl (s_iload_n c111_19 rfl (s_ifc 30 (v2 ≤ v3) c111_20 (by decide) rfl ⟨fun q3 => s_iload_n c111_30 rfl (s_sipush c111_31 ⟨by decide, by decide⟩ (s_ifc 44 (v3 ≤ 600) c111_34 (by decide) rfl ⟨fun q4 => s_aload_n c111_44 rfl (s_getP 1 c111_45 f111_10 t11_0 sh_0 g_0_0 (by decide) (by decide) (s_getP 2 c111_48 f111_75 t1_0 sh_1 g_1_0 (by decide) (by decide) (s_getP 10 c111_51 f111_199 t4_8 sh_2 g_2_8 (by decide) (by decide) (s_iload_n c111_54 rfl (s_iload_n c111_55 rfl (s_iast c111_56 sh_10 ⟨((((H.1 q1).2 q2).1 q3).1 q4).1, s_aload_n c111_57 rfl (s_getP 1 c111_58 f111_10 t11_0 sh_0 g_0_0 (by decide) (by decide) (s_getP 2 c111_61 f111_75 t1_0 sh_1 g_1_0 (by decide) (by decide) (s_getP 11 c111_64 f111_202 t4_9 sh_2 g_2_9 (by decide) (by decide) (s_iload_n c111_67 rfl (s_iload_n c111_68 rfl (s_iast c111_69 sh_11 ⟨((((H.1 q1).2 q2).1 q3).1 q4).2.1, s_iconst c111_70 rfl (s_retI c111_71 R111 ((((H.1 q1).2 q2).1 q3).1 q4).2.2)⟩))))))⟩)))))), fun q4 => s_aload_n c111_37 rfl (s_bipush c111_38 ⟨by decide, by decide⟩ (s_cVi c111_40 m111_71 F121 K121 rfl (Nat.le_of_ble_eq_true rfl) rfl S121_0 rfl ((((H.1 q1).2 q2).1 q3).2 q4)))⟩)), fun q3 => (((H.1 q1).2 q2).2 q3)⟩))⟩), fun q1 => s_aload_n c111_8 rfl (s_iconst c111_9 rfl (s_cVi c111_10 m111_71 F121 K121 rfl (Nat.le_of_ble_eq_true rfl) rfl S121_0 rfl (H.2 q1)))⟩
-- WarmSide.fails(IZI)I
theorem c112_0 : cdA 112 0 = some (.iload_n 1) := by decide +kernel
theorem c112_1 : cdA 112 1 = some (.aload_n 0) := by decide +kernel
theorem c112_2 : cdA 112 2 = some (.getfield 10) := by decide +kernel
theorem f112_10 : fldR (moN 112) 10 = some (11, 0) := by decide +kernel
theorem c112_5 : cdA 112 5 = some (.getfield 153) := by decide +kernel
theorem f112_153 : fldR (moN 112) 153 = some (1, 4) := by decide +kernel
theorem c112_8 : cdA 112 8 = some (.getfield 150) := by decide +kernel
theorem f112_150 : fldR (moN 112) 150 = some (3, 2) := by decide +kernel
theorem c112_11 : cdA 112 11 = some (.invokestatic 67) := by decide +kernel
theorem m112_67 : mthR (moN 112) 67 = 126 := by decide +kernel
theorem c112_14 : cdA 112 14 = some (.ifCond .ne 12) := by decide +kernel
theorem c112_17 : cdA 112 17 = some (.iload_n 3) := by decide +kernel
theorem c112_18 : cdA 112 18 = some (.bipush 12) := by decide +kernel
theorem c112_20 : cdA 112 20 = some (.invokestatic 67) := by decide +kernel
theorem c112_23 : cdA 112 23 = some (.ifCond .eq 9) := by decide +kernel
theorem c112_32 : cdA 112 32 = some (.aload_n 0) := by decide +kernel
theorem c112_33 : cdA 112 33 = some (.getfield 28) := by decide +kernel
theorem f112_28 : fldR (moN 112) 28 = some (11, 2) := by decide +kernel
theorem c112_36 : cdA 112 36 = some (.iload_n 3) := by decide +kernel
theorem c112_37 : cdA 112 37 = some (.invokevirtual 205) := by decide +kernel
theorem m112_205 : mthR (moN 112) 205 = 60 := by decide +kernel
theorem c112_26 : cdA 112 26 = some (.aload_n 0) := by decide +kernel
theorem c112_27 : cdA 112 27 = some (.iconst (-1)) := by decide +kernel
theorem c112_28 : cdA 112 28 = some (.invokevirtual 71) := by decide +kernel
theorem m112_71 : mthR (moN 112) 71 = 124 := by decide +kernel
theorem c112_31 : cdA 112 31 = some (.ireturn) := by decide +kernel
theorem R112 : mK 112 = 0 := by decide +kernel
theorem c112_40 : cdA 112 40 = some (.iconst 1) := by decide +kernel
theorem c112_41 : cdA 112 41 = some (.iload_n 1) := by decide +kernel
theorem c112_42 : cdA 112 42 = some (.ishl) := by decide +kernel
theorem c112_43 : cdA 112 43 = some (.istore 4) := by decide +kernel
theorem c112_45 : cdA 112 45 = some (.aload_n 0) := by decide +kernel
theorem c112_46 : cdA 112 46 = some (.getfield 28) := by decide +kernel
theorem c112_49 : cdA 112 49 = some (.iload_n 2) := by decide +kernel
theorem c112_50 : cdA 112 50 = some (.ifCond .eq 16) := by decide +kernel
theorem c112_66 : cdA 112 66 = some (.aload_n 0) := by decide +kernel
theorem c112_67 : cdA 112 67 = some (.getfield 28) := by decide +kernel
theorem c112_70 : cdA 112 70 = some (.getfield 214) := by decide +kernel
theorem f112_214 : fldR (moN 112) 214 = some (7, 7) := by decide +kernel
theorem c112_73 : cdA 112 73 = some (.iload 4) := by decide +kernel
theorem c112_75 : cdA 112 75 = some (.iconst (-1)) := by decide +kernel
theorem c112_76 : cdA 112 76 = some (.ixor) := by decide +kernel
theorem c112_77 : cdA 112 77 = some (.iand) := by decide +kernel
theorem c112_53 : cdA 112 53 = some (.aload_n 0) := by decide +kernel
theorem c112_54 : cdA 112 54 = some (.getfield 28) := by decide +kernel
theorem c112_57 : cdA 112 57 = some (.getfield 214) := by decide +kernel
theorem c112_60 : cdA 112 60 = some (.iload 4) := by decide +kernel
theorem c112_62 : cdA 112 62 = some (.ior) := by decide +kernel
theorem c112_63 : cdA 112 63 = some (.goto 15) := by decide +kernel
theorem c112_78 : cdA 112 78 = some (.putfield 214) := by decide +kernel
theorem c112_81 : cdA 112 81 = some (.aload_n 0) := by decide +kernel
theorem c112_82 : cdA 112 82 = some (.getfield 28) := by decide +kernel
theorem c112_85 : cdA 112 85 = some (.invokevirtual 217) := by decide +kernel
theorem m112_217 : mthR (moN 112) 217 = 68 := by decide +kernel
theorem c112_88 : cdA 112 88 = some (.iconst 0) := by decide +kernel
theorem c112_89 : cdA 112 89 = some (.istore 5) := by decide +kernel
theorem c112_91 : cdA 112 91 = some (.iload 5) := by decide +kernel
theorem c112_93 : cdA 112 93 = some (.aload_n 0) := by decide +kernel
theorem c112_94 : cdA 112 94 = some (.getfield 10) := by decide +kernel
theorem c112_97 : cdA 112 97 = some (.getfield 75) := by decide +kernel
theorem f112_75 : fldR (moN 112) 75 = some (1, 0) := by decide +kernel
theorem c112_100 : cdA 112 100 = some (.getfield 79) := by decide +kernel
theorem f112_79 : fldR (moN 112) 79 = some (4, 0) := by decide +kernel
theorem c112_103 : cdA 112 103 = some (.if_icmp .ge 63) := by decide +kernel
theorem c112_166 : cdA 112 166 = some (.bipush (-9)) := by decide +kernel
theorem c112_168 : cdA 112 168 = some (.ireturn) := by decide +kernel
theorem c112_106 : cdA 112 106 = some (.aload_n 0) := by decide +kernel
theorem c112_107 : cdA 112 107 = some (.getfield 28) := by decide +kernel
theorem c112_110 : cdA 112 110 = some (.getfield 276) := by decide +kernel
theorem f112_276 : fldR (moN 112) 276 = some (7, 1) := by decide +kernel
theorem c112_113 : cdA 112 113 = some (.getfield 280) := by decide +kernel
theorem f112_280 : fldR (moN 112) 280 = some (9, 5) := by decide +kernel
theorem c112_116 : cdA 112 116 = some (.iload 5) := by decide +kernel
theorem c112_118 : cdA 112 118 = some (.iaload) := by decide +kernel
theorem c112_119 : cdA 112 119 = some (.istore 6) := by decide +kernel
theorem c112_121 : cdA 112 121 = some (.iload 6) := by decide +kernel
theorem c112_123 : cdA 112 123 = some (.aload_n 0) := by decide +kernel
theorem c112_124 : cdA 112 124 = some (.getfield 10) := by decide +kernel
theorem c112_127 : cdA 112 127 = some (.getfield 75) := by decide +kernel
theorem c112_130 : cdA 112 130 = some (.getfield 199) := by decide +kernel
theorem f112_199 : fldR (moN 112) 199 = some (4, 8) := by decide +kernel
theorem c112_133 : cdA 112 133 = some (.iload 5) := by decide +kernel
theorem c112_135 : cdA 112 135 = some (.iaload) := by decide +kernel
theorem c112_136 : cdA 112 136 = some (.if_icmp .lt 21) := by decide +kernel
theorem c112_157 : cdA 112 157 = some (.iload 5) := by decide +kernel
theorem c112_159 : cdA 112 159 = some (.ireturn) := by decide +kernel
theorem c112_139 : cdA 112 139 = some (.iload 6) := by decide +kernel
theorem c112_141 : cdA 112 141 = some (.aload_n 0) := by decide +kernel
theorem c112_142 : cdA 112 142 = some (.getfield 10) := by decide +kernel
theorem c112_145 : cdA 112 145 = some (.getfield 75) := by decide +kernel
theorem c112_148 : cdA 112 148 = some (.getfield 202) := by decide +kernel
theorem f112_202 : fldR (moN 112) 202 = some (4, 9) := by decide +kernel
theorem c112_151 : cdA 112 151 = some (.iload 5) := by decide +kernel
theorem c112_153 : cdA 112 153 = some (.iaload) := by decide +kernel
theorem c112_154 : cdA 112 154 = some (.if_icmp .le 6) := by decide +kernel
theorem c112_160 : cdA 112 160 = some (.iinc 5 1) := by decide +kernel
theorem c112_163 : cdA 112 163 = some (.goto (-72)) := by decide +kernel
theorem b112_0 {d : Nat} {h : HP} {Q : PV → HP → Prop} {v1 v2 v3 : Int} (H : X d 123 0 [some (I v1), some (I (h 26 2))] [] h (fun r h' => X (d + 1) 112 14 [some (P 0), some (I v1), some (I v2), some (I v3), none, none, none] [r] h' Q)) : X (d + 1) 112 0 [some (P 0), some (I v1), some (I v2), some (I v3), none, none, none] [] h Q :=
  s_iload_n c112_0 rfl (s_aload_n c112_1 rfl (s_getP 1 c112_2 f112_10 t11_0 sh_0 g_0_0 (by decide) (by decide) (s_getP 26 c112_5 f112_153 t1_4 sh_1 g_1_4 (by decide) (by decide) (s_getI c112_8 f112_150 t3_2 sh_26 (s_cSi c112_11 m112_67 F123 K123 rfl (Nat.le_of_ble_eq_true rfl) rfl rfl H)))))
theorem b112_14 {d : Nat} {h : HP} {Q : PV → HP → Prop} {v1 v2 v3 s0 : Int} (H : ((¬ s0 = 0) → X (d + 1) 112 26 [some (P 0), some (I v1), some (I v2), some (I v3), none, none, none] [] h Q) ∧ (¬ (¬ s0 = 0) → X d 123 0 [some (I v3), some (I 12)] [] h (fun r h' => X (d + 1) 112 23 [some (P 0), some (I v1), some (I v2), some (I v3), none, none, none] [r] h' Q))) : X (d + 1) 112 14 [some (P 0), some (I v1), some (I v2), some (I v3), none, none, none] [I s0] h Q :=
  s_if 26 (¬ s0 = 0) c112_14 (by decide) rfl ⟨fun q1 => (H.1 q1), fun q1 => s_iload_n c112_17 rfl (s_bipush c112_18 ⟨by decide, by decide⟩ (s_cSi c112_20 m112_67 F123 K123 rfl (Nat.le_of_ble_eq_true rfl) rfl rfl (H.2 q1)))⟩
theorem b112_23 {d : Nat} {h : HP} {Q : PV → HP → Prop} {v1 v2 v3 s0 : Int} (H : ((s0 = 0) → X d 57 0 [some (P 41), some (I v3), none] [] h (fun _ h' => X (d + 1) 112 40 [some (P 0), some (I v1), some (I v2), some (I v3), none, none, none] [] h' Q)) ∧ (¬ (s0 = 0) → X (d + 1) 112 26 [some (P 0), some (I v1), some (I v2), some (I v3), none, none, none] [] h Q)) : X (d + 1) 112 23 [some (P 0), some (I v1), some (I v2), some (I v3), none, none, none] [I s0] h Q :=
  s_if 32 (s0 = 0) c112_23 (by decide) rfl ⟨fun q2 => s_aload_n c112_32 rfl (s_getP 41 c112_33 f112_28 t11_2 sh_0 g_0_2 (by decide) (by decide) (s_iload_n c112_36 rfl (s_cVv c112_37 m112_205 F57 K57 rfl (Nat.le_of_ble_eq_true rfl) rfl S57_41 rfl (H.1 q2)))), fun q2 => (H.2 q2)⟩
theorem b112_26 {d : Nat} {h : HP} {Q : PV → HP → Prop} {v1 v2 v3 : Int} (H : X d 121 0 [some (P 0), some (I (-1))] [] h (fun r h' => X (d + 1) 112 31 [some (P 0), some (I v1), some (I v2), some (I v3), none, none, none] [r] h' Q)) : X (d + 1) 112 26 [some (P 0), some (I v1), some (I v2), some (I v3), none, none, none] [] h Q :=
  s_aload_n c112_26 rfl (s_iconst c112_27 rfl (s_cVi c112_28 m112_71 F121 K121 rfl (Nat.le_of_ble_eq_true rfl) rfl S121_0 rfl H))
theorem b112_31 {d : Nat} {h : HP} {Q : PV → HP → Prop} {v1 v2 v3 s0 : Int} (H : Q (I s0) h) : X d 112 31 [some (P 0), some (I v1), some (I v2), some (I v3), none, none, none] [I s0] h Q :=
  s_retI c112_31 R112 H
theorem b112_40 {d : Nat} {h : HP} {Q : PV → HP → Prop} {v1 v2 v3 : Int} (H : ((v2 = 0) → X d 112 78 [some (P 0), some (I v1), some (I v2), some (I v3), some (I (bShl 1 v1)), none, none] [I (bAnd (h 41 7) (bXor (bShl 1 v1) (-1))), P 41] h Q) ∧ (¬ (v2 = 0) → X d 112 78 [some (P 0), some (I v1), some (I v2), some (I v3), some (I (bShl 1 v1)), none, none] [I (bOr (h 41 7) (bShl 1 v1)), P 41] h Q)) : X d 112 40 [some (P 0), some (I v1), some (I v2), some (I v3), none, none, none] [] h Q :=
  s_iconst c112_40 rfl (s_iload_n c112_41 rfl (s_ishl c112_42 (s_istore c112_43 rfl (s_aload_n c112_45 rfl (s_getP 41 c112_46 f112_28 t11_2 sh_0 g_0_2 (by decide) (by decide) (s_iload_n c112_49 rfl (s_if 66 (v2 = 0) c112_50 (by decide) rfl ⟨fun q3 => s_aload_n c112_66 rfl (s_getP 41 c112_67 f112_28 t11_2 sh_0 g_0_2 (by decide) (by decide) (s_getI c112_70 f112_214 t7_7 sh_41 (s_iload c112_73 rfl (s_iconst c112_75 rfl (s_ixor c112_76 (s_iand c112_77 ((H.1 q3)))))))), fun q3 => s_aload_n c112_53 rfl (s_getP 41 c112_54 f112_28 t11_2 sh_0 g_0_2 (by decide) (by decide) (s_getI c112_57 f112_214 t7_7 sh_41 (s_iload c112_60 rfl (s_ior c112_62 (s_goto 78 c112_63 (by decide) ((H.2 q3)))))))⟩)))))))
theorem b112_78 {d : Nat} {h : HP} {Q : PV → HP → Prop} {v1 v2 v3 v4 s1 : Int} (H : X d 65 0 [some (P 41), none] [] (up2 h 41 7 s1) (fun _ h' => X (d + 1) 112 88 [some (P 0), some (I v1), some (I v2), some (I v3), some (I v4), none, none] [] h' Q)) : X (d + 1) 112 78 [some (P 0), some (I v1), some (I v2), some (I v3), some (I v4), none, none] [I s1, P 41] h Q :=
  s_putI c112_78 f112_214 t7_7 n7_7 sh_41 (s_aload_n c112_81 rfl (s_getP 41 c112_82 f112_28 t11_2 sh_0 g_0_2 (by decide) (by decide) (s_cVv c112_85 m112_217 F65 K65 rfl (Nat.le_of_ble_eq_true rfl) rfl S65_41 rfl H)))
theorem b112_88 {d : Nat} {h : HP} {Q : PV → HP → Prop} {v1 v2 v3 v4 : Int} (H : X d 112 91 [some (P 0), some (I v1), some (I v2), some (I v3), some (I v4), some (I 0), none] [] h Q) : X d 112 88 [some (P 0), some (I v1), some (I v2), some (I v3), some (I v4), none, none] [] h Q :=
  s_iconst c112_88 rfl (s_istore c112_89 rfl (H))
theorem b112_91 {d : Nat} {h : HP} {Q : PV → HP → Prop} {v1 v2 v3 v4 v5 : Int} (H : (((h 2 0) ≤ v5) → Q (I (-9)) h) ∧ (¬ ((h 2 0) ≤ v5) → ((0 ≤ v5 ∧ v5 < 8) ∧ ((0 ≤ v5 ∧ v5 < 8) ∧ ((((h 48 v5.toNat) < (h 10 v5.toNat)) → Q (I v5) h) ∧ (¬ ((h 48 v5.toNat) < (h 10 v5.toNat)) → ((0 ≤ v5 ∧ v5 < 8) ∧ ((((h 48 v5.toNat) ≤ (h 11 v5.toNat)) → X d 112 91 [some (P 0), some (I v1), some (I v2), some (I v3), some (I v4), some (I (w32 (v5 + 1))), none] [] h Q) ∧ (¬ ((h 48 v5.toNat) ≤ (h 11 v5.toNat)) → Q (I v5) h))))))))) : X d 112 91 [some (P 0), some (I v1), some (I v2), some (I v3), some (I v4), some (I v5), none] [] h Q :=
  s_iload c112_91 rfl (s_aload_n c112_93 rfl (s_getP 1 c112_94 f112_10 t11_0 sh_0 g_0_0 (by decide) (by decide) (s_getP 2 c112_97 f112_75 t1_0 sh_1 g_1_0 (by decide) (by decide) (s_getI c112_100 f112_79 t4_0 sh_2 (s_ifc 166 ((h 2 0) ≤ v5) c112_103 (by decide) rfl ⟨fun q4 => s_bipush c112_166 ⟨by decide, by decide⟩ (s_retI c112_168 R112 (H.1 q4)), fun q4 => s_aload_n c112_106 rfl (s_getP 41 c112_107 f112_28 t11_2 sh_0 g_0_2 (by decide) (by decide) (s_getP 44 c112_110 f112_276 t7_1 sh_41 g_41_1 (by decide) (by decide) (s_getP 48 c112_113 f112_280 t9_5 sh_44 g_44_5 (by decide) (by decide) (s_iload c112_116 rfl (s_iald c112_118 sh_48 ⟨(H.2 q4).1, s_istore c112_119 rfl (s_iload c112_121 rfl (s_aload_n c112_123 rfl (s_getP 1 c112_124 f112_10 t11_0 sh_0 g_0_0 (by decide) (by decide) (s_getP 2 c112_127 f112_75 t1_0 sh_1 g_1_0 (by decide) (by decide) (s_getP 10 c112_130 f112_199 t4_8 sh_2 g_2_8 (by decide) (by decide) (s_iload c112_133 rfl (s_iald c112_135 sh_10 ⟨(H.2 q4).2.1, s_ifc 157 ((h 48 v5.toNat) < (h 10 v5.toNat)) c112_136 (by decide) rfl ⟨fun q5 => s_iload c112_157 rfl (s_retI c112_159 R112 ((H.2 q4).2.2.1 q5)), fun q5 => s_iload c112_139 rfl (s_aload_n c112_141 rfl (s_getP 1 c112_142 f112_10 t11_0 sh_0 g_0_0 (by decide) (by decide) (s_getP 2 c112_145 f112_75 t1_0 sh_1 g_1_0 (by decide) (by decide) (s_getP 11 c112_148 f112_202 t4_9 sh_2 g_2_9 (by decide) (by decide) (s_iload c112_151 rfl (s_iald c112_153 sh_11 ⟨((H.2 q4).2.2.2 q5).1, s_ifc 160 ((h 48 v5.toNat) ≤ (h 11 v5.toNat)) c112_154 (by decide) rfl ⟨fun q6 => s_iinc c112_160 rfl rfl rfl (s_goto 91 c112_163 (by decide) (X_weak (A := [some (P 0), some (I v1), some (I v2), some (I v3), some (I v4), some (I (w32 (v5 + 1))), none]) (B := [some (P 0), some (I v1), some (I v2), some (I v3), some (I v4), some (I (w32 (v5 + 1))), some (I (h 48 v5.toNat))]) ⟨Or.inl rfl, Or.inl rfl, Or.inl rfl, Or.inl rfl, Or.inl rfl, Or.inl rfl, Or.inr ⟨rfl, _, rfl, rfl⟩, trivial⟩ (((H.2 q4).2.2.2 q5).2.1 q6))), fun q6 => s_iload c112_157 rfl (s_retI c112_159 R112 (((H.2 q4).2.2.2 q5).2.2 q6))⟩⟩))))))⟩⟩)))))))⟩)))))⟩)))))
-- WarmSide.freeze(I)I
theorem c113_0 : cdA 113 0 = some (.iload_n 1) := by decide +kernel
theorem c113_1 : cdA 113 1 = some (.ifCond .ge 10) := by decide +kernel
theorem c113_11 : cdA 113 11 = some (.iload_n 1) := by decide +kernel
theorem c113_12 : cdA 113 12 = some (.sipush 600) := by decide +kernel
theorem c113_15 : cdA 113 15 = some (.if_icmp .le 10) := by decide +kernel
theorem c113_25 : cdA 113 25 = some (.aload_n 0) := by decide +kernel
theorem c113_26 : cdA 113 26 = some (.getfield 10) := by decide +kernel
theorem f113_10 : fldR (moN 113) 10 = some (11, 0) := by decide +kernel
theorem c113_29 : cdA 113 29 = some (.getfield 100) := by decide +kernel
theorem f113_100 : fldR (moN 113) 100 = some (1, 5) := by decide +kernel
theorem c113_32 : cdA 113 32 = some (.getfield 285) := by decide +kernel
theorem f113_285 : fldR (moN 113) 285 = some (8, 6) := by decide +kernel
theorem c113_35 : cdA 113 35 = some (.istore_n 2) := by decide +kernel
theorem c113_36 : cdA 113 36 = some (.aload_n 0) := by decide +kernel
theorem c113_37 : cdA 113 37 = some (.getfield 10) := by decide +kernel
theorem c113_40 : cdA 113 40 = some (.getfield 100) := by decide +kernel
theorem c113_43 : cdA 113 43 = some (.iload_n 1) := by decide +kernel
theorem c113_44 : cdA 113 44 = some (.putfield 285) := by decide +kernel
theorem n8_6 : ffin 8 6 = false := by decide +kernel
theorem c113_47 : cdA 113 47 = some (.iload_n 2) := by decide +kernel
theorem c113_48 : cdA 113 48 = some (.ireturn) := by decide +kernel
theorem R113 : mK 113 = 0 := by decide +kernel
theorem c113_18 : cdA 113 18 = some (.aload_n 0) := by decide +kernel
theorem c113_19 : cdA 113 19 = some (.bipush (-6)) := by decide +kernel
theorem c113_21 : cdA 113 21 = some (.invokevirtual 71) := by decide +kernel
theorem m113_71 : mthR (moN 113) 71 = 124 := by decide +kernel
theorem c113_4 : cdA 113 4 = some (.aload_n 0) := by decide +kernel
theorem c113_5 : cdA 113 5 = some (.bipush (-4)) := by decide +kernel
theorem c113_7 : cdA 113 7 = some (.invokevirtual 71) := by decide +kernel
theorem c113_10 : cdA 113 10 = some (.ireturn) := by decide +kernel
theorem c113_24 : cdA 113 24 = some (.ireturn) := by decide +kernel
theorem b113_0 {d : Nat} {h : HP} {Q : PV → HP → Prop} {v1 : Int} (H : ((0 ≤ v1) → (((v1 ≤ 600) → Q (I (h 30 6)) (up2 h 30 6 v1)) ∧ (¬ (v1 ≤ 600) → X d 121 0 [some (P 0), some (I (-6))] [] h (fun r h' => X (d + 1) 113 24 [some (P 0), some (I v1), none] [r] h' Q)))) ∧ (¬ (0 ≤ v1) → X d 121 0 [some (P 0), some (I (-4))] [] h (fun r h' => X (d + 1) 113 10 [some (P 0), some (I v1), none] [r] h' Q))) : X (d + 1) 113 0 [some (P 0), some (I v1), none] [] h Q :=
  s_iload_n c113_0 rfl (s_if 11 (0 ≤ v1) c113_1 (by decide) rfl ⟨fun q1 => s_iload_n c113_11 rfl (s_sipush c113_12 ⟨by decide, by decide⟩ (s_ifc 25 (v1 ≤ 600) c113_15 (by decide) rfl ⟨fun q2 => s_aload_n c113_25 rfl (s_getP 1 c113_26 f113_10 t11_0 sh_0 g_0_0 (by decide) (by decide) (s_getP 30 c113_29 f113_100 t1_5 sh_1 g_1_5 (by decide) (by decide) (s_getI c113_32 f113_285 t8_6 sh_30 (s_istore_n c113_35 rfl (s_aload_n c113_36 rfl (s_getP 1 c113_37 f113_10 t11_0 sh_0 g_0_0 (by decide) (by decide) (s_getP 30 c113_40 f113_100 t1_5 sh_1 g_1_5 (by decide) (by decide) (s_iload_n c113_43 rfl (s_putI c113_44 f113_285 t8_6 n8_6 sh_30 (s_iload_n c113_47 rfl (s_retI c113_48 R113 ((H.1 q1).1 q2)))))))))))), fun q2 => s_aload_n c113_18 rfl (s_bipush c113_19 ⟨by decide, by decide⟩ (s_cVi c113_21 m113_71 F121 K121 rfl (Nat.le_of_ble_eq_true rfl) rfl S121_0 rfl ((H.1 q1).2 q2)))⟩)), fun q1 => s_aload_n c113_4 rfl (s_bipush c113_5 ⟨by decide, by decide⟩ (s_cVi c113_7 m113_71 F121 K121 rfl (Nat.le_of_ble_eq_true rfl) rfl S121_0 rfl (H.2 q1)))⟩)
theorem b113_10 {d : Nat} {h : HP} {Q : PV → HP → Prop} {v1 s0 : Int} (H : Q (I s0) h) : X d 113 10 [some (P 0), some (I v1), none] [I s0] h Q :=
  s_retI c113_10 R113 H
theorem b113_24 {d : Nat} {h : HP} {Q : PV → HP → Prop} {v1 s0 : Int} (H : Q (I s0) h) : X d 113 24 [some (P 0), some (I v1), none] [I s0] h Q :=
  s_retI c113_24 R113 H
-- WarmSide.thaws(II)I
theorem c114_0 : cdA 114 0 = some (.iload_n 1) := by decide +kernel
theorem c114_1 : cdA 114 1 = some (.bipush 12) := by decide +kernel
theorem c114_3 : cdA 114 3 = some (.invokestatic 67) := by decide +kernel
theorem m114_67 : mthR (moN 114) 67 = 126 := by decide +kernel
theorem c114_14 : cdA 114 14 = some (.ireturn) := by decide +kernel
theorem R114 : mK 114 = 0 := by decide +kernel
theorem c114_25 : cdA 114 25 = some (.ireturn) := by decide +kernel
theorem c114_34 : cdA 114 34 = some (.bipush (-9)) := by decide +kernel
theorem c114_36 : cdA 114 36 = some (.istore_n 3) := by decide +kernel
theorem c114_37 : cdA 114 37 = some (.iconst 0) := by decide +kernel
theorem c114_38 : cdA 114 38 = some (.istore 4) := by decide +kernel
theorem c114_40 : cdA 114 40 = some (.iload 4) := by decide +kernel
theorem c114_42 : cdA 114 42 = some (.iload_n 2) := by decide +kernel
theorem c114_43 : cdA 114 43 = some (.if_icmp .gt 33) := by decide +kernel
theorem c114_76 : cdA 114 76 = some (.iload_n 3) := by decide +kernel
theorem c114_77 : cdA 114 77 = some (.ireturn) := by decide +kernel
theorem c114_46 : cdA 114 46 = some (.iload 4) := by decide +kernel
theorem c114_48 : cdA 114 48 = some (.bipush 8) := by decide +kernel
theorem c114_50 : cdA 114 50 = some (.if_icmp .gt 26) := by decide +kernel
theorem c114_53 : cdA 114 53 = some (.aload_n 0) := by decide +kernel
theorem c114_54 : cdA 114 54 = some (.getfield 28) := by decide +kernel
theorem f114_28 : fldR (moN 114) 28 = some (11, 2) := by decide +kernel
theorem c114_57 : cdA 114 57 = some (.invokevirtual 288) := by decide +kernel
theorem m114_288 : mthR (moN 114) 288 = 67 := by decide +kernel
theorem F64 : mF 64 0 3 true := by unfold mF; decide +kernel
theorem K64 : ¬ mK 64 = 4 := by decide +kernel
theorem S64_41 : SH0[41]? = some (.inl (moN 64)) := by decide +kernel
theorem c114_6 : cdA 114 6 = some (.ifCond .eq 9) := by decide +kernel
theorem c114_15 : cdA 114 15 = some (.iload_n 2) := by decide +kernel
theorem c114_16 : cdA 114 16 = some (.ifCond .ge 10) := by decide +kernel
theorem c114_26 : cdA 114 26 = some (.aload_n 0) := by decide +kernel
theorem c114_27 : cdA 114 27 = some (.getfield 28) := by decide +kernel
theorem c114_30 : cdA 114 30 = some (.iload_n 1) := by decide +kernel
theorem c114_31 : cdA 114 31 = some (.invokevirtual 205) := by decide +kernel
theorem m114_205 : mthR (moN 114) 205 = 60 := by decide +kernel
theorem c114_19 : cdA 114 19 = some (.aload_n 0) := by decide +kernel
theorem c114_20 : cdA 114 20 = some (.bipush (-4)) := by decide +kernel
theorem c114_22 : cdA 114 22 = some (.invokevirtual 71) := by decide +kernel
theorem m114_71 : mthR (moN 114) 71 = 124 := by decide +kernel
theorem c114_9 : cdA 114 9 = some (.aload_n 0) := by decide +kernel
theorem c114_10 : cdA 114 10 = some (.iconst (-1)) := by decide +kernel
theorem c114_11 : cdA 114 11 = some (.invokevirtual 71) := by decide +kernel
theorem c114_60 : cdA 114 60 = some (.istore_n 3) := by decide +kernel
theorem c114_61 : cdA 114 61 = some (.iload_n 3) := by decide +kernel
theorem c114_62 : cdA 114 62 = some (.bipush (-9)) := by decide +kernel
theorem c114_64 : cdA 114 64 = some (.if_icmp .ne 6) := by decide +kernel
theorem c114_70 : cdA 114 70 = some (.iinc 4 1) := by decide +kernel
theorem c114_73 : cdA 114 73 = some (.goto (-33)) := by decide +kernel
theorem c114_67 : cdA 114 67 = some (.bipush (-9)) := by decide +kernel
theorem c114_69 : cdA 114 69 = some (.ireturn) := by decide +kernel
theorem b114_0 {d : Nat} {h : HP} {Q : PV → HP → Prop} {v1 v2 : Int} (H : X d 123 0 [some (I v1), some (I 12)] [] h (fun r h' => X (d + 1) 114 6 [some (P 0), some (I v1), some (I v2), none, none] [r] h' Q)) : X (d + 1) 114 0 [some (P 0), some (I v1), some (I v2), none, none] [] h Q :=
  s_iload_n c114_0 rfl (s_bipush c114_1 ⟨by decide, by decide⟩ (s_cSi c114_3 m114_67 F123 K123 rfl (Nat.le_of_ble_eq_true rfl) rfl rfl H))
theorem b114_14 {d : Nat} {h : HP} {Q : PV → HP → Prop} {v1 v2 s0 : Int} (H : Q (I s0) h) : X d 114 14 [some (P 0), some (I v1), some (I v2), none, none] [I s0] h Q :=
  s_retI c114_14 R114 H
theorem b114_25 {d : Nat} {h : HP} {Q : PV → HP → Prop} {v1 v2 s0 : Int} (H : Q (I s0) h) : X d 114 25 [some (P 0), some (I v1), some (I v2), none, none] [I s0] h Q :=
  s_retI c114_25 R114 H
theorem b114_34 {d : Nat} {h : HP} {Q : PV → HP → Prop} {v1 v2 : Int} (H : X d 114 40 [some (P 0), some (I v1), some (I v2), some (I (-9)), some (I 0)] [] h Q) : X d 114 34 [some (P 0), some (I v1), some (I v2), none, none] [] h Q :=
  s_bipush c114_34 ⟨by decide, by decide⟩ (s_istore_n c114_36 rfl (s_iconst c114_37 rfl (s_istore c114_38 rfl (H))))
theorem b114_40 {d : Nat} {h : HP} {Q : PV → HP → Prop} {v1 v2 v3 v4 : Int} (H : ((v2 < v4) → Q (I v3) h) ∧ (¬ (v2 < v4) → (((8 < v4) → Q (I v3) h) ∧ (¬ (8 < v4) → X d 64 0 [some (P 41), none, none] [] h (fun r h' => X (d + 1) 114 60 [some (P 0), some (I v1), some (I v2), some (I v3), some (I v4)] [r] h' Q))))) : X (d + 1) 114 40 [some (P 0), some (I v1), some (I v2), some (I v3), some (I v4)] [] h Q :=
  s_iload c114_40 rfl (s_iload_n c114_42 rfl (s_ifc 76 (v2 < v4) c114_43 (by decide) rfl ⟨fun q1 => s_iload_n c114_76 rfl (s_retI c114_77 R114 (H.1 q1)), fun q1 => s_iload c114_46 rfl (s_bipush c114_48 ⟨by decide, by decide⟩ (s_ifc 76 (8 < v4) c114_50 (by decide) rfl ⟨fun q2 => s_iload_n c114_76 rfl (s_retI c114_77 R114 ((H.2 q1).1 q2)), fun q2 => s_aload_n c114_53 rfl (s_getP 41 c114_54 f114_28 t11_2 sh_0 g_0_2 (by decide) (by decide) (s_cVi c114_57 m114_288 F64 K64 rfl (Nat.le_of_ble_eq_true rfl) rfl S64_41 rfl ((H.2 q1).2 q2)))⟩))⟩))
theorem b114_6 {d : Nat} {h : HP} {Q : PV → HP → Prop} {v1 v2 s0 : Int} (H : ((s0 = 0) → (((0 ≤ v2) → X d 57 0 [some (P 41), some (I v1), none] [] h (fun _ h' => X (d + 1) 114 34 [some (P 0), some (I v1), some (I v2), none, none] [] h' Q)) ∧ (¬ (0 ≤ v2) → X d 121 0 [some (P 0), some (I (-4))] [] h (fun r h' => X (d + 1) 114 25 [some (P 0), some (I v1), some (I v2), none, none] [r] h' Q)))) ∧ (¬ (s0 = 0) → X d 121 0 [some (P 0), some (I (-1))] [] h (fun r h' => X (d + 1) 114 14 [some (P 0), some (I v1), some (I v2), none, none] [r] h' Q))) : X (d + 1) 114 6 [some (P 0), some (I v1), some (I v2), none, none] [I s0] h Q :=
  s_if 15 (s0 = 0) c114_6 (by decide) rfl ⟨fun q3 => s_iload_n c114_15 rfl (s_if 26 (0 ≤ v2) c114_16 (by decide) rfl ⟨fun q4 => s_aload_n c114_26 rfl (s_getP 41 c114_27 f114_28 t11_2 sh_0 g_0_2 (by decide) (by decide) (s_iload_n c114_30 rfl (s_cVv c114_31 m114_205 F57 K57 rfl (Nat.le_of_ble_eq_true rfl) rfl S57_41 rfl ((H.1 q3).1 q4)))), fun q4 => s_aload_n c114_19 rfl (s_bipush c114_20 ⟨by decide, by decide⟩ (s_cVi c114_22 m114_71 F121 K121 rfl (Nat.le_of_ble_eq_true rfl) rfl S121_0 rfl ((H.1 q3).2 q4)))⟩), fun q3 => s_aload_n c114_9 rfl (s_iconst c114_10 rfl (s_cVi c114_11 m114_71 F121 K121 rfl (Nat.le_of_ble_eq_true rfl) rfl S121_0 rfl (H.2 q3)))⟩
theorem b114_60 {d : Nat} {h : HP} {Q : PV → HP → Prop} {v1 v2 v3 v4 s0 : Int} (H : ((¬ s0 = (-9)) → X d 114 40 [some (P 0), some (I v1), some (I v2), some (I s0), some (I (w32 (v4 + 1)))] [] h Q) ∧ (¬ (¬ s0 = (-9)) → Q (I (-9)) h)) : X d 114 60 [some (P 0), some (I v1), some (I v2), some (I v3), some (I v4)] [I s0] h Q :=
  s_istore_n c114_60 rfl (s_iload_n c114_61 rfl (s_bipush c114_62 ⟨by decide, by decide⟩ (s_ifc 70 (¬ s0 = (-9)) c114_64 (by decide) rfl ⟨fun q5 => s_iinc c114_70 rfl rfl rfl (s_goto 40 c114_73 (by decide) ((H.1 q5))), fun q5 => s_bipush c114_67 ⟨by decide, by decide⟩ (s_retI c114_69 R114 (H.2 q5))⟩)))
-- WarmSide.thaw(I)I
theorem c115_0 : cdA 115 0 = some (.iload_n 1) := by decide +kernel
theorem c115_1 : cdA 115 1 = some (.bipush 12) := by decide +kernel
theorem c115_3 : cdA 115 3 = some (.invokestatic 67) := by decide +kernel
theorem m115_67 : mthR (moN 115) 67 = 126 := by decide +kernel
theorem c115_14 : cdA 115 14 = some (.ireturn) := by decide +kernel
theorem R115 : mK 115 = 0 := by decide +kernel
theorem c115_23 : cdA 115 23 = some (.iconst 0) := by decide +kernel
theorem c115_24 : cdA 115 24 = some (.istore_n 2) := by decide +kernel
theorem c115_25 : cdA 115 25 = some (.iconst 0) := by decide +kernel
theorem c115_26 : cdA 115 26 = some (.istore_n 3) := by decide +kernel
theorem c115_27 : cdA 115 27 = some (.iload_n 3) := by decide +kernel
theorem c115_28 : cdA 115 28 = some (.bipush 8) := by decide +kernel
theorem c115_30 : cdA 115 30 = some (.if_icmp .ge 45) := by decide +kernel
theorem c115_33 : cdA 115 33 = some (.aload_n 0) := by decide +kernel
theorem c115_34 : cdA 115 34 = some (.getfield 28) := by decide +kernel
theorem f115_28 : fldR (moN 115) 28 = some (11, 2) := by decide +kernel
theorem c115_37 : cdA 115 37 = some (.invokevirtual 288) := by decide +kernel
theorem m115_288 : mthR (moN 115) 288 = 67 := by decide +kernel
theorem c115_40 : cdA 115 40 = some (.istore 4) := by decide +kernel
theorem c115_42 : cdA 115 42 = some (.iload 4) := by decide +kernel
theorem c115_44 : cdA 115 44 = some (.bipush (-9)) := by decide +kernel
theorem c115_46 : cdA 115 46 = some (.if_icmp .ne 6) := by decide +kernel
theorem c115_52 : cdA 115 52 = some (.aload_n 0) := by decide +kernel
theorem c115_53 : cdA 115 53 = some (.getfield 10) := by decide +kernel
theorem f115_10 : fldR (moN 115) 10 = some (11, 0) := by decide +kernel
theorem c115_56 : cdA 115 56 = some (.getfield 136) := by decide +kernel
theorem f115_136 : fldR (moN 115) 136 = some (1, 2) := by decide +kernel
theorem c115_59 : cdA 115 59 = some (.getfield 291) := by decide +kernel
theorem f115_291 : fldR (moN 115) 291 = some (2, 5) := by decide +kernel
theorem c115_62 : cdA 115 62 = some (.iload 4) := by decide +kernel
theorem c115_64 : cdA 115 64 = some (.iconst 0) := by decide +kernel
theorem c115_65 : cdA 115 65 = some (.iastore) := by decide +kernel
theorem c115_66 : cdA 115 66 = some (.iinc 2 1) := by decide +kernel
theorem c115_69 : cdA 115 69 = some (.iinc 3 1) := by decide +kernel
theorem c115_72 : cdA 115 72 = some (.goto (-45)) := by decide +kernel
theorem c115_49 : cdA 115 49 = some (.goto 26) := by decide +kernel
theorem c115_6 : cdA 115 6 = some (.ifCond .eq 9) := by decide +kernel
theorem c115_15 : cdA 115 15 = some (.aload_n 0) := by decide +kernel
theorem c115_16 : cdA 115 16 = some (.getfield 28) := by decide +kernel
theorem c115_19 : cdA 115 19 = some (.iload_n 1) := by decide +kernel
theorem c115_20 : cdA 115 20 = some (.invokevirtual 205) := by decide +kernel
theorem m115_205 : mthR (moN 115) 205 = 60 := by decide +kernel
theorem c115_9 : cdA 115 9 = some (.aload_n 0) := by decide +kernel
theorem c115_10 : cdA 115 10 = some (.iconst (-1)) := by decide +kernel
theorem c115_11 : cdA 115 11 = some (.invokevirtual 71) := by decide +kernel
theorem m115_71 : mthR (moN 115) 71 = 124 := by decide +kernel
theorem c115_75 : cdA 115 75 = some (.aload_n 0) := by decide +kernel
theorem c115_76 : cdA 115 76 = some (.getfield 44) := by decide +kernel
theorem f115_44 : fldR (moN 115) 44 = some (11, 4) := by decide +kernel
theorem c115_79 : cdA 115 79 = some (.invokevirtual 193) := by decide +kernel
theorem m115_193 : mthR (moN 115) 193 = 4 := by decide +kernel
theorem c115_82 : cdA 115 82 = some (.iload_n 2) := by decide +kernel
theorem c115_83 : cdA 115 83 = some (.ireturn) := by decide +kernel
theorem b115_0 {d : Nat} {h : HP} {Q : PV → HP → Prop} {v1 : Int} (H : X d 123 0 [some (I v1), some (I 12)] [] h (fun r h' => X (d + 1) 115 6 [some (P 0), some (I v1), none, none, none] [r] h' Q)) : X (d + 1) 115 0 [some (P 0), some (I v1), none, none, none] [] h Q :=
  s_iload_n c115_0 rfl (s_bipush c115_1 ⟨by decide, by decide⟩ (s_cSi c115_3 m115_67 F123 K123 rfl (Nat.le_of_ble_eq_true rfl) rfl rfl H))
theorem b115_14 {d : Nat} {h : HP} {Q : PV → HP → Prop} {v1 s0 : Int} (H : Q (I s0) h) : X d 115 14 [some (P 0), some (I v1), none, none, none] [I s0] h Q :=
  s_retI c115_14 R115 H
theorem b115_23 {d : Nat} {h : HP} {Q : PV → HP → Prop} {v1 : Int} (H : X d 115 27 [some (P 0), some (I v1), some (I 0), some (I 0), none] [] h Q) : X d 115 23 [some (P 0), some (I v1), none, none, none] [] h Q :=
  s_iconst c115_23 rfl (s_istore_n c115_24 rfl (s_iconst c115_25 rfl (s_istore_n c115_26 rfl (H))))
theorem b115_27 {d : Nat} {h : HP} {Q : PV → HP → Prop} {v1 v2 v3 : Int} (H : ((8 ≤ v3) → X (d + 1) 115 75 [some (P 0), some (I v1), some (I v2), some (I v3), none] [] h Q) ∧ (¬ (8 ≤ v3) → X d 64 0 [some (P 41), none, none] [] h (fun r h' => X (d + 1) 115 40 [some (P 0), some (I v1), some (I v2), some (I v3), none] [r] h' Q))) : X (d + 1) 115 27 [some (P 0), some (I v1), some (I v2), some (I v3), none] [] h Q :=
  s_iload_n c115_27 rfl (s_bipush c115_28 ⟨by decide, by decide⟩ (s_ifc 75 (8 ≤ v3) c115_30 (by decide) rfl ⟨fun q1 => (H.1 q1), fun q1 => s_aload_n c115_33 rfl (s_getP 41 c115_34 f115_28 t11_2 sh_0 g_0_2 (by decide) (by decide) (s_cVi c115_37 m115_288 F64 K64 rfl (Nat.le_of_ble_eq_true rfl) rfl S64_41 rfl (H.2 q1)))⟩))
theorem b115_40 {d : Nat} {h : HP} {Q : PV → HP → Prop} {v1 v2 v3 s0 : Int} (H : ((¬ s0 = (-9)) → ((0 ≤ s0 ∧ s0 < 8) ∧ X d 115 27 [some (P 0), some (I v1), some (I (w32 (v2 + 1))), some (I (w32 (v3 + 1))), none] [] (up2 h 21 s0.toNat 0) Q)) ∧ (¬ (¬ s0 = (-9)) → X d 115 75 [some (P 0), some (I v1), some (I v2), some (I v3), none] [] h Q)) : X d 115 40 [some (P 0), some (I v1), some (I v2), some (I v3), none] [I s0] h Q :=
  s_istore c115_40 rfl (s_iload c115_42 rfl (s_bipush c115_44 ⟨by decide, by decide⟩ (s_ifc 52 (¬ s0 = (-9)) c115_46 (by decide) rfl ⟨fun q2 => s_aload_n c115_52 rfl (s_getP 1 c115_53 f115_10 t11_0 sh_0 g_0_0 (by decide) (by decide) (s_getP 17 c115_56 f115_136 t1_2 sh_1 g_1_2 (by decide) (by decide) (s_getP 21 c115_59 f115_291 t2_5 sh_17 g_17_5 (by decide) (by decide) (s_iload c115_62 rfl (s_iconst c115_64 rfl (s_iast c115_65 sh_21 ⟨(H.1 q2).1, s_iinc c115_66 rfl rfl rfl (s_iinc c115_69 rfl rfl rfl (s_goto 27 c115_72 (by decide) (X_weak (A := [some (P 0), some (I v1), some (I (w32 (v2 + 1))), some (I (w32 (v3 + 1))), none]) (B := [some (P 0), some (I v1), some (I (w32 (v2 + 1))), some (I (w32 (v3 + 1))), some (I s0)]) ⟨Or.inl rfl, Or.inl rfl, Or.inl rfl, Or.inl rfl, Or.inr ⟨rfl, _, rfl, rfl⟩, trivial⟩ (H.1 q2).2)))⟩)))))), fun q2 => s_goto 75 c115_49 (by decide) (X_weak (A := [some (P 0), some (I v1), some (I v2), some (I v3), none]) (B := [some (P 0), some (I v1), some (I v2), some (I v3), some (I s0)]) ⟨Or.inl rfl, Or.inl rfl, Or.inl rfl, Or.inl rfl, Or.inr ⟨rfl, _, rfl, rfl⟩, trivial⟩ (H.2 q2))⟩)))
theorem b115_6 {d : Nat} {h : HP} {Q : PV → HP → Prop} {v1 s0 : Int} (H : ((s0 = 0) → X d 57 0 [some (P 41), some (I v1), none] [] h (fun _ h' => X (d + 1) 115 23 [some (P 0), some (I v1), none, none, none] [] h' Q)) ∧ (¬ (s0 = 0) → X d 121 0 [some (P 0), some (I (-1))] [] h (fun r h' => X (d + 1) 115 14 [some (P 0), some (I v1), none, none, none] [r] h' Q))) : X (d + 1) 115 6 [some (P 0), some (I v1), none, none, none] [I s0] h Q :=
  s_if 15 (s0 = 0) c115_6 (by decide) rfl ⟨fun q3 => s_aload_n c115_15 rfl (s_getP 41 c115_16 f115_28 t11_2 sh_0 g_0_2 (by decide) (by decide) (s_iload_n c115_19 rfl (s_cVv c115_20 m115_205 F57 K57 rfl (Nat.le_of_ble_eq_true rfl) rfl S57_41 rfl (H.1 q3)))), fun q3 => s_aload_n c115_9 rfl (s_iconst c115_10 rfl (s_cVi c115_11 m115_71 F121 K121 rfl (Nat.le_of_ble_eq_true rfl) rfl S121_0 rfl (H.2 q3)))⟩
theorem b115_75 {d : Nat} {h : HP} {Q : PV → HP → Prop} {v1 v2 v3 : Int} (H : X d 1 0 [some (P 57)] [] h (fun _ h' => X (d + 1) 115 82 [some (P 0), some (I v1), some (I v2), some (I v3), none] [] h' Q)) : X (d + 1) 115 75 [some (P 0), some (I v1), some (I v2), some (I v3), none] [] h Q :=
  s_aload_n c115_75 rfl (s_getP 57 c115_76 f115_44 t11_4 sh_0 g_0_4 (by decide) (by decide) (s_cVv c115_79 m115_193 F1 K1 rfl (Nat.le_of_ble_eq_true rfl) rfl S1_57 rfl H))
theorem b115_82 {d : Nat} {h : HP} {Q : PV → HP → Prop} {v1 v2 v3 : Int} (H : Q (I v2) h) : X d 115 82 [some (P 0), some (I v1), some (I v2), some (I v3), none] [] h Q :=
  s_iload_n c115_82 rfl (s_retI c115_83 R115 H)
-- WarmSide.work(I)I
theorem c116_0 : cdA 116 0 = some (.iload_n 1) := by decide +kernel
theorem c116_1 : cdA 116 1 = some (.aload_n 0) := by decide +kernel
theorem c116_2 : cdA 116 2 = some (.getfield 10) := by decide +kernel
theorem f116_10 : fldR (moN 116) 10 = some (11, 0) := by decide +kernel
theorem c116_5 : cdA 116 5 = some (.getfield 142) := by decide +kernel
theorem f116_142 : fldR (moN 116) 142 = some (1, 3) := by decide +kernel
theorem c116_8 : cdA 116 8 = some (.getfield 150) := by decide +kernel
theorem f116_150 : fldR (moN 116) 150 = some (3, 2) := by decide +kernel
theorem c116_11 : cdA 116 11 = some (.invokestatic 67) := by decide +kernel
theorem m116_67 : mthR (moN 116) 67 = 126 := by decide +kernel
theorem c116_14 : cdA 116 14 = some (.ifCond .eq 9) := by decide +kernel
theorem c116_23 : cdA 116 23 = some (.aload_n 0) := by decide +kernel
theorem c116_24 : cdA 116 24 = some (.getfield 37) := by decide +kernel
theorem f116_37 : fldR (moN 116) 37 = some (11, 3) := by decide +kernel
theorem c116_27 : cdA 116 27 = some (.iload_n 1) := by decide +kernel
theorem c116_28 : cdA 116 28 = some (.invokevirtual 294) := by decide +kernel
theorem m116_294 : mthR (moN 116) 294 = 56 := by decide +kernel
theorem F53 : mF 53 1 3 true := by unfold mF; decide +kernel
theorem K53 : ¬ mK 53 = 4 := by decide +kernel
theorem S53_52 : SH0[52]? = some (.inl (moN 53)) := by decide +kernel
theorem c116_17 : cdA 116 17 = some (.aload_n 0) := by decide +kernel
theorem c116_18 : cdA 116 18 = some (.iconst (-1)) := by decide +kernel
theorem c116_19 : cdA 116 19 = some (.invokevirtual 71) := by decide +kernel
theorem m116_71 : mthR (moN 116) 71 = 124 := by decide +kernel
theorem c116_22 : cdA 116 22 = some (.ireturn) := by decide +kernel
theorem R116 : mK 116 = 0 := by decide +kernel
theorem c116_31 : cdA 116 31 = some (.ireturn) := by decide +kernel
theorem b116_0 {d : Nat} {h : HP} {Q : PV → HP → Prop} {v1 : Int} (H : X d 123 0 [some (I v1), some (I (h 22 2))] [] h (fun r h' => X (d + 1) 116 14 [some (P 0), some (I v1)] [r] h' Q)) : X (d + 1) 116 0 [some (P 0), some (I v1)] [] h Q :=
  s_iload_n c116_0 rfl (s_aload_n c116_1 rfl (s_getP 1 c116_2 f116_10 t11_0 sh_0 g_0_0 (by decide) (by decide) (s_getP 22 c116_5 f116_142 t1_3 sh_1 g_1_3 (by decide) (by decide) (s_getI c116_8 f116_150 t3_2 sh_22 (s_cSi c116_11 m116_67 F123 K123 rfl (Nat.le_of_ble_eq_true rfl) rfl rfl H)))))
theorem b116_14 {d : Nat} {h : HP} {Q : PV → HP → Prop} {v1 s0 : Int} (H : ((s0 = 0) → X d 53 0 [some (P 52), some (I v1), none] [] h (fun r h' => X (d + 1) 116 31 [some (P 0), some (I v1)] [r] h' Q)) ∧ (¬ (s0 = 0) → X d 121 0 [some (P 0), some (I (-1))] [] h (fun r h' => X (d + 1) 116 22 [some (P 0), some (I v1)] [r] h' Q))) : X (d + 1) 116 14 [some (P 0), some (I v1)] [I s0] h Q :=
  s_if 23 (s0 = 0) c116_14 (by decide) rfl ⟨fun q1 => s_aload_n c116_23 rfl (s_getP 52 c116_24 f116_37 t11_3 sh_0 g_0_3 (by decide) (by decide) (s_iload_n c116_27 rfl (s_cVi c116_28 m116_294 F53 K53 rfl (Nat.le_of_ble_eq_true rfl) rfl S53_52 rfl (H.1 q1)))), fun q1 => s_aload_n c116_17 rfl (s_iconst c116_18 rfl (s_cVi c116_19 m116_71 F121 K121 rfl (Nat.le_of_ble_eq_true rfl) rfl S121_0 rfl (H.2 q1)))⟩
theorem b116_22 {d : Nat} {h : HP} {Q : PV → HP → Prop} {v1 s0 : Int} (H : Q (I s0) h) : X d 116 22 [some (P 0), some (I v1)] [I s0] h Q :=
  s_retI c116_22 R116 H
theorem b116_31 {d : Nat} {h : HP} {Q : PV → HP → Prop} {v1 s0 : Int} (H : Q (I s0) h) : X d 116 31 [some (P 0), some (I v1)] [I s0] h Q :=
  s_retI c116_31 R116 H
-- WarmSide.added(IIII)I
theorem c132_0 : cdA 132 0 = some (.aload_n 0) := by decide +kernel
theorem c132_1 : cdA 132 1 = some (.getfield 28) := by decide +kernel
theorem f132_28 : fldR (moN 132) 28 = some (11, 2) := by decide +kernel
theorem c132_4 : cdA 132 4 = some (.iload_n 2) := by decide +kernel
theorem c132_5 : cdA 132 5 = some (.invokevirtual 205) := by decide +kernel
theorem m132_205 : mthR (moN 132) 205 = 60 := by decide +kernel
theorem c132_17 : cdA 132 17 = some (.aload_n 0) := by decide +kernel
theorem c132_18 : cdA 132 18 = some (.getfield 28) := by decide +kernel
theorem c132_21 : cdA 132 21 = some (.iload_n 1) := by decide +kernel
theorem c132_22 : cdA 132 22 = some (.invokevirtual 208) := by decide +kernel
theorem m132_208 : mthR (moN 132) 208 = 65 := by decide +kernel
theorem c132_25 : cdA 132 25 = some (.istore 5) := by decide +kernel
theorem c132_27 : cdA 132 27 = some (.aload_n 0) := by decide +kernel
theorem c132_28 : cdA 132 28 = some (.getfield 28) := by decide +kernel
theorem c132_31 : cdA 132 31 = some (.iload_n 2) := by decide +kernel
theorem c132_32 : cdA 132 32 = some (.invokevirtual 205) := by decide +kernel
theorem c132_35 : cdA 132 35 = some (.aload_n 0) := by decide +kernel
theorem c132_36 : cdA 132 36 = some (.getfield 28) := by decide +kernel
theorem c132_39 : cdA 132 39 = some (.iload 4) := by decide +kernel
theorem c132_41 : cdA 132 41 = some (.iconst 1) := by decide +kernel
theorem c132_42 : cdA 132 42 = some (.iload_n 3) := by decide +kernel
theorem c132_43 : cdA 132 43 = some (.ishl) := by decide +kernel
theorem c132_44 : cdA 132 44 = some (.ior) := by decide +kernel
theorem c132_45 : cdA 132 45 = some (.invokevirtual 344) := by decide +kernel
theorem m132_344 : mthR (moN 132) 344 = 62 := by decide +kernel
theorem c132_48 : cdA 132 48 = some (.aload_n 0) := by decide +kernel
theorem c132_49 : cdA 132 49 = some (.getfield 28) := by decide +kernel
theorem c132_52 : cdA 132 52 = some (.iload_n 1) := by decide +kernel
theorem c132_53 : cdA 132 53 = some (.invokevirtual 208) := by decide +kernel
theorem c132_56 : cdA 132 56 = some (.iload 5) := by decide +kernel
theorem c132_58 : cdA 132 58 = some (.isub) := by decide +kernel
theorem c132_59 : cdA 132 59 = some (.ireturn) := by decide +kernel
theorem R132 : mK 132 = 0 := by decide +kernel
theorem c132_8 : cdA 132 8 = some (.aload_n 0) := by decide +kernel
theorem c132_9 : cdA 132 9 = some (.getfield 28) := by decide +kernel
theorem c132_12 : cdA 132 12 = some (.iload 4) := by decide +kernel
theorem c132_14 : cdA 132 14 = some (.invokevirtual 344) := by decide +kernel
theorem b132_0 {d : Nat} {h : HP} {Q : PV → HP → Prop} {v1 v2 v3 v4 : Int} (H : X d 57 0 [some (P 41), some (I v2), none] [] h (fun _ h' => X (d + 1) 132 8 [some (P 0), some (I v1), some (I v2), some (I v3), some (I v4), none] [] h' Q)) : X (d + 1) 132 0 [some (P 0), some (I v1), some (I v2), some (I v3), some (I v4), none] [] h Q :=
  s_aload_n c132_0 rfl (s_getP 41 c132_1 f132_28 t11_2 sh_0 g_0_2 (by decide) (by decide) (s_iload_n c132_4 rfl (s_cVv c132_5 m132_205 F57 K57 rfl (Nat.le_of_ble_eq_true rfl) rfl S57_41 rfl H)))
theorem b132_17 {d : Nat} {h : HP} {Q : PV → HP → Prop} {v1 v2 v3 v4 : Int} (H : X d 62 0 [some (P 41), some (I v1)] [] h (fun r h' => X (d + 1) 132 25 [some (P 0), some (I v1), some (I v2), some (I v3), some (I v4), none] [r] h' Q)) : X (d + 1) 132 17 [some (P 0), some (I v1), some (I v2), some (I v3), some (I v4), none] [] h Q :=
  s_aload_n c132_17 rfl (s_getP 41 c132_18 f132_28 t11_2 sh_0 g_0_2 (by decide) (by decide) (s_iload_n c132_21 rfl (s_cVi c132_22 m132_208 F62 K62 rfl (Nat.le_of_ble_eq_true rfl) rfl S62_41 rfl H)))
theorem b132_25 {d : Nat} {h : HP} {Q : PV → HP → Prop} {v1 v2 v3 v4 s0 : Int} (H : X d 57 0 [some (P 41), some (I v2), none] [] h (fun _ h' => X (d + 1) 132 35 [some (P 0), some (I v1), some (I v2), some (I v3), some (I v4), some (I s0)] [] h' Q)) : X (d + 1) 132 25 [some (P 0), some (I v1), some (I v2), some (I v3), some (I v4), none] [I s0] h Q :=
  s_istore c132_25 rfl (s_aload_n c132_27 rfl (s_getP 41 c132_28 f132_28 t11_2 sh_0 g_0_2 (by decide) (by decide) (s_iload_n c132_31 rfl (s_cVv c132_32 m132_205 F57 K57 rfl (Nat.le_of_ble_eq_true rfl) rfl S57_41 rfl H))))
theorem b132_35 {d : Nat} {h : HP} {Q : PV → HP → Prop} {v1 v2 v3 v4 v5 : Int} (H : X d 59 0 [some (P 41), some (I (bOr v4 (bShl 1 v3)))] [] h (fun _ h' => X (d + 1) 132 48 [some (P 0), some (I v1), some (I v2), some (I v3), some (I v4), some (I v5)] [] h' Q)) : X (d + 1) 132 35 [some (P 0), some (I v1), some (I v2), some (I v3), some (I v4), some (I v5)] [] h Q :=
  s_aload_n c132_35 rfl (s_getP 41 c132_36 f132_28 t11_2 sh_0 g_0_2 (by decide) (by decide) (s_iload c132_39 rfl (s_iconst c132_41 rfl (s_iload_n c132_42 rfl (s_ishl c132_43 (s_ior c132_44 (s_cVv c132_45 m132_344 F59 K59 rfl (Nat.le_of_ble_eq_true rfl) rfl S59_41 rfl H)))))))
theorem b132_48 {d : Nat} {h : HP} {Q : PV → HP → Prop} {v1 v2 v3 v4 v5 : Int} (H : X d 62 0 [some (P 41), some (I v1)] [] h (fun r h' => X (d + 1) 132 56 [some (P 0), some (I v1), some (I v2), some (I v3), some (I v4), some (I v5)] [r] h' Q)) : X (d + 1) 132 48 [some (P 0), some (I v1), some (I v2), some (I v3), some (I v4), some (I v5)] [] h Q :=
  s_aload_n c132_48 rfl (s_getP 41 c132_49 f132_28 t11_2 sh_0 g_0_2 (by decide) (by decide) (s_iload_n c132_52 rfl (s_cVi c132_53 m132_208 F62 K62 rfl (Nat.le_of_ble_eq_true rfl) rfl S62_41 rfl H)))
theorem b132_56 {d : Nat} {h : HP} {Q : PV → HP → Prop} {v1 v2 v3 v4 v5 s0 : Int} (H : Q (I (w32 (s0 - v5))) h) : X d 132 56 [some (P 0), some (I v1), some (I v2), some (I v3), some (I v4), some (I v5)] [I s0] h Q :=
  s_iload c132_56 rfl (s_isub c132_58 (s_retI c132_59 R132 H))
theorem b132_8 {d : Nat} {h : HP} {Q : PV → HP → Prop} {v1 v2 v3 v4 : Int} (H : X d 59 0 [some (P 41), some (I v4)] [] h (fun _ h' => X (d + 1) 132 17 [some (P 0), some (I v1), some (I v2), some (I v3), some (I v4), none] [] h' Q)) : X (d + 1) 132 8 [some (P 0), some (I v1), some (I v2), some (I v3), some (I v4), none] [] h Q :=
  s_aload_n c132_8 rfl (s_getP 41 c132_9 f132_28 t11_2 sh_0 g_0_2 (by decide) (by decide) (s_iload c132_12 rfl (s_cVv c132_14 m132_344 F59 K59 rfl (Nat.le_of_ble_eq_true rfl) rfl S59_41 rfl H)))
