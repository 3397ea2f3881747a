/-! blocks of WarmSideModel, by program -/
-- WarmSideModel.within(III)Z
theorem c134_0 : cdA 134 0 = some (.iload_n 0) := by decide +kernel
theorem c134_1 : cdA 134 1 = some (.iload_n 1) := by decide +kernel
theorem c134_2 : cdA 134 2 = some (.if_icmp .lt 12) := by decide +kernel
theorem c134_14 : cdA 134 14 = some (.iconst 0) := by decide +kernel
theorem c134_15 : cdA 134 15 = some (.ireturn) := by decide +kernel
theorem R134 : mK 134 = 3 := by decide +kernel
theorem c134_5 : cdA 134 5 = some (.iload_n 0) := by decide +kernel
theorem c134_6 : cdA 134 6 = some (.iload_n 2) := by decide +kernel
theorem c134_7 : cdA 134 7 = some (.if_icmp .gt 7) := by decide +kernel
theorem c134_10 : cdA 134 10 = some (.iconst 1) := by decide +kernel
theorem c134_11 : cdA 134 11 = some (.goto 4) := by decide +kernel
theorem b134_0 {d : Nat} {h : HP} {Q : PV → HP → Prop} {v0 v1 v2 : Int} (H : ((v0 < v1) → Q (I 0) h) ∧ (¬ (v0 < v1) → (((v2 < v0) → Q (I 0) h) ∧ (¬ (v2 < v0) → Q (I 1) h)))) : X d 134 0 [some (I v0), some (I v1), some (I v2)] [] h Q :=
  s_iload_n c134_0 rfl (s_iload_n c134_1 rfl (s_ifc 14 (v0 < v1) c134_2 (by decide) rfl ⟨fun q1 => s_iconst c134_14 rfl (s_retZ c134_15 R134 ⟨by decide, (H.1 q1)⟩), fun q1 => s_iload_n c134_5 rfl (s_iload_n c134_6 rfl (s_ifc 14 (v2 < v0) c134_7 (by decide) rfl ⟨fun q2 => s_iconst c134_14 rfl (s_retZ c134_15 R134 ⟨by decide, ((H.2 q1).1 q2)⟩), fun q2 => s_iconst c134_10 rfl (s_goto 15 c134_11 (by decide) (s_retZ c134_15 R134 ⟨by decide, ((H.2 q1).2 q2)⟩))⟩))⟩))
-- WarmSideModel.refuse(I)I
theorem c135_0 : cdA 135 0 = some (.aload_n 0) := by decide +kernel
theorem c135_1 : cdA 135 1 = some (.getfield 96) := by decide +kernel
theorem f135_96 : fldR (moN 135) 96 = some (12, 38) := by decide +kernel
theorem t12_38 : fcl 12 38 = 2 := by decide +kernel
theorem c135_4 : cdA 135 4 = some (.iload_n 1) := by decide +kernel
theorem c135_5 : cdA 135 5 = some (.ineg) := by decide +kernel
theorem c135_6 : cdA 135 6 = some (.dup2) := by decide +kernel
theorem c135_7 : cdA 135 7 = some (.iaload) := by decide +kernel
theorem c135_8 : cdA 135 8 = some (.iconst 1) := by decide +kernel
theorem c135_9 : cdA 135 9 = some (.iadd) := by decide +kernel
theorem c135_10 : cdA 135 10 = some (.iastore) := by decide +kernel
theorem c135_11 : cdA 135 11 = some (.iload_n 1) := by decide +kernel
theorem c135_12 : cdA 135 12 = some (.ireturn) := by decide +kernel
theorem R135 : mK 135 = 0 := by decide +kernel
theorem b135_0 {d : Nat} {h : HP} {Q : PV → HP → Prop} {v1 : Int} (H : (0 ≤ (w32 (-v1)) ∧ (w32 (-v1)) < 7) ∧ ((0 ≤ (w32 (-v1)) ∧ (w32 (-v1)) < 7) ∧ Q (I v1) (up2 h 97 (w32 (-v1)).toNat (w32 ((h 97 (w32 (-v1)).toNat) + 1))))) : X d 135 0 [some (P 69), some (I v1)] [] h Q :=
  s_aload_n c135_0 rfl (s_getP 97 c135_1 f135_96 t12_38 sh_69 g_69_38 (by decide) (by decide) (s_iload_n c135_4 rfl (s_ineg c135_5 (s_dup2 c135_6 (s_iald c135_7 sh_97 ⟨H.1, s_iconst c135_8 rfl (s_iadd c135_9 (s_iast c135_10 sh_97 ⟨H.2.1, s_iload_n c135_11 rfl (s_retI c135_12 R135 H.2.2)⟩))⟩)))))
-- WarmSideModel.plate(III)I
theorem c139_0 : cdA 139 0 = some (.iload_n 3) := by decide +kernel
theorem c139_1 : cdA 139 1 = some (.iconst 0) := by decide +kernel
theorem c139_2 : cdA 139 2 = some (.iconst 3) := by decide +kernel
theorem c139_3 : cdA 139 3 = some (.invokestatic 183) := by decide +kernel
theorem m139_183 : mthR (moN 139) 183 = 137 := by decide +kernel
theorem F134 : mF 134 3 3 false := by unfold mF; decide +kernel
theorem K134 : ¬ mK 134 = 4 := by decide +kernel
theorem c139_14 : cdA 139 14 = some (.ireturn) := by decide +kernel
theorem R139 : mK 139 = 0 := by decide +kernel
theorem c139_25 : cdA 139 25 = some (.aload_n 0) := by decide +kernel
theorem c139_26 : cdA 139 26 = some (.bipush (-4)) := by decide +kernel
theorem c139_28 : cdA 139 28 = some (.invokevirtual 187) := by decide +kernel
theorem m139_187 : mthR (moN 139) 187 = 138 := by decide +kernel
theorem F135 : mF 135 1 2 true := by unfold mF; decide +kernel
theorem K135 : ¬ mK 135 = 4 := by decide +kernel
theorem S135_69 : SH0[69]? = some (.inl (moN 135)) := by decide +kernel
theorem c139_31 : cdA 139 31 = some (.ireturn) := by decide +kernel
theorem c139_53 : cdA 139 53 = some (.aload_n 0) := by decide +kernel
theorem c139_54 : cdA 139 54 = some (.bipush (-6)) := by decide +kernel
theorem c139_56 : cdA 139 56 = some (.invokevirtual 187) := by decide +kernel
theorem c139_59 : cdA 139 59 = some (.ireturn) := by decide +kernel
theorem c139_6 : cdA 139 6 = some (.ifCond .ne 9) := by decide +kernel
theorem c139_15 : cdA 139 15 = some (.iload_n 1) := by decide +kernel
theorem c139_16 : cdA 139 16 = some (.iconst 1) := by decide +kernel
theorem c139_17 : cdA 139 17 = some (.if_icmp .lt 8) := by decide +kernel
theorem c139_20 : cdA 139 20 = some (.iload_n 2) := by decide +kernel
theorem c139_21 : cdA 139 21 = some (.iconst 1) := by decide +kernel
theorem c139_22 : cdA 139 22 = some (.if_icmp .ge 10) := by decide +kernel
theorem c139_32 : cdA 139 32 = some (.iload_n 1) := by decide +kernel
theorem c139_33 : cdA 139 33 = some (.bipush 99) := by decide +kernel
theorem c139_35 : cdA 139 35 = some (.if_icmp .gt 18) := by decide +kernel
theorem c139_38 : cdA 139 38 = some (.iload_n 2) := by decide +kernel
theorem c139_39 : cdA 139 39 = some (.bipush 20) := by decide +kernel
theorem c139_41 : cdA 139 41 = some (.if_icmp .gt 12) := by decide +kernel
theorem c139_44 : cdA 139 44 = some (.aload_n 0) := by decide +kernel
theorem c139_45 : cdA 139 45 = some (.getfield 180) := by decide +kernel
theorem f139_180 : fldR (moN 139) 180 = some (12, 9) := by decide +kernel
theorem t12_9 : fcl 12 9 = 0 := by decide +kernel
theorem c139_48 : cdA 139 48 = some (.bipush 8) := by decide +kernel
theorem c139_50 : cdA 139 50 = some (.if_icmp .ne 10) := by decide +kernel
theorem c139_60 : cdA 139 60 = some (.aload_n 0) := by decide +kernel
theorem c139_61 : cdA 139 61 = some (.getfield 9) := by decide +kernel
theorem f139_9 : fldR (moN 139) 9 = some (12, 0) := by decide +kernel
theorem t12_0 : fcl 12 0 = 2 := by decide +kernel
theorem c139_64 : cdA 139 64 = some (.aload_n 0) := by decide +kernel
theorem c139_65 : cdA 139 65 = some (.getfield 180) := by decide +kernel
theorem c139_68 : cdA 139 68 = some (.iload_n 1) := by decide +kernel
theorem c139_69 : cdA 139 69 = some (.iastore) := by decide +kernel
theorem c139_70 : cdA 139 70 = some (.aload_n 0) := by decide +kernel
theorem c139_71 : cdA 139 71 = some (.getfield 13) := by decide +kernel
theorem f139_13 : fldR (moN 139) 13 = some (12, 1) := by decide +kernel
theorem t12_1 : fcl 12 1 = 2 := by decide +kernel
theorem c139_74 : cdA 139 74 = some (.aload_n 0) := by decide +kernel
theorem c139_75 : cdA 139 75 = some (.getfield 180) := by decide +kernel
theorem c139_78 : cdA 139 78 = some (.iload_n 2) := by decide +kernel
theorem c139_79 : cdA 139 79 = some (.iastore) := by decide +kernel
theorem c139_80 : cdA 139 80 = some (.aload_n 0) := by decide +kernel
theorem c139_81 : cdA 139 81 = some (.getfield 16) := by decide +kernel
theorem f139_16 : fldR (moN 139) 16 = some (12, 2) := by decide +kernel
theorem t12_2 : fcl 12 2 = 2 := by decide +kernel
theorem c139_84 : cdA 139 84 = some (.aload_n 0) := by decide +kernel
theorem c139_85 : cdA 139 85 = some (.getfield 180) := by decide +kernel
theorem c139_88 : cdA 139 88 = some (.iload_n 3) := by decide +kernel
theorem c139_89 : cdA 139 89 = some (.iastore) := by decide +kernel
theorem c139_90 : cdA 139 90 = some (.aload_n 0) := by decide +kernel
theorem c139_91 : cdA 139 91 = some (.getfield 22) := by decide +kernel
theorem f139_22 : fldR (moN 139) 22 = some (12, 4) := by decide +kernel
theorem t12_4 : fcl 12 4 = 2 := by decide +kernel
theorem c139_94 : cdA 139 94 = some (.aload_n 0) := by decide +kernel
theorem c139_95 : cdA 139 95 = some (.getfield 180) := by decide +kernel
theorem c139_98 : cdA 139 98 = some (.iconst 2) := by decide +kernel
theorem c139_99 : cdA 139 99 = some (.iastore) := by decide +kernel
theorem c139_100 : cdA 139 100 = some (.aload_n 0) := by decide +kernel
theorem c139_101 : cdA 139 101 = some (.getfield 25) := by decide +kernel
theorem f139_25 : fldR (moN 139) 25 = some (12, 5) := by decide +kernel
theorem t12_5 : fcl 12 5 = 2 := by decide +kernel
theorem c139_104 : cdA 139 104 = some (.aload_n 0) := by decide +kernel
theorem c139_105 : cdA 139 105 = some (.getfield 180) := by decide +kernel
theorem c139_108 : cdA 139 108 = some (.bipush (-9)) := by decide +kernel
theorem c139_110 : cdA 139 110 = some (.iastore) := by decide +kernel
theorem c139_111 : cdA 139 111 = some (.aload_n 0) := by decide +kernel
theorem c139_112 : cdA 139 112 = some (.getfield 34) := by decide +kernel
theorem f139_34 : fldR (moN 139) 34 = some (12, 8) := by decide +kernel
theorem t12_8 : fcl 12 8 = 2 := by decide +kernel
theorem c139_115 : cdA 139 115 = some (.aload_n 0) := by decide +kernel
theorem c139_116 : cdA 139 116 = some (.getfield 180) := by decide +kernel
theorem c139_119 : cdA 139 119 = some (.sipush 600) := by decide +kernel
theorem c139_122 : cdA 139 122 = some (.iastore) := by decide +kernel
theorem c139_123 : cdA 139 123 = some (.aload_n 0) := by decide +kernel
theorem c139_124 : cdA 139 124 = some (.dup) := by decide +kernel
theorem c139_125 : cdA 139 125 = some (.getfield 180) := by decide +kernel
theorem c139_128 : cdA 139 128 = some (.iconst 1) := by decide +kernel
theorem c139_129 : cdA 139 129 = some (.iadd) := by decide +kernel
theorem c139_130 : cdA 139 130 = some (.putfield 180) := by decide +kernel
theorem n12_9 : ffin 12 9 = false := by decide +kernel
theorem c139_133 : cdA 139 133 = some (.aload_n 0) := by decide +kernel
theorem c139_134 : cdA 139 134 = some (.getfield 180) := by decide +kernel
theorem c139_137 : cdA 139 137 = some (.iconst 1) := by decide +kernel
theorem c139_138 : cdA 139 138 = some (.isub) := by decide +kernel
theorem c139_139 : cdA 139 139 = some (.ireturn) := by decide +kernel
theorem c139_9 : cdA 139 9 = some (.aload_n 0) := by decide +kernel
theorem c139_10 : cdA 139 10 = some (.iconst (-1)) := by decide +kernel
theorem c139_11 : cdA 139 11 = some (.invokevirtual 187) := by decide +kernel
theorem b139_0 {d : Nat} {h : HP} {Q : PV → HP → Prop} {v1 v2 v3 : Int} (H : X d 134 0 [some (I v3), some (I 0), some (I 3)] [] h (fun r h' => X (d + 1) 139 6 [some (P 69), some (I v1), some (I v2), some (I v3)] [r] h' Q)) : X (d + 1) 139 0 [some (P 69), some (I v1), some (I v2), some (I v3)] [] h Q :=
  s_iload_n c139_0 rfl (s_iconst c139_1 rfl (s_iconst c139_2 rfl (s_cSi c139_3 m139_183 F134 K134 rfl (Nat.le_of_ble_eq_true rfl) rfl rfl H)))
theorem b139_14 {d : Nat} {h : HP} {Q : PV → HP → Prop} {v1 v2 v3 s0 : Int} (H : Q (I s0) h) : X d 139 14 [some (P 69), some (I v1), some (I v2), some (I v3)] [I s0] h Q :=
  s_retI c139_14 R139 H
theorem b139_25 {d : Nat} {h : HP} {Q : PV → HP → Prop} {v1 v2 v3 : Int} (H : X d 135 0 [some (P 69), some (I (-4))] [] h (fun r h' => X (d + 1) 139 31 [some (P 69), some (I v1), some (I v2), some (I v3)] [r] h' Q)) : X (d + 1) 139 25 [some (P 69), some (I v1), some (I v2), some (I v3)] [] h Q :=
  s_aload_n c139_25 rfl (s_bipush c139_26 ⟨by decide, by decide⟩ (s_cVi c139_28 m139_187 F135 K135 rfl (Nat.le_of_ble_eq_true rfl) rfl S135_69 rfl H))
theorem b139_31 {d : Nat} {h : HP} {Q : PV → HP → Prop} {v1 v2 v3 s0 : Int} (H : Q (I s0) h) : X d 139 31 [some (P 69), some (I v1), some (I v2), some (I v3)] [I s0] h Q :=
  s_retI c139_31 R139 H
theorem b139_53 {d : Nat} {h : HP} {Q : PV → HP → Prop} {v1 v2 v3 : Int} (H : X d 135 0 [some (P 69), some (I (-6))] [] h (fun r h' => X (d + 1) 139 59 [some (P 69), some (I v1), some (I v2), some (I v3)] [r] h' Q)) : X (d + 1) 139 53 [some (P 69), some (I v1), some (I v2), some (I v3)] [] h Q :=
  s_aload_n c139_53 rfl (s_bipush c139_54 ⟨by decide, by decide⟩ (s_cVi c139_56 m139_187 F135 K135 rfl (Nat.le_of_ble_eq_true rfl) rfl S135_69 rfl H))
theorem b139_59 {d : Nat} {h : HP} {Q : PV → HP → Prop} {v1 v2 v3 s0 : Int} (H : Q (I s0) h) : X d 139 59 [some (P 69), some (I v1), some (I v2), some (I v3)] [I s0] h Q :=
  s_retI c139_59 R139 H
theorem b139_6 {d : Nat} {h : HP} {Q : PV → HP → Prop} {v1 v2 v3 s0 : Int} (H : ((¬ s0 = 0) → (((v1 < 1) → X (d + 1) 139 25 [some (P 69), some (I v1), some (I v2), some (I v3)] [] h Q) ∧ (¬ (v1 < 1) → (((1 ≤ v2) → (((99 < v1) → X (d + 1) 139 53 [some (P 69), some (I v1), some (I v2), some (I v3)] [] h Q) ∧ (¬ (99 < v1) → (((20 < v2) → X (d + 1) 139 53 [some (P 69), some (I v1), some (I v2), some (I v3)] [] h Q) ∧ (¬ (20 < v2) → (((¬ (h 69 9) = 8) → ((0 ≤ (h 69 9) ∧ (h 69 9) < 8) ∧ ((0 ≤ (h 69 9) ∧ (h 69 9) < 8) ∧ ((0 ≤ (h 69 9) ∧ (h 69 9) < 8) ∧ ((0 ≤ (h 69 9) ∧ (h 69 9) < 8) ∧ ((0 ≤ (h 69 9) ∧ (h 69 9) < 8) ∧ ((0 ≤ (h 69 9) ∧ (h 69 9) < 8) ∧ Q (I (w32 ((w32 ((h 69 9) + 1)) - 1))) (up2 (up2 (up2 (up2 (up2 (up2 (up2 h 70 (h 69 9).toNat v1) 71 (h 69 9).toNat v2) 72 (h 69 9).toNat v3) 74 (h 69 9).toNat 2) 75 (h 69 9).toNat (-9)) 78 (h 69 9).toNat 600) 69 9 (w32 ((h 69 9) + 1)))))))))) ∧ (¬ (¬ (h 69 9) = 8) → X (d + 1) 139 53 [some (P 69), some (I v1), some (I v2), some (I v3)] [] h Q))))))) ∧ (¬ (1 ≤ v2) → X (d + 1) 139 25 [some (P 69), some (I v1), some (I v2), some (I v3)] [] h Q))))) ∧ (¬ (¬ s0 = 0) → X d 135 0 [some (P 69), some (I (-1))] [] h (fun r h' => X (d + 1) 139 14 [some (P 69), some (I v1), some (I v2), some (I v3)] [r] h' Q))) : X (d + 1) 139 6 [some (P 69), some (I v1), some (I v2), some (I v3)] [I s0] h Q :=
  s_if 15 (¬ s0 = 0) c139_6 (by decide) rfl ⟨fun q1 => s_iload_n c139_15 rfl (s_iconst c139_16 rfl (s_ifc 25 (v1 < 1) c139_17 (by decide) rfl ⟨fun q2 => ((H.1 q1).1 q2), fun q2 => s_iload_n c139_20 rfl (s_iconst c139_21 rfl (s_ifc 32 (1 ≤ v2) c139_22 (by decide) rfl ⟨fun q3 => s_iload_n c139_32 rfl (s_bipush c139_33 ⟨by decide, by decide⟩ (s_ifc 53 (99 < v1) c139_35 (by decide) rfl ⟨fun q4 => ((((H.1 q1).2 q2).1 q3).1 q4), fun q4 => s_iload_n c139_38 rfl (s_bipush c139_39 ⟨by decide, by decide⟩ (s_ifc 53 (20 < v2) c139_41 (by decide) rfl ⟨fun q5 => (((((H.1 q1).2 q2).1 q3).2 q4).1 q5), fun q5 => s_aload_n c139_44 rfl (s_getI c139_45 f139_180 t12_9 sh_69 (s_bipush c139_48 ⟨by decide, by decide⟩ (s_ifc 60 (¬ (h 69 9) = 8) c139_50 (by decide) rfl ⟨fun q6 => s_aload_n c139_60 rfl (s_getP 70 c139_61 f139_9 t12_0 sh_69 g_69_0 (by decide) (by decide) (s_aload_n c139_64 rfl (s_getI c139_65 f139_180 t12_9 sh_69 (s_iload_n c139_68 rfl (s_iast c139_69 sh_70 ⟨((((((H.1 q1).2 q2).1 q3).2 q4).2 q5).1 q6).1, s_aload_n c139_70 rfl (s_getP 71 c139_71 f139_13 t12_1 sh_69 g_69_1 (by decide) (by decide) (s_aload_n c139_74 rfl (s_getI c139_75 f139_180 t12_9 sh_69 (s_iload_n c139_78 rfl (s_iast c139_79 sh_71 ⟨((((((H.1 q1).2 q2).1 q3).2 q4).2 q5).1 q6).2.1, s_aload_n c139_80 rfl (s_getP 72 c139_81 f139_16 t12_2 sh_69 g_69_2 (by decide) (by decide) (s_aload_n c139_84 rfl (s_getI c139_85 f139_180 t12_9 sh_69 (s_iload_n c139_88 rfl (s_iast c139_89 sh_72 ⟨((((((H.1 q1).2 q2).1 q3).2 q4).2 q5).1 q6).2.2.1, s_aload_n c139_90 rfl (s_getP 74 c139_91 f139_22 t12_4 sh_69 g_69_4 (by decide) (by decide) (s_aload_n c139_94 rfl (s_getI c139_95 f139_180 t12_9 sh_69 (s_iconst c139_98 rfl (s_iast c139_99 sh_74 ⟨((((((H.1 q1).2 q2).1 q3).2 q4).2 q5).1 q6).2.2.2.1, s_aload_n c139_100 rfl (s_getP 75 c139_101 f139_25 t12_5 sh_69 g_69_5 (by decide) (by decide) (s_aload_n c139_104 rfl (s_getI c139_105 f139_180 t12_9 sh_69 (s_bipush c139_108 ⟨by decide, by decide⟩ (s_iast c139_110 sh_75 ⟨((((((H.1 q1).2 q2).1 q3).2 q4).2 q5).1 q6).2.2.2.2.1, s_aload_n c139_111 rfl (s_getP 78 c139_112 f139_34 t12_8 sh_69 g_69_8 (by decide) (by decide) (s_aload_n c139_115 rfl (s_getI c139_116 f139_180 t12_9 sh_69 (s_sipush c139_119 ⟨by decide, by decide⟩ (s_iast c139_122 sh_78 ⟨((((((H.1 q1).2 q2).1 q3).2 q4).2 q5).1 q6).2.2.2.2.2.1, s_aload_n c139_123 rfl (s_dupP c139_124 (s_getI c139_125 f139_180 t12_9 sh_69 (s_iconst c139_128 rfl (s_iadd c139_129 (s_putI c139_130 f139_180 t12_9 n12_9 sh_69 (s_aload_n c139_133 rfl (s_getI c139_134 f139_180 t12_9 sh_69 (s_iconst c139_137 rfl (s_isub c139_138 (s_retI c139_139 R139 ((((((H.1 q1).2 q2).1 q3).2 q4).2 q5).1 q6).2.2.2.2.2.2))))))))))⟩)))))⟩)))))⟩)))))⟩)))))⟩)))))⟩))))), fun q6 => ((((((H.1 q1).2 q2).1 q3).2 q4).2 q5).2 q6)⟩)))⟩))⟩)), fun q3 => (((H.1 q1).2 q2).2 q3)⟩))⟩)), fun q1 => s_aload_n c139_9 rfl (s_iconst c139_10 rfl (s_cVi c139_11 m139_187 F135 K135 rfl (Nat.le_of_ble_eq_true rfl) rfl S135_69 rfl (H.2 q1)))⟩
-- WarmSideModel.isPlate(I)Z
theorem c136_0 : cdA 136 0 = some (.iload_n 1) := by decide +kernel
theorem c136_1 : cdA 136 1 = some (.ifCond .lt 15) := by decide +kernel
theorem c136_16 : cdA 136 16 = some (.iconst 0) := by decide +kernel
theorem c136_17 : cdA 136 17 = some (.ireturn) := by decide +kernel
theorem R136 : mK 136 = 3 := by decide +kernel
theorem c136_4 : cdA 136 4 = some (.iload_n 1) := by decide +kernel
theorem c136_5 : cdA 136 5 = some (.aload_n 0) := by decide +kernel
theorem c136_6 : cdA 136 6 = some (.getfield 180) := by decide +kernel
theorem f136_180 : fldR (moN 136) 180 = some (12, 9) := by decide +kernel
theorem c136_9 : cdA 136 9 = some (.if_icmp .ge 7) := by decide +kernel
theorem c136_12 : cdA 136 12 = some (.iconst 1) := by decide +kernel
theorem c136_13 : cdA 136 13 = some (.goto 4) := by decide +kernel
theorem b136_0 {d : Nat} {h : HP} {Q : PV → HP → Prop} {v1 : Int} (H : ((v1 < 0) → Q (I 0) h) ∧ (¬ (v1 < 0) → ((((h 69 9) ≤ v1) → Q (I 0) h) ∧ (¬ ((h 69 9) ≤ v1) → Q (I 1) h)))) : X d 136 0 [some (P 69), some (I v1)] [] h Q :=
  s_iload_n c136_0 rfl (s_if 16 (v1 < 0) c136_1 (by decide) rfl ⟨fun q1 => s_iconst c136_16 rfl (s_retZ c136_17 R136 ⟨by decide, (H.1 q1)⟩), fun q1 => s_iload_n c136_4 rfl (s_aload_n c136_5 rfl (s_getI c136_6 f136_180 t12_9 sh_69 (s_ifc 16 ((h 69 9) ≤ v1) c136_9 (by decide) rfl ⟨fun q2 => s_iconst c136_16 rfl (s_retZ c136_17 R136 ⟨by decide, ((H.2 q1).1 q2)⟩), fun q2 => s_iconst c136_12 rfl (s_goto 17 c136_13 (by decide) (s_retZ c136_17 R136 ⟨by decide, ((H.2 q1).2 q2)⟩))⟩)))⟩)
-- WarmSideModel.heat(II)I
theorem c140_0 : cdA 140 0 = some (.aload_n 0) := by decide +kernel
theorem c140_1 : cdA 140 1 = some (.iload_n 1) := by decide +kernel
theorem c140_2 : cdA 140 2 = some (.invokevirtual 191) := by decide +kernel
theorem m140_191 : mthR (moN 140) 191 = 139 := by decide +kernel
theorem F136 : mF 136 1 2 true := by unfold mF; decide +kernel
theorem K136 : ¬ mK 136 = 4 := by decide +kernel
theorem S136_69 : SH0[69]? = some (.inl (moN 136)) := by decide +kernel
theorem c140_13 : cdA 140 13 = some (.ireturn) := by decide +kernel
theorem R140 : mK 140 = 0 := by decide +kernel
theorem c140_24 : cdA 140 24 = some (.ireturn) := by decide +kernel
theorem c140_37 : cdA 140 37 = some (.ireturn) := by decide +kernel
theorem c140_5 : cdA 140 5 = some (.ifCond .ne 9) := by decide +kernel
theorem c140_14 : cdA 140 14 = some (.iload_n 2) := by decide +kernel
theorem c140_15 : cdA 140 15 = some (.ifCond .ge 10) := by decide +kernel
theorem c140_25 : cdA 140 25 = some (.iload_n 2) := by decide +kernel
theorem c140_26 : cdA 140 26 = some (.ldc 195) := by decide +kernel
theorem k140_195 : cstR (moN 140) 195 = some 59999 := by decide +kernel
theorem c140_28 : cdA 140 28 = some (.if_icmp .le 10) := by decide +kernel
theorem c140_38 : cdA 140 38 = some (.aload_n 0) := by decide +kernel
theorem c140_39 : cdA 140 39 = some (.getfield 19) := by decide +kernel
theorem f140_19 : fldR (moN 140) 19 = some (12, 3) := by decide +kernel
theorem t12_3 : fcl 12 3 = 2 := by decide +kernel
theorem c140_42 : cdA 140 42 = some (.iload_n 1) := by decide +kernel
theorem c140_43 : cdA 140 43 = some (.iaload) := by decide +kernel
theorem c140_44 : cdA 140 44 = some (.istore_n 3) := by decide +kernel
theorem c140_45 : cdA 140 45 = some (.aload_n 0) := by decide +kernel
theorem c140_46 : cdA 140 46 = some (.getfield 19) := by decide +kernel
theorem c140_49 : cdA 140 49 = some (.iload_n 1) := by decide +kernel
theorem c140_50 : cdA 140 50 = some (.iload_n 2) := by decide +kernel
theorem c140_51 : cdA 140 51 = some (.iastore) := by decide +kernel
theorem c140_52 : cdA 140 52 = some (.iload_n 3) := by decide +kernel
theorem c140_53 : cdA 140 53 = some (.ireturn) := by decide +kernel
theorem c140_31 : cdA 140 31 = some (.aload_n 0) := by decide +kernel
theorem c140_32 : cdA 140 32 = some (.bipush (-6)) := by decide +kernel
theorem c140_34 : cdA 140 34 = some (.invokevirtual 187) := by decide +kernel
theorem m140_187 : mthR (moN 140) 187 = 138 := by decide +kernel
theorem c140_18 : cdA 140 18 = some (.aload_n 0) := by decide +kernel
theorem c140_19 : cdA 140 19 = some (.bipush (-4)) := by decide +kernel
theorem c140_21 : cdA 140 21 = some (.invokevirtual 187) := by decide +kernel
theorem c140_8 : cdA 140 8 = some (.aload_n 0) := by decide +kernel
theorem c140_9 : cdA 140 9 = some (.iconst (-1)) := by decide +kernel
theorem c140_10 : cdA 140 10 = some (.invokevirtual 187) := by decide +kernel
theorem b140_0 {d : Nat} {h : HP} {Q : PV → HP → Prop} {v1 v2 : Int} (H : X d 136 0 [some (P 69), some (I v1)] [] h (fun r h' => X (d + 1) 140 5 [some (P 69), some (I v1), some (I v2), none] [r] h' Q)) : X (d + 1) 140 0 [some (P 69), some (I v1), some (I v2), none] [] h Q :=
  s_aload_n c140_0 rfl (s_iload_n c140_1 rfl (s_cVi c140_2 m140_191 F136 K136 rfl (Nat.le_of_ble_eq_true rfl) rfl S136_69 rfl H))
theorem b140_13 {d : Nat} {h : HP} {Q : PV → HP → Prop} {v1 v2 s0 : Int} (H : Q (I s0) h) : X d 140 13 [some (P 69), some (I v1), some (I v2), none] [I s0] h Q :=
  s_retI c140_13 R140 H
theorem b140_24 {d : Nat} {h : HP} {Q : PV → HP → Prop} {v1 v2 s0 : Int} (H : Q (I s0) h) : X d 140 24 [some (P 69), some (I v1), some (I v2), none] [I s0] h Q :=
  s_retI c140_24 R140 H
theorem b140_37 {d : Nat} {h : HP} {Q : PV → HP → Prop} {v1 v2 s0 : Int} (H : Q (I s0) h) : X d 140 37 [some (P 69), some (I v1), some (I v2), none] [I s0] h Q :=
  s_retI c140_37 R140 H
theorem b140_5 {d : Nat} {h : HP} {Q : PV → HP → Prop} {v1 v2 s0 : Int} (H : ((¬ s0 = 0) → (((0 ≤ v2) → (((v2 ≤ 59999) → ((0 ≤ v1 ∧ v1 < 8) ∧ ((0 ≤ v1 ∧ v1 < 8) ∧ Q (I (h 73 v1.toNat)) (up2 h 73 v1.toNat v2)))) ∧ (¬ (v2 ≤ 59999) → X d 135 0 [some (P 69), some (I (-6))] [] h (fun r h' => X (d + 1) 140 37 [some (P 69), some (I v1), some (I v2), none] [r] h' Q)))) ∧ (¬ (0 ≤ v2) → X d 135 0 [some (P 69), some (I (-4))] [] h (fun r h' => X (d + 1) 140 24 [some (P 69), some (I v1), some (I v2), none] [r] h' Q)))) ∧ (¬ (¬ s0 = 0) → X d 135 0 [some (P 69), some (I (-1))] [] h (fun r h' => X (d + 1) 140 13 [some (P 69), some (I v1), some (I v2), none] [r] h' Q))) : X (d + 1) 140 5 [some (P 69), some (I v1), some (I v2), none] [I s0] h Q :=
  s_if 14 (¬ s0 = 0) c140_5 (by decide) rfl ⟨fun q1 => s_iload_n c140_14 rfl (s_if 25 (0 ≤ v2) c140_15 (by decide) rfl ⟨fun q2 => s_iload_n c140_25 rfl (s_ldc c140_26 k140_195 rfl (s_ifc 38 (v2 ≤ 59999) c140_28 (by decide) rfl ⟨fun q3 => s_aload_n c140_38 rfl (s_getP 73 c140_39 f140_19 t12_3 sh_69 g_69_3 (by decide) (by decide) (s_iload_n c140_42 rfl (s_iald c140_43 sh_73 ⟨(((H.1 q1).1 q2).1 q3).1, s_istore_n c140_44 rfl (s_aload_n c140_45 rfl (s_getP 73 c140_46 f140_19 t12_3 sh_69 g_69_3 (by decide) (by decide) (s_iload_n c140_49 rfl (s_iload_n c140_50 rfl (s_iast c140_51 sh_73 ⟨(((H.1 q1).1 q2).1 q3).2.1, s_iload_n c140_52 rfl (s_retI c140_53 R140 (((H.1 q1).1 q2).1 q3).2.2)⟩)))))⟩))), fun q3 => s_aload_n c140_31 rfl (s_bipush c140_32 ⟨by decide, by decide⟩ (s_cVi c140_34 m140_187 F135 K135 rfl (Nat.le_of_ble_eq_true rfl) rfl S135_69 rfl (((H.1 q1).1 q2).2 q3)))⟩)), fun q2 => s_aload_n c140_18 rfl (s_bipush c140_19 ⟨by decide, by decide⟩ (s_cVi c140_21 m140_187 F135 K135 rfl (Nat.le_of_ble_eq_true rfl) rfl S135_69 rfl ((H.1 q1).2 q2)))⟩), fun q1 => s_aload_n c140_8 rfl (s_iconst c140_9 rfl (s_cVi c140_10 m140_187 F135 K135 rfl (Nat.le_of_ble_eq_true rfl) rfl S135_69 rfl (H.2 q1)))⟩
-- WarmSideModel.point(II)I
theorem c141_0 : cdA 141 0 = some (.iload_n 1) := by decide +kernel
theorem c141_1 : cdA 141 1 = some (.iconst 0) := by decide +kernel
theorem c141_2 : cdA 141 2 = some (.bipush 6) := by decide +kernel
theorem c141_4 : cdA 141 4 = some (.invokestatic 183) := by decide +kernel
theorem m141_183 : mthR (moN 141) 183 = 137 := by decide +kernel
theorem c141_15 : cdA 141 15 = some (.ireturn) := by decide +kernel
theorem R141 : mK 141 = 0 := by decide +kernel
theorem c141_26 : cdA 141 26 = some (.ireturn) := by decide +kernel
theorem c141_40 : cdA 141 40 = some (.ireturn) := by decide +kernel
theorem c141_57 : cdA 141 57 = some (.iload_n 1) := by decide +kernel
theorem c141_58 : cdA 141 58 = some (.iconst 1) := by decide +kernel
theorem c141_59 : cdA 141 59 = some (.iadd) := by decide +kernel
theorem c141_60 : cdA 141 60 = some (.bipush 7) := by decide +kernel
theorem c141_62 : cdA 141 62 = some (.if_icmp .ge 22) := by decide +kernel
theorem c141_65 : cdA 141 65 = some (.iload_n 2) := by decide +kernel
theorem c141_66 : cdA 141 66 = some (.aload_n 0) := by decide +kernel
theorem c141_67 : cdA 141 67 = some (.getfield 37) := by decide +kernel
theorem f141_37 : fldR (moN 141) 37 = some (12, 10) := by decide +kernel
theorem t12_10 : fcl 12 10 = 2 := by decide +kernel
theorem c141_70 : cdA 141 70 = some (.iload_n 1) := by decide +kernel
theorem c141_71 : cdA 141 71 = some (.iconst 1) := by decide +kernel
theorem c141_72 : cdA 141 72 = some (.iadd) := by decide +kernel
theorem c141_73 : cdA 141 73 = some (.iaload) := by decide +kernel
theorem c141_74 : cdA 141 74 = some (.if_icmp .le 10) := by decide +kernel
theorem c141_7 : cdA 141 7 = some (.ifCond .ne 9) := by decide +kernel
theorem c141_16 : cdA 141 16 = some (.iload_n 2) := by decide +kernel
theorem c141_17 : cdA 141 17 = some (.ifCond .ge 10) := by decide +kernel
theorem c141_27 : cdA 141 27 = some (.iload_n 2) := by decide +kernel
theorem c141_28 : cdA 141 28 = some (.sipush 9999) := by decide +kernel
theorem c141_31 : cdA 141 31 = some (.if_icmp .le 10) := by decide +kernel
theorem c141_41 : cdA 141 41 = some (.iload_n 1) := by decide +kernel
theorem c141_42 : cdA 141 42 = some (.ifCond .le 15) := by decide +kernel
theorem c141_45 : cdA 141 45 = some (.iload_n 2) := by decide +kernel
theorem c141_46 : cdA 141 46 = some (.aload_n 0) := by decide +kernel
theorem c141_47 : cdA 141 47 = some (.getfield 37) := by decide +kernel
theorem c141_50 : cdA 141 50 = some (.iload_n 1) := by decide +kernel
theorem c141_51 : cdA 141 51 = some (.iconst 1) := by decide +kernel
theorem c141_52 : cdA 141 52 = some (.isub) := by decide +kernel
theorem c141_53 : cdA 141 53 = some (.iaload) := by decide +kernel
theorem c141_54 : cdA 141 54 = some (.if_icmp .lt 23) := by decide +kernel
theorem c141_34 : cdA 141 34 = some (.aload_n 0) := by decide +kernel
theorem c141_35 : cdA 141 35 = some (.bipush (-6)) := by decide +kernel
theorem c141_37 : cdA 141 37 = some (.invokevirtual 187) := by decide +kernel
theorem m141_187 : mthR (moN 141) 187 = 138 := by decide +kernel
theorem c141_20 : cdA 141 20 = some (.aload_n 0) := by decide +kernel
theorem c141_21 : cdA 141 21 = some (.bipush (-4)) := by decide +kernel
theorem c141_23 : cdA 141 23 = some (.invokevirtual 187) := by decide +kernel
theorem c141_10 : cdA 141 10 = some (.aload_n 0) := by decide +kernel
theorem c141_11 : cdA 141 11 = some (.iconst (-1)) := by decide +kernel
theorem c141_12 : cdA 141 12 = some (.invokevirtual 187) := by decide +kernel
theorem c141_77 : cdA 141 77 = some (.aload_n 0) := by decide +kernel
theorem c141_78 : cdA 141 78 = some (.bipush (-3)) := by decide +kernel
theorem c141_80 : cdA 141 80 = some (.invokevirtual 187) := by decide +kernel
theorem c141_83 : cdA 141 83 = some (.ireturn) := by decide +kernel
theorem c141_84 : cdA 141 84 = some (.aload_n 0) := by decide +kernel
theorem c141_85 : cdA 141 85 = some (.getfield 37) := by decide +kernel
theorem c141_88 : cdA 141 88 = some (.iload_n 1) := by decide +kernel
theorem c141_89 : cdA 141 89 = some (.iaload) := by decide +kernel
theorem c141_90 : cdA 141 90 = some (.istore_n 3) := by decide +kernel
theorem c141_91 : cdA 141 91 = some (.aload_n 0) := by decide +kernel
theorem c141_92 : cdA 141 92 = some (.getfield 37) := by decide +kernel
theorem c141_95 : cdA 141 95 = some (.iload_n 1) := by decide +kernel
theorem c141_96 : cdA 141 96 = some (.iload_n 2) := by decide +kernel
theorem c141_97 : cdA 141 97 = some (.iastore) := by decide +kernel
theorem c141_98 : cdA 141 98 = some (.iload_n 3) := by decide +kernel
theorem c141_99 : cdA 141 99 = some (.ireturn) := by decide +kernel
theorem b141_0 {d : Nat} {h : HP} {Q : PV → HP → Prop} {v1 v2 : Int} (H : X d 134 0 [some (I v1), some (I 0), some (I 6)] [] h (fun r h' => X (d + 1) 141 7 [some (P 69), some (I v1), some (I v2), none] [r] h' Q)) : X (d + 1) 141 0 [some (P 69), some (I v1), some (I v2), none] [] h Q :=
  s_iload_n c141_0 rfl (s_iconst c141_1 rfl (s_bipush c141_2 ⟨by decide, by decide⟩ (s_cSi c141_4 m141_183 F134 K134 rfl (Nat.le_of_ble_eq_true rfl) rfl rfl H)))
theorem b141_15 {d : Nat} {h : HP} {Q : PV → HP → Prop} {v1 v2 s0 : Int} (H : Q (I s0) h) : X d 141 15 [some (P 69), some (I v1), some (I v2), none] [I s0] h Q :=
  s_retI c141_15 R141 H
theorem b141_26 {d : Nat} {h : HP} {Q : PV → HP → Prop} {v1 v2 s0 : Int} (H : Q (I s0) h) : X d 141 26 [some (P 69), some (I v1), some (I v2), none] [I s0] h Q :=
  s_retI c141_26 R141 H
theorem b141_40 {d : Nat} {h : HP} {Q : PV → HP → Prop} {v1 v2 s0 : Int} (H : Q (I s0) h) : X d 141 40 [some (P 69), some (I v1), some (I v2), none] [I s0] h Q :=
  s_retI c141_40 R141 H
theorem b141_57 {d : Nat} {h : HP} {Q : PV → HP → Prop} {v1 v2 : Int} (H : ((7 ≤ (w32 (v1 + 1))) → X d 141 84 [some (P 69), some (I v1), some (I v2), none] [] h Q) ∧ (¬ (7 ≤ (w32 (v1 + 1))) → ((0 ≤ (w32 (v1 + 1)) ∧ (w32 (v1 + 1)) < 7) ∧ (((v2 ≤ (h 79 (w32 (v1 + 1)).toNat)) → X d 141 84 [some (P 69), some (I v1), some (I v2), none] [] h Q) ∧ (¬ (v2 ≤ (h 79 (w32 (v1 + 1)).toNat)) → X d 141 77 [some (P 69), some (I v1), some (I v2), none] [] h Q))))) : X d 141 57 [some (P 69), some (I v1), some (I v2), none] [] h Q :=
  s_iload_n c141_57 rfl (s_iconst c141_58 rfl (s_iadd c141_59 (s_bipush c141_60 ⟨by decide, by decide⟩ (s_ifc 84 (7 ≤ (w32 (v1 + 1))) c141_62 (by decide) rfl ⟨fun q1 => (H.1 q1), fun q1 => s_iload_n c141_65 rfl (s_aload_n c141_66 rfl (s_getP 79 c141_67 f141_37 t12_10 sh_69 g_69_10 (by decide) (by decide) (s_iload_n c141_70 rfl (s_iconst c141_71 rfl (s_iadd c141_72 (s_iald c141_73 sh_79 ⟨(H.2 q1).1, s_ifc 84 (v2 ≤ (h 79 (w32 (v1 + 1)).toNat)) c141_74 (by decide) rfl ⟨fun q2 => ((H.2 q1).2.1 q2), fun q2 => ((H.2 q1).2.2 q2)⟩⟩))))))⟩))))
theorem b141_7 {d : Nat} {h : HP} {Q : PV → HP → Prop} {v1 v2 s0 : Int} (H : ((¬ s0 = 0) → (((0 ≤ v2) → (((v2 ≤ 9999) → (((v1 ≤ 0) → X (d + 1) 141 57 [some (P 69), some (I v1), some (I v2), none] [] h Q) ∧ (¬ (v1 ≤ 0) → ((0 ≤ (w32 (v1 - 1)) ∧ (w32 (v1 - 1)) < 7) ∧ (((v2 < (h 79 (w32 (v1 - 1)).toNat)) → X (d + 1) 141 77 [some (P 69), some (I v1), some (I v2), none] [] h Q) ∧ (¬ (v2 < (h 79 (w32 (v1 - 1)).toNat)) → X (d + 1) 141 57 [some (P 69), some (I v1), some (I v2), none] [] h Q)))))) ∧ (¬ (v2 ≤ 9999) → X d 135 0 [some (P 69), some (I (-6))] [] h (fun r h' => X (d + 1) 141 40 [some (P 69), some (I v1), some (I v2), none] [r] h' Q)))) ∧ (¬ (0 ≤ v2) → X d 135 0 [some (P 69), some (I (-4))] [] h (fun r h' => X (d + 1) 141 26 [some (P 69), some (I v1), some (I v2), none] [r] h' Q)))) ∧ (¬ (¬ s0 = 0) → X d 135 0 [some (P 69), some (I (-1))] [] h (fun r h' => X (d + 1) 141 15 [some (P 69), some (I v1), some (I v2), none] [r] h' Q))) : X (d + 1) 141 7 [some (P 69), some (I v1), some (I v2), none] [I s0] h Q :=
  s_if 16 (¬ s0 = 0) c141_7 (by decide) rfl ⟨fun q3 => s_iload_n c141_16 rfl (s_if 27 (0 ≤ v2) c141_17 (by decide) rfl ⟨fun q4 => s_iload_n c141_27 rfl (s_sipush c141_28 ⟨by decide, by decide⟩ (s_ifc 41 (v2 ≤ 9999) c141_31 (by decide) rfl ⟨fun q5 => s_iload_n c141_41 rfl (s_if 57 (v1 ≤ 0) c141_42 (by decide) rfl ⟨fun q6 => ((((H.1 q3).1 q4).1 q5).1 q6), fun q6 => s_iload_n c141_45 rfl (s_aload_n c141_46 rfl (s_getP 79 c141_47 f141_37 t12_10 sh_69 g_69_10 (by decide) (by decide) (s_iload_n c141_50 rfl (s_iconst c141_51 rfl (s_isub c141_52 (s_iald c141_53 sh_79 ⟨((((H.1 q3).1 q4).1 q5).2 q6).1, s_ifc 77 (v2 < (h 79 (w32 (v1 - 1)).toNat)) c141_54 (by decide) rfl ⟨fun q7 => (((((H.1 q3).1 q4).1 q5).2 q6).2.1 q7), fun q7 => (((((H.1 q3).1 q4).1 q5).2 q6).2.2 q7)⟩⟩))))))⟩), fun q5 => s_aload_n c141_34 rfl (s_bipush c141_35 ⟨by decide, by decide⟩ (s_cVi c141_37 m141_187 F135 K135 rfl (Nat.le_of_ble_eq_true rfl) rfl S135_69 rfl (((H.1 q3).1 q4).2 q5)))⟩)), fun q4 => s_aload_n c141_20 rfl (s_bipush c141_21 ⟨by decide, by decide⟩ (s_cVi c141_23 m141_187 F135 K135 rfl (Nat.le_of_ble_eq_true rfl) rfl S135_69 rfl ((H.1 q3).2 q4)))⟩), fun q3 => s_aload_n c141_10 rfl (s_iconst c141_11 rfl (s_cVi c141_12 m141_187 F135 K135 rfl (Nat.le_of_ble_eq_true rfl) rfl S135_69 rfl (H.2 q3)))⟩
theorem b141_77 {d : Nat} {h : HP} {Q : PV → HP → Prop} {v1 v2 : Int} (H : X d 135 0 [some (P 69), some (I (-3))] [] h (fun r h' => X (d + 1) 141 83 [some (P 69), some (I v1), some (I v2), none] [r] h' Q)) : X (d + 1) 141 77 [some (P 69), some (I v1), some (I v2), none] [] h Q :=
  s_aload_n c141_77 rfl (s_bipush c141_78 ⟨by decide, by decide⟩ (s_cVi c141_80 m141_187 F135 K135 rfl (Nat.le_of_ble_eq_true rfl) rfl S135_69 rfl H))
theorem b141_83 {d : Nat} {h : HP} {Q : PV → HP → Prop} {v1 v2 s0 : Int} (H : Q (I s0) h) : X d 141 83 [some (P 69), some (I v1), some (I v2), none] [I s0] h Q :=
  s_retI c141_83 R141 H
theorem b141_84 {d : Nat} {h : HP} {Q : PV → HP → Prop} {v1 v2 : Int} (H : (0 ≤ v1 ∧ v1 < 7) ∧ ((0 ≤ v1 ∧ v1 < 7) ∧ Q (I (h 79 v1.toNat)) (up2 h 79 v1.toNat v2))) : X d 141 84 [some (P 69), some (I v1), some (I v2), none] [] h Q :=
  s_aload_n c141_84 rfl (s_getP 79 c141_85 f141_37 t12_10 sh_69 g_69_10 (by decide) (by decide) (s_iload_n c141_88 rfl (s_iald c141_89 sh_79 ⟨H.1, s_istore_n c141_90 rfl (s_aload_n c141_91 rfl (s_getP 79 c141_92 f141_37 t12_10 sh_69 g_69_10 (by decide) (by decide) (s_iload_n c141_95 rfl (s_iload_n c141_96 rfl (s_iast c141_97 sh_79 ⟨H.2.1, s_iload_n c141_98 rfl (s_retI c141_99 R141 H.2.2)⟩)))))⟩)))
-- WarmSideModel.isYear(I)Z
theorem c138_0 : cdA 138 0 = some (.iload_n 0) := by decide +kernel
theorem c138_1 : cdA 138 1 = some (.iconst 0) := by decide +kernel
theorem c138_2 : cdA 138 2 = some (.bipush 9) := by decide +kernel
theorem c138_4 : cdA 138 4 = some (.invokestatic 183) := by decide +kernel
theorem m138_183 : mthR (moN 138) 183 = 137 := by decide +kernel
theorem c138_7 : cdA 138 7 = some (.ireturn) := by decide +kernel
theorem R138 : mK 138 = 3 := by decide +kernel
theorem b138_0 {d : Nat} {h : HP} {Q : PV → HP → Prop} {v0 : Int} (H : X d 134 0 [some (I v0), some (I 0), some (I 9)] [] h (fun r h' => X (d + 1) 138 7 [some (I v0)] [r] h' Q)) : X (d + 1) 138 0 [some (I v0)] [] h Q :=
  s_iload_n c138_0 rfl (s_iconst c138_1 rfl (s_bipush c138_2 ⟨by decide, by decide⟩ (s_cSi c138_4 m138_183 F134 K134 rfl (Nat.le_of_ble_eq_true rfl) rfl rfl H)))
theorem b138_7 {d : Nat} {h : HP} {Q : PV → HP → Prop} {v0 s0 : Int} (H : (s0 = 0 ∨ s0 = 1) ∧ Q (I s0) h) : X d 138 7 [some (I v0)] [I s0] h Q :=
  s_retZ c138_7 R138 H
-- WarmSideModel.coat(IIZI)I
theorem c142_0 : cdA 142 0 = some (.iload_n 1) := by decide +kernel
theorem c142_1 : cdA 142 1 = some (.iconst 0) := by decide +kernel
theorem c142_2 : cdA 142 2 = some (.iconst 3) := by decide +kernel
theorem c142_3 : cdA 142 3 = some (.invokestatic 183) := by decide +kernel
theorem m142_183 : mthR (moN 142) 183 = 137 := by decide +kernel
theorem c142_13 : cdA 142 13 = some (.ifCond .ne 9) := by decide +kernel
theorem c142_22 : cdA 142 22 = some (.iload 4) := by decide +kernel
theorem c142_24 : cdA 142 24 = some (.ifCond .ge 10) := by decide +kernel
theorem c142_34 : cdA 142 34 = some (.iload 4) := by decide +kernel
theorem c142_36 : cdA 142 36 = some (.bipush 100) := by decide +kernel
theorem c142_38 : cdA 142 38 = some (.if_icmp .le 10) := by decide +kernel
theorem c142_48 : cdA 142 48 = some (.bipush 10) := by decide +kernel
theorem c142_50 : cdA 142 50 = some (.iload_n 1) := by decide +kernel
theorem c142_51 : cdA 142 51 = some (.imul) := by decide +kernel
theorem c142_52 : cdA 142 52 = some (.iload_n 2) := by decide +kernel
theorem c142_53 : cdA 142 53 = some (.iadd) := by decide +kernel
theorem c142_54 : cdA 142 54 = some (.istore 5) := by decide +kernel
theorem c142_56 : cdA 142 56 = some (.iload_n 3) := by decide +kernel
theorem c142_57 : cdA 142 57 = some (.ifCond .eq 13) := by decide +kernel
theorem c142_70 : cdA 142 70 = some (.aload_n 0) := by decide +kernel
theorem c142_71 : cdA 142 71 = some (.getfield 40) := by decide +kernel
theorem f142_40 : fldR (moN 142) 40 = some (12, 11) := by decide +kernel
theorem t12_11 : fcl 12 11 = 2 := by decide +kernel
theorem c142_74 : cdA 142 74 = some (.iload 5) := by decide +kernel
theorem c142_76 : cdA 142 76 = some (.iaload) := by decide +kernel
theorem c142_60 : cdA 142 60 = some (.aload_n 0) := by decide +kernel
theorem c142_61 : cdA 142 61 = some (.getfield 43) := by decide +kernel
theorem f142_43 : fldR (moN 142) 43 = some (12, 12) := by decide +kernel
theorem t12_12 : fcl 12 12 = 2 := by decide +kernel
theorem c142_64 : cdA 142 64 = some (.iload 5) := by decide +kernel
theorem c142_66 : cdA 142 66 = some (.iaload) := by decide +kernel
theorem c142_67 : cdA 142 67 = some (.goto 10) := by decide +kernel
theorem c142_41 : cdA 142 41 = some (.aload_n 0) := by decide +kernel
theorem c142_42 : cdA 142 42 = some (.bipush (-6)) := by decide +kernel
theorem c142_44 : cdA 142 44 = some (.invokevirtual 187) := by decide +kernel
theorem m142_187 : mthR (moN 142) 187 = 138 := by decide +kernel
theorem c142_27 : cdA 142 27 = some (.aload_n 0) := by decide +kernel
theorem c142_28 : cdA 142 28 = some (.bipush (-4)) := by decide +kernel
theorem c142_30 : cdA 142 30 = some (.invokevirtual 187) := by decide +kernel
theorem c142_16 : cdA 142 16 = some (.aload_n 0) := by decide +kernel
theorem c142_17 : cdA 142 17 = some (.iconst (-1)) := by decide +kernel
theorem c142_18 : cdA 142 18 = some (.invokevirtual 187) := by decide +kernel
theorem c142_21 : cdA 142 21 = some (.ireturn) := by decide +kernel
theorem R142 : mK 142 = 0 := by decide +kernel
theorem c142_33 : cdA 142 33 = some (.ireturn) := by decide +kernel
theorem c142_47 : cdA 142 47 = some (.ireturn) := by decide +kernel
theorem c142_6 : cdA 142 6 = some (.ifCond .eq 10) := by decide +kernel
theorem c142_9 : cdA 142 9 = some (.iload_n 2) := by decide +kernel
theorem c142_10 : cdA 142 10 = some (.invokestatic 196) := by decide +kernel
theorem m142_196 : mthR (moN 142) 196 = 141 := by decide +kernel
theorem F138 : mF 138 1 1 false := by unfold mF; decide +kernel
theorem K138 : ¬ mK 138 = 4 := by decide +kernel
theorem c142_77 : cdA 142 77 = some (.istore 6) := by decide +kernel
theorem c142_79 : cdA 142 79 = some (.iload_n 3) := by decide +kernel
theorem c142_80 : cdA 142 80 = some (.ifCond .eq 15) := by decide +kernel
theorem c142_95 : cdA 142 95 = some (.aload_n 0) := by decide +kernel
theorem c142_96 : cdA 142 96 = some (.getfield 40) := by decide +kernel
theorem c142_99 : cdA 142 99 = some (.iload 5) := by decide +kernel
theorem c142_101 : cdA 142 101 = some (.iload 4) := by decide +kernel
theorem c142_103 : cdA 142 103 = some (.iastore) := by decide +kernel
theorem c142_104 : cdA 142 104 = some (.iload 6) := by decide +kernel
theorem c142_106 : cdA 142 106 = some (.ireturn) := by decide +kernel
theorem c142_83 : cdA 142 83 = some (.aload_n 0) := by decide +kernel
theorem c142_84 : cdA 142 84 = some (.getfield 43) := by decide +kernel
theorem c142_87 : cdA 142 87 = some (.iload 5) := by decide +kernel
theorem c142_89 : cdA 142 89 = some (.iload 4) := by decide +kernel
theorem c142_91 : cdA 142 91 = some (.iastore) := by decide +kernel
theorem c142_92 : cdA 142 92 = some (.goto 12) := by decide +kernel
theorem b142_0 {d : Nat} {h : HP} {Q : PV → HP → Prop} {v1 v2 v3 v4 : Int} (H : X d 134 0 [some (I v1), some (I 0), some (I 3)] [] h (fun r h' => X (d + 1) 142 6 [some (P 69), some (I v1), some (I v2), some (I v3), some (I v4), none, none] [r] h' Q)) : X (d + 1) 142 0 [some (P 69), some (I v1), some (I v2), some (I v3), some (I v4), none, none] [] h Q :=
  s_iload_n c142_0 rfl (s_iconst c142_1 rfl (s_iconst c142_2 rfl (s_cSi c142_3 m142_183 F134 K134 rfl (Nat.le_of_ble_eq_true rfl) rfl rfl H)))
theorem b142_13 {d : Nat} {h : HP} {Q : PV → HP → Prop} {v1 v2 v3 v4 s0 : Int} (H : ((¬ s0 = 0) → (((0 ≤ v4) → (((v4 ≤ 100) → (((v3 = 0) → ((0 ≤ (w32 ((w32 (10 * v1)) + v2)) ∧ (w32 ((w32 (10 * v1)) + v2)) < 40) ∧ X (d + 1) 142 77 [some (P 69), some (I v1), some (I v2), some (I v3), some (I v4), some (I (w32 ((w32 (10 * v1)) + v2))), none] [I (h 80 (w32 ((w32 (10 * v1)) + v2)).toNat)] h Q)) ∧ (¬ (v3 = 0) → ((0 ≤ (w32 ((w32 (10 * v1)) + v2)) ∧ (w32 ((w32 (10 * v1)) + v2)) < 40) ∧ X (d + 1) 142 77 [some (P 69), some (I v1), some (I v2), some (I v3), some (I v4), some (I (w32 ((w32 (10 * v1)) + v2))), none] [I (h 81 (w32 ((w32 (10 * v1)) + v2)).toNat)] h Q)))) ∧ (¬ (v4 ≤ 100) → X d 135 0 [some (P 69), some (I (-6))] [] h (fun r h' => X (d + 1) 142 47 [some (P 69), some (I v1), some (I v2), some (I v3), some (I v4), none, none] [r] h' Q)))) ∧ (¬ (0 ≤ v4) → X d 135 0 [some (P 69), some (I (-4))] [] h (fun r h' => X (d + 1) 142 33 [some (P 69), some (I v1), some (I v2), some (I v3), some (I v4), none, none] [r] h' Q)))) ∧ (¬ (¬ s0 = 0) → X (d + 1) 142 16 [some (P 69), some (I v1), some (I v2), some (I v3), some (I v4), none, none] [] h Q)) : X (d + 1) 142 13 [some (P 69), some (I v1), some (I v2), some (I v3), some (I v4), none, none] [I s0] h Q :=
  s_if 22 (¬ s0 = 0) c142_13 (by decide) rfl ⟨fun q1 => s_iload c142_22 rfl (s_if 34 (0 ≤ v4) c142_24 (by decide) rfl ⟨fun q2 => s_iload c142_34 rfl (s_bipush c142_36 ⟨by decide, by decide⟩ (s_ifc 48 (v4 ≤ 100) c142_38 (by decide) rfl ⟨fun q3 => s_bipush c142_48 ⟨by decide, by decide⟩ (s_iload_n c142_50 rfl (s_imul c142_51 (s_iload_n c142_52 rfl (s_iadd c142_53 (s_istore c142_54 rfl (s_iload_n c142_56 rfl (s_if 70 (v3 = 0) c142_57 (by decide) rfl ⟨fun q4 => s_aload_n c142_70 rfl (s_getP 80 c142_71 f142_40 t12_11 sh_69 g_69_11 (by decide) (by decide) (s_iload c142_74 rfl (s_iald c142_76 sh_80 ⟨((((H.1 q1).1 q2).1 q3).1 q4).1, ((((H.1 q1).1 q2).1 q3).1 q4).2⟩))), fun q4 => s_aload_n c142_60 rfl (s_getP 81 c142_61 f142_43 t12_12 sh_69 g_69_12 (by decide) (by decide) (s_iload c142_64 rfl (s_iald c142_66 sh_81 ⟨((((H.1 q1).1 q2).1 q3).2 q4).1, s_goto 77 c142_67 (by decide) (((((H.1 q1).1 q2).1 q3).2 q4).2)⟩)))⟩))))))), fun q3 => s_aload_n c142_41 rfl (s_bipush c142_42 ⟨by decide, by decide⟩ (s_cVi c142_44 m142_187 F135 K135 rfl (Nat.le_of_ble_eq_true rfl) rfl S135_69 rfl (((H.1 q1).1 q2).2 q3)))⟩)), fun q2 => s_aload_n c142_27 rfl (s_bipush c142_28 ⟨by decide, by decide⟩ (s_cVi c142_30 m142_187 F135 K135 rfl (Nat.le_of_ble_eq_true rfl) rfl S135_69 rfl ((H.1 q1).2 q2)))⟩), fun q1 => (H.2 q1)⟩
theorem b142_16 {d : Nat} {h : HP} {Q : PV → HP → Prop} {v1 v2 v3 v4 : Int} (H : X d 135 0 [some (P 69), some (I (-1))] [] h (fun r h' => X (d + 1) 142 21 [some (P 69), some (I v1), some (I v2), some (I v3), some (I v4), none, none] [r] h' Q)) : X (d + 1) 142 16 [some (P 69), some (I v1), some (I v2), some (I v3), some (I v4), none, none] [] h Q :=
  s_aload_n c142_16 rfl (s_iconst c142_17 rfl (s_cVi c142_18 m142_187 F135 K135 rfl (Nat.le_of_ble_eq_true rfl) rfl S135_69 rfl H))
theorem b142_21 {d : Nat} {h : HP} {Q : PV → HP → Prop} {v1 v2 v3 v4 s0 : Int} (H : Q (I s0) h) : X d 142 21 [some (P 69), some (I v1), some (I v2), some (I v3), some (I v4), none, none] [I s0] h Q :=
  s_retI c142_21 R142 H
theorem b142_33 {d : Nat} {h : HP} {Q : PV → HP → Prop} {v1 v2 v3 v4 s0 : Int} (H : Q (I s0) h) : X d 142 33 [some (P 69), some (I v1), some (I v2), some (I v3), some (I v4), none, none] [I s0] h Q :=
  s_retI c142_33 R142 H
theorem b142_47 {d : Nat} {h : HP} {Q : PV → HP → Prop} {v1 v2 v3 v4 s0 : Int} (H : Q (I s0) h) : X d 142 47 [some (P 69), some (I v1), some (I v2), some (I v3), some (I v4), none, none] [I s0] h Q :=
  s_retI c142_47 R142 H
theorem b142_6 {d : Nat} {h : HP} {Q : PV → HP → Prop} {v1 v2 v3 v4 s0 : Int} (H : ((s0 = 0) → X (d + 1) 142 16 [some (P 69), some (I v1), some (I v2), some (I v3), some (I v4), none, none] [] h Q) ∧ (¬ (s0 = 0) → X d 138 0 [some (I v2)] [] h (fun r h' => X (d + 1) 142 13 [some (P 69), some (I v1), some (I v2), some (I v3), some (I v4), none, none] [r] h' Q))) : X (d + 1) 142 6 [some (P 69), some (I v1), some (I v2), some (I v3), some (I v4), none, none] [I s0] h Q :=
  s_if 16 (s0 = 0) c142_6 (by decide) rfl ⟨fun q5 => (H.1 q5), fun q5 => s_iload_n c142_9 rfl (s_cSi c142_10 m142_196 F138 K138 rfl (Nat.le_of_ble_eq_true rfl) rfl rfl (H.2 q5))⟩
theorem b142_77 {d : Nat} {h : HP} {Q : PV → HP → Prop} {v1 v2 v3 v4 v5 s0 : Int} (H : ((v3 = 0) → ((0 ≤ v5 ∧ v5 < 40) ∧ Q (I s0) (up2 h 80 v5.toNat v4))) ∧ (¬ (v3 = 0) → ((0 ≤ v5 ∧ v5 < 40) ∧ Q (I s0) (up2 h 81 v5.toNat v4)))) : X d 142 77 [some (P 69), some (I v1), some (I v2), some (I v3), some (I v4), some (I v5), none] [I s0] h Q :=
  s_istore c142_77 rfl (s_iload_n c142_79 rfl (s_if 95 (v3 = 0) c142_80 (by decide) rfl ⟨fun q6 => s_aload_n c142_95 rfl (s_getP 80 c142_96 f142_40 t12_11 sh_69 g_69_11 (by decide) (by decide) (s_iload c142_99 rfl (s_iload c142_101 rfl (s_iast c142_103 sh_80 ⟨(H.1 q6).1, s_iload c142_104 rfl (s_retI c142_106 R142 (H.1 q6).2)⟩)))), fun q6 => s_aload_n c142_83 rfl (s_getP 81 c142_84 f142_43 t12_12 sh_69 g_69_12 (by decide) (by decide) (s_iload c142_87 rfl (s_iload c142_89 rfl (s_iast c142_91 sh_81 ⟨(H.2 q6).1, s_goto 104 c142_92 (by decide) (s_iload c142_104 rfl (s_retI c142_106 R142 (H.2 q6).2))⟩))))⟩))
-- WarmSideModel.isHour(I)Z
theorem c137_0 : cdA 137 0 = some (.iload_n 0) := by decide +kernel
theorem c137_1 : cdA 137 1 = some (.iconst 0) := by decide +kernel
theorem c137_2 : cdA 137 2 = some (.bipush 11) := by decide +kernel
theorem c137_4 : cdA 137 4 = some (.invokestatic 183) := by decide +kernel
theorem m137_183 : mthR (moN 137) 183 = 137 := by decide +kernel
theorem c137_7 : cdA 137 7 = some (.ireturn) := by decide +kernel
theorem R137 : mK 137 = 3 := by decide +kernel
theorem b137_0 {d : Nat} {h : HP} {Q : PV → HP → Prop} {v0 : Int} (H : X d 134 0 [some (I v0), some (I 0), some (I 11)] [] h (fun r h' => X (d + 1) 137 7 [some (I v0)] [r] h' Q)) : X (d + 1) 137 0 [some (I v0)] [] h Q :=
  s_iload_n c137_0 rfl (s_iconst c137_1 rfl (s_bipush c137_2 ⟨by decide, by decide⟩ (s_cSi c137_4 m137_183 F134 K134 rfl (Nat.le_of_ble_eq_true rfl) rfl rfl H)))
theorem b137_7 {d : Nat} {h : HP} {Q : PV → HP → Prop} {v0 s0 : Int} (H : (s0 = 0 ∨ s0 = 1) ∧ Q (I s0) h) : X d 137 7 [some (I v0)] [I s0] h Q :=
  s_retZ c137_7 R137 H
-- WarmSideModel.sun(II)I
theorem c143_0 : cdA 143 0 = some (.iload_n 1) := by decide +kernel
theorem c143_1 : cdA 143 1 = some (.invokestatic 199) := by decide +kernel
theorem m143_199 : mthR (moN 143) 199 = 140 := by decide +kernel
theorem F137 : mF 137 1 1 false := by unfold mF; decide +kernel
theorem K137 : ¬ mK 137 = 4 := by decide +kernel
theorem c143_12 : cdA 143 12 = some (.ireturn) := by decide +kernel
theorem R143 : mK 143 = 0 := by decide +kernel
theorem c143_23 : cdA 143 23 = some (.ireturn) := by decide +kernel
theorem c143_37 : cdA 143 37 = some (.ireturn) := by decide +kernel
theorem c143_4 : cdA 143 4 = some (.ifCond .ne 9) := by decide +kernel
theorem c143_13 : cdA 143 13 = some (.iload_n 2) := by decide +kernel
theorem c143_14 : cdA 143 14 = some (.ifCond .ge 10) := by decide +kernel
theorem c143_24 : cdA 143 24 = some (.iload_n 2) := by decide +kernel
theorem c143_25 : cdA 143 25 = some (.sipush 999) := by decide +kernel
theorem c143_28 : cdA 143 28 = some (.if_icmp .le 10) := by decide +kernel
theorem c143_38 : cdA 143 38 = some (.aload_n 0) := by decide +kernel
theorem c143_39 : cdA 143 39 = some (.getfield 46) := by decide +kernel
theorem f143_46 : fldR (moN 143) 46 = some (12, 13) := by decide +kernel
theorem t12_13 : fcl 12 13 = 2 := by decide +kernel
theorem c143_42 : cdA 143 42 = some (.iload_n 1) := by decide +kernel
theorem c143_43 : cdA 143 43 = some (.iaload) := by decide +kernel
theorem c143_44 : cdA 143 44 = some (.istore_n 3) := by decide +kernel
theorem c143_45 : cdA 143 45 = some (.aload_n 0) := by decide +kernel
theorem c143_46 : cdA 143 46 = some (.getfield 46) := by decide +kernel
theorem c143_49 : cdA 143 49 = some (.iload_n 1) := by decide +kernel
theorem c143_50 : cdA 143 50 = some (.iload_n 2) := by decide +kernel
theorem c143_51 : cdA 143 51 = some (.iastore) := by decide +kernel
theorem c143_52 : cdA 143 52 = some (.iload_n 3) := by decide +kernel
theorem c143_53 : cdA 143 53 = some (.ireturn) := by decide +kernel
theorem c143_31 : cdA 143 31 = some (.aload_n 0) := by decide +kernel
theorem c143_32 : cdA 143 32 = some (.bipush (-6)) := by decide +kernel
theorem c143_34 : cdA 143 34 = some (.invokevirtual 187) := by decide +kernel
theorem m143_187 : mthR (moN 143) 187 = 138 := by decide +kernel
theorem c143_17 : cdA 143 17 = some (.aload_n 0) := by decide +kernel
theorem c143_18 : cdA 143 18 = some (.bipush (-4)) := by decide +kernel
theorem c143_20 : cdA 143 20 = some (.invokevirtual 187) := by decide +kernel
theorem c143_7 : cdA 143 7 = some (.aload_n 0) := by decide +kernel
theorem c143_8 : cdA 143 8 = some (.iconst (-1)) := by decide +kernel
theorem c143_9 : cdA 143 9 = some (.invokevirtual 187) := by decide +kernel
theorem b143_0 {d : Nat} {h : HP} {Q : PV → HP → Prop} {v1 v2 : Int} (H : X d 137 0 [some (I v1)] [] h (fun r h' => X (d + 1) 143 4 [some (P 69), some (I v1), some (I v2), none] [r] h' Q)) : X (d + 1) 143 0 [some (P 69), some (I v1), some (I v2), none] [] h Q :=
  s_iload_n c143_0 rfl (s_cSi c143_1 m143_199 F137 K137 rfl (Nat.le_of_ble_eq_true rfl) rfl rfl H)
theorem b143_12 {d : Nat} {h : HP} {Q : PV → HP → Prop} {v1 v2 s0 : Int} (H : Q (I s0) h) : X d 143 12 [some (P 69), some (I v1), some (I v2), none] [I s0] h Q :=
  s_retI c143_12 R143 H
theorem b143_23 {d : Nat} {h : HP} {Q : PV → HP → Prop} {v1 v2 s0 : Int} (H : Q (I s0) h) : X d 143 23 [some (P 69), some (I v1), some (I v2), none] [I s0] h Q :=
  s_retI c143_23 R143 H
theorem b143_37 {d : Nat} {h : HP} {Q : PV → HP → Prop} {v1 v2 s0 : Int} (H : Q (I s0) h) : X d 143 37 [some (P 69), some (I v1), some (I v2), none] [I s0] h Q :=
  s_retI c143_37 R143 H
theorem b143_4 {d : Nat} {h : HP} {Q : PV → HP → Prop} {v1 v2 s0 : Int} (H : ((¬ s0 = 0) → (((0 ≤ v2) → (((v2 ≤ 999) → ((0 ≤ v1 ∧ v1 < 12) ∧ ((0 ≤ v1 ∧ v1 < 12) ∧ Q (I (h 82 v1.toNat)) (up2 h 82 v1.toNat v2)))) ∧ (¬ (v2 ≤ 999) → X d 135 0 [some (P 69), some (I (-6))] [] h (fun r h' => X (d + 1) 143 37 [some (P 69), some (I v1), some (I v2), none] [r] h' Q)))) ∧ (¬ (0 ≤ v2) → X d 135 0 [some (P 69), some (I (-4))] [] h (fun r h' => X (d + 1) 143 23 [some (P 69), some (I v1), some (I v2), none] [r] h' Q)))) ∧ (¬ (¬ s0 = 0) → X d 135 0 [some (P 69), some (I (-1))] [] h (fun r h' => X (d + 1) 143 12 [some (P 69), some (I v1), some (I v2), none] [r] h' Q))) : X (d + 1) 143 4 [some (P 69), some (I v1), some (I v2), none] [I s0] h Q :=
  s_if 13 (¬ s0 = 0) c143_4 (by decide) rfl ⟨fun q1 => s_iload_n c143_13 rfl (s_if 24 (0 ≤ v2) c143_14 (by decide) rfl ⟨fun q2 => s_iload_n c143_24 rfl (s_sipush c143_25 ⟨by decide, by decide⟩ (s_ifc 38 (v2 ≤ 999) c143_28 (by decide) rfl ⟨fun q3 => s_aload_n c143_38 rfl (s_getP 82 c143_39 f143_46 t12_13 sh_69 g_69_13 (by decide) (by decide) (s_iload_n c143_42 rfl (s_iald c143_43 sh_82 ⟨(((H.1 q1).1 q2).1 q3).1, s_istore_n c143_44 rfl (s_aload_n c143_45 rfl (s_getP 82 c143_46 f143_46 t12_13 sh_69 g_69_13 (by decide) (by decide) (s_iload_n c143_49 rfl (s_iload_n c143_50 rfl (s_iast c143_51 sh_82 ⟨(((H.1 q1).1 q2).1 q3).2.1, s_iload_n c143_52 rfl (s_retI c143_53 R143 (((H.1 q1).1 q2).1 q3).2.2)⟩)))))⟩))), fun q3 => s_aload_n c143_31 rfl (s_bipush c143_32 ⟨by decide, by decide⟩ (s_cVi c143_34 m143_187 F135 K135 rfl (Nat.le_of_ble_eq_true rfl) rfl S135_69 rfl (((H.1 q1).1 q2).2 q3)))⟩)), fun q2 => s_aload_n c143_17 rfl (s_bipush c143_18 ⟨by decide, by decide⟩ (s_cVi c143_20 m143_187 F135 K135 rfl (Nat.le_of_ble_eq_true rfl) rfl S135_69 rfl ((H.1 q1).2 q2)))⟩), fun q1 => s_aload_n c143_7 rfl (s_iconst c143_8 rfl (s_cVi c143_9 m143_187 F135 K135 rfl (Nat.le_of_ble_eq_true rfl) rfl S135_69 rfl (H.2 q1)))⟩
-- WarmSideModel.become(III)V
theorem c145_0 : cdA 145 0 = some (.iload_n 1) := by decide +kernel
theorem c145_1 : cdA 145 1 = some (.tableswitch 89 0 3 #[31, 41, 60, 79]) := by decide +kernel
theorem c145_90 : cdA 145 90 = some (.aload_n 0) := by decide +kernel
theorem c145_91 : cdA 145 91 = some (.getfield 28) := by decide +kernel
theorem f145_28 : fldR (moN 145) 28 = some (12, 6) := by decide +kernel
theorem t12_6 : fcl 12 6 = 2 := by decide +kernel
theorem c145_94 : cdA 145 94 = some (.iload_n 2) := by decide +kernel
theorem c145_95 : cdA 145 95 = some (.iload_n 3) := by decide +kernel
theorem c145_96 : cdA 145 96 = some (.bipush 10) := by decide +kernel
theorem c145_98 : cdA 145 98 = some (.idiv) := by decide +kernel
theorem c145_99 : cdA 145 99 = some (.iastore) := by decide +kernel
theorem c145_100 : cdA 145 100 = some (.aload_n 0) := by decide +kernel
theorem c145_101 : cdA 145 101 = some (.getfield 25) := by decide +kernel
theorem f145_25 : fldR (moN 145) 25 = some (12, 5) := by decide +kernel
theorem c145_104 : cdA 145 104 = some (.iload_n 2) := by decide +kernel
theorem c145_105 : cdA 145 105 = some (.iload_n 3) := by decide +kernel
theorem c145_106 : cdA 145 106 = some (.bipush 10) := by decide +kernel
theorem c145_108 : cdA 145 108 = some (.irem) := by decide +kernel
theorem c145_109 : cdA 145 109 = some (.iastore) := by decide +kernel
theorem c145_110 : cdA 145 110 = some (.return_) := by decide +kernel
theorem R145 : mK 145 = 4 := by decide +kernel
theorem c145_32 : cdA 145 32 = some (.aload_n 0) := by decide +kernel
theorem c145_33 : cdA 145 33 = some (.getfield 22) := by decide +kernel
theorem f145_22 : fldR (moN 145) 22 = some (12, 4) := by decide +kernel
theorem c145_36 : cdA 145 36 = some (.iload_n 2) := by decide +kernel
theorem c145_37 : cdA 145 37 = some (.iload_n 3) := by decide +kernel
theorem c145_38 : cdA 145 38 = some (.iastore) := by decide +kernel
theorem c145_39 : cdA 145 39 = some (.goto 71) := by decide +kernel
theorem c145_42 : cdA 145 42 = some (.aload_n 0) := by decide +kernel
theorem c145_43 : cdA 145 43 = some (.getfield 67) := by decide +kernel
theorem f145_67 : fldR (moN 145) 67 = some (12, 21) := by decide +kernel
theorem t12_21 : fcl 12 21 = 2 := by decide +kernel
theorem c145_46 : cdA 145 46 = some (.iload_n 2) := by decide +kernel
theorem c145_47 : cdA 145 47 = some (.iload_n 3) := by decide +kernel
theorem c145_48 : cdA 145 48 = some (.iconst 1) := by decide +kernel
theorem c145_49 : cdA 145 49 = some (.if_icmp .ne 7) := by decide +kernel
theorem c145_56 : cdA 145 56 = some (.iconst 0) := by decide +kernel
theorem c145_57 : cdA 145 57 = some (.bastore) := by decide +kernel
theorem c145_58 : cdA 145 58 = some (.goto 52) := by decide +kernel
theorem c145_52 : cdA 145 52 = some (.iconst 1) := by decide +kernel
theorem c145_53 : cdA 145 53 = some (.goto 4) := by decide +kernel
theorem c145_61 : cdA 145 61 = some (.aload_n 0) := by decide +kernel
theorem c145_62 : cdA 145 62 = some (.getfield 77) := by decide +kernel
theorem f145_77 : fldR (moN 145) 77 = some (12, 25) := by decide +kernel
theorem t12_25 : fcl 12 25 = 2 := by decide +kernel
theorem c145_65 : cdA 145 65 = some (.iload_n 2) := by decide +kernel
theorem c145_66 : cdA 145 66 = some (.iload_n 3) := by decide +kernel
theorem c145_67 : cdA 145 67 = some (.iconst 1) := by decide +kernel
theorem c145_68 : cdA 145 68 = some (.if_icmp .ne 7) := by decide +kernel
theorem c145_75 : cdA 145 75 = some (.iconst 0) := by decide +kernel
theorem c145_76 : cdA 145 76 = some (.bastore) := by decide +kernel
theorem c145_77 : cdA 145 77 = some (.goto 33) := by decide +kernel
theorem c145_71 : cdA 145 71 = some (.iconst 1) := by decide +kernel
theorem c145_72 : cdA 145 72 = some (.goto 4) := by decide +kernel
theorem c145_80 : cdA 145 80 = some (.aload_n 0) := by decide +kernel
theorem c145_81 : cdA 145 81 = some (.getfield 86) := by decide +kernel
theorem f145_86 : fldR (moN 145) 86 = some (12, 29) := by decide +kernel
theorem t12_29 : fcl 12 29 = 2 := by decide +kernel
theorem c145_84 : cdA 145 84 = some (.iload_n 2) := by decide +kernel
theorem c145_85 : cdA 145 85 = some (.iload_n 3) := by decide +kernel
theorem c145_86 : cdA 145 86 = some (.iastore) := by decide +kernel
theorem c145_87 : cdA 145 87 = some (.goto 23) := by decide +kernel
theorem b145_0 {d : Nat} {h : HP} {Q : PV → HP → Prop} {v1 v2 v3 : Int} (H : ((v1 < 0 ∨ 3 < v1) → ((0 ≤ v2 ∧ v2 < 8) ∧ ((0 ≤ v2 ∧ v2 < 8) ∧ Q (I 0) (up2 (up2 h 76 v2.toNat (w32 (Int.tdiv v3 10))) 75 v2.toNat (Int.tmod v3 10))))) ∧ (v1 = 0 → ((0 ≤ v2 ∧ v2 < 8) ∧ Q (I 0) (up2 h 74 v2.toNat v3))) ∧ (v1 = 1 → (((¬ v3 = 1) → ((0 ≤ v2 ∧ v2 < 8) ∧ Q (I 0) (up2 h 89 v2.toNat 0))) ∧ (¬ (¬ v3 = 1) → ((0 ≤ v2 ∧ v2 < 8) ∧ Q (I 0) (up2 h 89 v2.toNat 1))))) ∧ (v1 = 2 → (((¬ v3 = 1) → ((0 ≤ v2 ∧ v2 < 8) ∧ Q (I 0) (up2 h 92 v2.toNat 0))) ∧ (¬ (¬ v3 = 1) → ((0 ≤ v2 ∧ v2 < 8) ∧ Q (I 0) (up2 h 92 v2.toNat 1))))) ∧ (v1 = 3 → ((0 ≤ v2 ∧ v2 < 4) ∧ Q (I 0) (up2 h 95 v2.toNat v3)))) : X d 145 0 [some (P 69), some (I v1), some (I v2), some (I v3)] [] h Q :=
  s_iload_n c145_0 rfl (s_tsw (x := v1) 90 c145_1 (by decide) (fun q1 => s_aload_n c145_90 rfl (s_getP 76 c145_91 f145_28 t12_6 sh_69 g_69_6 (by decide) (by decide) (s_iload_n c145_94 rfl (s_iload_n c145_95 rfl (s_bipush c145_96 ⟨by decide, by decide⟩ (s_idiv c145_98 (by decide) (s_iast c145_99 sh_76 ⟨(H.1 q1).1, s_aload_n c145_100 rfl (s_getP 75 c145_101 f145_25 t12_5 sh_69 g_69_5 (by decide) (by decide) (s_iload_n c145_104 rfl (s_iload_n c145_105 rfl (s_bipush c145_106 ⟨by decide, by decide⟩ (s_irem c145_108 (by decide) (s_iast c145_109 sh_75 ⟨(H.1 q1).2.1, s_retV c145_110 R145 (H.1 q1).2.2⟩))))))⟩))))))) (fun qn => by
    have qc : v1 = 0 ∨ v1 = 1 ∨ v1 = 2 ∨ v1 = 3 := by omega
    rcases qc with q1 | q1 | q1 | q1
    · exact ⟨31, 32, by rw [q1]; rfl, by decide, s_aload_n c145_32 rfl (s_getP 74 c145_33 f145_22 t12_4 sh_69 g_69_4 (by decide) (by decide) (s_iload_n c145_36 rfl (s_iload_n c145_37 rfl (s_iast c145_38 sh_74 ⟨(H.2.1 q1).1, s_goto 110 c145_39 (by decide) (s_retV c145_110 R145 (H.2.1 q1).2)⟩))))⟩
    · exact ⟨41, 42, by rw [q1]; rfl, by decide, s_aload_n c145_42 rfl (s_getP 89 c145_43 f145_67 t12_21 sh_69 g_69_21 (by decide) (by decide) (s_iload_n c145_46 rfl (s_iload_n c145_47 rfl (s_iconst c145_48 rfl (s_ifc 56 (¬ v3 = 1) c145_49 (by decide) rfl ⟨fun q2 => s_iconst c145_56 rfl (s_bast c145_57 sh_89 ⟨((H.2.2.1 q1).1 q2).1, (by decide), s_goto 110 c145_58 (by decide) (s_retV c145_110 R145 ((H.2.2.1 q1).1 q2).2)⟩), fun q2 => s_iconst c145_52 rfl (s_goto 57 c145_53 (by decide) (s_bast c145_57 sh_89 ⟨((H.2.2.1 q1).2 q2).1, (by decide), s_goto 110 c145_58 (by decide) (s_retV c145_110 R145 ((H.2.2.1 q1).2 q2).2)⟩))⟩)))))⟩
    · exact ⟨60, 61, by rw [q1]; rfl, by decide, s_aload_n c145_61 rfl (s_getP 92 c145_62 f145_77 t12_25 sh_69 g_69_25 (by decide) (by decide) (s_iload_n c145_65 rfl (s_iload_n c145_66 rfl (s_iconst c145_67 rfl (s_ifc 75 (¬ v3 = 1) c145_68 (by decide) rfl ⟨fun q3 => s_iconst c145_75 rfl (s_bast c145_76 sh_92 ⟨((H.2.2.2.1 q1).1 q3).1, (by decide), s_goto 110 c145_77 (by decide) (s_retV c145_110 R145 ((H.2.2.2.1 q1).1 q3).2)⟩), fun q3 => s_iconst c145_71 rfl (s_goto 76 c145_72 (by decide) (s_bast c145_76 sh_92 ⟨((H.2.2.2.1 q1).2 q3).1, (by decide), s_goto 110 c145_77 (by decide) (s_retV c145_110 R145 ((H.2.2.2.1 q1).2 q3).2)⟩))⟩)))))⟩
    · exact ⟨79, 80, by rw [q1]; rfl, by decide, s_aload_n c145_80 rfl (s_getP 95 c145_81 f145_86 t12_29 sh_69 g_69_29 (by decide) (by decide) (s_iload_n c145_84 rfl (s_iload_n c145_85 rfl (s_iast c145_86 sh_95 ⟨(H.2.2.2.2 q1).1, s_goto 110 c145_87 (by decide) (s_retV c145_110 R145 (H.2.2.2.2 q1).2)⟩))))⟩
    ))
-- WarmSideModel.undo()I
theorem c148_0 : cdA 148 0 = some (.aload_n 0) := by decide +kernel
theorem c148_1 : cdA 148 1 = some (.getfield 206) := by decide +kernel
theorem f148_206 : fldR (moN 148) 206 = some (12, 44) := by decide +kernel
theorem t12_44 : fcl 12 44 = 0 := by decide +kernel
theorem c148_4 : cdA 148 4 = some (.ifCond .ne 10) := by decide +kernel
theorem c148_14 : cdA 148 14 = some (.aload_n 0) := by decide +kernel
theorem c148_15 : cdA 148 15 = some (.dup) := by decide +kernel
theorem c148_16 : cdA 148 16 = some (.getfield 206) := by decide +kernel
theorem c148_19 : cdA 148 19 = some (.iconst 1) := by decide +kernel
theorem c148_20 : cdA 148 20 = some (.isub) := by decide +kernel
theorem c148_21 : cdA 148 21 = some (.putfield 206) := by decide +kernel
theorem n12_44 : ffin 12 44 = false := by decide +kernel
theorem c148_24 : cdA 148 24 = some (.aload_n 0) := by decide +kernel
theorem c148_25 : cdA 148 25 = some (.aload_n 0) := by decide +kernel
theorem c148_26 : cdA 148 26 = some (.getfield 99) := by decide +kernel
theorem f148_99 : fldR (moN 148) 99 = some (12, 39) := by decide +kernel
theorem t12_39 : fcl 12 39 = 2 := by decide +kernel
theorem c148_29 : cdA 148 29 = some (.aload_n 0) := by decide +kernel
theorem c148_30 : cdA 148 30 = some (.getfield 206) := by decide +kernel
theorem c148_33 : cdA 148 33 = some (.iaload) := by decide +kernel
theorem c148_34 : cdA 148 34 = some (.aload_n 0) := by decide +kernel
theorem c148_35 : cdA 148 35 = some (.getfield 102) := by decide +kernel
theorem f148_102 : fldR (moN 148) 102 = some (12, 40) := by decide +kernel
theorem t12_40 : fcl 12 40 = 2 := by decide +kernel
theorem c148_38 : cdA 148 38 = some (.aload_n 0) := by decide +kernel
theorem c148_39 : cdA 148 39 = some (.getfield 206) := by decide +kernel
theorem c148_42 : cdA 148 42 = some (.iaload) := by decide +kernel
theorem c148_43 : cdA 148 43 = some (.aload_n 0) := by decide +kernel
theorem c148_44 : cdA 148 44 = some (.getfield 105) := by decide +kernel
theorem f148_105 : fldR (moN 148) 105 = some (12, 41) := by decide +kernel
theorem t12_41 : fcl 12 41 = 2 := by decide +kernel
theorem c148_47 : cdA 148 47 = some (.aload_n 0) := by decide +kernel
theorem c148_48 : cdA 148 48 = some (.getfield 206) := by decide +kernel
theorem c148_51 : cdA 148 51 = some (.iaload) := by decide +kernel
theorem c148_52 : cdA 148 52 = some (.invokevirtual 212) := by decide +kernel
theorem m148_212 : mthR (moN 148) 212 = 148 := by decide +kernel
theorem F145 : mF 145 3 4 true := by unfold mF; decide +kernel
theorem K145 : mK 145 = 4 := by decide +kernel
theorem S145_69 : SH0[69]? = some (.inl (moN 145)) := by decide +kernel
theorem c148_7 : cdA 148 7 = some (.aload_n 0) := by decide +kernel
theorem c148_8 : cdA 148 8 = some (.bipush (-3)) := by decide +kernel
theorem c148_10 : cdA 148 10 = some (.invokevirtual 187) := by decide +kernel
theorem m148_187 : mthR (moN 148) 187 = 138 := by decide +kernel
theorem c148_13 : cdA 148 13 = some (.ireturn) := by decide +kernel
theorem R148 : mK 148 = 0 := by decide +kernel
theorem c148_55 : cdA 148 55 = some (.iconst 1) := by decide +kernel
theorem c148_56 : cdA 148 56 = some (.ireturn) := by decide +kernel
theorem b148_0 {d : Nat} {h : HP} {Q : PV → HP → Prop} (H : ((¬ (h 69 44) = 0) → ((0 ≤ (w32 ((h 69 44) - 1)) ∧ (w32 ((h 69 44) - 1)) < 60) ∧ ((0 ≤ (w32 ((h 69 44) - 1)) ∧ (w32 ((h 69 44) - 1)) < 60) ∧ ((0 ≤ (w32 ((h 69 44) - 1)) ∧ (w32 ((h 69 44) - 1)) < 60) ∧ X d 145 0 [some (P 69), some (I (h 98 (w32 ((h 69 44) - 1)).toNat)), some (I (h 99 (w32 ((h 69 44) - 1)).toNat)), some (I (h 100 (w32 ((h 69 44) - 1)).toNat))] [] (up2 h 69 44 (w32 ((h 69 44) - 1))) (fun _ h' => X (d + 1) 148 55 [some (P 69)] [] h' Q))))) ∧ (¬ (¬ (h 69 44) = 0) → X d 135 0 [some (P 69), some (I (-3))] [] h (fun r h' => X (d + 1) 148 13 [some (P 69)] [r] h' Q))) : X (d + 1) 148 0 [some (P 69)] [] h Q :=
  s_aload_n c148_0 rfl (s_getI c148_1 f148_206 t12_44 sh_69 (s_if 14 (¬ (h 69 44) = 0) c148_4 (by decide) rfl ⟨fun q1 => s_aload_n c148_14 rfl (s_dupP c148_15 (s_getI c148_16 f148_206 t12_44 sh_69 (s_iconst c148_19 rfl (s_isub c148_20 (s_putI c148_21 f148_206 t12_44 n12_44 sh_69 (s_aload_n c148_24 rfl (s_aload_n c148_25 rfl (s_getP 98 c148_26 f148_99 t12_39 sh_69 g_69_39 (by decide) (by decide) (s_aload_n c148_29 rfl (s_getI c148_30 f148_206 t12_44 sh_69 (s_iald c148_33 sh_98 ⟨(H.1 q1).1, s_aload_n c148_34 rfl (s_getP 99 c148_35 f148_102 t12_40 sh_69 g_69_40 (by decide) (by decide) (s_aload_n c148_38 rfl (s_getI c148_39 f148_206 t12_44 sh_69 (s_iald c148_42 sh_99 ⟨(H.1 q1).2.1, s_aload_n c148_43 rfl (s_getP 100 c148_44 f148_105 t12_41 sh_69 g_69_41 (by decide) (by decide) (s_aload_n c148_47 rfl (s_getI c148_48 f148_206 t12_44 sh_69 (s_iald c148_51 sh_100 ⟨(H.1 q1).2.2.1, s_cVv c148_52 m148_212 F145 K145 rfl (Nat.le_of_ble_eq_true rfl) rfl S145_69 rfl (H.1 q1).2.2.2⟩))))⟩))))⟩))))))))))), fun q1 => s_aload_n c148_7 rfl (s_bipush c148_8 ⟨by decide, by decide⟩ (s_cVi c148_10 m148_187 F135 K135 rfl (Nat.le_of_ble_eq_true rfl) rfl S135_69 rfl (H.2 q1)))⟩))
theorem b148_13 {d : Nat} {h : HP} {Q : PV → HP → Prop} {s0 : Int} (H : Q (I s0) h) : X d 148 13 [some (P 69)] [I s0] h Q :=
  s_retI c148_13 R148 H
theorem b148_55 {d : Nat} {h : HP} {Q : PV → HP → Prop} (H : Q (I 1) h) : X d 148 55 [some (P 69)] [] h Q :=
  s_iconst c148_55 rfl (s_retI c148_56 R148 H)
-- WarmSideModel.redo()I
theorem c149_0 : cdA 149 0 = some (.aload_n 0) := by decide +kernel
theorem c149_1 : cdA 149 1 = some (.getfield 206) := by decide +kernel
theorem f149_206 : fldR (moN 149) 206 = some (12, 44) := by decide +kernel
theorem c149_4 : cdA 149 4 = some (.aload_n 0) := by decide +kernel
theorem c149_5 : cdA 149 5 = some (.getfield 209) := by decide +kernel
theorem f149_209 : fldR (moN 149) 209 = some (12, 43) := by decide +kernel
theorem t12_43 : fcl 12 43 = 0 := by decide +kernel
theorem c149_8 : cdA 149 8 = some (.if_icmp .ne 10) := by decide +kernel
theorem c149_18 : cdA 149 18 = some (.aload_n 0) := by decide +kernel
theorem c149_19 : cdA 149 19 = some (.aload_n 0) := by decide +kernel
theorem c149_20 : cdA 149 20 = some (.getfield 99) := by decide +kernel
theorem f149_99 : fldR (moN 149) 99 = some (12, 39) := by decide +kernel
theorem c149_23 : cdA 149 23 = some (.aload_n 0) := by decide +kernel
theorem c149_24 : cdA 149 24 = some (.getfield 206) := by decide +kernel
theorem c149_27 : cdA 149 27 = some (.iaload) := by decide +kernel
theorem c149_28 : cdA 149 28 = some (.aload_n 0) := by decide +kernel
theorem c149_29 : cdA 149 29 = some (.getfield 102) := by decide +kernel
theorem f149_102 : fldR (moN 149) 102 = some (12, 40) := by decide +kernel
theorem c149_32 : cdA 149 32 = some (.aload_n 0) := by decide +kernel
theorem c149_33 : cdA 149 33 = some (.getfield 206) := by decide +kernel
theorem c149_36 : cdA 149 36 = some (.iaload) := by decide +kernel
theorem c149_37 : cdA 149 37 = some (.aload_n 0) := by decide +kernel
theorem c149_38 : cdA 149 38 = some (.getfield 108) := by decide +kernel
theorem f149_108 : fldR (moN 149) 108 = some (12, 42) := by decide +kernel
theorem t12_42 : fcl 12 42 = 2 := by decide +kernel
theorem c149_41 : cdA 149 41 = some (.aload_n 0) := by decide +kernel
theorem c149_42 : cdA 149 42 = some (.getfield 206) := by decide +kernel
theorem c149_45 : cdA 149 45 = some (.iaload) := by decide +kernel
theorem c149_46 : cdA 149 46 = some (.invokevirtual 212) := by decide +kernel
theorem m149_212 : mthR (moN 149) 212 = 148 := by decide +kernel
theorem c149_11 : cdA 149 11 = some (.aload_n 0) := by decide +kernel
theorem c149_12 : cdA 149 12 = some (.bipush (-3)) := by decide +kernel
theorem c149_14 : cdA 149 14 = some (.invokevirtual 187) := by decide +kernel
theorem m149_187 : mthR (moN 149) 187 = 138 := by decide +kernel
theorem c149_17 : cdA 149 17 = some (.ireturn) := by decide +kernel
theorem R149 : mK 149 = 0 := by decide +kernel
theorem c149_49 : cdA 149 49 = some (.aload_n 0) := by decide +kernel
theorem c149_50 : cdA 149 50 = some (.dup) := by decide +kernel
theorem c149_51 : cdA 149 51 = some (.getfield 206) := by decide +kernel
theorem c149_54 : cdA 149 54 = some (.iconst 1) := by decide +kernel
theorem c149_55 : cdA 149 55 = some (.iadd) := by decide +kernel
theorem c149_56 : cdA 149 56 = some (.putfield 206) := by decide +kernel
theorem c149_59 : cdA 149 59 = some (.iconst 1) := by decide +kernel
theorem c149_60 : cdA 149 60 = some (.ireturn) := by decide +kernel
theorem b149_0 {d : Nat} {h : HP} {Q : PV → HP → Prop} (H : ((¬ (h 69 44) = (h 69 43)) → ((0 ≤ (h 69 44) ∧ (h 69 44) < 60) ∧ ((0 ≤ (h 69 44) ∧ (h 69 44) < 60) ∧ ((0 ≤ (h 69 44) ∧ (h 69 44) < 60) ∧ X d 145 0 [some (P 69), some (I (h 98 (h 69 44).toNat)), some (I (h 99 (h 69 44).toNat)), some (I (h 101 (h 69 44).toNat))] [] h (fun _ h' => X (d + 1) 149 49 [some (P 69)] [] h' Q))))) ∧ (¬ (¬ (h 69 44) = (h 69 43)) → X d 135 0 [some (P 69), some (I (-3))] [] h (fun r h' => X (d + 1) 149 17 [some (P 69)] [r] h' Q))) : X (d + 1) 149 0 [some (P 69)] [] h Q :=
  s_aload_n c149_0 rfl (s_getI c149_1 f149_206 t12_44 sh_69 (s_aload_n c149_4 rfl (s_getI c149_5 f149_209 t12_43 sh_69 (s_ifc 18 (¬ (h 69 44) = (h 69 43)) c149_8 (by decide) rfl ⟨fun q1 => s_aload_n c149_18 rfl (s_aload_n c149_19 rfl (s_getP 98 c149_20 f149_99 t12_39 sh_69 g_69_39 (by decide) (by decide) (s_aload_n c149_23 rfl (s_getI c149_24 f149_206 t12_44 sh_69 (s_iald c149_27 sh_98 ⟨(H.1 q1).1, s_aload_n c149_28 rfl (s_getP 99 c149_29 f149_102 t12_40 sh_69 g_69_40 (by decide) (by decide) (s_aload_n c149_32 rfl (s_getI c149_33 f149_206 t12_44 sh_69 (s_iald c149_36 sh_99 ⟨(H.1 q1).2.1, s_aload_n c149_37 rfl (s_getP 101 c149_38 f149_108 t12_42 sh_69 g_69_42 (by decide) (by decide) (s_aload_n c149_41 rfl (s_getI c149_42 f149_206 t12_44 sh_69 (s_iald c149_45 sh_101 ⟨(H.1 q1).2.2.1, s_cVv c149_46 m149_212 F145 K145 rfl (Nat.le_of_ble_eq_true rfl) rfl S145_69 rfl (H.1 q1).2.2.2⟩))))⟩))))⟩))))), fun q1 => s_aload_n c149_11 rfl (s_bipush c149_12 ⟨by decide, by decide⟩ (s_cVi c149_14 m149_187 F135 K135 rfl (Nat.le_of_ble_eq_true rfl) rfl S135_69 rfl (H.2 q1)))⟩))))
theorem b149_17 {d : Nat} {h : HP} {Q : PV → HP → Prop} {s0 : Int} (H : Q (I s0) h) : X d 149 17 [some (P 69)] [I s0] h Q :=
  s_retI c149_17 R149 H
theorem b149_49 {d : Nat} {h : HP} {Q : PV → HP → Prop} (H : Q (I 1) (up2 h 69 44 (w32 ((h 69 44) + 1)))) : X d 149 49 [some (P 69)] [] h Q :=
  s_aload_n c149_49 rfl (s_dupP c149_50 (s_getI c149_51 f149_206 t12_44 sh_69 (s_iconst c149_54 rfl (s_iadd c149_55 (s_putI c149_56 f149_206 t12_44 n12_44 sh_69 (s_iconst c149_59 rfl (s_retI c149_60 R149 H)))))))
-- WarmSideModel.valueOf(II)I
theorem c144_0 : cdA 144 0 = some (.iload_n 1) := by decide +kernel
theorem c144_1 : cdA 144 1 = some (.tableswitch 75 0 3 #[31, 38, 53, 68]) := by decide +kernel
theorem c144_76 : cdA 144 76 = some (.bipush 10) := by decide +kernel
theorem c144_78 : cdA 144 78 = some (.aload_n 0) := by decide +kernel
theorem c144_79 : cdA 144 79 = some (.getfield 28) := by decide +kernel
theorem f144_28 : fldR (moN 144) 28 = some (12, 6) := by decide +kernel
theorem c144_82 : cdA 144 82 = some (.iload_n 2) := by decide +kernel
theorem c144_83 : cdA 144 83 = some (.iaload) := by decide +kernel
theorem c144_84 : cdA 144 84 = some (.imul) := by decide +kernel
theorem c144_85 : cdA 144 85 = some (.aload_n 0) := by decide +kernel
theorem c144_86 : cdA 144 86 = some (.getfield 25) := by decide +kernel
theorem f144_25 : fldR (moN 144) 25 = some (12, 5) := by decide +kernel
theorem c144_89 : cdA 144 89 = some (.iload_n 2) := by decide +kernel
theorem c144_90 : cdA 144 90 = some (.iaload) := by decide +kernel
theorem c144_91 : cdA 144 91 = some (.iadd) := by decide +kernel
theorem c144_92 : cdA 144 92 = some (.ireturn) := by decide +kernel
theorem R144 : mK 144 = 0 := by decide +kernel
theorem c144_32 : cdA 144 32 = some (.aload_n 0) := by decide +kernel
theorem c144_33 : cdA 144 33 = some (.getfield 22) := by decide +kernel
theorem f144_22 : fldR (moN 144) 22 = some (12, 4) := by decide +kernel
theorem c144_36 : cdA 144 36 = some (.iload_n 2) := by decide +kernel
theorem c144_37 : cdA 144 37 = some (.iaload) := by decide +kernel
theorem c144_38 : cdA 144 38 = some (.ireturn) := by decide +kernel
theorem c144_39 : cdA 144 39 = some (.aload_n 0) := by decide +kernel
theorem c144_40 : cdA 144 40 = some (.getfield 67) := by decide +kernel
theorem f144_67 : fldR (moN 144) 67 = some (12, 21) := by decide +kernel
theorem c144_43 : cdA 144 43 = some (.iload_n 2) := by decide +kernel
theorem c144_44 : cdA 144 44 = some (.baload) := by decide +kernel
theorem c144_45 : cdA 144 45 = some (.ifCond .eq 7) := by decide +kernel
theorem c144_52 : cdA 144 52 = some (.iconst 0) := by decide +kernel
theorem c144_53 : cdA 144 53 = some (.ireturn) := by decide +kernel
theorem c144_48 : cdA 144 48 = some (.iconst 1) := by decide +kernel
theorem c144_49 : cdA 144 49 = some (.goto 4) := by decide +kernel
theorem c144_54 : cdA 144 54 = some (.aload_n 0) := by decide +kernel
theorem c144_55 : cdA 144 55 = some (.getfield 77) := by decide +kernel
theorem f144_77 : fldR (moN 144) 77 = some (12, 25) := by decide +kernel
theorem c144_58 : cdA 144 58 = some (.iload_n 2) := by decide +kernel
theorem c144_59 : cdA 144 59 = some (.baload) := by decide +kernel
theorem c144_60 : cdA 144 60 = some (.ifCond .eq 7) := by decide +kernel
theorem c144_67 : cdA 144 67 = some (.iconst 0) := by decide +kernel
theorem c144_68 : cdA 144 68 = some (.ireturn) := by decide +kernel
theorem c144_63 : cdA 144 63 = some (.iconst 1) := by decide +kernel
theorem c144_64 : cdA 144 64 = some (.goto 4) := by decide +kernel
theorem c144_69 : cdA 144 69 = some (.aload_n 0) := by decide +kernel
theorem c144_70 : cdA 144 70 = some (.getfield 86) := by decide +kernel
theorem f144_86 : fldR (moN 144) 86 = some (12, 29) := by decide +kernel
theorem c144_73 : cdA 144 73 = some (.iload_n 2) := by decide +kernel
theorem c144_74 : cdA 144 74 = some (.iaload) := by decide +kernel
theorem c144_75 : cdA 144 75 = some (.ireturn) := by decide +kernel
theorem b144_0 {d : Nat} {h : HP} {Q : PV → HP → Prop} {v1 v2 : Int} (H : ((v1 < 0 ∨ 3 < v1) → ((0 ≤ v2 ∧ v2 < 8) ∧ ((0 ≤ v2 ∧ v2 < 8) ∧ Q (I (w32 ((w32 (10 * (h 76 v2.toNat))) + (h 75 v2.toNat)))) h))) ∧ (v1 = 0 → ((0 ≤ v2 ∧ v2 < 8) ∧ Q (I (h 74 v2.toNat)) h)) ∧ (v1 = 1 → ((0 ≤ v2 ∧ v2 < 8) ∧ ((((h 89 v2.toNat) = 0) → Q (I 0) h) ∧ (¬ ((h 89 v2.toNat) = 0) → Q (I 1) h)))) ∧ (v1 = 2 → ((0 ≤ v2 ∧ v2 < 8) ∧ ((((h 92 v2.toNat) = 0) → Q (I 0) h) ∧ (¬ ((h 92 v2.toNat) = 0) → Q (I 1) h)))) ∧ (v1 = 3 → ((0 ≤ v2 ∧ v2 < 4) ∧ Q (I (h 95 v2.toNat)) h))) : X d 144 0 [some (P 69), some (I v1), some (I v2)] [] h Q :=
  s_iload_n c144_0 rfl (s_tsw (x := v1) 76 c144_1 (by decide) (fun q1 => s_bipush c144_76 ⟨by decide, by decide⟩ (s_aload_n c144_78 rfl (s_getP 76 c144_79 f144_28 t12_6 sh_69 g_69_6 (by decide) (by decide) (s_iload_n c144_82 rfl (s_iald c144_83 sh_76 ⟨(H.1 q1).1, s_imul c144_84 (s_aload_n c144_85 rfl (s_getP 75 c144_86 f144_25 t12_5 sh_69 g_69_5 (by decide) (by decide) (s_iload_n c144_89 rfl (s_iald c144_90 sh_75 ⟨(H.1 q1).2.1, s_iadd c144_91 (s_retI c144_92 R144 (H.1 q1).2.2)⟩))))⟩))))) (fun qn => by
    have qc : v1 = 0 ∨ v1 = 1 ∨ v1 = 2 ∨ v1 = 3 := by omega
    rcases qc with q1 | q1 | q1 | q1
    · exact ⟨31, 32, by rw [q1]; rfl, by decide, s_aload_n c144_32 rfl (s_getP 74 c144_33 f144_22 t12_4 sh_69 g_69_4 (by decide) (by decide) (s_iload_n c144_36 rfl (s_iald c144_37 sh_74 ⟨(H.2.1 q1).1, s_retI c144_38 R144 (H.2.1 q1).2⟩)))⟩
    · exact ⟨38, 39, by rw [q1]; rfl, by decide, s_aload_n c144_39 rfl (s_getP 89 c144_40 f144_67 t12_21 sh_69 g_69_21 (by decide) (by decide) (s_iload_n c144_43 rfl (s_bald c144_44 sh_89 ⟨(H.2.2.1 q1).1, s_if 52 ((h 89 v2.toNat) = 0) c144_45 (by decide) rfl ⟨fun q2 => s_iconst c144_52 rfl (s_retI c144_53 R144 ((H.2.2.1 q1).2.1 q2)), fun q2 => s_iconst c144_48 rfl (s_goto 53 c144_49 (by decide) (s_retI c144_53 R144 ((H.2.2.1 q1).2.2 q2)))⟩⟩)))⟩
    · exact ⟨53, 54, by rw [q1]; rfl, by decide, s_aload_n c144_54 rfl (s_getP 92 c144_55 f144_77 t12_25 sh_69 g_69_25 (by decide) (by decide) (s_iload_n c144_58 rfl (s_bald c144_59 sh_92 ⟨(H.2.2.2.1 q1).1, s_if 67 ((h 92 v2.toNat) = 0) c144_60 (by decide) rfl ⟨fun q3 => s_iconst c144_67 rfl (s_retI c144_68 R144 ((H.2.2.2.1 q1).2.1 q3)), fun q3 => s_iconst c144_63 rfl (s_goto 68 c144_64 (by decide) (s_retI c144_68 R144 ((H.2.2.2.1 q1).2.2 q3)))⟩⟩)))⟩
    · exact ⟨68, 69, by rw [q1]; rfl, by decide, s_aload_n c144_69 rfl (s_getP 95 c144_70 f144_86 t12_29 sh_69 g_69_29 (by decide) (by decide) (s_iload_n c144_73 rfl (s_iald c144_74 sh_95 ⟨(H.2.2.2.2 q1).1, s_retI c144_75 R144 (H.2.2.2.2 q1).2⟩)))⟩
    ))
-- WarmSideModel.act(III)V
theorem c146_0 : cdA 146 0 = some (.aload_n 0) := by decide +kernel
theorem c146_1 : cdA 146 1 = some (.iload_n 1) := by decide +kernel
theorem c146_2 : cdA 146 2 = some (.iload_n 2) := by decide +kernel
theorem c146_3 : cdA 146 3 = some (.invokevirtual 202) := by decide +kernel
theorem m146_202 : mthR (moN 146) 202 = 147 := by decide +kernel
theorem F144 : mF 144 2 3 true := by unfold mF; decide +kernel
theorem K144 : ¬ mK 144 = 4 := by decide +kernel
theorem S144_69 : SH0[69]? = some (.inl (moN 144)) := by decide +kernel
theorem c146_107 : cdA 146 107 = some (.aload_n 0) := by decide +kernel
theorem c146_108 : cdA 146 108 = some (.getfield 99) := by decide +kernel
theorem f146_99 : fldR (moN 146) 99 = some (12, 39) := by decide +kernel
theorem c146_111 : cdA 146 111 = some (.aload_n 0) := by decide +kernel
theorem c146_112 : cdA 146 112 = some (.getfield 206) := by decide +kernel
theorem f146_206 : fldR (moN 146) 206 = some (12, 44) := by decide +kernel
theorem c146_115 : cdA 146 115 = some (.iload_n 1) := by decide +kernel
theorem c146_116 : cdA 146 116 = some (.iastore) := by decide +kernel
theorem c146_117 : cdA 146 117 = some (.aload_n 0) := by decide +kernel
theorem c146_118 : cdA 146 118 = some (.getfield 102) := by decide +kernel
theorem f146_102 : fldR (moN 146) 102 = some (12, 40) := by decide +kernel
theorem c146_121 : cdA 146 121 = some (.aload_n 0) := by decide +kernel
theorem c146_122 : cdA 146 122 = some (.getfield 206) := by decide +kernel
theorem c146_125 : cdA 146 125 = some (.iload_n 2) := by decide +kernel
theorem c146_126 : cdA 146 126 = some (.iastore) := by decide +kernel
theorem c146_127 : cdA 146 127 = some (.aload_n 0) := by decide +kernel
theorem c146_128 : cdA 146 128 = some (.getfield 105) := by decide +kernel
theorem f146_105 : fldR (moN 146) 105 = some (12, 41) := by decide +kernel
theorem c146_131 : cdA 146 131 = some (.aload_n 0) := by decide +kernel
theorem c146_132 : cdA 146 132 = some (.getfield 206) := by decide +kernel
theorem c146_135 : cdA 146 135 = some (.iload 4) := by decide +kernel
theorem c146_137 : cdA 146 137 = some (.iastore) := by decide +kernel
theorem c146_138 : cdA 146 138 = some (.aload_n 0) := by decide +kernel
theorem c146_139 : cdA 146 139 = some (.getfield 108) := by decide +kernel
theorem f146_108 : fldR (moN 146) 108 = some (12, 42) := by decide +kernel
theorem c146_142 : cdA 146 142 = some (.aload_n 0) := by decide +kernel
theorem c146_143 : cdA 146 143 = some (.getfield 206) := by decide +kernel
theorem c146_146 : cdA 146 146 = some (.iload_n 3) := by decide +kernel
theorem c146_147 : cdA 146 147 = some (.iastore) := by decide +kernel
theorem c146_148 : cdA 146 148 = some (.aload_n 0) := by decide +kernel
theorem c146_149 : cdA 146 149 = some (.dup) := by decide +kernel
theorem c146_150 : cdA 146 150 = some (.getfield 206) := by decide +kernel
theorem c146_153 : cdA 146 153 = some (.iconst 1) := by decide +kernel
theorem c146_154 : cdA 146 154 = some (.iadd) := by decide +kernel
theorem c146_155 : cdA 146 155 = some (.putfield 206) := by decide +kernel
theorem c146_158 : cdA 146 158 = some (.aload_n 0) := by decide +kernel
theorem c146_159 : cdA 146 159 = some (.aload_n 0) := by decide +kernel
theorem c146_160 : cdA 146 160 = some (.getfield 206) := by decide +kernel
theorem c146_163 : cdA 146 163 = some (.putfield 209) := by decide +kernel
theorem f146_209 : fldR (moN 146) 209 = some (12, 43) := by decide +kernel
theorem n12_43 : ffin 12 43 = false := by decide +kernel
theorem c146_166 : cdA 146 166 = some (.aload_n 0) := by decide +kernel
theorem c146_167 : cdA 146 167 = some (.iload_n 1) := by decide +kernel
theorem c146_168 : cdA 146 168 = some (.iload_n 2) := by decide +kernel
theorem c146_169 : cdA 146 169 = some (.iload_n 3) := by decide +kernel
theorem c146_170 : cdA 146 170 = some (.invokevirtual 212) := by decide +kernel
theorem m146_212 : mthR (moN 146) 212 = 148 := by decide +kernel
theorem c146_173 : cdA 146 173 = some (.return_) := by decide +kernel
theorem R146 : mK 146 = 4 := by decide +kernel
theorem c146_20 : cdA 146 20 = some (.iload 5) := by decide +kernel
theorem c146_22 : cdA 146 22 = some (.bipush 60) := by decide +kernel
theorem c146_24 : cdA 146 24 = some (.if_icmp .ge 73) := by decide +kernel
theorem c146_97 : cdA 146 97 = some (.aload_n 0) := by decide +kernel
theorem c146_98 : cdA 146 98 = some (.dup) := by decide +kernel
theorem c146_99 : cdA 146 99 = some (.getfield 206) := by decide +kernel
theorem c146_102 : cdA 146 102 = some (.iconst 1) := by decide +kernel
theorem c146_103 : cdA 146 103 = some (.isub) := by decide +kernel
theorem c146_104 : cdA 146 104 = some (.putfield 206) := by decide +kernel
theorem c146_27 : cdA 146 27 = some (.aload_n 0) := by decide +kernel
theorem c146_28 : cdA 146 28 = some (.getfield 99) := by decide +kernel
theorem c146_31 : cdA 146 31 = some (.iload 5) := by decide +kernel
theorem c146_33 : cdA 146 33 = some (.iconst 1) := by decide +kernel
theorem c146_34 : cdA 146 34 = some (.isub) := by decide +kernel
theorem c146_35 : cdA 146 35 = some (.aload_n 0) := by decide +kernel
theorem c146_36 : cdA 146 36 = some (.getfield 99) := by decide +kernel
theorem c146_39 : cdA 146 39 = some (.iload 5) := by decide +kernel
theorem c146_41 : cdA 146 41 = some (.iaload) := by decide +kernel
theorem c146_42 : cdA 146 42 = some (.iastore) := by decide +kernel
theorem c146_43 : cdA 146 43 = some (.aload_n 0) := by decide +kernel
theorem c146_44 : cdA 146 44 = some (.getfield 102) := by decide +kernel
theorem c146_47 : cdA 146 47 = some (.iload 5) := by decide +kernel
theorem c146_49 : cdA 146 49 = some (.iconst 1) := by decide +kernel
theorem c146_50 : cdA 146 50 = some (.isub) := by decide +kernel
theorem c146_51 : cdA 146 51 = some (.aload_n 0) := by decide +kernel
theorem c146_52 : cdA 146 52 = some (.getfield 102) := by decide +kernel
theorem c146_55 : cdA 146 55 = some (.iload 5) := by decide +kernel
theorem c146_57 : cdA 146 57 = some (.iaload) := by decide +kernel
theorem c146_58 : cdA 146 58 = some (.iastore) := by decide +kernel
theorem c146_59 : cdA 146 59 = some (.aload_n 0) := by decide +kernel
theorem c146_60 : cdA 146 60 = some (.getfield 105) := by decide +kernel
theorem c146_63 : cdA 146 63 = some (.iload 5) := by decide +kernel
theorem c146_65 : cdA 146 65 = some (.iconst 1) := by decide +kernel
theorem c146_66 : cdA 146 66 = some (.isub) := by decide +kernel
theorem c146_67 : cdA 146 67 = some (.aload_n 0) := by decide +kernel
theorem c146_68 : cdA 146 68 = some (.getfield 105) := by decide +kernel
theorem c146_71 : cdA 146 71 = some (.iload 5) := by decide +kernel
theorem c146_73 : cdA 146 73 = some (.iaload) := by decide +kernel
theorem c146_74 : cdA 146 74 = some (.iastore) := by decide +kernel
theorem c146_75 : cdA 146 75 = some (.aload_n 0) := by decide +kernel
theorem c146_76 : cdA 146 76 = some (.getfield 108) := by decide +kernel
theorem c146_79 : cdA 146 79 = some (.iload 5) := by decide +kernel
theorem c146_81 : cdA 146 81 = some (.iconst 1) := by decide +kernel
theorem c146_82 : cdA 146 82 = some (.isub) := by decide +kernel
theorem c146_83 : cdA 146 83 = some (.aload_n 0) := by decide +kernel
theorem c146_84 : cdA 146 84 = some (.getfield 108) := by decide +kernel
theorem c146_87 : cdA 146 87 = some (.iload 5) := by decide +kernel
theorem c146_89 : cdA 146 89 = some (.iaload) := by decide +kernel
theorem c146_90 : cdA 146 90 = some (.iastore) := by decide +kernel
theorem c146_91 : cdA 146 91 = some (.iinc 5 1) := by decide +kernel
theorem c146_94 : cdA 146 94 = some (.goto (-74)) := by decide +kernel
theorem c146_6 : cdA 146 6 = some (.istore 4) := by decide +kernel
theorem c146_8 : cdA 146 8 = some (.aload_n 0) := by decide +kernel
theorem c146_9 : cdA 146 9 = some (.getfield 206) := by decide +kernel
theorem c146_12 : cdA 146 12 = some (.bipush 60) := by decide +kernel
theorem c146_14 : cdA 146 14 = some (.if_icmp .ne 93) := by decide +kernel
theorem c146_17 : cdA 146 17 = some (.iconst 1) := by decide +kernel
theorem c146_18 : cdA 146 18 = some (.istore 5) := by decide +kernel
theorem b146_0 {d : Nat} {h : HP} {Q : PV → HP → Prop} {v1 v2 v3 : Int} (H : X d 144 0 [some (P 69), some (I v1), some (I v2)] [] h (fun r h' => X (d + 1) 146 6 [some (P 69), some (I v1), some (I v2), some (I v3), none, none] [r] h' Q)) : X (d + 1) 146 0 [some (P 69), some (I v1), some (I v2), some (I v3), none, none] [] h Q :=
  s_aload_n c146_0 rfl (s_iload_n c146_1 rfl (s_iload_n c146_2 rfl (s_cVi c146_3 m146_202 F144 K144 rfl (Nat.le_of_ble_eq_true rfl) rfl S144_69 rfl H)))
theorem b146_107 {d : Nat} {h : HP} {Q : PV → HP → Prop} {v1 v2 v3 v4 : Int} (H : (0 ≤ (h 69 44) ∧ (h 69 44) < 60) ∧ ((0 ≤ (h 69 44) ∧ (h 69 44) < 60) ∧ ((0 ≤ (h 69 44) ∧ (h 69 44) < 60) ∧ ((0 ≤ (h 69 44) ∧ (h 69 44) < 60) ∧ X d 145 0 [some (P 69), some (I v1), some (I v2), some (I v3)] [] (up2 (up2 (up2 (up2 (up2 (up2 h 98 (h 69 44).toNat v1) 99 (h 69 44).toNat v2) 100 (h 69 44).toNat v4) 101 (h 69 44).toNat v3) 69 44 (w32 ((h 69 44) + 1))) 69 43 (w32 ((h 69 44) + 1))) (fun _ h' => X (d + 1) 146 173 [some (P 69), some (I v1), some (I v2), some (I v3), some (I v4), none] [] h' Q))))) : X (d + 1) 146 107 [some (P 69), some (I v1), some (I v2), some (I v3), some (I v4), none] [] h Q :=
  s_aload_n c146_107 rfl (s_getP 98 c146_108 f146_99 t12_39 sh_69 g_69_39 (by decide) (by decide) (s_aload_n c146_111 rfl (s_getI c146_112 f146_206 t12_44 sh_69 (s_iload_n c146_115 rfl (s_iast c146_116 sh_98 ⟨H.1, s_aload_n c146_117 rfl (s_getP 99 c146_118 f146_102 t12_40 sh_69 g_69_40 (by decide) (by decide) (s_aload_n c146_121 rfl (s_getI c146_122 f146_206 t12_44 sh_69 (s_iload_n c146_125 rfl (s_iast c146_126 sh_99 ⟨H.2.1, s_aload_n c146_127 rfl (s_getP 100 c146_128 f146_105 t12_41 sh_69 g_69_41 (by decide) (by decide) (s_aload_n c146_131 rfl (s_getI c146_132 f146_206 t12_44 sh_69 (s_iload c146_135 rfl (s_iast c146_137 sh_100 ⟨H.2.2.1, s_aload_n c146_138 rfl (s_getP 101 c146_139 f146_108 t12_42 sh_69 g_69_42 (by decide) (by decide) (s_aload_n c146_142 rfl (s_getI c146_143 f146_206 t12_44 sh_69 (s_iload_n c146_146 rfl (s_iast c146_147 sh_101 ⟨H.2.2.2.1, s_aload_n c146_148 rfl (s_dupP c146_149 (s_getI c146_150 f146_206 t12_44 sh_69 (s_iconst c146_153 rfl (s_iadd c146_154 (s_putI c146_155 f146_206 t12_44 n12_44 sh_69 (s_aload_n c146_158 rfl (s_aload_n c146_159 rfl (s_getI c146_160 f146_206 t12_44 sh_69 (s_putI c146_163 f146_209 t12_43 n12_43 sh_69 (s_aload_n c146_166 rfl (s_iload_n c146_167 rfl (s_iload_n c146_168 rfl (s_iload_n c146_169 rfl (s_cVv c146_170 m146_212 F145 K145 rfl (Nat.le_of_ble_eq_true rfl) rfl S145_69 rfl H.2.2.2.2))))))))))))))⟩)))))⟩)))))⟩)))))⟩)))))
theorem b146_173 {d : Nat} {h : HP} {Q : PV → HP → Prop} {v1 v2 v3 v4 : Int} (H : Q (I 0) h) : X d 146 173 [some (P 69), some (I v1), some (I v2), some (I v3), some (I v4), none] [] h Q :=
  s_retV c146_173 R146 H
theorem b146_20 {d : Nat} {h : HP} {Q : PV → HP → Prop} {v1 v2 v3 v4 v5 : Int} (H : ((60 ≤ v5) → X d 146 107 [some (P 69), some (I v1), some (I v2), some (I v3), some (I v4), none] [] (up2 h 69 44 (w32 ((h 69 44) - 1))) Q) ∧ (¬ (60 ≤ v5) → ((0 ≤ v5 ∧ v5 < 60) ∧ ((0 ≤ (w32 (v5 - 1)) ∧ (w32 (v5 - 1)) < 60) ∧ ((0 ≤ v5 ∧ v5 < 60) ∧ ((0 ≤ (w32 (v5 - 1)) ∧ (w32 (v5 - 1)) < 60) ∧ ((0 ≤ v5 ∧ v5 < 60) ∧ ((0 ≤ (w32 (v5 - 1)) ∧ (w32 (v5 - 1)) < 60) ∧ ((0 ≤ v5 ∧ v5 < 60) ∧ ((0 ≤ (w32 (v5 - 1)) ∧ (w32 (v5 - 1)) < 60) ∧ X d 146 20 [some (P 69), some (I v1), some (I v2), some (I v3), some (I v4), some (I (w32 (v5 + 1)))] [] (up2 (up2 (up2 (up2 h 98 (w32 (v5 - 1)).toNat (h 98 v5.toNat)) 99 (w32 (v5 - 1)).toNat (h 99 v5.toNat)) 100 (w32 (v5 - 1)).toNat (h 100 v5.toNat)) 101 (w32 (v5 - 1)).toNat (h 101 v5.toNat)) Q)))))))))) : X d 146 20 [some (P 69), some (I v1), some (I v2), some (I v3), some (I v4), some (I v5)] [] h Q :=
  s_iload c146_20 rfl (s_bipush c146_22 ⟨by decide, by decide⟩ (s_ifc 97 (60 ≤ v5) c146_24 (by decide) rfl ⟨fun q1 => s_aload_n c146_97 rfl (s_dupP c146_98 (s_getI c146_99 f146_206 t12_44 sh_69 (s_iconst c146_102 rfl (s_isub c146_103 (s_putI c146_104 f146_206 t12_44 n12_44 sh_69 (X_weak (A := [some (P 69), some (I v1), some (I v2), some (I v3), some (I v4), none]) (B := [some (P 69), some (I v1), some (I v2), some (I v3), some (I v4), some (I v5)]) ⟨Or.inl rfl, Or.inl rfl, Or.inl rfl, Or.inl rfl, Or.inl rfl, Or.inr ⟨rfl, _, rfl, rfl⟩, trivial⟩ (H.1 q1))))))), fun q1 => s_aload_n c146_27 rfl (s_getP 98 c146_28 f146_99 t12_39 sh_69 g_69_39 (by decide) (by decide) (s_iload c146_31 rfl (s_iconst c146_33 rfl (s_isub c146_34 (s_aload_n c146_35 rfl (s_getP 98 c146_36 f146_99 t12_39 sh_69 g_69_39 (by decide) (by decide) (s_iload c146_39 rfl (s_iald c146_41 sh_98 ⟨(H.2 q1).1, s_iast c146_42 sh_98 ⟨(H.2 q1).2.1, s_aload_n c146_43 rfl (s_getP 99 c146_44 f146_102 t12_40 sh_69 g_69_40 (by decide) (by decide) (s_iload c146_47 rfl (s_iconst c146_49 rfl (s_isub c146_50 (s_aload_n c146_51 rfl (s_getP 99 c146_52 f146_102 t12_40 sh_69 g_69_40 (by decide) (by decide) (s_iload c146_55 rfl (s_iald c146_57 sh_99 ⟨(H.2 q1).2.2.1, s_iast c146_58 sh_99 ⟨(H.2 q1).2.2.2.1, s_aload_n c146_59 rfl (s_getP 100 c146_60 f146_105 t12_41 sh_69 g_69_41 (by decide) (by decide) (s_iload c146_63 rfl (s_iconst c146_65 rfl (s_isub c146_66 (s_aload_n c146_67 rfl (s_getP 100 c146_68 f146_105 t12_41 sh_69 g_69_41 (by decide) (by decide) (s_iload c146_71 rfl (s_iald c146_73 sh_100 ⟨(H.2 q1).2.2.2.2.1, s_iast c146_74 sh_100 ⟨(H.2 q1).2.2.2.2.2.1, s_aload_n c146_75 rfl (s_getP 101 c146_76 f146_108 t12_42 sh_69 g_69_42 (by decide) (by decide) (s_iload c146_79 rfl (s_iconst c146_81 rfl (s_isub c146_82 (s_aload_n c146_83 rfl (s_getP 101 c146_84 f146_108 t12_42 sh_69 g_69_42 (by decide) (by decide) (s_iload c146_87 rfl (s_iald c146_89 sh_101 ⟨(H.2 q1).2.2.2.2.2.2.1, s_iast c146_90 sh_101 ⟨(H.2 q1).2.2.2.2.2.2.2.1, s_iinc c146_91 rfl rfl rfl (s_goto 20 c146_94 (by decide) ((H.2 q1).2.2.2.2.2.2.2.2))⟩⟩))))))))⟩⟩))))))))⟩⟩))))))))⟩⟩))))))))⟩))
theorem b146_6 {d : Nat} {h : HP} {Q : PV → HP → Prop} {v1 v2 v3 s0 : Int} (H : ((¬ (h 69 44) = 60) → X d 146 107 [some (P 69), some (I v1), some (I v2), some (I v3), some (I s0), none] [] h Q) ∧ (¬ (¬ (h 69 44) = 60) → X d 146 20 [some (P 69), some (I v1), some (I v2), some (I v3), some (I s0), some (I 1)] [] h Q)) : X d 146 6 [some (P 69), some (I v1), some (I v2), some (I v3), none, none] [I s0] h Q :=
  s_istore c146_6 rfl (s_aload_n c146_8 rfl (s_getI c146_9 f146_206 t12_44 sh_69 (s_bipush c146_12 ⟨by decide, by decide⟩ (s_ifc 107 (¬ (h 69 44) = 60) c146_14 (by decide) rfl ⟨fun q2 => (H.1 q2), fun q2 => s_iconst c146_17 rfl (s_istore c146_18 rfl ((H.2 q2)))⟩))))
-- WarmSideModel.face(II)I
theorem c150_0 : cdA 150 0 = some (.aload_n 0) := by decide +kernel
theorem c150_1 : cdA 150 1 = some (.iload_n 1) := by decide +kernel
theorem c150_2 : cdA 150 2 = some (.invokevirtual 191) := by decide +kernel
theorem m150_191 : mthR (moN 150) 191 = 139 := by decide +kernel
theorem c150_13 : cdA 150 13 = some (.ireturn) := by decide +kernel
theorem R150 : mK 150 = 0 := by decide +kernel
theorem c150_20 : cdA 150 20 = some (.ifCond .ne 10) := by decide +kernel
theorem c150_30 : cdA 150 30 = some (.aload_n 0) := by decide +kernel
theorem c150_31 : cdA 150 31 = some (.getfield 22) := by decide +kernel
theorem f150_22 : fldR (moN 150) 22 = some (12, 4) := by decide +kernel
theorem c150_34 : cdA 150 34 = some (.iload_n 1) := by decide +kernel
theorem c150_35 : cdA 150 35 = some (.iaload) := by decide +kernel
theorem c150_36 : cdA 150 36 = some (.istore_n 3) := by decide +kernel
theorem c150_37 : cdA 150 37 = some (.iload_n 3) := by decide +kernel
theorem c150_38 : cdA 150 38 = some (.iload_n 2) := by decide +kernel
theorem c150_39 : cdA 150 39 = some (.if_icmp .eq 10) := by decide +kernel
theorem c150_42 : cdA 150 42 = some (.aload_n 0) := by decide +kernel
theorem c150_43 : cdA 150 43 = some (.iconst 0) := by decide +kernel
theorem c150_44 : cdA 150 44 = some (.iload_n 1) := by decide +kernel
theorem c150_45 : cdA 150 45 = some (.iload_n 2) := by decide +kernel
theorem c150_46 : cdA 150 46 = some (.invokevirtual 216) := by decide +kernel
theorem m150_216 : mthR (moN 150) 216 = 149 := by decide +kernel
theorem F146 : mF 146 3 6 true := by unfold mF; decide +kernel
theorem K146 : mK 146 = 4 := by decide +kernel
theorem S146_69 : SH0[69]? = some (.inl (moN 146)) := by decide +kernel
theorem c150_23 : cdA 150 23 = some (.aload_n 0) := by decide +kernel
theorem c150_24 : cdA 150 24 = some (.bipush (-2)) := by decide +kernel
theorem c150_26 : cdA 150 26 = some (.invokevirtual 187) := by decide +kernel
theorem m150_187 : mthR (moN 150) 187 = 138 := by decide +kernel
theorem c150_29 : cdA 150 29 = some (.ireturn) := by decide +kernel
theorem c150_49 : cdA 150 49 = some (.iload_n 3) := by decide +kernel
theorem c150_50 : cdA 150 50 = some (.ireturn) := by decide +kernel
theorem c150_5 : cdA 150 5 = some (.ifCond .ne 9) := by decide +kernel
theorem c150_14 : cdA 150 14 = some (.iload_n 2) := by decide +kernel
theorem c150_15 : cdA 150 15 = some (.iconst 0) := by decide +kernel
theorem c150_16 : cdA 150 16 = some (.iconst 2) := by decide +kernel
theorem c150_17 : cdA 150 17 = some (.invokestatic 183) := by decide +kernel
theorem m150_183 : mthR (moN 150) 183 = 137 := by decide +kernel
theorem c150_8 : cdA 150 8 = some (.aload_n 0) := by decide +kernel
theorem c150_9 : cdA 150 9 = some (.iconst (-1)) := by decide +kernel
theorem c150_10 : cdA 150 10 = some (.invokevirtual 187) := by decide +kernel
theorem b150_0 {d : Nat} {h : HP} {Q : PV → HP → Prop} {v1 v2 : Int} (H : X d 136 0 [some (P 69), some (I v1)] [] h (fun r h' => X (d + 1) 150 5 [some (P 69), some (I v1), some (I v2), none] [r] h' Q)) : X (d + 1) 150 0 [some (P 69), some (I v1), some (I v2), none] [] h Q :=
  s_aload_n c150_0 rfl (s_iload_n c150_1 rfl (s_cVi c150_2 m150_191 F136 K136 rfl (Nat.le_of_ble_eq_true rfl) rfl S136_69 rfl H))
theorem b150_13 {d : Nat} {h : HP} {Q : PV → HP → Prop} {v1 v2 s0 : Int} (H : Q (I s0) h) : X d 150 13 [some (P 69), some (I v1), some (I v2), none] [I s0] h Q :=
  s_retI c150_13 R150 H
theorem b150_20 {d : Nat} {h : HP} {Q : PV → HP → Prop} {v1 v2 s0 : Int} (H : ((¬ s0 = 0) → ((0 ≤ v1 ∧ v1 < 8) ∧ ((((h 74 v1.toNat) = v2) → X (d + 1) 150 49 [some (P 69), some (I v1), some (I v2), some (I (h 74 v1.toNat))] [] h Q) ∧ (¬ ((h 74 v1.toNat) = v2) → X d 146 0 [some (P 69), some (I 0), some (I v1), some (I v2), none, none] [] h (fun _ h' => X (d + 1) 150 49 [some (P 69), some (I v1), some (I v2), some (I (h 74 v1.toNat))] [] h' Q))))) ∧ (¬ (¬ s0 = 0) → X d 135 0 [some (P 69), some (I (-2))] [] h (fun r h' => X (d + 1) 150 29 [some (P 69), some (I v1), some (I v2), none] [r] h' Q))) : X (d + 1) 150 20 [some (P 69), some (I v1), some (I v2), none] [I s0] h Q :=
  s_if 30 (¬ s0 = 0) c150_20 (by decide) rfl ⟨fun q1 => s_aload_n c150_30 rfl (s_getP 74 c150_31 f150_22 t12_4 sh_69 g_69_4 (by decide) (by decide) (s_iload_n c150_34 rfl (s_iald c150_35 sh_74 ⟨(H.1 q1).1, s_istore_n c150_36 rfl (s_iload_n c150_37 rfl (s_iload_n c150_38 rfl (s_ifc 49 ((h 74 v1.toNat) = v2) c150_39 (by decide) rfl ⟨fun q2 => ((H.1 q1).2.1 q2), fun q2 => s_aload_n c150_42 rfl (s_iconst c150_43 rfl (s_iload_n c150_44 rfl (s_iload_n c150_45 rfl (s_cVv c150_46 m150_216 F146 K146 rfl (Nat.le_of_ble_eq_true rfl) rfl S146_69 rfl ((H.1 q1).2.2 q2)))))⟩)))⟩))), fun q1 => s_aload_n c150_23 rfl (s_bipush c150_24 ⟨by decide, by decide⟩ (s_cVi c150_26 m150_187 F135 K135 rfl (Nat.le_of_ble_eq_true rfl) rfl S135_69 rfl (H.2 q1)))⟩
theorem b150_29 {d : Nat} {h : HP} {Q : PV → HP → Prop} {v1 v2 s0 : Int} (H : Q (I s0) h) : X d 150 29 [some (P 69), some (I v1), some (I v2), none] [I s0] h Q :=
  s_retI c150_29 R150 H
theorem b150_49 {d : Nat} {h : HP} {Q : PV → HP → Prop} {v1 v2 v3 : Int} (H : Q (I v3) h) : X d 150 49 [some (P 69), some (I v1), some (I v2), some (I v3)] [] h Q :=
  s_iload_n c150_49 rfl (s_retI c150_50 R150 H)
theorem b150_5 {d : Nat} {h : HP} {Q : PV → HP → Prop} {v1 v2 s0 : Int} (H : ((¬ s0 = 0) → X d 134 0 [some (I v2), some (I 0), some (I 2)] [] h (fun r h' => X (d + 1) 150 20 [some (P 69), some (I v1), some (I v2), none] [r] h' Q)) ∧ (¬ (¬ s0 = 0) → X d 135 0 [some (P 69), some (I (-1))] [] h (fun r h' => X (d + 1) 150 13 [some (P 69), some (I v1), some (I v2), none] [r] h' Q))) : X (d + 1) 150 5 [some (P 69), some (I v1), some (I v2), none] [I s0] h Q :=
  s_if 14 (¬ s0 = 0) c150_5 (by decide) rfl ⟨fun q3 => s_iload_n c150_14 rfl (s_iconst c150_15 rfl (s_iconst c150_16 rfl (s_cSi c150_17 m150_183 F134 K134 rfl (Nat.le_of_ble_eq_true rfl) rfl rfl (H.1 q3)))), fun q3 => s_aload_n c150_8 rfl (s_iconst c150_9 rfl (s_cVi c150_10 m150_187 F135 K135 rfl (Nat.le_of_ble_eq_true rfl) rfl S135_69 rfl (H.2 q3)))⟩
-- WarmSideModel.noWay(IIIII)I
theorem c151_0 : cdA 151 0 = some (.aload_n 0) := by decide +kernel
theorem c151_1 : cdA 151 1 = some (.iload_n 1) := by decide +kernel
theorem c151_2 : cdA 151 2 = some (.invokevirtual 191) := by decide +kernel
theorem m151_191 : mthR (moN 151) 191 = 139 := by decide +kernel
theorem c151_13 : cdA 151 13 = some (.ifCond .eq 8) := by decide +kernel
theorem c151_16 : cdA 151 16 = some (.iload_n 1) := by decide +kernel
theorem c151_17 : cdA 151 17 = some (.iload_n 2) := by decide +kernel
theorem c151_18 : cdA 151 18 = some (.if_icmp .ne 9) := by decide +kernel
theorem c151_27 : cdA 151 27 = some (.iload_n 3) := by decide +kernel
theorem c151_28 : cdA 151 28 = some (.iconst 1) := by decide +kernel
theorem c151_29 : cdA 151 29 = some (.if_icmp .ge 10) := by decide +kernel
theorem c151_39 : cdA 151 39 = some (.iload_n 3) := by decide +kernel
theorem c151_40 : cdA 151 40 = some (.bipush 99) := by decide +kernel
theorem c151_42 : cdA 151 42 = some (.if_icmp .gt 10) := by decide +kernel
theorem c151_45 : cdA 151 45 = some (.iload 4) := by decide +kernel
theorem c151_47 : cdA 151 47 = some (.iload 5) := by decide +kernel
theorem c151_49 : cdA 151 49 = some (.if_icmp .ne 12) := by decide +kernel
theorem c151_61 : cdA 151 61 = some (.iconst 0) := by decide +kernel
theorem c151_62 : cdA 151 62 = some (.ireturn) := by decide +kernel
theorem R151 : mK 151 = 0 := by decide +kernel
theorem c151_32 : cdA 151 32 = some (.aload_n 0) := by decide +kernel
theorem c151_33 : cdA 151 33 = some (.bipush (-4)) := by decide +kernel
theorem c151_35 : cdA 151 35 = some (.invokevirtual 187) := by decide +kernel
theorem m151_187 : mthR (moN 151) 187 = 138 := by decide +kernel
theorem c151_21 : cdA 151 21 = some (.aload_n 0) := by decide +kernel
theorem c151_22 : cdA 151 22 = some (.iconst (-1)) := by decide +kernel
theorem c151_23 : cdA 151 23 = some (.invokevirtual 187) := by decide +kernel
theorem c151_26 : cdA 151 26 = some (.ireturn) := by decide +kernel
theorem c151_38 : cdA 151 38 = some (.ireturn) := by decide +kernel
theorem c151_5 : cdA 151 5 = some (.ifCond .eq 16) := by decide +kernel
theorem c151_8 : cdA 151 8 = some (.aload_n 0) := by decide +kernel
theorem c151_9 : cdA 151 9 = some (.iload_n 2) := by decide +kernel
theorem c151_10 : cdA 151 10 = some (.invokevirtual 191) := by decide +kernel
theorem c151_52 : cdA 151 52 = some (.aload_n 0) := by decide +kernel
theorem c151_53 : cdA 151 53 = some (.bipush (-6)) := by decide +kernel
theorem c151_55 : cdA 151 55 = some (.invokevirtual 187) := by decide +kernel
theorem c151_58 : cdA 151 58 = some (.goto 4) := by decide +kernel
theorem b151_0 {d : Nat} {h : HP} {Q : PV → HP → Prop} {v1 v2 v3 v4 v5 : Int} (H : X d 136 0 [some (P 69), some (I v1)] [] h (fun r h' => X (d + 1) 151 5 [some (P 69), some (I v1), some (I v2), some (I v3), some (I v4), some (I v5)] [r] h' Q)) : X (d + 1) 151 0 [some (P 69), some (I v1), some (I v2), some (I v3), some (I v4), some (I v5)] [] h Q :=
  s_aload_n c151_0 rfl (s_iload_n c151_1 rfl (s_cVi c151_2 m151_191 F136 K136 rfl (Nat.le_of_ble_eq_true rfl) rfl S136_69 rfl H))
theorem b151_13 {d : Nat} {h : HP} {Q : PV → HP → Prop} {v1 v2 v3 v4 v5 s0 : Int} (H : ((s0 = 0) → X (d + 1) 151 21 [some (P 69), some (I v1), some (I v2), some (I v3), some (I v4), some (I v5)] [] h Q) ∧ (¬ (s0 = 0) → (((¬ v1 = v2) → (((1 ≤ v3) → (((99 < v3) → X (d + 1) 151 52 [some (P 69), some (I v1), some (I v2), some (I v3), some (I v4), some (I v5)] [] h Q) ∧ (¬ (99 < v3) → (((¬ v4 = v5) → Q (I 0) h) ∧ (¬ (¬ v4 = v5) → X (d + 1) 151 52 [some (P 69), some (I v1), some (I v2), some (I v3), some (I v4), some (I v5)] [] h Q))))) ∧ (¬ (1 ≤ v3) → X d 135 0 [some (P 69), some (I (-4))] [] h (fun r h' => X (d + 1) 151 38 [some (P 69), some (I v1), some (I v2), some (I v3), some (I v4), some (I v5)] [r] h' Q)))) ∧ (¬ (¬ v1 = v2) → X (d + 1) 151 21 [some (P 69), some (I v1), some (I v2), some (I v3), some (I v4), some (I v5)] [] h Q)))) : X (d + 1) 151 13 [some (P 69), some (I v1), some (I v2), some (I v3), some (I v4), some (I v5)] [I s0] h Q :=
  s_if 21 (s0 = 0) c151_13 (by decide) rfl ⟨fun q1 => (H.1 q1), fun q1 => s_iload_n c151_16 rfl (s_iload_n c151_17 rfl (s_ifc 27 (¬ v1 = v2) c151_18 (by decide) rfl ⟨fun q2 => s_iload_n c151_27 rfl (s_iconst c151_28 rfl (s_ifc 39 (1 ≤ v3) c151_29 (by decide) rfl ⟨fun q3 => s_iload_n c151_39 rfl (s_bipush c151_40 ⟨by decide, by decide⟩ (s_ifc 52 (99 < v3) c151_42 (by decide) rfl ⟨fun q4 => ((((H.2 q1).1 q2).1 q3).1 q4), fun q4 => s_iload c151_45 rfl (s_iload c151_47 rfl (s_ifc 61 (¬ v4 = v5) c151_49 (by decide) rfl ⟨fun q5 => s_iconst c151_61 rfl (s_retI c151_62 R151 (((((H.2 q1).1 q2).1 q3).2 q4).1 q5)), fun q5 => (((((H.2 q1).1 q2).1 q3).2 q4).2 q5)⟩))⟩)), fun q3 => s_aload_n c151_32 rfl (s_bipush c151_33 ⟨by decide, by decide⟩ (s_cVi c151_35 m151_187 F135 K135 rfl (Nat.le_of_ble_eq_true rfl) rfl S135_69 rfl (((H.2 q1).1 q2).2 q3)))⟩)), fun q2 => ((H.2 q1).2 q2)⟩))⟩
theorem b151_21 {d : Nat} {h : HP} {Q : PV → HP → Prop} {v1 v2 v3 v4 v5 : Int} (H : X d 135 0 [some (P 69), some (I (-1))] [] h (fun r h' => X (d + 1) 151 26 [some (P 69), some (I v1), some (I v2), some (I v3), some (I v4), some (I v5)] [r] h' Q)) : X (d + 1) 151 21 [some (P 69), some (I v1), some (I v2), some (I v3), some (I v4), some (I v5)] [] h Q :=
  s_aload_n c151_21 rfl (s_iconst c151_22 rfl (s_cVi c151_23 m151_187 F135 K135 rfl (Nat.le_of_ble_eq_true rfl) rfl S135_69 rfl H))
theorem b151_26 {d : Nat} {h : HP} {Q : PV → HP → Prop} {v1 v2 v3 v4 v5 s0 : Int} (H : Q (I s0) h) : X d 151 26 [some (P 69), some (I v1), some (I v2), some (I v3), some (I v4), some (I v5)] [I s0] h Q :=
  s_retI c151_26 R151 H
theorem b151_38 {d : Nat} {h : HP} {Q : PV → HP → Prop} {v1 v2 v3 v4 v5 s0 : Int} (H : Q (I s0) h) : X d 151 38 [some (P 69), some (I v1), some (I v2), some (I v3), some (I v4), some (I v5)] [I s0] h Q :=
  s_retI c151_38 R151 H
theorem b151_5 {d : Nat} {h : HP} {Q : PV → HP → Prop} {v1 v2 v3 v4 v5 s0 : Int} (H : ((s0 = 0) → X (d + 1) 151 21 [some (P 69), some (I v1), some (I v2), some (I v3), some (I v4), some (I v5)] [] h Q) ∧ (¬ (s0 = 0) → X d 136 0 [some (P 69), some (I v2)] [] h (fun r h' => X (d + 1) 151 13 [some (P 69), some (I v1), some (I v2), some (I v3), some (I v4), some (I v5)] [r] h' Q))) : X (d + 1) 151 5 [some (P 69), some (I v1), some (I v2), some (I v3), some (I v4), some (I v5)] [I s0] h Q :=
  s_if 21 (s0 = 0) c151_5 (by decide) rfl ⟨fun q6 => (H.1 q6), fun q6 => s_aload_n c151_8 rfl (s_iload_n c151_9 rfl (s_cVi c151_10 m151_191 F136 K136 rfl (Nat.le_of_ble_eq_true rfl) rfl S136_69 rfl (H.2 q6)))⟩
theorem b151_52 {d : Nat} {h : HP} {Q : PV → HP → Prop} {v1 v2 v3 v4 v5 : Int} (H : X d 135 0 [some (P 69), some (I (-6))] [] h (fun r h' => X (d + 1) 151 58 [some (P 69), some (I v1), some (I v2), some (I v3), some (I v4), some (I v5)] [r] h' Q)) : X (d + 1) 151 52 [some (P 69), some (I v1), some (I v2), some (I v3), some (I v4), some (I v5)] [] h Q :=
  s_aload_n c151_52 rfl (s_bipush c151_53 ⟨by decide, by decide⟩ (s_cVi c151_55 m151_187 F135 K135 rfl (Nat.le_of_ble_eq_true rfl) rfl S135_69 rfl H))
theorem b151_58 {d : Nat} {h : HP} {Q : PV → HP → Prop} {v1 v2 v3 v4 v5 s0 : Int} (H : Q (I s0) h) : X d 151 58 [some (P 69), some (I v1), some (I v2), some (I v3), some (I v4), some (I v5)] [I s0] h Q :=
  s_goto 62 c151_58 (by decide) (s_retI c151_62 R151 H)
-- WarmSideModel.joint(III)I
theorem c152_0 : cdA 152 0 = some (.aload_n 0) := by decide +kernel
theorem c152_1 : cdA 152 1 = some (.iload_n 1) := by decide +kernel
theorem c152_2 : cdA 152 2 = some (.iload_n 2) := by decide +kernel
theorem c152_3 : cdA 152 3 = some (.iload_n 3) := by decide +kernel
theorem c152_4 : cdA 152 4 = some (.aload_n 0) := by decide +kernel
theorem c152_5 : cdA 152 5 = some (.getfield 219) := by decide +kernel
theorem f152_219 : fldR (moN 152) 219 = some (12, 17) := by decide +kernel
theorem t12_17 : fcl 12 17 = 0 := by decide +kernel
theorem c152_8 : cdA 152 8 = some (.bipush 20) := by decide +kernel
theorem c152_10 : cdA 152 10 = some (.invokevirtual 222) := by decide +kernel
theorem m152_222 : mthR (moN 152) 222 = 154 := by decide +kernel
theorem F151 : mF 151 5 6 true := by unfold mF; decide +kernel
theorem K151 : ¬ mK 151 = 4 := by decide +kernel
theorem S151_69 : SH0[69]? = some (.inl (moN 151)) := by decide +kernel
theorem c152_13 : cdA 152 13 = some (.istore 4) := by decide +kernel
theorem c152_15 : cdA 152 15 = some (.iload 4) := by decide +kernel
theorem c152_17 : cdA 152 17 = some (.ifCond .ge 6) := by decide +kernel
theorem c152_23 : cdA 152 23 = some (.aload_n 0) := by decide +kernel
theorem c152_24 : cdA 152 24 = some (.getfield 49) := by decide +kernel
theorem f152_49 : fldR (moN 152) 49 = some (12, 14) := by decide +kernel
theorem t12_14 : fcl 12 14 = 2 := by decide +kernel
theorem c152_27 : cdA 152 27 = some (.aload_n 0) := by decide +kernel
theorem c152_28 : cdA 152 28 = some (.getfield 219) := by decide +kernel
theorem c152_31 : cdA 152 31 = some (.iload_n 1) := by decide +kernel
theorem c152_32 : cdA 152 32 = some (.iastore) := by decide +kernel
theorem c152_33 : cdA 152 33 = some (.aload_n 0) := by decide +kernel
theorem c152_34 : cdA 152 34 = some (.getfield 52) := by decide +kernel
theorem f152_52 : fldR (moN 152) 52 = some (12, 15) := by decide +kernel
theorem t12_15 : fcl 12 15 = 2 := by decide +kernel
theorem c152_37 : cdA 152 37 = some (.aload_n 0) := by decide +kernel
theorem c152_38 : cdA 152 38 = some (.getfield 219) := by decide +kernel
theorem c152_41 : cdA 152 41 = some (.iload_n 2) := by decide +kernel
theorem c152_42 : cdA 152 42 = some (.iastore) := by decide +kernel
theorem c152_43 : cdA 152 43 = some (.aload_n 0) := by decide +kernel
theorem c152_44 : cdA 152 44 = some (.getfield 55) := by decide +kernel
theorem f152_55 : fldR (moN 152) 55 = some (12, 16) := by decide +kernel
theorem t12_16 : fcl 12 16 = 2 := by decide +kernel
theorem c152_47 : cdA 152 47 = some (.aload_n 0) := by decide +kernel
theorem c152_48 : cdA 152 48 = some (.getfield 219) := by decide +kernel
theorem c152_51 : cdA 152 51 = some (.iload_n 3) := by decide +kernel
theorem c152_52 : cdA 152 52 = some (.iastore) := by decide +kernel
theorem c152_53 : cdA 152 53 = some (.aload_n 0) := by decide +kernel
theorem c152_54 : cdA 152 54 = some (.dup) := by decide +kernel
theorem c152_55 : cdA 152 55 = some (.getfield 219) := by decide +kernel
theorem c152_58 : cdA 152 58 = some (.iconst 1) := by decide +kernel
theorem c152_59 : cdA 152 59 = some (.iadd) := by decide +kernel
theorem c152_60 : cdA 152 60 = some (.putfield 219) := by decide +kernel
theorem n12_17 : ffin 12 17 = false := by decide +kernel
theorem c152_63 : cdA 152 63 = some (.aload_n 0) := by decide +kernel
theorem c152_64 : cdA 152 64 = some (.getfield 219) := by decide +kernel
theorem c152_67 : cdA 152 67 = some (.iconst 1) := by decide +kernel
theorem c152_68 : cdA 152 68 = some (.isub) := by decide +kernel
theorem c152_69 : cdA 152 69 = some (.ireturn) := by decide +kernel
theorem R152 : mK 152 = 0 := by decide +kernel
theorem c152_20 : cdA 152 20 = some (.iload 4) := by decide +kernel
theorem c152_22 : cdA 152 22 = some (.ireturn) := by decide +kernel
theorem b152_0 {d : Nat} {h : HP} {Q : PV → HP → Prop} {v1 v2 v3 : Int} (H : X d 151 0 [some (P 69), some (I v1), some (I v2), some (I v3), some (I (h 69 17)), some (I 20)] [] h (fun r h' => X (d + 1) 152 13 [some (P 69), some (I v1), some (I v2), some (I v3), none] [r] h' Q)) : X (d + 1) 152 0 [some (P 69), some (I v1), some (I v2), some (I v3), none] [] h Q :=
  s_aload_n c152_0 rfl (s_iload_n c152_1 rfl (s_iload_n c152_2 rfl (s_iload_n c152_3 rfl (s_aload_n c152_4 rfl (s_getI c152_5 f152_219 t12_17 sh_69 (s_bipush c152_8 ⟨by decide, by decide⟩ (s_cVi c152_10 m152_222 F151 K151 rfl (Nat.le_of_ble_eq_true rfl) rfl S151_69 rfl H)))))))
theorem b152_13 {d : Nat} {h : HP} {Q : PV → HP → Prop} {v1 v2 v3 s0 : Int} (H : ((0 ≤ s0) → ((0 ≤ (h 69 17) ∧ (h 69 17) < 20) ∧ ((0 ≤ (h 69 17) ∧ (h 69 17) < 20) ∧ ((0 ≤ (h 69 17) ∧ (h 69 17) < 20) ∧ Q (I (w32 ((w32 ((h 69 17) + 1)) - 1))) (up2 (up2 (up2 (up2 h 83 (h 69 17).toNat v1) 84 (h 69 17).toNat v2) 85 (h 69 17).toNat v3) 69 17 (w32 ((h 69 17) + 1))))))) ∧ (¬ (0 ≤ s0) → Q (I s0) h)) : X d 152 13 [some (P 69), some (I v1), some (I v2), some (I v3), none] [I s0] h Q :=
  s_istore c152_13 rfl (s_iload c152_15 rfl (s_if 23 (0 ≤ s0) c152_17 (by decide) rfl ⟨fun q1 => s_aload_n c152_23 rfl (s_getP 83 c152_24 f152_49 t12_14 sh_69 g_69_14 (by decide) (by decide) (s_aload_n c152_27 rfl (s_getI c152_28 f152_219 t12_17 sh_69 (s_iload_n c152_31 rfl (s_iast c152_32 sh_83 ⟨(H.1 q1).1, s_aload_n c152_33 rfl (s_getP 84 c152_34 f152_52 t12_15 sh_69 g_69_15 (by decide) (by decide) (s_aload_n c152_37 rfl (s_getI c152_38 f152_219 t12_17 sh_69 (s_iload_n c152_41 rfl (s_iast c152_42 sh_84 ⟨(H.1 q1).2.1, s_aload_n c152_43 rfl (s_getP 85 c152_44 f152_55 t12_16 sh_69 g_69_16 (by decide) (by decide) (s_aload_n c152_47 rfl (s_getI c152_48 f152_219 t12_17 sh_69 (s_iload_n c152_51 rfl (s_iast c152_52 sh_85 ⟨(H.1 q1).2.2.1, s_aload_n c152_53 rfl (s_dupP c152_54 (s_getI c152_55 f152_219 t12_17 sh_69 (s_iconst c152_58 rfl (s_iadd c152_59 (s_putI c152_60 f152_219 t12_17 n12_17 sh_69 (s_aload_n c152_63 rfl (s_getI c152_64 f152_219 t12_17 sh_69 (s_iconst c152_67 rfl (s_isub c152_68 (s_retI c152_69 R152 (H.1 q1).2.2.2))))))))))⟩)))))⟩)))))⟩))))), fun q1 => s_iload c152_20 rfl (s_retI c152_22 R152 (H.2 q1))⟩))
-- WarmSideModel.pipe(III)I
theorem c153_0 : cdA 153 0 = some (.aload_n 0) := by decide +kernel
theorem c153_1 : cdA 153 1 = some (.iload_n 1) := by decide +kernel
theorem c153_2 : cdA 153 2 = some (.iload_n 2) := by decide +kernel
theorem c153_3 : cdA 153 3 = some (.iload_n 3) := by decide +kernel
theorem c153_4 : cdA 153 4 = some (.aload_n 0) := by decide +kernel
theorem c153_5 : cdA 153 5 = some (.getfield 226) := by decide +kernel
theorem f153_226 : fldR (moN 153) 226 = some (12, 22) := by decide +kernel
theorem t12_22 : fcl 12 22 = 0 := by decide +kernel
theorem c153_8 : cdA 153 8 = some (.bipush 8) := by decide +kernel
theorem c153_10 : cdA 153 10 = some (.invokevirtual 222) := by decide +kernel
theorem m153_222 : mthR (moN 153) 222 = 154 := by decide +kernel
theorem c153_13 : cdA 153 13 = some (.istore 4) := by decide +kernel
theorem c153_15 : cdA 153 15 = some (.iload 4) := by decide +kernel
theorem c153_17 : cdA 153 17 = some (.ifCond .ge 6) := by decide +kernel
theorem c153_23 : cdA 153 23 = some (.aload_n 0) := by decide +kernel
theorem c153_24 : cdA 153 24 = some (.getfield 58) := by decide +kernel
theorem f153_58 : fldR (moN 153) 58 = some (12, 18) := by decide +kernel
theorem t12_18 : fcl 12 18 = 2 := by decide +kernel
theorem c153_27 : cdA 153 27 = some (.aload_n 0) := by decide +kernel
theorem c153_28 : cdA 153 28 = some (.getfield 226) := by decide +kernel
theorem c153_31 : cdA 153 31 = some (.iload_n 1) := by decide +kernel
theorem c153_32 : cdA 153 32 = some (.iastore) := by decide +kernel
theorem c153_33 : cdA 153 33 = some (.aload_n 0) := by decide +kernel
theorem c153_34 : cdA 153 34 = some (.getfield 61) := by decide +kernel
theorem f153_61 : fldR (moN 153) 61 = some (12, 19) := by decide +kernel
theorem t12_19 : fcl 12 19 = 2 := by decide +kernel
theorem c153_37 : cdA 153 37 = some (.aload_n 0) := by decide +kernel
theorem c153_38 : cdA 153 38 = some (.getfield 226) := by decide +kernel
theorem c153_41 : cdA 153 41 = some (.iload_n 2) := by decide +kernel
theorem c153_42 : cdA 153 42 = some (.iastore) := by decide +kernel
theorem c153_43 : cdA 153 43 = some (.aload_n 0) := by decide +kernel
theorem c153_44 : cdA 153 44 = some (.getfield 64) := by decide +kernel
theorem f153_64 : fldR (moN 153) 64 = some (12, 20) := by decide +kernel
theorem t12_20 : fcl 12 20 = 2 := by decide +kernel
theorem c153_47 : cdA 153 47 = some (.aload_n 0) := by decide +kernel
theorem c153_48 : cdA 153 48 = some (.getfield 226) := by decide +kernel
theorem c153_51 : cdA 153 51 = some (.iload_n 3) := by decide +kernel
theorem c153_52 : cdA 153 52 = some (.iastore) := by decide +kernel
theorem c153_53 : cdA 153 53 = some (.aload_n 0) := by decide +kernel
theorem c153_54 : cdA 153 54 = some (.dup) := by decide +kernel
theorem c153_55 : cdA 153 55 = some (.getfield 226) := by decide +kernel
theorem c153_58 : cdA 153 58 = some (.iconst 1) := by decide +kernel
theorem c153_59 : cdA 153 59 = some (.iadd) := by decide +kernel
theorem c153_60 : cdA 153 60 = some (.putfield 226) := by decide +kernel
theorem n12_22 : ffin 12 22 = false := by decide +kernel
theorem c153_63 : cdA 153 63 = some (.aload_n 0) := by decide +kernel
theorem c153_64 : cdA 153 64 = some (.getfield 226) := by decide +kernel
theorem c153_67 : cdA 153 67 = some (.iconst 1) := by decide +kernel
theorem c153_68 : cdA 153 68 = some (.isub) := by decide +kernel
theorem c153_69 : cdA 153 69 = some (.ireturn) := by decide +kernel
theorem R153 : mK 153 = 0 := by decide +kernel
theorem c153_20 : cdA 153 20 = some (.iload 4) := by decide +kernel
theorem c153_22 : cdA 153 22 = some (.ireturn) := by decide +kernel
theorem b153_0 {d : Nat} {h : HP} {Q : PV → HP → Prop} {v1 v2 v3 : Int} (H : X d 151 0 [some (P 69), some (I v1), some (I v2), some (I v3), some (I (h 69 22)), some (I 8)] [] h (fun r h' => X (d + 1) 153 13 [some (P 69), some (I v1), some (I v2), some (I v3), none] [r] h' Q)) : X (d + 1) 153 0 [some (P 69), some (I v1), some (I v2), some (I v3), none] [] h Q :=
  s_aload_n c153_0 rfl (s_iload_n c153_1 rfl (s_iload_n c153_2 rfl (s_iload_n c153_3 rfl (s_aload_n c153_4 rfl (s_getI c153_5 f153_226 t12_22 sh_69 (s_bipush c153_8 ⟨by decide, by decide⟩ (s_cVi c153_10 m153_222 F151 K151 rfl (Nat.le_of_ble_eq_true rfl) rfl S151_69 rfl H)))))))
theorem b153_13 {d : Nat} {h : HP} {Q : PV → HP → Prop} {v1 v2 v3 s0 : Int} (H : ((0 ≤ s0) → ((0 ≤ (h 69 22) ∧ (h 69 22) < 8) ∧ ((0 ≤ (h 69 22) ∧ (h 69 22) < 8) ∧ ((0 ≤ (h 69 22) ∧ (h 69 22) < 8) ∧ Q (I (w32 ((w32 ((h 69 22) + 1)) - 1))) (up2 (up2 (up2 (up2 h 86 (h 69 22).toNat v1) 87 (h 69 22).toNat v2) 88 (h 69 22).toNat v3) 69 22 (w32 ((h 69 22) + 1))))))) ∧ (¬ (0 ≤ s0) → Q (I s0) h)) : X d 153 13 [some (P 69), some (I v1), some (I v2), some (I v3), none] [I s0] h Q :=
  s_istore c153_13 rfl (s_iload c153_15 rfl (s_if 23 (0 ≤ s0) c153_17 (by decide) rfl ⟨fun q1 => s_aload_n c153_23 rfl (s_getP 86 c153_24 f153_58 t12_18 sh_69 g_69_18 (by decide) (by decide) (s_aload_n c153_27 rfl (s_getI c153_28 f153_226 t12_22 sh_69 (s_iload_n c153_31 rfl (s_iast c153_32 sh_86 ⟨(H.1 q1).1, s_aload_n c153_33 rfl (s_getP 87 c153_34 f153_61 t12_19 sh_69 g_69_19 (by decide) (by decide) (s_aload_n c153_37 rfl (s_getI c153_38 f153_226 t12_22 sh_69 (s_iload_n c153_41 rfl (s_iast c153_42 sh_87 ⟨(H.1 q1).2.1, s_aload_n c153_43 rfl (s_getP 88 c153_44 f153_64 t12_20 sh_69 g_69_20 (by decide) (by decide) (s_aload_n c153_47 rfl (s_getI c153_48 f153_226 t12_22 sh_69 (s_iload_n c153_51 rfl (s_iast c153_52 sh_88 ⟨(H.1 q1).2.2.1, s_aload_n c153_53 rfl (s_dupP c153_54 (s_getI c153_55 f153_226 t12_22 sh_69 (s_iconst c153_58 rfl (s_iadd c153_59 (s_putI c153_60 f153_226 t12_22 n12_22 sh_69 (s_aload_n c153_63 rfl (s_getI c153_64 f153_226 t12_22 sh_69 (s_iconst c153_67 rfl (s_isub c153_68 (s_retI c153_69 R153 (H.1 q1).2.2.2))))))))))⟩)))))⟩)))))⟩))))), fun q1 => s_iload c153_20 rfl (s_retI c153_22 R153 (H.2 q1))⟩))
-- WarmSideModel.frozen(IZ)I
theorem c154_0 : cdA 154 0 = some (.iload_n 1) := by decide +kernel
theorem c154_1 : cdA 154 1 = some (.ifCond .lt 11) := by decide +kernel
theorem c154_4 : cdA 154 4 = some (.iload_n 1) := by decide +kernel
theorem c154_5 : cdA 154 5 = some (.aload_n 0) := by decide +kernel
theorem c154_6 : cdA 154 6 = some (.getfield 226) := by decide +kernel
theorem f154_226 : fldR (moN 154) 226 = some (12, 22) := by decide +kernel
theorem c154_9 : cdA 154 9 = some (.if_icmp .lt 9) := by decide +kernel
theorem c154_18 : cdA 154 18 = some (.aload_n 0) := by decide +kernel
theorem c154_19 : cdA 154 19 = some (.getfield 67) := by decide +kernel
theorem f154_67 : fldR (moN 154) 67 = some (12, 21) := by decide +kernel
theorem c154_22 : cdA 154 22 = some (.iload_n 1) := by decide +kernel
theorem c154_23 : cdA 154 23 = some (.baload) := by decide +kernel
theorem c154_24 : cdA 154 24 = some (.iload_n 2) := by decide +kernel
theorem c154_25 : cdA 154 25 = some (.if_icmp .ne 5) := by decide +kernel
theorem c154_30 : cdA 154 30 = some (.aload_n 0) := by decide +kernel
theorem c154_31 : cdA 154 31 = some (.iconst 1) := by decide +kernel
theorem c154_32 : cdA 154 32 = some (.iload_n 1) := by decide +kernel
theorem c154_33 : cdA 154 33 = some (.iload_n 2) := by decide +kernel
theorem c154_34 : cdA 154 34 = some (.ifCond .eq 7) := by decide +kernel
theorem c154_41 : cdA 154 41 = some (.iconst 0) := by decide +kernel
theorem c154_37 : cdA 154 37 = some (.iconst 1) := by decide +kernel
theorem c154_38 : cdA 154 38 = some (.goto 4) := by decide +kernel
theorem c154_28 : cdA 154 28 = some (.iconst 0) := by decide +kernel
theorem c154_29 : cdA 154 29 = some (.ireturn) := by decide +kernel
theorem R154 : mK 154 = 0 := by decide +kernel
theorem c154_12 : cdA 154 12 = some (.aload_n 0) := by decide +kernel
theorem c154_13 : cdA 154 13 = some (.iconst (-1)) := by decide +kernel
theorem c154_14 : cdA 154 14 = some (.invokevirtual 187) := by decide +kernel
theorem m154_187 : mthR (moN 154) 187 = 138 := by decide +kernel
theorem c154_17 : cdA 154 17 = some (.ireturn) := by decide +kernel
theorem c154_42 : cdA 154 42 = some (.invokevirtual 216) := by decide +kernel
theorem m154_216 : mthR (moN 154) 216 = 149 := by decide +kernel
theorem c154_45 : cdA 154 45 = some (.iconst 1) := by decide +kernel
theorem c154_46 : cdA 154 46 = some (.ireturn) := by decide +kernel
theorem b154_0 {d : Nat} {h : HP} {Q : PV → HP → Prop} {v1 v2 : Int} (H : ((v1 < 0) → X d 154 12 [some (P 69), some (I v1), some (I v2)] [] h Q) ∧ (¬ (v1 < 0) → (((v1 < (h 69 22)) → ((0 ≤ v1 ∧ v1 < 8) ∧ (((¬ (h 89 v1.toNat) = v2) → (((v2 = 0) → X d 154 42 [some (P 69), some (I v1), some (I v2)] [I 0, I v1, I 1, P 69] h Q) ∧ (¬ (v2 = 0) → X d 154 42 [some (P 69), some (I v1), some (I v2)] [I 1, I v1, I 1, P 69] h Q))) ∧ (¬ (¬ (h 89 v1.toNat) = v2) → Q (I 0) h)))) ∧ (¬ (v1 < (h 69 22)) → X d 154 12 [some (P 69), some (I v1), some (I v2)] [] h Q)))) : X d 154 0 [some (P 69), some (I v1), some (I v2)] [] h Q :=
  s_iload_n c154_0 rfl (s_if 12 (v1 < 0) c154_1 (by decide) rfl ⟨fun q1 => (H.1 q1), fun q1 => s_iload_n c154_4 rfl (s_aload_n c154_5 rfl (s_getI c154_6 f154_226 t12_22 sh_69 (s_ifc 18 (v1 < (h 69 22)) c154_9 (by decide) rfl ⟨fun q2 => s_aload_n c154_18 rfl (s_getP 89 c154_19 f154_67 t12_21 sh_69 g_69_21 (by decide) (by decide) (s_iload_n c154_22 rfl (s_bald c154_23 sh_89 ⟨((H.2 q1).1 q2).1, s_iload_n c154_24 rfl (s_ifc 30 (¬ (h 89 v1.toNat) = v2) c154_25 (by decide) rfl ⟨fun q3 => s_aload_n c154_30 rfl (s_iconst c154_31 rfl (s_iload_n c154_32 rfl (s_iload_n c154_33 rfl (s_if 41 (v2 = 0) c154_34 (by decide) rfl ⟨fun q4 => s_iconst c154_41 rfl (((((H.2 q1).1 q2).2.1 q3).1 q4)), fun q4 => s_iconst c154_37 rfl (s_goto 42 c154_38 (by decide) (((((H.2 q1).1 q2).2.1 q3).2 q4)))⟩)))), fun q3 => s_iconst c154_28 rfl (s_retI c154_29 R154 (((H.2 q1).1 q2).2.2 q3))⟩)⟩))), fun q2 => ((H.2 q1).2 q2)⟩)))⟩)
theorem b154_12 {d : Nat} {h : HP} {Q : PV → HP → Prop} {v1 v2 : Int} (H : X d 135 0 [some (P 69), some (I (-1))] [] h (fun r h' => X (d + 1) 154 17 [some (P 69), some (I v1), some (I v2)] [r] h' Q)) : X (d + 1) 154 12 [some (P 69), some (I v1), some (I v2)] [] h Q :=
  s_aload_n c154_12 rfl (s_iconst c154_13 rfl (s_cVi c154_14 m154_187 F135 K135 rfl (Nat.le_of_ble_eq_true rfl) rfl S135_69 rfl H))
theorem b154_17 {d : Nat} {h : HP} {Q : PV → HP → Prop} {v1 v2 s0 : Int} (H : Q (I s0) h) : X d 154 17 [some (P 69), some (I v1), some (I v2)] [I s0] h Q :=
  s_retI c154_17 R154 H
theorem b154_42 {d : Nat} {h : HP} {Q : PV → HP → Prop} {v1 v2 s1 s2 s3 : Int} (H : X d 146 0 [some (P 69), some (I s1), some (I s2), some (I s3), none, none] [] h (fun _ h' => X (d + 1) 154 45 [some (P 69), some (I v1), some (I v2)] [] h' Q)) : X (d + 1) 154 42 [some (P 69), some (I v1), some (I v2)] [I s3, I s2, I s1, P 69] h Q :=
  s_cVv c154_42 m154_216 F146 K146 rfl (Nat.le_of_ble_eq_true rfl) rfl S146_69 rfl H
theorem b154_45 {d : Nat} {h : HP} {Q : PV → HP → Prop} {v1 v2 : Int} (H : Q (I 1) h) : X d 154 45 [some (P 69), some (I v1), some (I v2)] [] h Q :=
  s_iconst c154_45 rfl (s_retI c154_46 R154 H)
-- WarmSideModel.box(II)I
theorem c155_0 : cdA 155 0 = some (.aload_n 0) := by decide +kernel
theorem c155_1 : cdA 155 1 = some (.iload_n 1) := by decide +kernel
theorem c155_2 : cdA 155 2 = some (.invokevirtual 191) := by decide +kernel
theorem m155_191 : mthR (moN 155) 191 = 139 := by decide +kernel
theorem c155_13 : cdA 155 13 = some (.ireturn) := by decide +kernel
theorem R155 : mK 155 = 0 := by decide +kernel
theorem c155_24 : cdA 155 24 = some (.ireturn) := by decide +kernel
theorem c155_41 : cdA 155 41 = some (.aload_n 0) := by decide +kernel
theorem c155_42 : cdA 155 42 = some (.bipush (-6)) := by decide +kernel
theorem c155_44 : cdA 155 44 = some (.invokevirtual 187) := by decide +kernel
theorem m155_187 : mthR (moN 155) 187 = 138 := by decide +kernel
theorem c155_47 : cdA 155 47 = some (.ireturn) := by decide +kernel
theorem c155_5 : cdA 155 5 = some (.ifCond .ne 9) := by decide +kernel
theorem c155_14 : cdA 155 14 = some (.iload_n 2) := by decide +kernel
theorem c155_15 : cdA 155 15 = some (.ifCond .ge 10) := by decide +kernel
theorem c155_25 : cdA 155 25 = some (.iload_n 2) := by decide +kernel
theorem c155_26 : cdA 155 26 = some (.sipush 999) := by decide +kernel
theorem c155_29 : cdA 155 29 = some (.if_icmp .gt 12) := by decide +kernel
theorem c155_32 : cdA 155 32 = some (.aload_n 0) := by decide +kernel
theorem c155_33 : cdA 155 33 = some (.getfield 229) := by decide +kernel
theorem f155_229 : fldR (moN 155) 229 = some (12, 26) := by decide +kernel
theorem t12_26 : fcl 12 26 = 0 := by decide +kernel
theorem c155_36 : cdA 155 36 = some (.bipush 8) := by decide +kernel
theorem c155_38 : cdA 155 38 = some (.if_icmp .ne 10) := by decide +kernel
theorem c155_48 : cdA 155 48 = some (.aload_n 0) := by decide +kernel
theorem c155_49 : cdA 155 49 = some (.getfield 71) := by decide +kernel
theorem f155_71 : fldR (moN 155) 71 = some (12, 23) := by decide +kernel
theorem t12_23 : fcl 12 23 = 2 := by decide +kernel
theorem c155_52 : cdA 155 52 = some (.aload_n 0) := by decide +kernel
theorem c155_53 : cdA 155 53 = some (.getfield 229) := by decide +kernel
theorem c155_56 : cdA 155 56 = some (.iload_n 1) := by decide +kernel
theorem c155_57 : cdA 155 57 = some (.iastore) := by decide +kernel
theorem c155_58 : cdA 155 58 = some (.aload_n 0) := by decide +kernel
theorem c155_59 : cdA 155 59 = some (.getfield 74) := by decide +kernel
theorem f155_74 : fldR (moN 155) 74 = some (12, 24) := by decide +kernel
theorem t12_24 : fcl 12 24 = 2 := by decide +kernel
theorem c155_62 : cdA 155 62 = some (.aload_n 0) := by decide +kernel
theorem c155_63 : cdA 155 63 = some (.getfield 229) := by decide +kernel
theorem c155_66 : cdA 155 66 = some (.iload_n 2) := by decide +kernel
theorem c155_67 : cdA 155 67 = some (.iastore) := by decide +kernel
theorem c155_68 : cdA 155 68 = some (.aload_n 0) := by decide +kernel
theorem c155_69 : cdA 155 69 = some (.getfield 77) := by decide +kernel
theorem f155_77 : fldR (moN 155) 77 = some (12, 25) := by decide +kernel
theorem c155_72 : cdA 155 72 = some (.aload_n 0) := by decide +kernel
theorem c155_73 : cdA 155 73 = some (.getfield 229) := by decide +kernel
theorem c155_76 : cdA 155 76 = some (.iconst 1) := by decide +kernel
theorem c155_77 : cdA 155 77 = some (.bastore) := by decide +kernel
theorem c155_78 : cdA 155 78 = some (.aload_n 0) := by decide +kernel
theorem c155_79 : cdA 155 79 = some (.dup) := by decide +kernel
theorem c155_80 : cdA 155 80 = some (.getfield 229) := by decide +kernel
theorem c155_83 : cdA 155 83 = some (.iconst 1) := by decide +kernel
theorem c155_84 : cdA 155 84 = some (.iadd) := by decide +kernel
theorem c155_85 : cdA 155 85 = some (.putfield 229) := by decide +kernel
theorem n12_26 : ffin 12 26 = false := by decide +kernel
theorem c155_88 : cdA 155 88 = some (.aload_n 0) := by decide +kernel
theorem c155_89 : cdA 155 89 = some (.getfield 229) := by decide +kernel
theorem c155_92 : cdA 155 92 = some (.iconst 1) := by decide +kernel
theorem c155_93 : cdA 155 93 = some (.isub) := by decide +kernel
theorem c155_94 : cdA 155 94 = some (.ireturn) := by decide +kernel
theorem c155_18 : cdA 155 18 = some (.aload_n 0) := by decide +kernel
theorem c155_19 : cdA 155 19 = some (.bipush (-4)) := by decide +kernel
theorem c155_21 : cdA 155 21 = some (.invokevirtual 187) := by decide +kernel
theorem c155_8 : cdA 155 8 = some (.aload_n 0) := by decide +kernel
theorem c155_9 : cdA 155 9 = some (.iconst (-1)) := by decide +kernel
theorem c155_10 : cdA 155 10 = some (.invokevirtual 187) := by decide +kernel
theorem b155_0 {d : Nat} {h : HP} {Q : PV → HP → Prop} {v1 v2 : Int} (H : X d 136 0 [some (P 69), some (I v1)] [] h (fun r h' => X (d + 1) 155 5 [some (P 69), some (I v1), some (I v2)] [r] h' Q)) : X (d + 1) 155 0 [some (P 69), some (I v1), some (I v2)] [] h Q :=
  s_aload_n c155_0 rfl (s_iload_n c155_1 rfl (s_cVi c155_2 m155_191 F136 K136 rfl (Nat.le_of_ble_eq_true rfl) rfl S136_69 rfl H))
theorem b155_13 {d : Nat} {h : HP} {Q : PV → HP → Prop} {v1 v2 s0 : Int} (H : Q (I s0) h) : X d 155 13 [some (P 69), some (I v1), some (I v2)] [I s0] h Q :=
  s_retI c155_13 R155 H
theorem b155_24 {d : Nat} {h : HP} {Q : PV → HP → Prop} {v1 v2 s0 : Int} (H : Q (I s0) h) : X d 155 24 [some (P 69), some (I v1), some (I v2)] [I s0] h Q :=
  s_retI c155_24 R155 H
theorem b155_41 {d : Nat} {h : HP} {Q : PV → HP → Prop} {v1 v2 : Int} (H : X d 135 0 [some (P 69), some (I (-6))] [] h (fun r h' => X (d + 1) 155 47 [some (P 69), some (I v1), some (I v2)] [r] h' Q)) : X (d + 1) 155 41 [some (P 69), some (I v1), some (I v2)] [] h Q :=
  s_aload_n c155_41 rfl (s_bipush c155_42 ⟨by decide, by decide⟩ (s_cVi c155_44 m155_187 F135 K135 rfl (Nat.le_of_ble_eq_true rfl) rfl S135_69 rfl H))
theorem b155_47 {d : Nat} {h : HP} {Q : PV → HP → Prop} {v1 v2 s0 : Int} (H : Q (I s0) h) : X d 155 47 [some (P 69), some (I v1), some (I v2)] [I s0] h Q :=
  s_retI c155_47 R155 H
theorem b155_5 {d : Nat} {h : HP} {Q : PV → HP → Prop} {v1 v2 s0 : Int} (H : ((¬ s0 = 0) → (((0 ≤ v2) → (((999 < v2) → X (d + 1) 155 41 [some (P 69), some (I v1), some (I v2)] [] h Q) ∧ (¬ (999 < v2) → (((¬ (h 69 26) = 8) → ((0 ≤ (h 69 26) ∧ (h 69 26) < 8) ∧ ((0 ≤ (h 69 26) ∧ (h 69 26) < 8) ∧ ((0 ≤ (h 69 26) ∧ (h 69 26) < 8) ∧ Q (I (w32 ((w32 ((h 69 26) + 1)) - 1))) (up2 (up2 (up2 (up2 h 90 (h 69 26).toNat v1) 91 (h 69 26).toNat v2) 92 (h 69 26).toNat 1) 69 26 (w32 ((h 69 26) + 1))))))) ∧ (¬ (¬ (h 69 26) = 8) → X (d + 1) 155 41 [some (P 69), some (I v1), some (I v2)] [] h Q))))) ∧ (¬ (0 ≤ v2) → X d 135 0 [some (P 69), some (I (-4))] [] h (fun r h' => X (d + 1) 155 24 [some (P 69), some (I v1), some (I v2)] [r] h' Q)))) ∧ (¬ (¬ s0 = 0) → X d 135 0 [some (P 69), some (I (-1))] [] h (fun r h' => X (d + 1) 155 13 [some (P 69), some (I v1), some (I v2)] [r] h' Q))) : X (d + 1) 155 5 [some (P 69), some (I v1), some (I v2)] [I s0] h Q :=
  s_if 14 (¬ s0 = 0) c155_5 (by decide) rfl ⟨fun q1 => s_iload_n c155_14 rfl (s_if 25 (0 ≤ v2) c155_15 (by decide) rfl ⟨fun q2 => s_iload_n c155_25 rfl (s_sipush c155_26 ⟨by decide, by decide⟩ (s_ifc 41 (999 < v2) c155_29 (by decide) rfl ⟨fun q3 => (((H.1 q1).1 q2).1 q3), fun q3 => s_aload_n c155_32 rfl (s_getI c155_33 f155_229 t12_26 sh_69 (s_bipush c155_36 ⟨by decide, by decide⟩ (s_ifc 48 (¬ (h 69 26) = 8) c155_38 (by decide) rfl ⟨fun q4 => s_aload_n c155_48 rfl (s_getP 90 c155_49 f155_71 t12_23 sh_69 g_69_23 (by decide) (by decide) (s_aload_n c155_52 rfl (s_getI c155_53 f155_229 t12_26 sh_69 (s_iload_n c155_56 rfl (s_iast c155_57 sh_90 ⟨((((H.1 q1).1 q2).2 q3).1 q4).1, s_aload_n c155_58 rfl (s_getP 91 c155_59 f155_74 t12_24 sh_69 g_69_24 (by decide) (by decide) (s_aload_n c155_62 rfl (s_getI c155_63 f155_229 t12_26 sh_69 (s_iload_n c155_66 rfl (s_iast c155_67 sh_91 ⟨((((H.1 q1).1 q2).2 q3).1 q4).2.1, s_aload_n c155_68 rfl (s_getP 92 c155_69 f155_77 t12_25 sh_69 g_69_25 (by decide) (by decide) (s_aload_n c155_72 rfl (s_getI c155_73 f155_229 t12_26 sh_69 (s_iconst c155_76 rfl (s_bast c155_77 sh_92 ⟨((((H.1 q1).1 q2).2 q3).1 q4).2.2.1, (by decide), s_aload_n c155_78 rfl (s_dupP c155_79 (s_getI c155_80 f155_229 t12_26 sh_69 (s_iconst c155_83 rfl (s_iadd c155_84 (s_putI c155_85 f155_229 t12_26 n12_26 sh_69 (s_aload_n c155_88 rfl (s_getI c155_89 f155_229 t12_26 sh_69 (s_iconst c155_92 rfl (s_isub c155_93 (s_retI c155_94 R155 ((((H.1 q1).1 q2).2 q3).1 q4).2.2.2))))))))))⟩)))))⟩)))))⟩))))), fun q4 => ((((H.1 q1).1 q2).2 q3).2 q4)⟩)))⟩)), fun q2 => s_aload_n c155_18 rfl (s_bipush c155_19 ⟨by decide, by decide⟩ (s_cVi c155_21 m155_187 F135 K135 rfl (Nat.le_of_ble_eq_true rfl) rfl S135_69 rfl ((H.1 q1).2 q2)))⟩), fun q1 => s_aload_n c155_8 rfl (s_iconst c155_9 rfl (s_cVi c155_10 m155_187 F135 K135 rfl (Nat.le_of_ble_eq_true rfl) rfl S135_69 rfl (H.2 q1)))⟩
-- WarmSideModel.works(IZ)I
theorem c156_0 : cdA 156 0 = some (.iload_n 1) := by decide +kernel
theorem c156_1 : cdA 156 1 = some (.ifCond .lt 11) := by decide +kernel
theorem c156_4 : cdA 156 4 = some (.iload_n 1) := by decide +kernel
theorem c156_5 : cdA 156 5 = some (.aload_n 0) := by decide +kernel
theorem c156_6 : cdA 156 6 = some (.getfield 229) := by decide +kernel
theorem f156_229 : fldR (moN 156) 229 = some (12, 26) := by decide +kernel
theorem c156_9 : cdA 156 9 = some (.if_icmp .lt 9) := by decide +kernel
theorem c156_18 : cdA 156 18 = some (.aload_n 0) := by decide +kernel
theorem c156_19 : cdA 156 19 = some (.getfield 77) := by decide +kernel
theorem f156_77 : fldR (moN 156) 77 = some (12, 25) := by decide +kernel
theorem c156_22 : cdA 156 22 = some (.iload_n 1) := by decide +kernel
theorem c156_23 : cdA 156 23 = some (.baload) := by decide +kernel
theorem c156_24 : cdA 156 24 = some (.iload_n 2) := by decide +kernel
theorem c156_25 : cdA 156 25 = some (.if_icmp .ne 5) := by decide +kernel
theorem c156_30 : cdA 156 30 = some (.aload_n 0) := by decide +kernel
theorem c156_31 : cdA 156 31 = some (.iconst 2) := by decide +kernel
theorem c156_32 : cdA 156 32 = some (.iload_n 1) := by decide +kernel
theorem c156_33 : cdA 156 33 = some (.iload_n 2) := by decide +kernel
theorem c156_34 : cdA 156 34 = some (.ifCond .eq 7) := by decide +kernel
theorem c156_41 : cdA 156 41 = some (.iconst 0) := by decide +kernel
theorem c156_37 : cdA 156 37 = some (.iconst 1) := by decide +kernel
theorem c156_38 : cdA 156 38 = some (.goto 4) := by decide +kernel
theorem c156_28 : cdA 156 28 = some (.iconst 0) := by decide +kernel
theorem c156_29 : cdA 156 29 = some (.ireturn) := by decide +kernel
theorem R156 : mK 156 = 0 := by decide +kernel
theorem c156_12 : cdA 156 12 = some (.aload_n 0) := by decide +kernel
theorem c156_13 : cdA 156 13 = some (.iconst (-1)) := by decide +kernel
theorem c156_14 : cdA 156 14 = some (.invokevirtual 187) := by decide +kernel
theorem m156_187 : mthR (moN 156) 187 = 138 := by decide +kernel
theorem c156_17 : cdA 156 17 = some (.ireturn) := by decide +kernel
theorem c156_42 : cdA 156 42 = some (.invokevirtual 216) := by decide +kernel
theorem m156_216 : mthR (moN 156) 216 = 149 := by decide +kernel
theorem c156_45 : cdA 156 45 = some (.iconst 1) := by decide +kernel
theorem c156_46 : cdA 156 46 = some (.ireturn) := by decide +kernel
theorem b156_0 {d : Nat} {h : HP} {Q : PV → HP → Prop} {v1 v2 : Int} (H : ((v1 < 0) → X d 156 12 [some (P 69), some (I v1), some (I v2)] [] h Q) ∧ (¬ (v1 < 0) → (((v1 < (h 69 26)) → ((0 ≤ v1 ∧ v1 < 8) ∧ (((¬ (h 92 v1.toNat) = v2) → (((v2 = 0) → X d 156 42 [some (P 69), some (I v1), some (I v2)] [I 0, I v1, I 2, P 69] h Q) ∧ (¬ (v2 = 0) → X d 156 42 [some (P 69), some (I v1), some (I v2)] [I 1, I v1, I 2, P 69] h Q))) ∧ (¬ (¬ (h 92 v1.toNat) = v2) → Q (I 0) h)))) ∧ (¬ (v1 < (h 69 26)) → X d 156 12 [some (P 69), some (I v1), some (I v2)] [] h Q)))) : X d 156 0 [some (P 69), some (I v1), some (I v2)] [] h Q :=
  s_iload_n c156_0 rfl (s_if 12 (v1 < 0) c156_1 (by decide) rfl ⟨fun q1 => (H.1 q1), fun q1 => s_iload_n c156_4 rfl (s_aload_n c156_5 rfl (s_getI c156_6 f156_229 t12_26 sh_69 (s_ifc 18 (v1 < (h 69 26)) c156_9 (by decide) rfl ⟨fun q2 => s_aload_n c156_18 rfl (s_getP 92 c156_19 f156_77 t12_25 sh_69 g_69_25 (by decide) (by decide) (s_iload_n c156_22 rfl (s_bald c156_23 sh_92 ⟨((H.2 q1).1 q2).1, s_iload_n c156_24 rfl (s_ifc 30 (¬ (h 92 v1.toNat) = v2) c156_25 (by decide) rfl ⟨fun q3 => s_aload_n c156_30 rfl (s_iconst c156_31 rfl (s_iload_n c156_32 rfl (s_iload_n c156_33 rfl (s_if 41 (v2 = 0) c156_34 (by decide) rfl ⟨fun q4 => s_iconst c156_41 rfl (((((H.2 q1).1 q2).2.1 q3).1 q4)), fun q4 => s_iconst c156_37 rfl (s_goto 42 c156_38 (by decide) (((((H.2 q1).1 q2).2.1 q3).2 q4)))⟩)))), fun q3 => s_iconst c156_28 rfl (s_retI c156_29 R156 (((H.2 q1).1 q2).2.2 q3))⟩)⟩))), fun q2 => ((H.2 q1).2 q2)⟩)))⟩)
theorem b156_12 {d : Nat} {h : HP} {Q : PV → HP → Prop} {v1 v2 : Int} (H : X d 135 0 [some (P 69), some (I (-1))] [] h (fun r h' => X (d + 1) 156 17 [some (P 69), some (I v1), some (I v2)] [r] h' Q)) : X (d + 1) 156 12 [some (P 69), some (I v1), some (I v2)] [] h Q :=
  s_aload_n c156_12 rfl (s_iconst c156_13 rfl (s_cVi c156_14 m156_187 F135 K135 rfl (Nat.le_of_ble_eq_true rfl) rfl S135_69 rfl H))
theorem b156_17 {d : Nat} {h : HP} {Q : PV → HP → Prop} {v1 v2 s0 : Int} (H : Q (I s0) h) : X d 156 17 [some (P 69), some (I v1), some (I v2)] [I s0] h Q :=
  s_retI c156_17 R156 H
theorem b156_42 {d : Nat} {h : HP} {Q : PV → HP → Prop} {v1 v2 s1 s2 s3 : Int} (H : X d 146 0 [some (P 69), some (I s1), some (I s2), some (I s3), none, none] [] h (fun _ h' => X (d + 1) 156 45 [some (P 69), some (I v1), some (I v2)] [] h' Q)) : X (d + 1) 156 42 [some (P 69), some (I v1), some (I v2)] [I s3, I s2, I s1, P 69] h Q :=
  s_cVv c156_42 m156_216 F146 K146 rfl (Nat.le_of_ble_eq_true rfl) rfl S146_69 rfl H
theorem b156_45 {d : Nat} {h : HP} {Q : PV → HP → Prop} {v1 v2 : Int} (H : Q (I 1) h) : X d 156 45 [some (P 69), some (I v1), some (I v2)] [] h Q :=
  s_iconst c156_45 rfl (s_retI c156_46 R156 H)
-- WarmSideModel.heater(II)I
theorem c157_0 : cdA 157 0 = some (.aload_n 0) := by decide +kernel
theorem c157_1 : cdA 157 1 = some (.iload_n 1) := by decide +kernel
theorem c157_2 : cdA 157 2 = some (.invokevirtual 191) := by decide +kernel
theorem m157_191 : mthR (moN 157) 191 = 139 := by decide +kernel
theorem c157_13 : cdA 157 13 = some (.ireturn) := by decide +kernel
theorem R157 : mK 157 = 0 := by decide +kernel
theorem c157_25 : cdA 157 25 = some (.ireturn) := by decide +kernel
theorem c157_41 : cdA 157 41 = some (.aload_n 0) := by decide +kernel
theorem c157_42 : cdA 157 42 = some (.bipush (-6)) := by decide +kernel
theorem c157_44 : cdA 157 44 = some (.invokevirtual 187) := by decide +kernel
theorem m157_187 : mthR (moN 157) 187 = 138 := by decide +kernel
theorem c157_47 : cdA 157 47 = some (.ireturn) := by decide +kernel
theorem c157_5 : cdA 157 5 = some (.ifCond .ne 9) := by decide +kernel
theorem c157_14 : cdA 157 14 = some (.iload_n 2) := by decide +kernel
theorem c157_15 : cdA 157 15 = some (.iconst 1) := by decide +kernel
theorem c157_16 : cdA 157 16 = some (.if_icmp .ge 10) := by decide +kernel
theorem c157_26 : cdA 157 26 = some (.iload_n 2) := by decide +kernel
theorem c157_27 : cdA 157 27 = some (.sipush 999) := by decide +kernel
theorem c157_30 : cdA 157 30 = some (.if_icmp .gt 11) := by decide +kernel
theorem c157_33 : cdA 157 33 = some (.aload_n 0) := by decide +kernel
theorem c157_34 : cdA 157 34 = some (.getfield 232) := by decide +kernel
theorem f157_232 : fldR (moN 157) 232 = some (12, 30) := by decide +kernel
theorem t12_30 : fcl 12 30 = 0 := by decide +kernel
theorem c157_37 : cdA 157 37 = some (.iconst 4) := by decide +kernel
theorem c157_38 : cdA 157 38 = some (.if_icmp .ne 10) := by decide +kernel
theorem c157_48 : cdA 157 48 = some (.aload_n 0) := by decide +kernel
theorem c157_49 : cdA 157 49 = some (.getfield 80) := by decide +kernel
theorem f157_80 : fldR (moN 157) 80 = some (12, 27) := by decide +kernel
theorem t12_27 : fcl 12 27 = 2 := by decide +kernel
theorem c157_52 : cdA 157 52 = some (.aload_n 0) := by decide +kernel
theorem c157_53 : cdA 157 53 = some (.getfield 232) := by decide +kernel
theorem c157_56 : cdA 157 56 = some (.iload_n 1) := by decide +kernel
theorem c157_57 : cdA 157 57 = some (.iastore) := by decide +kernel
theorem c157_58 : cdA 157 58 = some (.aload_n 0) := by decide +kernel
theorem c157_59 : cdA 157 59 = some (.getfield 83) := by decide +kernel
theorem f157_83 : fldR (moN 157) 83 = some (12, 28) := by decide +kernel
theorem t12_28 : fcl 12 28 = 2 := by decide +kernel
theorem c157_62 : cdA 157 62 = some (.aload_n 0) := by decide +kernel
theorem c157_63 : cdA 157 63 = some (.getfield 232) := by decide +kernel
theorem c157_66 : cdA 157 66 = some (.iload_n 2) := by decide +kernel
theorem c157_67 : cdA 157 67 = some (.iastore) := by decide +kernel
theorem c157_68 : cdA 157 68 = some (.aload_n 0) := by decide +kernel
theorem c157_69 : cdA 157 69 = some (.dup) := by decide +kernel
theorem c157_70 : cdA 157 70 = some (.getfield 232) := by decide +kernel
theorem c157_73 : cdA 157 73 = some (.iconst 1) := by decide +kernel
theorem c157_74 : cdA 157 74 = some (.iadd) := by decide +kernel
theorem c157_75 : cdA 157 75 = some (.putfield 232) := by decide +kernel
theorem n12_30 : ffin 12 30 = false := by decide +kernel
theorem c157_78 : cdA 157 78 = some (.aload_n 0) := by decide +kernel
theorem c157_79 : cdA 157 79 = some (.getfield 232) := by decide +kernel
theorem c157_82 : cdA 157 82 = some (.iconst 1) := by decide +kernel
theorem c157_83 : cdA 157 83 = some (.isub) := by decide +kernel
theorem c157_84 : cdA 157 84 = some (.ireturn) := by decide +kernel
theorem c157_19 : cdA 157 19 = some (.aload_n 0) := by decide +kernel
theorem c157_20 : cdA 157 20 = some (.bipush (-4)) := by decide +kernel
theorem c157_22 : cdA 157 22 = some (.invokevirtual 187) := by decide +kernel
theorem c157_8 : cdA 157 8 = some (.aload_n 0) := by decide +kernel
theorem c157_9 : cdA 157 9 = some (.iconst (-1)) := by decide +kernel
theorem c157_10 : cdA 157 10 = some (.invokevirtual 187) := by decide +kernel
theorem b157_0 {d : Nat} {h : HP} {Q : PV → HP → Prop} {v1 v2 : Int} (H : X d 136 0 [some (P 69), some (I v1)] [] h (fun r h' => X (d + 1) 157 5 [some (P 69), some (I v1), some (I v2)] [r] h' Q)) : X (d + 1) 157 0 [some (P 69), some (I v1), some (I v2)] [] h Q :=
  s_aload_n c157_0 rfl (s_iload_n c157_1 rfl (s_cVi c157_2 m157_191 F136 K136 rfl (Nat.le_of_ble_eq_true rfl) rfl S136_69 rfl H))
theorem b157_13 {d : Nat} {h : HP} {Q : PV → HP → Prop} {v1 v2 s0 : Int} (H : Q (I s0) h) : X d 157 13 [some (P 69), some (I v1), some (I v2)] [I s0] h Q :=
  s_retI c157_13 R157 H
theorem b157_25 {d : Nat} {h : HP} {Q : PV → HP → Prop} {v1 v2 s0 : Int} (H : Q (I s0) h) : X d 157 25 [some (P 69), some (I v1), some (I v2)] [I s0] h Q :=
  s_retI c157_25 R157 H
theorem b157_41 {d : Nat} {h : HP} {Q : PV → HP → Prop} {v1 v2 : Int} (H : X d 135 0 [some (P 69), some (I (-6))] [] h (fun r h' => X (d + 1) 157 47 [some (P 69), some (I v1), some (I v2)] [r] h' Q)) : X (d + 1) 157 41 [some (P 69), some (I v1), some (I v2)] [] h Q :=
  s_aload_n c157_41 rfl (s_bipush c157_42 ⟨by decide, by decide⟩ (s_cVi c157_44 m157_187 F135 K135 rfl (Nat.le_of_ble_eq_true rfl) rfl S135_69 rfl H))
theorem b157_47 {d : Nat} {h : HP} {Q : PV → HP → Prop} {v1 v2 s0 : Int} (H : Q (I s0) h) : X d 157 47 [some (P 69), some (I v1), some (I v2)] [I s0] h Q :=
  s_retI c157_47 R157 H
theorem b157_5 {d : Nat} {h : HP} {Q : PV → HP → Prop} {v1 v2 s0 : Int} (H : ((¬ s0 = 0) → (((1 ≤ v2) → (((999 < v2) → X (d + 1) 157 41 [some (P 69), some (I v1), some (I v2)] [] h Q) ∧ (¬ (999 < v2) → (((¬ (h 69 30) = 4) → ((0 ≤ (h 69 30) ∧ (h 69 30) < 4) ∧ ((0 ≤ (h 69 30) ∧ (h 69 30) < 4) ∧ Q (I (w32 ((w32 ((h 69 30) + 1)) - 1))) (up2 (up2 (up2 h 93 (h 69 30).toNat v1) 94 (h 69 30).toNat v2) 69 30 (w32 ((h 69 30) + 1)))))) ∧ (¬ (¬ (h 69 30) = 4) → X (d + 1) 157 41 [some (P 69), some (I v1), some (I v2)] [] h Q))))) ∧ (¬ (1 ≤ v2) → X d 135 0 [some (P 69), some (I (-4))] [] h (fun r h' => X (d + 1) 157 25 [some (P 69), some (I v1), some (I v2)] [r] h' Q)))) ∧ (¬ (¬ s0 = 0) → X d 135 0 [some (P 69), some (I (-1))] [] h (fun r h' => X (d + 1) 157 13 [some (P 69), some (I v1), some (I v2)] [r] h' Q))) : X (d + 1) 157 5 [some (P 69), some (I v1), some (I v2)] [I s0] h Q :=
  s_if 14 (¬ s0 = 0) c157_5 (by decide) rfl ⟨fun q1 => s_iload_n c157_14 rfl (s_iconst c157_15 rfl (s_ifc 26 (1 ≤ v2) c157_16 (by decide) rfl ⟨fun q2 => s_iload_n c157_26 rfl (s_sipush c157_27 ⟨by decide, by decide⟩ (s_ifc 41 (999 < v2) c157_30 (by decide) rfl ⟨fun q3 => (((H.1 q1).1 q2).1 q3), fun q3 => s_aload_n c157_33 rfl (s_getI c157_34 f157_232 t12_30 sh_69 (s_iconst c157_37 rfl (s_ifc 48 (¬ (h 69 30) = 4) c157_38 (by decide) rfl ⟨fun q4 => s_aload_n c157_48 rfl (s_getP 93 c157_49 f157_80 t12_27 sh_69 g_69_27 (by decide) (by decide) (s_aload_n c157_52 rfl (s_getI c157_53 f157_232 t12_30 sh_69 (s_iload_n c157_56 rfl (s_iast c157_57 sh_93 ⟨((((H.1 q1).1 q2).2 q3).1 q4).1, s_aload_n c157_58 rfl (s_getP 94 c157_59 f157_83 t12_28 sh_69 g_69_28 (by decide) (by decide) (s_aload_n c157_62 rfl (s_getI c157_63 f157_232 t12_30 sh_69 (s_iload_n c157_66 rfl (s_iast c157_67 sh_94 ⟨((((H.1 q1).1 q2).2 q3).1 q4).2.1, s_aload_n c157_68 rfl (s_dupP c157_69 (s_getI c157_70 f157_232 t12_30 sh_69 (s_iconst c157_73 rfl (s_iadd c157_74 (s_putI c157_75 f157_232 t12_30 n12_30 sh_69 (s_aload_n c157_78 rfl (s_getI c157_79 f157_232 t12_30 sh_69 (s_iconst c157_82 rfl (s_isub c157_83 (s_retI c157_84 R157 ((((H.1 q1).1 q2).2 q3).1 q4).2.2))))))))))⟩)))))⟩))))), fun q4 => ((((H.1 q1).1 q2).2 q3).2 q4)⟩)))⟩)), fun q2 => s_aload_n c157_19 rfl (s_bipush c157_20 ⟨by decide, by decide⟩ (s_cVi c157_22 m157_187 F135 K135 rfl (Nat.le_of_ble_eq_true rfl) rfl S135_69 rfl ((H.1 q1).2 q2)))⟩)), fun q1 => s_aload_n c157_8 rfl (s_iconst c157_9 rfl (s_cVi c157_10 m157_187 F135 K135 rfl (Nat.le_of_ble_eq_true rfl) rfl S135_69 rfl (H.2 q1)))⟩
-- WarmSideModel.flap(I)I
theorem c159_0 : cdA 159 0 = some (.aload_n 0) := by decide +kernel
theorem c159_1 : cdA 159 1 = some (.iload_n 1) := by decide +kernel
theorem c159_2 : cdA 159 2 = some (.invokevirtual 191) := by decide +kernel
theorem m159_191 : mthR (moN 159) 191 = 139 := by decide +kernel
theorem c159_13 : cdA 159 13 = some (.ireturn) := by decide +kernel
theorem R159 : mK 159 = 0 := by decide +kernel
theorem c159_29 : cdA 159 29 = some (.ireturn) := by decide +kernel
theorem c159_5 : cdA 159 5 = some (.ifCond .ne 9) := by decide +kernel
theorem c159_14 : cdA 159 14 = some (.aload_n 0) := by decide +kernel
theorem c159_15 : cdA 159 15 = some (.getfield 25) := by decide +kernel
theorem f159_25 : fldR (moN 159) 25 = some (12, 5) := by decide +kernel
theorem c159_18 : cdA 159 18 = some (.iload_n 1) := by decide +kernel
theorem c159_19 : cdA 159 19 = some (.iaload) := by decide +kernel
theorem c159_20 : cdA 159 20 = some (.ifCond .lt 10) := by decide +kernel
theorem c159_30 : cdA 159 30 = some (.aload_n 0) := by decide +kernel
theorem c159_31 : cdA 159 31 = some (.getfield 25) := by decide +kernel
theorem c159_34 : cdA 159 34 = some (.iload_n 1) := by decide +kernel
theorem c159_35 : cdA 159 35 = some (.iconst 2) := by decide +kernel
theorem c159_36 : cdA 159 36 = some (.iastore) := by decide +kernel
theorem c159_37 : cdA 159 37 = some (.aload_n 0) := by decide +kernel
theorem c159_38 : cdA 159 38 = some (.getfield 28) := by decide +kernel
theorem f159_28 : fldR (moN 159) 28 = some (12, 6) := by decide +kernel
theorem c159_41 : cdA 159 41 = some (.iload_n 1) := by decide +kernel
theorem c159_42 : cdA 159 42 = some (.iconst 2) := by decide +kernel
theorem c159_43 : cdA 159 43 = some (.iastore) := by decide +kernel
theorem c159_44 : cdA 159 44 = some (.iconst 1) := by decide +kernel
theorem c159_45 : cdA 159 45 = some (.ireturn) := by decide +kernel
theorem c159_23 : cdA 159 23 = some (.aload_n 0) := by decide +kernel
theorem c159_24 : cdA 159 24 = some (.bipush (-3)) := by decide +kernel
theorem c159_26 : cdA 159 26 = some (.invokevirtual 187) := by decide +kernel
theorem m159_187 : mthR (moN 159) 187 = 138 := by decide +kernel
theorem c159_8 : cdA 159 8 = some (.aload_n 0) := by decide +kernel
theorem c159_9 : cdA 159 9 = some (.iconst (-1)) := by decide +kernel
theorem c159_10 : cdA 159 10 = some (.invokevirtual 187) := by decide +kernel
theorem b159_0 {d : Nat} {h : HP} {Q : PV → HP → Prop} {v1 : Int} (H : X d 136 0 [some (P 69), some (I v1)] [] h (fun r h' => X (d + 1) 159 5 [some (P 69), some (I v1)] [r] h' Q)) : X (d + 1) 159 0 [some (P 69), some (I v1)] [] h Q :=
  s_aload_n c159_0 rfl (s_iload_n c159_1 rfl (s_cVi c159_2 m159_191 F136 K136 rfl (Nat.le_of_ble_eq_true rfl) rfl S136_69 rfl H))
theorem b159_13 {d : Nat} {h : HP} {Q : PV → HP → Prop} {v1 s0 : Int} (H : Q (I s0) h) : X d 159 13 [some (P 69), some (I v1)] [I s0] h Q :=
  s_retI c159_13 R159 H
theorem b159_29 {d : Nat} {h : HP} {Q : PV → HP → Prop} {v1 s0 : Int} (H : Q (I s0) h) : X d 159 29 [some (P 69), some (I v1)] [I s0] h Q :=
  s_retI c159_29 R159 H
theorem b159_5 {d : Nat} {h : HP} {Q : PV → HP → Prop} {v1 s0 : Int} (H : ((¬ s0 = 0) → ((0 ≤ v1 ∧ v1 < 8) ∧ ((((h 75 v1.toNat) < 0) → ((0 ≤ v1 ∧ v1 < 8) ∧ ((0 ≤ v1 ∧ v1 < 8) ∧ Q (I 1) (up2 (up2 h 75 v1.toNat 2) 76 v1.toNat 2)))) ∧ (¬ ((h 75 v1.toNat) < 0) → X d 135 0 [some (P 69), some (I (-3))] [] h (fun r h' => X (d + 1) 159 29 [some (P 69), some (I v1)] [r] h' Q))))) ∧ (¬ (¬ s0 = 0) → X d 135 0 [some (P 69), some (I (-1))] [] h (fun r h' => X (d + 1) 159 13 [some (P 69), some (I v1)] [r] h' Q))) : X (d + 1) 159 5 [some (P 69), some (I v1)] [I s0] h Q :=
  s_if 14 (¬ s0 = 0) c159_5 (by decide) rfl ⟨fun q1 => s_aload_n c159_14 rfl (s_getP 75 c159_15 f159_25 t12_5 sh_69 g_69_5 (by decide) (by decide) (s_iload_n c159_18 rfl (s_iald c159_19 sh_75 ⟨(H.1 q1).1, s_if 30 ((h 75 v1.toNat) < 0) c159_20 (by decide) rfl ⟨fun q2 => s_aload_n c159_30 rfl (s_getP 75 c159_31 f159_25 t12_5 sh_69 g_69_5 (by decide) (by decide) (s_iload_n c159_34 rfl (s_iconst c159_35 rfl (s_iast c159_36 sh_75 ⟨((H.1 q1).2.1 q2).1, s_aload_n c159_37 rfl (s_getP 76 c159_38 f159_28 t12_6 sh_69 g_69_6 (by decide) (by decide) (s_iload_n c159_41 rfl (s_iconst c159_42 rfl (s_iast c159_43 sh_76 ⟨((H.1 q1).2.1 q2).2.1, s_iconst c159_44 rfl (s_retI c159_45 R159 ((H.1 q1).2.1 q2).2.2)⟩))))⟩)))), fun q2 => s_aload_n c159_23 rfl (s_bipush c159_24 ⟨by decide, by decide⟩ (s_cVi c159_26 m159_187 F135 K135 rfl (Nat.le_of_ble_eq_true rfl) rfl S135_69 rfl ((H.1 q1).2.2 q2)))⟩⟩))), fun q1 => s_aload_n c159_8 rfl (s_iconst c159_9 rfl (s_cVi c159_10 m159_187 F135 K135 rfl (Nat.le_of_ble_eq_true rfl) rfl S135_69 rfl (H.2 q1)))⟩
