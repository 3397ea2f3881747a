/-! blocks of WarmSide$Scene, by program -/
-- WarmSide$Scene.asNow(I)V
theorem c57_0 : cdA 57 0 = some (.aload_n 0) := by decide +kernel
theorem c57_1 : cdA 57 1 = some (.aload_n 0) := by decide +kernel
theorem c57_2 : cdA 57 2 = some (.getfield 18) := by decide +kernel
theorem f57_18 : fldR (moN 57) 18 = some (7, 0) := by decide +kernel
theorem t7_0 : fcl 7 0 = 2 := by decide +kernel
theorem c57_5 : cdA 57 5 = some (.getfield 31) := by decide +kernel
theorem f57_31 : fldR (moN 57) 31 = some (1, 5) := by decide +kernel
theorem c57_8 : cdA 57 8 = some (.getfield 37) := by decide +kernel
theorem f57_37 : fldR (moN 57) 37 = some (8, 3) := by decide +kernel
theorem t8_3 : fcl 8 3 = 2 := by decide +kernel
theorem c57_11 : cdA 57 11 = some (.iload_n 1) := by decide +kernel
theorem c57_12 : cdA 57 12 = some (.iaload) := by decide +kernel
theorem c57_13 : cdA 57 13 = some (.putfield 42) := by decide +kernel
theorem f57_42 : fldR (moN 57) 42 = some (7, 2) := by decide +kernel
theorem t7_2 : fcl 7 2 = 0 := by decide +kernel
theorem n7_2 : ffin 7 2 = false := by decide +kernel
theorem c57_16 : cdA 57 16 = some (.aload_n 0) := by decide +kernel
theorem c57_17 : cdA 57 17 = some (.aload_n 0) := by decide +kernel
theorem c57_18 : cdA 57 18 = some (.getfield 18) := by decide +kernel
theorem c57_21 : cdA 57 21 = some (.getfield 31) := by decide +kernel
theorem c57_24 : cdA 57 24 = some (.getfield 45) := by decide +kernel
theorem f57_45 : fldR (moN 57) 45 = some (8, 5) := by decide +kernel
theorem t8_5 : fcl 8 5 = 0 := by decide +kernel
theorem c57_27 : cdA 57 27 = some (.putfield 48) := by decide +kernel
theorem f57_48 : fldR (moN 57) 48 = some (7, 3) := by decide +kernel
theorem t7_3 : fcl 7 3 = 0 := by decide +kernel
theorem n7_3 : ffin 7 3 = false := by decide +kernel
theorem c57_30 : cdA 57 30 = some (.aload_n 0) := by decide +kernel
theorem c57_31 : cdA 57 31 = some (.bipush 100) := by decide +kernel
theorem c57_33 : cdA 57 33 = some (.putfield 49) := by decide +kernel
theorem f57_49 : fldR (moN 57) 49 = some (7, 4) := by decide +kernel
theorem t7_4 : fcl 7 4 = 0 := by decide +kernel
theorem n7_4 : ffin 7 4 = false := by decide +kernel
theorem c57_36 : cdA 57 36 = some (.aload_n 0) := by decide +kernel
theorem c57_37 : cdA 57 37 = some (.bipush 100) := by decide +kernel
theorem c57_39 : cdA 57 39 = some (.putfield 52) := by decide +kernel
theorem f57_52 : fldR (moN 57) 52 = some (7, 5) := by decide +kernel
theorem t7_5 : fcl 7 5 = 0 := by decide +kernel
theorem n7_5 : ffin 7 5 = false := by decide +kernel
theorem c57_42 : cdA 57 42 = some (.aload_n 0) := by decide +kernel
theorem c57_43 : cdA 57 43 = some (.aload_n 0) := by decide +kernel
theorem c57_44 : cdA 57 44 = some (.getfield 18) := by decide +kernel
theorem c57_47 : cdA 57 47 = some (.getfield 55) := by decide +kernel
theorem f57_55 : fldR (moN 57) 55 = some (1, 3) := by decide +kernel
theorem c57_50 : cdA 57 50 = some (.invokevirtual 59) := by decide +kernel
theorem m57_59 : mthR (moN 57) 59 = 21 := by decide +kernel
theorem F18 : mF 18 0 3 true := by unfold mF; decide +kernel
theorem K18 : ¬ mK 18 = 4 := by decide +kernel
theorem S18_22 : SH0[22]? = some (.inl (moN 18)) := by decide +kernel
theorem c57_134 : cdA 57 134 = some (.iload_n 2) := by decide +kernel
theorem c57_135 : cdA 57 135 = some (.aload_n 0) := by decide +kernel
theorem c57_136 : cdA 57 136 = some (.getfield 18) := by decide +kernel
theorem c57_139 : cdA 57 139 = some (.getfield 103) := by decide +kernel
theorem f57_103 : fldR (moN 57) 103 = some (1, 2) := by decide +kernel
theorem c57_142 : cdA 57 142 = some (.getfield 106) := by decide +kernel
theorem f57_106 : fldR (moN 57) 106 = some (2, 1) := by decide +kernel
theorem c57_145 : cdA 57 145 = some (.if_icmp .ge 32) := by decide +kernel
theorem c57_177 : cdA 57 177 = some (.return_) := by decide +kernel
theorem R57 : mK 57 = 4 := by decide +kernel
theorem c57_148 : cdA 57 148 = some (.aload_n 0) := by decide +kernel
theorem c57_149 : cdA 57 149 = some (.dup) := by decide +kernel
theorem c57_150 : cdA 57 150 = some (.getfield 100) := by decide +kernel
theorem f57_100 : fldR (moN 57) 100 = some (7, 8) := by decide +kernel
theorem t7_8 : fcl 7 8 = 0 := by decide +kernel
theorem c57_153 : cdA 57 153 = some (.aload_n 0) := by decide +kernel
theorem c57_154 : cdA 57 154 = some (.getfield 18) := by decide +kernel
theorem c57_157 : cdA 57 157 = some (.getfield 103) := by decide +kernel
theorem c57_160 : cdA 57 160 = some (.getfield 109) := by decide +kernel
theorem f57_109 : fldR (moN 57) 109 = some (2, 5) := by decide +kernel
theorem c57_163 : cdA 57 163 = some (.iload_n 2) := by decide +kernel
theorem c57_164 : cdA 57 164 = some (.iaload) := by decide +kernel
theorem c57_165 : cdA 57 165 = some (.iload_n 2) := by decide +kernel
theorem c57_166 : cdA 57 166 = some (.ishl) := by decide +kernel
theorem c57_167 : cdA 57 167 = some (.ior) := by decide +kernel
theorem c57_168 : cdA 57 168 = some (.putfield 100) := by decide +kernel
theorem n7_8 : ffin 7 8 = false := by decide +kernel
theorem c57_171 : cdA 57 171 = some (.iinc 2 1) := by decide +kernel
theorem c57_174 : cdA 57 174 = some (.goto (-40)) := by decide +kernel
theorem c57_53 : cdA 57 53 = some (.putfield 65) := by decide +kernel
theorem f57_65 : fldR (moN 57) 65 = some (7, 6) := by decide +kernel
theorem t7_6 : fcl 7 6 = 0 := by decide +kernel
theorem n7_6 : ffin 7 6 = false := by decide +kernel
theorem c57_56 : cdA 57 56 = some (.aload_n 0) := by decide +kernel
theorem c57_57 : cdA 57 57 = some (.aload_n 0) := by decide +kernel
theorem c57_58 : cdA 57 58 = some (.getfield 18) := by decide +kernel
theorem c57_61 : cdA 57 61 = some (.getfield 68) := by decide +kernel
theorem f57_68 : fldR (moN 57) 68 = some (1, 4) := by decide +kernel
theorem c57_64 : cdA 57 64 = some (.invokevirtual 59) := by decide +kernel
theorem S18_26 : SH0[26]? = some (.inl (moN 18)) := by decide +kernel
theorem c57_67 : cdA 57 67 = some (.putfield 71) := by decide +kernel
theorem f57_71 : fldR (moN 57) 71 = some (7, 7) := by decide +kernel
theorem t7_7 : fcl 7 7 = 0 := by decide +kernel
theorem n7_7 : ffin 7 7 = false := by decide +kernel
theorem c57_70 : cdA 57 70 = some (.aload_n 0) := by decide +kernel
theorem c57_71 : cdA 57 71 = some (.iconst 0) := by decide +kernel
theorem c57_72 : cdA 57 72 = some (.putfield 74) := by decide +kernel
theorem f57_74 : fldR (moN 57) 74 = some (7, 9) := by decide +kernel
theorem t7_9 : fcl 7 9 = 3 := by decide +kernel
theorem n7_9 : ffin 7 9 = false := by decide +kernel
theorem c57_75 : cdA 57 75 = some (.aload_n 0) := by decide +kernel
theorem c57_76 : cdA 57 76 = some (.iconst 0) := by decide +kernel
theorem c57_77 : cdA 57 77 = some (.putfield 78) := by decide +kernel
theorem f57_78 : fldR (moN 57) 78 = some (7, 10) := by decide +kernel
theorem t7_10 : fcl 7 10 = 0 := by decide +kernel
theorem n7_10 : ffin 7 10 = false := by decide +kernel
theorem c57_80 : cdA 57 80 = some (.aload_n 0) := by decide +kernel
theorem c57_81 : cdA 57 81 = some (.iconst 0) := by decide +kernel
theorem c57_82 : cdA 57 82 = some (.putfield 81) := by decide +kernel
theorem f57_81 : fldR (moN 57) 81 = some (7, 11) := by decide +kernel
theorem t7_11 : fcl 7 11 = 0 := by decide +kernel
theorem n7_11 : ffin 7 11 = false := by decide +kernel
theorem c57_85 : cdA 57 85 = some (.aload_n 0) := by decide +kernel
theorem c57_86 : cdA 57 86 = some (.getfield 18) := by decide +kernel
theorem c57_89 : cdA 57 89 = some (.getfield 55) := by decide +kernel
theorem c57_92 : cdA 57 92 = some (.getfield 84) := by decide +kernel
theorem f57_84 : fldR (moN 57) 84 = some (3, 3) := by decide +kernel
theorem c57_95 : cdA 57 95 = some (.iconst 0) := by decide +kernel
theorem c57_96 : cdA 57 96 = some (.aload_n 0) := by decide +kernel
theorem c57_97 : cdA 57 97 = some (.getfield 9) := by decide +kernel
theorem f57_9 : fldR (moN 57) 9 = some (7, 12) := by decide +kernel
theorem t7_12 : fcl 7 12 = 2 := by decide +kernel
theorem c57_100 : cdA 57 100 = some (.iconst 0) := by decide +kernel
theorem c57_101 : cdA 57 101 = some (.bipush 8) := by decide +kernel
theorem c57_103 : cdA 57 103 = some (.invokestatic 87) := by decide +kernel
theorem m57_87 : mthR (moN 57) 87 = 2 := by decide +kernel
theorem c57_106 : cdA 57 106 = some (.aload_n 0) := by decide +kernel
theorem c57_107 : cdA 57 107 = some (.getfield 18) := by decide +kernel
theorem c57_110 : cdA 57 110 = some (.getfield 93) := by decide +kernel
theorem f57_93 : fldR (moN 57) 93 = some (1, 1) := by decide +kernel
theorem t1_1 : fcl 1 1 = 2 := by decide +kernel
theorem c57_113 : cdA 57 113 = some (.getfield 97) := by decide +kernel
theorem f57_97 : fldR (moN 57) 97 = some (2, 4) := by decide +kernel
theorem c57_116 : cdA 57 116 = some (.iconst 0) := by decide +kernel
theorem c57_117 : cdA 57 117 = some (.aload_n 0) := by decide +kernel
theorem c57_118 : cdA 57 118 = some (.getfield 15) := by decide +kernel
theorem f57_15 : fldR (moN 57) 15 = some (7, 13) := by decide +kernel
theorem t7_13 : fcl 7 13 = 2 := by decide +kernel
theorem c57_121 : cdA 57 121 = some (.iconst 0) := by decide +kernel
theorem c57_122 : cdA 57 122 = some (.bipush 20) := by decide +kernel
theorem c57_124 : cdA 57 124 = some (.invokestatic 87) := by decide +kernel
theorem c57_127 : cdA 57 127 = some (.aload_n 0) := by decide +kernel
theorem c57_128 : cdA 57 128 = some (.iconst 0) := by decide +kernel
theorem c57_129 : cdA 57 129 = some (.putfield 100) := by decide +kernel
theorem c57_132 : cdA 57 132 = some (.iconst 0) := by decide +kernel
theorem c57_133 : cdA 57 133 = some (.istore_n 2) := by decide +kernel
theorem b57_0 {d : Nat} {h : HP} {Q : PV → HP → Prop} {v1 : Int} (H : (0 ≤ v1 ∧ v1 < 12) ∧ X d 18 0 [some (P 22), none, none] [] (up2 (up2 (up2 (up2 h 41 2 (h 34 v1.toNat)) 41 3 (h 30 5)) 41 4 100) 41 5 100) (fun r h' => X (d + 1) 57 53 [some (P 41), some (I v1), none] [r, P 41] h' Q)) : X (d + 1) 57 0 [some (P 41), some (I v1), none] [] h Q :=
  s_aload_n c57_0 rfl (s_aload_n c57_1 rfl (s_getP 1 c57_2 f57_18 t7_0 sh_41 g_41_0 (by decide) (by decide) (s_getP 30 c57_5 f57_31 t1_5 sh_1 g_1_5 (by decide) (by decide) (s_getP 34 c57_8 f57_37 t8_3 sh_30 g_30_3 (by decide) (by decide) (s_iload_n c57_11 rfl (s_iald c57_12 sh_34 ⟨H.1, s_putI c57_13 f57_42 t7_2 n7_2 sh_41 (s_aload_n c57_16 rfl (s_aload_n c57_17 rfl (s_getP 1 c57_18 f57_18 t7_0 sh_41 g_41_0 (by decide) (by decide) (s_getP 30 c57_21 f57_31 t1_5 sh_1 g_1_5 (by decide) (by decide) (s_getI c57_24 f57_45 t8_5 sh_30 (s_putI c57_27 f57_48 t7_3 n7_3 sh_41 (s_aload_n c57_30 rfl (s_bipush c57_31 ⟨by decide, by decide⟩ (s_putI c57_33 f57_49 t7_4 n7_4 sh_41 (s_aload_n c57_36 rfl (s_bipush c57_37 ⟨by decide, by decide⟩ (s_putI c57_39 f57_52 t7_5 n7_5 sh_41 (s_aload_n c57_42 rfl (s_aload_n c57_43 rfl (s_getP 1 c57_44 f57_18 t7_0 sh_41 g_41_0 (by decide) (by decide) (s_getP 22 c57_47 f57_55 t1_3 sh_1 g_1_3 (by decide) (by decide) (s_cVi c57_50 m57_59 F18 K18 rfl (Nat.le_of_ble_eq_true rfl) rfl S18_22 rfl H.2)))))))))))))))))⟩))))))
theorem b57_134 {d : Nat} {h : HP} {Q : PV → HP → Prop} {v1 v2 : Int} (H : (((h 17 1) ≤ v2) → Q (I 0) h) ∧ (¬ ((h 17 1) ≤ v2) → ((0 ≤ v2 ∧ v2 < 8) ∧ X d 57 134 [some (P 41), some (I v1), some (I (w32 (v2 + 1)))] [] (up2 h 41 8 (bOr (h 41 8) (bShl (h 21 v2.toNat) v2))) Q))) : X d 57 134 [some (P 41), some (I v1), some (I v2)] [] h Q :=
  s_iload_n c57_134 rfl (s_aload_n c57_135 rfl (s_getP 1 c57_136 f57_18 t7_0 sh_41 g_41_0 (by decide) (by decide) (s_getP 17 c57_139 f57_103 t1_2 sh_1 g_1_2 (by decide) (by decide) (s_getI c57_142 f57_106 t2_1 sh_17 (s_ifc 177 ((h 17 1) ≤ v2) c57_145 (by decide) rfl ⟨fun q1 => s_retV c57_177 R57 (H.1 q1), fun q1 => s_aload_n c57_148 rfl (s_dupP c57_149 (s_getI c57_150 f57_100 t7_8 sh_41 (s_aload_n c57_153 rfl (s_getP 1 c57_154 f57_18 t7_0 sh_41 g_41_0 (by decide) (by decide) (s_getP 17 c57_157 f57_103 t1_2 sh_1 g_1_2 (by decide) (by decide) (s_getP 21 c57_160 f57_109 t2_5 sh_17 g_17_5 (by decide) (by decide) (s_iload_n c57_163 rfl (s_iald c57_164 sh_21 ⟨(H.2 q1).1, s_iload_n c57_165 rfl (s_ishl c57_166 (s_ior c57_167 (s_putI c57_168 f57_100 t7_8 n7_8 sh_41 (s_iinc c57_171 rfl rfl rfl (s_goto 134 c57_174 (by decide) ((H.2 q1).2))))))⟩))))))))⟩)))))
theorem b57_53 {d : Nat} {h : HP} {Q : PV → HP → Prop} {v1 s1 : Int} (H : X d 18 0 [some (P 26), none, none] [] (up2 h 41 6 s1) (fun r h' => X (d + 1) 57 67 [some (P 41), some (I v1), none] [r, P 41] h' Q)) : X (d + 1) 57 53 [some (P 41), some (I v1), none] [I s1, P 41] h Q :=
  s_putI c57_53 f57_65 t7_6 n7_6 sh_41 (s_aload_n c57_56 rfl (s_aload_n c57_57 rfl (s_getP 1 c57_58 f57_18 t7_0 sh_41 g_41_0 (by decide) (by decide) (s_getP 26 c57_61 f57_68 t1_4 sh_1 g_1_4 (by decide) (by decide) (s_cVi c57_64 m57_59 F18 K18 rfl (Nat.le_of_ble_eq_true rfl) rfl S18_26 rfl H)))))
theorem b57_67 {d : Nat} {h : HP} {Q : PV → HP → Prop} {v1 s1 : Int} (H : X d 57 134 [some (P 41), some (I v1), some (I 0)] [] (up2 (cpy (cpy (up2 (up2 (up2 (up2 h 41 7 s1) 41 9 0) 41 10 0) 41 11 0) 23 42 0 0 8) 15 43 0 0 20) 41 8 0) Q) : X d 57 67 [some (P 41), some (I v1), none] [I s1, P 41] h Q :=
  s_putI c57_67 f57_71 t7_7 n7_7 sh_41 (s_aload_n c57_70 rfl (s_iconst c57_71 rfl (s_putZ c57_72 f57_74 t7_9 n7_9 sh_41 (by decide) (s_aload_n c57_75 rfl (s_iconst c57_76 rfl (s_putI c57_77 f57_78 t7_10 n7_10 sh_41 (s_aload_n c57_80 rfl (s_iconst c57_81 rfl (s_putI c57_82 f57_81 t7_11 n7_11 sh_41 (s_aload_n c57_85 rfl (s_getP 1 c57_86 f57_18 t7_0 sh_41 g_41_0 (by decide) (by decide) (s_getP 22 c57_89 f57_55 t1_3 sh_1 g_1_3 (by decide) (by decide) (s_getP 23 c57_92 f57_84 t3_3 sh_22 g_22_3 (by decide) (by decide) (s_iconst c57_95 rfl (s_aload_n c57_96 rfl (s_getP 42 c57_97 f57_9 t7_12 sh_41 g_41_12 (by decide) (by decide) (s_iconst c57_100 rfl (s_bipush c57_101 ⟨by decide, by decide⟩ (s_acp c57_103 m57_87 sh_23 sh_42 rfl ⟨⟨by decide, by decide, by decide, by decide, by decide⟩, s_aload_n c57_106 rfl (s_getP 1 c57_107 f57_18 t7_0 sh_41 g_41_0 (by decide) (by decide) (s_getP 12 c57_110 f57_93 t1_1 sh_1 g_1_1 (by decide) (by decide) (s_getP 15 c57_113 f57_97 t2_4 sh_12 g_12_4 (by decide) (by decide) (s_iconst c57_116 rfl (s_aload_n c57_117 rfl (s_getP 43 c57_118 f57_15 t7_13 sh_41 g_41_13 (by decide) (by decide) (s_iconst c57_121 rfl (s_bipush c57_122 ⟨by decide, by decide⟩ (s_acp c57_124 m57_87 sh_15 sh_43 rfl ⟨⟨by decide, by decide, by decide, by decide, by decide⟩, s_aload_n c57_127 rfl (s_iconst c57_128 rfl (s_putI c57_129 f57_100 t7_8 n7_8 sh_41 (s_iconst c57_132 rfl (s_istore_n c57_133 rfl (H)))))⟩)))))))))⟩)))))))))))))))))))
-- WarmSide$Scene.fillMakers()V
theorem c66_0 : cdA 66 0 = some (.iconst 0) := by decide +kernel
theorem c66_1 : cdA 66 1 = some (.istore_n 1) := by decide +kernel
theorem c66_138 : cdA 66 138 = some (.iinc 1 1) := by decide +kernel
theorem c66_141 : cdA 66 141 = some (.goto (-66)) := by decide +kernel
theorem c66_2 : cdA 66 2 = some (.iload_n 1) := by decide +kernel
theorem c66_3 : cdA 66 3 = some (.aload_n 0) := by decide +kernel
theorem c66_4 : cdA 66 4 = some (.getfield 18) := by decide +kernel
theorem f66_18 : fldR (moN 66) 18 = some (7, 0) := by decide +kernel
theorem c66_7 : cdA 66 7 = some (.getfield 55) := by decide +kernel
theorem f66_55 : fldR (moN 66) 55 = some (1, 3) := by decide +kernel
theorem c66_10 : cdA 66 10 = some (.getfield 187) := by decide +kernel
theorem f66_187 : fldR (moN 66) 187 = some (3, 2) := by decide +kernel
theorem c66_13 : cdA 66 13 = some (.if_icmp .ge 60) := by decide +kernel
theorem c66_73 : cdA 66 73 = some (.iconst 0) := by decide +kernel
theorem c66_74 : cdA 66 74 = some (.istore_n 1) := by decide +kernel
theorem c66_16 : cdA 66 16 = some (.aload_n 0) := by decide +kernel
theorem c66_17 : cdA 66 17 = some (.getfield 65) := by decide +kernel
theorem f66_65 : fldR (moN 66) 65 = some (7, 6) := by decide +kernel
theorem c66_20 : cdA 66 20 = some (.iload_n 1) := by decide +kernel
theorem c66_21 : cdA 66 21 = some (.ishr) := by decide +kernel
theorem c66_22 : cdA 66 22 = some (.iconst 1) := by decide +kernel
theorem c66_23 : cdA 66 23 = some (.iand) := by decide +kernel
theorem c66_24 : cdA 66 24 = some (.ifCond .ne 6) := by decide +kernel
theorem c66_30 : cdA 66 30 = some (.aload_n 0) := by decide +kernel
theorem c66_31 : cdA 66 31 = some (.getfield 27) := by decide +kernel
theorem f66_27 : fldR (moN 66) 27 = some (7, 1) := by decide +kernel
theorem t7_1 : fcl 7 1 = 2 := by decide +kernel
theorem c66_34 : cdA 66 34 = some (.getfield 155) := by decide +kernel
theorem f66_155 : fldR (moN 66) 155 = some (9, 2) := by decide +kernel
theorem c66_37 : cdA 66 37 = some (.aload_n 0) := by decide +kernel
theorem c66_38 : cdA 66 38 = some (.getfield 9) := by decide +kernel
theorem f66_9 : fldR (moN 66) 9 = some (7, 12) := by decide +kernel
theorem c66_41 : cdA 66 41 = some (.iload_n 1) := by decide +kernel
theorem c66_42 : cdA 66 42 = some (.iaload) := by decide +kernel
theorem c66_43 : cdA 66 43 = some (.dup2) := by decide +kernel
theorem c66_44 : cdA 66 44 = some (.iaload) := by decide +kernel
theorem c66_45 : cdA 66 45 = some (.aload_n 0) := by decide +kernel
theorem c66_46 : cdA 66 46 = some (.getfield 18) := by decide +kernel
theorem c66_49 : cdA 66 49 = some (.getfield 55) := by decide +kernel
theorem c66_52 : cdA 66 52 = some (.getfield 188) := by decide +kernel
theorem f66_188 : fldR (moN 66) 188 = some (3, 4) := by decide +kernel
theorem c66_55 : cdA 66 55 = some (.iload_n 1) := by decide +kernel
theorem c66_56 : cdA 66 56 = some (.iaload) := by decide +kernel
theorem c66_57 : cdA 66 57 = some (.aload_n 0) := by decide +kernel
theorem c66_58 : cdA 66 58 = some (.getfield 49) := by decide +kernel
theorem f66_49 : fldR (moN 66) 49 = some (7, 4) := by decide +kernel
theorem c66_61 : cdA 66 61 = some (.imul) := by decide +kernel
theorem c66_62 : cdA 66 62 = some (.bipush 100) := by decide +kernel
theorem c66_64 : cdA 66 64 = some (.idiv) := by decide +kernel
theorem c66_65 : cdA 66 65 = some (.iadd) := by decide +kernel
theorem c66_66 : cdA 66 66 = some (.iastore) := by decide +kernel
theorem c66_27 : cdA 66 27 = some (.goto 40) := by decide +kernel
theorem c66_67 : cdA 66 67 = some (.iinc 1 1) := by decide +kernel
theorem c66_70 : cdA 66 70 = some (.goto (-68)) := by decide +kernel
theorem c66_75 : cdA 66 75 = some (.iload_n 1) := by decide +kernel
theorem c66_76 : cdA 66 76 = some (.aload_n 0) := by decide +kernel
theorem c66_77 : cdA 66 77 = some (.getfield 18) := by decide +kernel
theorem c66_80 : cdA 66 80 = some (.getfield 68) := by decide +kernel
theorem f66_68 : fldR (moN 66) 68 = some (1, 4) := by decide +kernel
theorem c66_83 : cdA 66 83 = some (.getfield 187) := by decide +kernel
theorem c66_86 : cdA 66 86 = some (.if_icmp .ge 58) := by decide +kernel
theorem c66_144 : cdA 66 144 = some (.return_) := by decide +kernel
theorem R66 : mK 66 = 4 := by decide +kernel
theorem c66_89 : cdA 66 89 = some (.aload_n 0) := by decide +kernel
theorem c66_90 : cdA 66 90 = some (.getfield 71) := by decide +kernel
theorem f66_71 : fldR (moN 66) 71 = some (7, 7) := by decide +kernel
theorem c66_93 : cdA 66 93 = some (.iload_n 1) := by decide +kernel
theorem c66_94 : cdA 66 94 = some (.ishr) := by decide +kernel
theorem c66_95 : cdA 66 95 = some (.iconst 1) := by decide +kernel
theorem c66_96 : cdA 66 96 = some (.iand) := by decide +kernel
theorem c66_97 : cdA 66 97 = some (.ifCond .ne 6) := by decide +kernel
theorem c66_103 : cdA 66 103 = some (.aload_n 0) := by decide +kernel
theorem c66_104 : cdA 66 104 = some (.getfield 27) := by decide +kernel
theorem c66_107 : cdA 66 107 = some (.getfield 155) := by decide +kernel
theorem c66_110 : cdA 66 110 = some (.aload_n 0) := by decide +kernel
theorem c66_111 : cdA 66 111 = some (.getfield 18) := by decide +kernel
theorem c66_114 : cdA 66 114 = some (.getfield 68) := by decide +kernel
theorem c66_117 : cdA 66 117 = some (.getfield 84) := by decide +kernel
theorem f66_84 : fldR (moN 66) 84 = some (3, 3) := by decide +kernel
theorem c66_120 : cdA 66 120 = some (.iload_n 1) := by decide +kernel
theorem c66_121 : cdA 66 121 = some (.iaload) := by decide +kernel
theorem c66_122 : cdA 66 122 = some (.dup2) := by decide +kernel
theorem c66_123 : cdA 66 123 = some (.iaload) := by decide +kernel
theorem c66_124 : cdA 66 124 = some (.aload_n 0) := by decide +kernel
theorem c66_125 : cdA 66 125 = some (.getfield 18) := by decide +kernel
theorem c66_128 : cdA 66 128 = some (.getfield 68) := by decide +kernel
theorem c66_131 : cdA 66 131 = some (.getfield 188) := by decide +kernel
theorem c66_134 : cdA 66 134 = some (.iload_n 1) := by decide +kernel
theorem c66_135 : cdA 66 135 = some (.iaload) := by decide +kernel
theorem c66_136 : cdA 66 136 = some (.iadd) := by decide +kernel
theorem c66_137 : cdA 66 137 = some (.iastore) := by decide +kernel
theorem c66_100 : cdA 66 100 = some (.goto 38) := by decide +kernel
theorem b66_0 {d : Nat} {h : HP} {Q : PV → HP → Prop} (H : X d 66 2 [some (P 41), some (I 0)] [] h Q) : X d 66 0 [some (P 41), none] [] h Q :=
  s_iconst c66_0 rfl (s_istore_n c66_1 rfl (H))
theorem b66_138 {d : Nat} {h : HP} {Q : PV → HP → Prop} {v1 : Int} (H : X d 66 75 [some (P 41), some (I (w32 (v1 + 1)))] [] h Q) : X d 66 138 [some (P 41), some (I v1)] [] h Q :=
  s_iinc c66_138 rfl rfl rfl (s_goto 75 c66_141 (by decide) (H))
theorem b66_2 {d : Nat} {h : HP} {Q : PV → HP → Prop} {v1 : Int} (H : (((h 22 2) ≤ v1) → X d 66 75 [some (P 41), some (I 0)] [] h Q) ∧ (¬ ((h 22 2) ≤ v1) → (((¬ (bAnd (bShr (h 41 6) v1) 1) = 0) → ((0 ≤ v1 ∧ v1 < 8) ∧ ((0 ≤ (h 42 v1.toNat) ∧ (h 42 v1.toNat) < 8) ∧ ((0 ≤ v1 ∧ v1 < 8) ∧ ((0 ≤ (h 42 v1.toNat) ∧ (h 42 v1.toNat) < 8) ∧ X d 66 67 [some (P 41), some (I v1)] [] (up2 h 45 (h 42 v1.toNat).toNat (w32 ((h 45 (h 42 v1.toNat).toNat) + (w32 (Int.tdiv (w32 ((h 24 v1.toNat) * (h 41 4))) 100))))) Q))))) ∧ (¬ (¬ (bAnd (bShr (h 41 6) v1) 1) = 0) → X d 66 67 [some (P 41), some (I v1)] [] h Q)))) : X d 66 2 [some (P 41), some (I v1)] [] h Q :=
  s_iload_n c66_2 rfl (s_aload_n c66_3 rfl (s_getP 1 c66_4 f66_18 t7_0 sh_41 g_41_0 (by decide) (by decide) (s_getP 22 c66_7 f66_55 t1_3 sh_1 g_1_3 (by decide) (by decide) (s_getI c66_10 f66_187 t3_2 sh_22 (s_ifc 73 ((h 22 2) ≤ v1) c66_13 (by decide) rfl ⟨fun q1 => s_iconst c66_73 rfl (s_istore_n c66_74 rfl ((H.1 q1))), fun q1 => s_aload_n c66_16 rfl (s_getI c66_17 f66_65 t7_6 sh_41 (s_iload_n c66_20 rfl (s_ishr c66_21 (s_iconst c66_22 rfl (s_iand c66_23 (s_if 30 (¬ (bAnd (bShr (h 41 6) v1) 1) = 0) c66_24 (by decide) rfl ⟨fun q2 => s_aload_n c66_30 rfl (s_getP 44 c66_31 f66_27 t7_1 sh_41 g_41_1 (by decide) (by decide) (s_getP 45 c66_34 f66_155 t9_2 sh_44 g_44_2 (by decide) (by decide) (s_aload_n c66_37 rfl (s_getP 42 c66_38 f66_9 t7_12 sh_41 g_41_12 (by decide) (by decide) (s_iload_n c66_41 rfl (s_iald c66_42 sh_42 ⟨((H.2 q1).1 q2).1, s_dup2 c66_43 (s_iald c66_44 sh_45 ⟨((H.2 q1).1 q2).2.1, s_aload_n c66_45 rfl (s_getP 1 c66_46 f66_18 t7_0 sh_41 g_41_0 (by decide) (by decide) (s_getP 22 c66_49 f66_55 t1_3 sh_1 g_1_3 (by decide) (by decide) (s_getP 24 c66_52 f66_188 t3_4 sh_22 g_22_4 (by decide) (by decide) (s_iload_n c66_55 rfl (s_iald c66_56 sh_24 ⟨((H.2 q1).1 q2).2.2.1, s_aload_n c66_57 rfl (s_getI c66_58 f66_49 t7_4 sh_41 (s_imul c66_61 (s_bipush c66_62 ⟨by decide, by decide⟩ (s_idiv c66_64 (by decide) (s_iadd c66_65 (s_iast c66_66 sh_45 ⟨((H.2 q1).1 q2).2.2.2.1, ((H.2 q1).1 q2).2.2.2.2⟩))))))⟩)))))⟩)⟩)))))), fun q2 => s_goto 67 c66_27 (by decide) (((H.2 q1).2 q2))⟩))))))⟩)))))
theorem b66_67 {d : Nat} {h : HP} {Q : PV → HP → Prop} {v1 : Int} (H : X d 66 2 [some (P 41), some (I (w32 (v1 + 1)))] [] h Q) : X d 66 67 [some (P 41), some (I v1)] [] h Q :=
  s_iinc c66_67 rfl rfl rfl (s_goto 2 c66_70 (by decide) (H))
theorem b66_75 {d : Nat} {h : HP} {Q : PV → HP → Prop} {v1 : Int} (H : (((h 26 2) ≤ v1) → Q (I 0) h) ∧ (¬ ((h 26 2) ≤ v1) → (((¬ (bAnd (bShr (h 41 7) v1) 1) = 0) → ((0 ≤ v1 ∧ v1 < 4) ∧ ((0 ≤ (h 27 v1.toNat) ∧ (h 27 v1.toNat) < 8) ∧ ((0 ≤ v1 ∧ v1 < 4) ∧ ((0 ≤ (h 27 v1.toNat) ∧ (h 27 v1.toNat) < 8) ∧ X d 66 138 [some (P 41), some (I v1)] [] (up2 h 45 (h 27 v1.toNat).toNat (w32 ((h 45 (h 27 v1.toNat).toNat) + (h 28 v1.toNat)))) Q))))) ∧ (¬ (¬ (bAnd (bShr (h 41 7) v1) 1) = 0) → X d 66 138 [some (P 41), some (I v1)] [] h Q)))) : X d 66 75 [some (P 41), some (I v1)] [] h Q :=
  s_iload_n c66_75 rfl (s_aload_n c66_76 rfl (s_getP 1 c66_77 f66_18 t7_0 sh_41 g_41_0 (by decide) (by decide) (s_getP 26 c66_80 f66_68 t1_4 sh_1 g_1_4 (by decide) (by decide) (s_getI c66_83 f66_187 t3_2 sh_26 (s_ifc 144 ((h 26 2) ≤ v1) c66_86 (by decide) rfl ⟨fun q3 => s_retV c66_144 R66 (H.1 q3), fun q3 => s_aload_n c66_89 rfl (s_getI c66_90 f66_71 t7_7 sh_41 (s_iload_n c66_93 rfl (s_ishr c66_94 (s_iconst c66_95 rfl (s_iand c66_96 (s_if 103 (¬ (bAnd (bShr (h 41 7) v1) 1) = 0) c66_97 (by decide) rfl ⟨fun q4 => s_aload_n c66_103 rfl (s_getP 44 c66_104 f66_27 t7_1 sh_41 g_41_1 (by decide) (by decide) (s_getP 45 c66_107 f66_155 t9_2 sh_44 g_44_2 (by decide) (by decide) (s_aload_n c66_110 rfl (s_getP 1 c66_111 f66_18 t7_0 sh_41 g_41_0 (by decide) (by decide) (s_getP 26 c66_114 f66_68 t1_4 sh_1 g_1_4 (by decide) (by decide) (s_getP 27 c66_117 f66_84 t3_3 sh_26 g_26_3 (by decide) (by decide) (s_iload_n c66_120 rfl (s_iald c66_121 sh_27 ⟨((H.2 q3).1 q4).1, s_dup2 c66_122 (s_iald c66_123 sh_45 ⟨((H.2 q3).1 q4).2.1, s_aload_n c66_124 rfl (s_getP 1 c66_125 f66_18 t7_0 sh_41 g_41_0 (by decide) (by decide) (s_getP 26 c66_128 f66_68 t1_4 sh_1 g_1_4 (by decide) (by decide) (s_getP 28 c66_131 f66_188 t3_4 sh_26 g_26_4 (by decide) (by decide) (s_iload_n c66_134 rfl (s_iald c66_135 sh_28 ⟨((H.2 q3).1 q4).2.2.1, s_iadd c66_136 (s_iast c66_137 sh_45 ⟨((H.2 q3).1 q4).2.2.2.1, ((H.2 q3).1 q4).2.2.2.2⟩)⟩)))))⟩)⟩)))))))), fun q4 => s_goto 138 c66_100 (by decide) (((H.2 q3).2 q4))⟩))))))⟩)))))
-- WarmSide$Scene.settle()V
theorem c65_0 : cdA 65 0 = some (.aload_n 0) := by decide +kernel
theorem c65_1 : cdA 65 1 = some (.getfield 27) := by decide +kernel
theorem f65_27 : fldR (moN 65) 27 = some (7, 1) := by decide +kernel
theorem c65_4 : cdA 65 4 = some (.aload_n 0) := by decide +kernel
theorem c65_5 : cdA 65 5 = some (.getfield 18) := by decide +kernel
theorem f65_18 : fldR (moN 65) 18 = some (7, 0) := by decide +kernel
theorem c65_8 : cdA 65 8 = some (.getfield 127) := by decide +kernel
theorem f65_127 : fldR (moN 65) 127 = some (1, 0) := by decide +kernel
theorem c65_11 : cdA 65 11 = some (.getfield 131) := by decide +kernel
theorem f65_131 : fldR (moN 65) 131 = some (4, 0) := by decide +kernel
theorem c65_14 : cdA 65 14 = some (.invokevirtual 152) := by decide +kernel
theorem m65_152 : mthR (moN 65) 152 = 73 := by decide +kernel
theorem F70 : mF 70 1 2 true := by unfold mF; decide +kernel
theorem K70 : mK 70 = 4 := by decide +kernel
theorem S70_44 : SH0[44]? = some (.inl (moN 70)) := by decide +kernel
theorem c65_123 : cdA 65 123 = some (.iastore) := by decide +kernel
theorem c65_124 : cdA 65 124 = some (.iinc 1 1) := by decide +kernel
theorem c65_127 : cdA 65 127 = some (.goto (-108)) := by decide +kernel
theorem c65_153 : cdA 65 153 = some (.iconst 0) := by decide +kernel
theorem c65_154 : cdA 65 154 = some (.istore_n 1) := by decide +kernel
theorem c65_155 : cdA 65 155 = some (.iload_n 1) := by decide +kernel
theorem c65_156 : cdA 65 156 = some (.aload_n 0) := by decide +kernel
theorem c65_157 : cdA 65 157 = some (.getfield 18) := by decide +kernel
theorem c65_160 : cdA 65 160 = some (.getfield 93) := by decide +kernel
theorem f65_93 : fldR (moN 65) 93 = some (1, 1) := by decide +kernel
theorem c65_163 : cdA 65 163 = some (.getfield 106) := by decide +kernel
theorem f65_106 : fldR (moN 65) 106 = some (2, 1) := by decide +kernel
theorem c65_166 : cdA 65 166 = some (.if_icmp .ge 46) := by decide +kernel
theorem c65_212 : cdA 65 212 = some (.iconst 0) := by decide +kernel
theorem c65_213 : cdA 65 213 = some (.istore_n 1) := by decide +kernel
theorem c65_169 : cdA 65 169 = some (.aload_n 0) := by decide +kernel
theorem c65_170 : cdA 65 170 = some (.getfield 27) := by decide +kernel
theorem c65_173 : cdA 65 173 = some (.aload_n 0) := by decide +kernel
theorem c65_174 : cdA 65 174 = some (.getfield 18) := by decide +kernel
theorem c65_177 : cdA 65 177 = some (.getfield 93) := by decide +kernel
theorem c65_180 : cdA 65 180 = some (.getfield 140) := by decide +kernel
theorem f65_140 : fldR (moN 65) 140 = some (2, 2) := by decide +kernel
theorem c65_183 : cdA 65 183 = some (.iload_n 1) := by decide +kernel
theorem c65_184 : cdA 65 184 = some (.iaload) := by decide +kernel
theorem c65_185 : cdA 65 185 = some (.aload_n 0) := by decide +kernel
theorem c65_186 : cdA 65 186 = some (.getfield 18) := by decide +kernel
theorem c65_189 : cdA 65 189 = some (.getfield 93) := by decide +kernel
theorem c65_192 : cdA 65 192 = some (.getfield 143) := by decide +kernel
theorem f65_143 : fldR (moN 65) 143 = some (2, 3) := by decide +kernel
theorem c65_195 : cdA 65 195 = some (.iload_n 1) := by decide +kernel
theorem c65_196 : cdA 65 196 = some (.iaload) := by decide +kernel
theorem c65_197 : cdA 65 197 = some (.aload_n 0) := by decide +kernel
theorem c65_198 : cdA 65 198 = some (.getfield 15) := by decide +kernel
theorem f65_15 : fldR (moN 65) 15 = some (7, 13) := by decide +kernel
theorem c65_201 : cdA 65 201 = some (.iload_n 1) := by decide +kernel
theorem c65_202 : cdA 65 202 = some (.iaload) := by decide +kernel
theorem c65_203 : cdA 65 203 = some (.invokevirtual 177) := by decide +kernel
theorem m65_177 : mthR (moN 65) 177 = 74 := by decide +kernel
theorem F71 : mF 71 3 4 true := by unfold mF; decide +kernel
theorem K71 : mK 71 = 4 := by decide +kernel
theorem S71_44 : SH0[44]? = some (.inl (moN 71)) := by decide +kernel
theorem c65_17 : cdA 65 17 = some (.iconst 0) := by decide +kernel
theorem c65_18 : cdA 65 18 = some (.istore_n 1) := by decide +kernel
theorem c65_19 : cdA 65 19 = some (.iload_n 1) := by decide +kernel
theorem c65_20 : cdA 65 20 = some (.aload_n 0) := by decide +kernel
theorem c65_21 : cdA 65 21 = some (.getfield 18) := by decide +kernel
theorem c65_24 : cdA 65 24 = some (.getfield 127) := by decide +kernel
theorem c65_27 : cdA 65 27 = some (.getfield 131) := by decide +kernel
theorem c65_30 : cdA 65 30 = some (.if_icmp .ge 100) := by decide +kernel
theorem c65_130 : cdA 65 130 = some (.aload_n 0) := by decide +kernel
theorem c65_131 : cdA 65 131 = some (.getfield 27) := by decide +kernel
theorem c65_134 : cdA 65 134 = some (.getfield 155) := by decide +kernel
theorem f65_155 : fldR (moN 65) 155 = some (9, 2) := by decide +kernel
theorem c65_137 : cdA 65 137 = some (.aload_n 0) := by decide +kernel
theorem c65_138 : cdA 65 138 = some (.getfield 78) := by decide +kernel
theorem f65_78 : fldR (moN 65) 78 = some (7, 10) := by decide +kernel
theorem c65_141 : cdA 65 141 = some (.dup2) := by decide +kernel
theorem c65_142 : cdA 65 142 = some (.iaload) := by decide +kernel
theorem c65_143 : cdA 65 143 = some (.aload_n 0) := by decide +kernel
theorem c65_144 : cdA 65 144 = some (.getfield 81) := by decide +kernel
theorem f65_81 : fldR (moN 65) 81 = some (7, 11) := by decide +kernel
theorem c65_147 : cdA 65 147 = some (.iadd) := by decide +kernel
theorem c65_148 : cdA 65 148 = some (.iastore) := by decide +kernel
theorem c65_149 : cdA 65 149 = some (.aload_n 0) := by decide +kernel
theorem c65_150 : cdA 65 150 = some (.invokevirtual 174) := by decide +kernel
theorem m65_174 : mthR (moN 65) 174 = 69 := by decide +kernel
theorem F66 : mF 66 0 2 true := by unfold mF; decide +kernel
theorem K66 : mK 66 = 4 := by decide +kernel
theorem S66_41 : SH0[41]? = some (.inl (moN 66)) := by decide +kernel
theorem c65_33 : cdA 65 33 = some (.aload_n 0) := by decide +kernel
theorem c65_34 : cdA 65 34 = some (.getfield 27) := by decide +kernel
theorem c65_37 : cdA 65 37 = some (.getfield 155) := by decide +kernel
theorem c65_40 : cdA 65 40 = some (.iload_n 1) := by decide +kernel
theorem c65_41 : cdA 65 41 = some (.aload_n 0) := by decide +kernel
theorem c65_42 : cdA 65 42 = some (.getfield 18) := by decide +kernel
theorem c65_45 : cdA 65 45 = some (.iload_n 1) := by decide +kernel
theorem c65_46 : cdA 65 46 = some (.aload_n 0) := by decide +kernel
theorem c65_47 : cdA 65 47 = some (.getfield 42) := by decide +kernel
theorem f65_42 : fldR (moN 65) 42 = some (7, 2) := by decide +kernel
theorem c65_50 : cdA 65 50 = some (.aload_n 0) := by decide +kernel
theorem c65_51 : cdA 65 51 = some (.getfield 48) := by decide +kernel
theorem f65_48 : fldR (moN 65) 48 = some (7, 3) := by decide +kernel
theorem c65_54 : cdA 65 54 = some (.invokevirtual 158) := by decide +kernel
theorem m65_158 : mthR (moN 65) 158 = 12 := by decide +kernel
theorem F9 : mF 9 3 5 true := by unfold mF; decide +kernel
theorem K9 : ¬ mK 9 = 4 := by decide +kernel
theorem S9_1 : SH0[1]? = some (.inl (moN 9)) := by decide +kernel
theorem c65_206 : cdA 65 206 = some (.iinc 1 1) := by decide +kernel
theorem c65_209 : cdA 65 209 = some (.goto (-54)) := by decide +kernel
theorem c65_214 : cdA 65 214 = some (.iload_n 1) := by decide +kernel
theorem c65_215 : cdA 65 215 = some (.aload_n 0) := by decide +kernel
theorem c65_216 : cdA 65 216 = some (.getfield 18) := by decide +kernel
theorem c65_219 : cdA 65 219 = some (.getfield 103) := by decide +kernel
theorem f65_103 : fldR (moN 65) 103 = some (1, 2) := by decide +kernel
theorem c65_222 : cdA 65 222 = some (.getfield 106) := by decide +kernel
theorem c65_225 : cdA 65 225 = some (.if_icmp .ge 66) := by decide +kernel
theorem c65_291 : cdA 65 291 = some (.aload_n 0) := by decide +kernel
theorem c65_292 : cdA 65 292 = some (.getfield 27) := by decide +kernel
theorem c65_295 : cdA 65 295 = some (.invokevirtual 184) := by decide +kernel
theorem m65_184 : mthR (moN 65) 184 = 76 := by decide +kernel
theorem F73 : mF 73 0 5 true := by unfold mF; decide +kernel
theorem K73 : mK 73 = 4 := by decide +kernel
theorem S73_44 : SH0[44]? = some (.inl (moN 73)) := by decide +kernel
theorem c65_228 : cdA 65 228 = some (.aload_n 0) := by decide +kernel
theorem c65_229 : cdA 65 229 = some (.getfield 100) := by decide +kernel
theorem f65_100 : fldR (moN 65) 100 = some (7, 8) := by decide +kernel
theorem c65_232 : cdA 65 232 = some (.iload_n 1) := by decide +kernel
theorem c65_233 : cdA 65 233 = some (.ishr) := by decide +kernel
theorem c65_234 : cdA 65 234 = some (.iconst 1) := by decide +kernel
theorem c65_235 : cdA 65 235 = some (.iand) := by decide +kernel
theorem c65_236 : cdA 65 236 = some (.ifCond .eq 6) := by decide +kernel
theorem c65_242 : cdA 65 242 = some (.aload_n 0) := by decide +kernel
theorem c65_243 : cdA 65 243 = some (.getfield 27) := by decide +kernel
theorem c65_246 : cdA 65 246 = some (.aload_n 0) := by decide +kernel
theorem c65_247 : cdA 65 247 = some (.getfield 18) := by decide +kernel
theorem c65_250 : cdA 65 250 = some (.getfield 103) := by decide +kernel
theorem c65_253 : cdA 65 253 = some (.getfield 140) := by decide +kernel
theorem c65_256 : cdA 65 256 = some (.iload_n 1) := by decide +kernel
theorem c65_257 : cdA 65 257 = some (.iaload) := by decide +kernel
theorem c65_258 : cdA 65 258 = some (.aload_n 0) := by decide +kernel
theorem c65_259 : cdA 65 259 = some (.getfield 18) := by decide +kernel
theorem c65_262 : cdA 65 262 = some (.getfield 103) := by decide +kernel
theorem c65_265 : cdA 65 265 = some (.getfield 143) := by decide +kernel
theorem c65_268 : cdA 65 268 = some (.iload_n 1) := by decide +kernel
theorem c65_269 : cdA 65 269 = some (.iaload) := by decide +kernel
theorem c65_270 : cdA 65 270 = some (.aload_n 0) := by decide +kernel
theorem c65_271 : cdA 65 271 = some (.getfield 18) := by decide +kernel
theorem c65_274 : cdA 65 274 = some (.getfield 103) := by decide +kernel
theorem c65_277 : cdA 65 277 = some (.getfield 97) := by decide +kernel
theorem f65_97 : fldR (moN 65) 97 = some (2, 4) := by decide +kernel
theorem c65_280 : cdA 65 280 = some (.iload_n 1) := by decide +kernel
theorem c65_281 : cdA 65 281 = some (.iaload) := by decide +kernel
theorem c65_282 : cdA 65 282 = some (.invokevirtual 181) := by decide +kernel
theorem m65_181 : mthR (moN 65) 181 = 75 := by decide +kernel
theorem F72 : mF 72 3 4 true := by unfold mF; decide +kernel
theorem K72 : mK 72 = 4 := by decide +kernel
theorem S72_44 : SH0[44]? = some (.inl (moN 72)) := by decide +kernel
theorem c65_239 : cdA 65 239 = some (.goto 46) := by decide +kernel
theorem c65_285 : cdA 65 285 = some (.iinc 1 1) := by decide +kernel
theorem c65_288 : cdA 65 288 = some (.goto (-74)) := by decide +kernel
theorem c65_298 : cdA 65 298 = some (.return_) := by decide +kernel
theorem R65 : mK 65 = 4 := by decide +kernel
theorem c65_57 : cdA 65 57 = some (.iastore) := by decide +kernel
theorem c65_58 : cdA 65 58 = some (.aload_n 0) := by decide +kernel
theorem c65_59 : cdA 65 59 = some (.getfield 27) := by decide +kernel
theorem c65_62 : cdA 65 62 = some (.getfield 162) := by decide +kernel
theorem f65_162 : fldR (moN 65) 162 = some (9, 3) := by decide +kernel
theorem c65_65 : cdA 65 65 = some (.iload_n 1) := by decide +kernel
theorem c65_66 : cdA 65 66 = some (.bipush 100) := by decide +kernel
theorem c65_68 : cdA 65 68 = some (.aload_n 0) := by decide +kernel
theorem c65_69 : cdA 65 69 = some (.getfield 18) := by decide +kernel
theorem c65_72 : cdA 65 72 = some (.iload_n 1) := by decide +kernel
theorem c65_73 : cdA 65 73 = some (.aload_n 0) := by decide +kernel
theorem c65_74 : cdA 65 74 = some (.getfield 48) := by decide +kernel
theorem c65_77 : cdA 65 77 = some (.invokevirtual 165) := by decide +kernel
theorem m65_165 : mthR (moN 65) 165 = 13 := by decide +kernel
theorem F10 : mF 10 2 3 true := by unfold mF; decide +kernel
theorem K10 : ¬ mK 10 = 4 := by decide +kernel
theorem S10_1 : SH0[1]? = some (.inl (moN 10)) := by decide +kernel
theorem c65_80 : cdA 65 80 = some (.aload_n 0) := by decide +kernel
theorem c65_81 : cdA 65 81 = some (.getfield 52) := by decide +kernel
theorem f65_52 : fldR (moN 65) 52 = some (7, 5) := by decide +kernel
theorem c65_84 : cdA 65 84 = some (.imul) := by decide +kernel
theorem c65_85 : cdA 65 85 = some (.bipush 100) := by decide +kernel
theorem c65_87 : cdA 65 87 = some (.idiv) := by decide +kernel
theorem c65_88 : cdA 65 88 = some (.invokestatic 146) := by decide +kernel
theorem m65_146 : mthR (moN 65) 146 = 228 := by decide +kernel
theorem c65_91 : cdA 65 91 = some (.iastore) := by decide +kernel
theorem c65_92 : cdA 65 92 = some (.aload_n 0) := by decide +kernel
theorem c65_93 : cdA 65 93 = some (.getfield 27) := by decide +kernel
theorem c65_96 : cdA 65 96 = some (.getfield 168) := by decide +kernel
theorem f65_168 : fldR (moN 65) 168 = some (9, 4) := by decide +kernel
theorem c65_99 : cdA 65 99 = some (.iload_n 1) := by decide +kernel
theorem c65_100 : cdA 65 100 = some (.aload_n 0) := by decide +kernel
theorem c65_101 : cdA 65 101 = some (.getfield 74) := by decide +kernel
theorem f65_74 : fldR (moN 65) 74 = some (7, 9) := by decide +kernel
theorem c65_104 : cdA 65 104 = some (.ifCond .eq 7) := by decide +kernel
theorem c65_111 : cdA 65 111 = some (.aload_n 0) := by decide +kernel
theorem c65_112 : cdA 65 112 = some (.getfield 18) := by decide +kernel
theorem c65_115 : cdA 65 115 = some (.getfield 127) := by decide +kernel
theorem c65_118 : cdA 65 118 = some (.getfield 171) := by decide +kernel
theorem f65_171 : fldR (moN 65) 171 = some (4, 7) := by decide +kernel
theorem c65_121 : cdA 65 121 = some (.iload_n 1) := by decide +kernel
theorem c65_122 : cdA 65 122 = some (.iaload) := by decide +kernel
theorem c65_107 : cdA 65 107 = some (.iconst 2) := by decide +kernel
theorem c65_108 : cdA 65 108 = some (.goto 15) := by decide +kernel
theorem b65_0 {d : Nat} {h : HP} {Q : PV → HP → Prop} (H : X d 70 0 [some (P 44), some (I (h 2 0))] [] h (fun _ h' => X (d + 1) 65 17 [some (P 41), none] [] h' Q)) : X (d + 1) 65 0 [some (P 41), none] [] h Q :=
  s_aload_n c65_0 rfl (s_getP 44 c65_1 f65_27 t7_1 sh_41 g_41_1 (by decide) (by decide) (s_aload_n c65_4 rfl (s_getP 1 c65_5 f65_18 t7_0 sh_41 g_41_0 (by decide) (by decide) (s_getP 2 c65_8 f65_127 t1_0 sh_1 g_1_0 (by decide) (by decide) (s_getI c65_11 f65_131 t4_0 sh_2 (s_cVv c65_14 m65_152 F70 K70 rfl (Nat.le_of_ble_eq_true rfl) rfl S70_44 rfl H))))))
theorem b65_123 {d : Nat} {h : HP} {Q : PV → HP → Prop} {v1 s1 s2 : Int} (H : (0 ≤ s1 ∧ s1 < 8) ∧ X d 65 19 [some (P 41), some (I (w32 (v1 + 1)))] [] (up2 h 47 s1.toNat s2) Q) : X d 65 123 [some (P 41), some (I v1)] [I s2, I s1, P 47] h Q :=
  s_iast c65_123 sh_47 ⟨H.1, s_iinc c65_124 rfl rfl rfl (s_goto 19 c65_127 (by decide) (H.2))⟩
theorem b65_153 {d : Nat} {h : HP} {Q : PV → HP → Prop} {v1 : Int} (H : X d 65 155 [some (P 41), some (I 0)] [] h Q) : X d 65 153 [some (P 41), some (I v1)] [] h Q :=
  s_iconst c65_153 rfl (s_istore_n c65_154 rfl (H))
theorem b65_155 {d : Nat} {h : HP} {Q : PV → HP → Prop} {v1 : Int} (H : (((h 12 1) ≤ v1) → X (d + 1) 65 214 [some (P 41), some (I 0)] [] h Q) ∧ (¬ ((h 12 1) ≤ v1) → ((0 ≤ v1 ∧ v1 < 20) ∧ ((0 ≤ v1 ∧ v1 < 20) ∧ ((0 ≤ v1 ∧ v1 < 20) ∧ X d 71 0 [some (P 44), some (I (h 13 v1.toNat)), some (I (h 14 v1.toNat)), some (I (h 43 v1.toNat))] [] h (fun _ h' => X (d + 1) 65 206 [some (P 41), some (I v1)] [] h' Q)))))) : X (d + 1) 65 155 [some (P 41), some (I v1)] [] h Q :=
  s_iload_n c65_155 rfl (s_aload_n c65_156 rfl (s_getP 1 c65_157 f65_18 t7_0 sh_41 g_41_0 (by decide) (by decide) (s_getP 12 c65_160 f65_93 t1_1 sh_1 g_1_1 (by decide) (by decide) (s_getI c65_163 f65_106 t2_1 sh_12 (s_ifc 212 ((h 12 1) ≤ v1) c65_166 (by decide) rfl ⟨fun q1 => s_iconst c65_212 rfl (s_istore_n c65_213 rfl ((H.1 q1))), fun q1 => s_aload_n c65_169 rfl (s_getP 44 c65_170 f65_27 t7_1 sh_41 g_41_1 (by decide) (by decide) (s_aload_n c65_173 rfl (s_getP 1 c65_174 f65_18 t7_0 sh_41 g_41_0 (by decide) (by decide) (s_getP 12 c65_177 f65_93 t1_1 sh_1 g_1_1 (by decide) (by decide) (s_getP 13 c65_180 f65_140 t2_2 sh_12 g_12_2 (by decide) (by decide) (s_iload_n c65_183 rfl (s_iald c65_184 sh_13 ⟨(H.2 q1).1, s_aload_n c65_185 rfl (s_getP 1 c65_186 f65_18 t7_0 sh_41 g_41_0 (by decide) (by decide) (s_getP 12 c65_189 f65_93 t1_1 sh_1 g_1_1 (by decide) (by decide) (s_getP 14 c65_192 f65_143 t2_3 sh_12 g_12_3 (by decide) (by decide) (s_iload_n c65_195 rfl (s_iald c65_196 sh_14 ⟨(H.2 q1).2.1, s_aload_n c65_197 rfl (s_getP 43 c65_198 f65_15 t7_13 sh_41 g_41_13 (by decide) (by decide) (s_iload_n c65_201 rfl (s_iald c65_202 sh_43 ⟨(H.2 q1).2.2.1, s_cVv c65_203 m65_177 F71 K71 rfl (Nat.le_of_ble_eq_true rfl) rfl S71_44 rfl (H.2 q1).2.2.2⟩)))⟩)))))⟩)))))))⟩)))))
theorem b65_17 {d : Nat} {h : HP} {Q : PV → HP → Prop} (H : X d 65 19 [some (P 41), some (I 0)] [] h Q) : X d 65 17 [some (P 41), none] [] h Q :=
  s_iconst c65_17 rfl (s_istore_n c65_18 rfl (H))
theorem b65_19 {d : Nat} {h : HP} {Q : PV → HP → Prop} {v1 : Int} (H : (((h 2 0) ≤ v1) → ((0 ≤ (h 41 10) ∧ (h 41 10) < 8) ∧ ((0 ≤ (h 41 10) ∧ (h 41 10) < 8) ∧ X d 66 0 [some (P 41), none] [] (up2 h 45 (h 41 10).toNat (w32 ((h 45 (h 41 10).toNat) + (h 41 11)))) (fun _ h' => X (d + 1) 65 153 [some (P 41), some (I v1)] [] h' Q)))) ∧ (¬ ((h 2 0) ≤ v1) → X d 9 0 [some (P 1), some (I v1), some (I (h 41 2)), some (I (h 41 3)), none] [] h (fun r h' => X (d + 1) 65 57 [some (P 41), some (I v1)] [r, I v1, P 45] h' Q))) : X (d + 1) 65 19 [some (P 41), some (I v1)] [] h Q :=
  s_iload_n c65_19 rfl (s_aload_n c65_20 rfl (s_getP 1 c65_21 f65_18 t7_0 sh_41 g_41_0 (by decide) (by decide) (s_getP 2 c65_24 f65_127 t1_0 sh_1 g_1_0 (by decide) (by decide) (s_getI c65_27 f65_131 t4_0 sh_2 (s_ifc 130 ((h 2 0) ≤ v1) c65_30 (by decide) rfl ⟨fun q2 => s_aload_n c65_130 rfl (s_getP 44 c65_131 f65_27 t7_1 sh_41 g_41_1 (by decide) (by decide) (s_getP 45 c65_134 f65_155 t9_2 sh_44 g_44_2 (by decide) (by decide) (s_aload_n c65_137 rfl (s_getI c65_138 f65_78 t7_10 sh_41 (s_dup2 c65_141 (s_iald c65_142 sh_45 ⟨(H.1 q2).1, s_aload_n c65_143 rfl (s_getI c65_144 f65_81 t7_11 sh_41 (s_iadd c65_147 (s_iast c65_148 sh_45 ⟨(H.1 q2).2.1, s_aload_n c65_149 rfl (s_cVv c65_150 m65_174 F66 K66 rfl (Nat.le_of_ble_eq_true rfl) rfl S66_41 rfl (H.1 q2).2.2)⟩)))⟩)))))), fun q2 => s_aload_n c65_33 rfl (s_getP 44 c65_34 f65_27 t7_1 sh_41 g_41_1 (by decide) (by decide) (s_getP 45 c65_37 f65_155 t9_2 sh_44 g_44_2 (by decide) (by decide) (s_iload_n c65_40 rfl (s_aload_n c65_41 rfl (s_getP 1 c65_42 f65_18 t7_0 sh_41 g_41_0 (by decide) (by decide) (s_iload_n c65_45 rfl (s_aload_n c65_46 rfl (s_getI c65_47 f65_42 t7_2 sh_41 (s_aload_n c65_50 rfl (s_getI c65_51 f65_48 t7_3 sh_41 (s_cVi c65_54 m65_158 F9 K9 rfl (Nat.le_of_ble_eq_true rfl) rfl S9_1 rfl (H.2 q2))))))))))))⟩)))))
theorem b65_206 {d : Nat} {h : HP} {Q : PV → HP → Prop} {v1 : Int} (H : X d 65 155 [some (P 41), some (I (w32 (v1 + 1)))] [] h Q) : X d 65 206 [some (P 41), some (I v1)] [] h Q :=
  s_iinc c65_206 rfl rfl rfl (s_goto 155 c65_209 (by decide) (H))
theorem b65_214 {d : Nat} {h : HP} {Q : PV → HP → Prop} {v1 : Int} (H : (((h 17 1) ≤ v1) → X d 73 0 [some (P 44), none, none, none, none] [] h (fun _ h' => X (d + 1) 65 298 [some (P 41), some (I v1)] [] h' Q)) ∧ (¬ ((h 17 1) ≤ v1) → ((((bAnd (bShr (h 41 8) v1) 1) = 0) → ((0 ≤ v1 ∧ v1 < 8) ∧ ((0 ≤ v1 ∧ v1 < 8) ∧ ((0 ≤ v1 ∧ v1 < 8) ∧ X d 72 0 [some (P 44), some (I (h 18 v1.toNat)), some (I (h 19 v1.toNat)), some (I (h 20 v1.toNat))] [] h (fun _ h' => X (d + 1) 65 285 [some (P 41), some (I v1)] [] h' Q))))) ∧ (¬ ((bAnd (bShr (h 41 8) v1) 1) = 0) → X (d + 1) 65 285 [some (P 41), some (I v1)] [] h Q)))) : X (d + 1) 65 214 [some (P 41), some (I v1)] [] h Q :=
  s_iload_n c65_214 rfl (s_aload_n c65_215 rfl (s_getP 1 c65_216 f65_18 t7_0 sh_41 g_41_0 (by decide) (by decide) (s_getP 17 c65_219 f65_103 t1_2 sh_1 g_1_2 (by decide) (by decide) (s_getI c65_222 f65_106 t2_1 sh_17 (s_ifc 291 ((h 17 1) ≤ v1) c65_225 (by decide) rfl ⟨fun q3 => s_aload_n c65_291 rfl (s_getP 44 c65_292 f65_27 t7_1 sh_41 g_41_1 (by decide) (by decide) (s_cVv c65_295 m65_184 F73 K73 rfl (Nat.le_of_ble_eq_true rfl) rfl S73_44 rfl (H.1 q3))), fun q3 => s_aload_n c65_228 rfl (s_getI c65_229 f65_100 t7_8 sh_41 (s_iload_n c65_232 rfl (s_ishr c65_233 (s_iconst c65_234 rfl (s_iand c65_235 (s_if 242 ((bAnd (bShr (h 41 8) v1) 1) = 0) c65_236 (by decide) rfl ⟨fun q4 => s_aload_n c65_242 rfl (s_getP 44 c65_243 f65_27 t7_1 sh_41 g_41_1 (by decide) (by decide) (s_aload_n c65_246 rfl (s_getP 1 c65_247 f65_18 t7_0 sh_41 g_41_0 (by decide) (by decide) (s_getP 17 c65_250 f65_103 t1_2 sh_1 g_1_2 (by decide) (by decide) (s_getP 18 c65_253 f65_140 t2_2 sh_17 g_17_2 (by decide) (by decide) (s_iload_n c65_256 rfl (s_iald c65_257 sh_18 ⟨((H.2 q3).1 q4).1, s_aload_n c65_258 rfl (s_getP 1 c65_259 f65_18 t7_0 sh_41 g_41_0 (by decide) (by decide) (s_getP 17 c65_262 f65_103 t1_2 sh_1 g_1_2 (by decide) (by decide) (s_getP 19 c65_265 f65_143 t2_3 sh_17 g_17_3 (by decide) (by decide) (s_iload_n c65_268 rfl (s_iald c65_269 sh_19 ⟨((H.2 q3).1 q4).2.1, s_aload_n c65_270 rfl (s_getP 1 c65_271 f65_18 t7_0 sh_41 g_41_0 (by decide) (by decide) (s_getP 17 c65_274 f65_103 t1_2 sh_1 g_1_2 (by decide) (by decide) (s_getP 20 c65_277 f65_97 t2_4 sh_17 g_17_4 (by decide) (by decide) (s_iload_n c65_280 rfl (s_iald c65_281 sh_20 ⟨((H.2 q3).1 q4).2.2.1, s_cVv c65_282 m65_181 F72 K72 rfl (Nat.le_of_ble_eq_true rfl) rfl S72_44 rfl ((H.2 q3).1 q4).2.2.2⟩)))))⟩)))))⟩))))))), fun q4 => s_goto 285 c65_239 (by decide) (((H.2 q3).2 q4))⟩))))))⟩)))))
theorem b65_285 {d : Nat} {h : HP} {Q : PV → HP → Prop} {v1 : Int} (H : X d 65 214 [some (P 41), some (I (w32 (v1 + 1)))] [] h Q) : X d 65 285 [some (P 41), some (I v1)] [] h Q :=
  s_iinc c65_285 rfl rfl rfl (s_goto 214 c65_288 (by decide) (H))
theorem b65_298 {d : Nat} {h : HP} {Q : PV → HP → Prop} {v1 : Int} (H : Q (I 0) h) : X d 65 298 [some (P 41), some (I v1)] [] h Q :=
  s_retV c65_298 R65 H
theorem b65_57 {d : Nat} {h : HP} {Q : PV → HP → Prop} {v1 s1 s2 : Int} (H : (0 ≤ s1 ∧ s1 < 8) ∧ X d 10 0 [some (P 1), some (I v1), some (I (h 41 3))] [] (up2 h 45 s1.toNat s2) (fun r h' => X (d + 1) 65 80 [some (P 41), some (I v1)] [r, I 100, I v1, P 46] h' Q)) : X (d + 1) 65 57 [some (P 41), some (I v1)] [I s2, I s1, P 45] h Q :=
  s_iast c65_57 sh_45 ⟨H.1, s_aload_n c65_58 rfl (s_getP 44 c65_59 f65_27 t7_1 sh_41 g_41_1 (by decide) (by decide) (s_getP 46 c65_62 f65_162 t9_3 sh_44 g_44_3 (by decide) (by decide) (s_iload_n c65_65 rfl (s_bipush c65_66 ⟨by decide, by decide⟩ (s_aload_n c65_68 rfl (s_getP 1 c65_69 f65_18 t7_0 sh_41 g_41_0 (by decide) (by decide) (s_iload_n c65_72 rfl (s_aload_n c65_73 rfl (s_getI c65_74 f65_48 t7_3 sh_41 (s_cVi c65_77 m65_165 F10 K10 rfl (Nat.le_of_ble_eq_true rfl) rfl S10_1 rfl H.2))))))))))⟩
theorem b65_80 {d : Nat} {h : HP} {Q : PV → HP → Prop} {v1 s1 s2 s3 : Int} (H : X d 225 0 [some (I s2), some (I (w32 (Int.tdiv (w32 (s3 * (h 41 5))) 100)))] [] h (fun r h' => X (d + 1) 65 91 [some (P 41), some (I v1)] [r, I s1, P 46] h' Q)) : X (d + 1) 65 80 [some (P 41), some (I v1)] [I s3, I s2, I s1, P 46] h Q :=
  s_aload_n c65_80 rfl (s_getI c65_81 f65_52 t7_5 sh_41 (s_imul c65_84 (s_bipush c65_85 ⟨by decide, by decide⟩ (s_idiv c65_87 (by decide) (s_cSi c65_88 m65_146 F225 K225 rfl (Nat.le_of_ble_eq_true rfl) rfl rfl H)))))
theorem b65_91 {d : Nat} {h : HP} {Q : PV → HP → Prop} {v1 s1 s2 : Int} (H : (0 ≤ s1 ∧ s1 < 8) ∧ ((((h 41 9) = 0) → ((0 ≤ v1 ∧ v1 < 8) ∧ X d 65 123 [some (P 41), some (I v1)] [I (h 9 v1.toNat), I v1, P 47] (up2 h 46 s1.toNat s2) Q)) ∧ (¬ ((h 41 9) = 0) → X d 65 123 [some (P 41), some (I v1)] [I 2, I v1, P 47] (up2 h 46 s1.toNat s2) Q))) : X d 65 91 [some (P 41), some (I v1)] [I s2, I s1, P 46] h Q :=
  s_iast c65_91 sh_46 ⟨H.1, s_aload_n c65_92 rfl (s_getP 44 c65_93 f65_27 t7_1 sh_41 g_41_1 (by decide) (by decide) (s_getP 47 c65_96 f65_168 t9_4 sh_44 g_44_4 (by decide) (by decide) (s_iload_n c65_99 rfl (s_aload_n c65_100 rfl (s_getZ c65_101 f65_74 t7_9 sh_41 (s_if 111 ((h 41 9) = 0) c65_104 (by decide) rfl ⟨fun q5 => s_aload_n c65_111 rfl (s_getP 1 c65_112 f65_18 t7_0 sh_41 g_41_0 (by decide) (by decide) (s_getP 2 c65_115 f65_127 t1_0 sh_1 g_1_0 (by decide) (by decide) (s_getP 9 c65_118 f65_171 t4_7 sh_2 g_2_7 (by decide) (by decide) (s_iload_n c65_121 rfl (s_iald c65_122 sh_9 ⟨(H.2.1 q5).1, (H.2.1 q5).2⟩))))), fun q5 => s_iconst c65_107 rfl (s_goto 123 c65_108 (by decide) ((H.2.2 q5)))⟩))))))⟩
-- WarmSide$Scene.warmthOf(I)I
theorem c62_0 : cdA 62 0 = some (.aload_n 0) := by decide +kernel
theorem c62_1 : cdA 62 1 = some (.invokevirtual 121) := by decide +kernel
theorem m62_121 : mthR (moN 62) 121 = 68 := by decide +kernel
theorem F65 : mF 65 0 2 true := by unfold mF; decide +kernel
theorem K65 : mK 65 = 4 := by decide +kernel
theorem S65_41 : SH0[41]? = some (.inl (moN 65)) := by decide +kernel
theorem c62_4 : cdA 62 4 = some (.aload_n 0) := by decide +kernel
theorem c62_5 : cdA 62 5 = some (.getfield 27) := by decide +kernel
theorem f62_27 : fldR (moN 62) 27 = some (7, 1) := by decide +kernel
theorem c62_8 : cdA 62 8 = some (.getfield 124) := by decide +kernel
theorem f62_124 : fldR (moN 62) 124 = some (9, 5) := by decide +kernel
theorem c62_11 : cdA 62 11 = some (.iload_n 1) := by decide +kernel
theorem c62_12 : cdA 62 12 = some (.iaload) := by decide +kernel
theorem c62_13 : cdA 62 13 = some (.ireturn) := by decide +kernel
theorem R62 : mK 62 = 0 := by decide +kernel
theorem b62_0 {d : Nat} {h : HP} {Q : PV → HP → Prop} {v1 : Int} (H : X d 65 0 [some (P 41), none] [] h (fun _ h' => X (d + 1) 62 4 [some (P 41), some (I v1)] [] h' Q)) : X (d + 1) 62 0 [some (P 41), some (I v1)] [] h Q :=
  s_aload_n c62_0 rfl (s_cVv c62_1 m62_121 F65 K65 rfl (Nat.le_of_ble_eq_true rfl) rfl S65_41 rfl H)
theorem b62_4 {d : Nat} {h : HP} {Q : PV → HP → Prop} {v1 : Int} (H : (0 ≤ v1 ∧ v1 < 8) ∧ Q (I (h 48 v1.toNat)) h) : X d 62 4 [some (P 41), some (I v1)] [] h Q :=
  s_aload_n c62_4 rfl (s_getP 44 c62_5 f62_27 t7_1 sh_41 g_41_1 (by decide) (by decide) (s_getP 48 c62_8 f62_124 t9_5 sh_44 g_44_5 (by decide) (by decide) (s_iload_n c62_11 rfl (s_iald c62_12 sh_48 ⟨H.1, s_retI c62_13 R62 H.2⟩))))
-- WarmSide$Scene.stretch(Z)V
theorem c60_0 : cdA 60 0 = some (.iload_n 1) := by decide +kernel
theorem c60_1 : cdA 60 1 = some (.ifCond .eq 7) := by decide +kernel
theorem c60_8 : cdA 60 8 = some (.iconst (-1)) := by decide +kernel
theorem c60_4 : cdA 60 4 = some (.iconst 1) := by decide +kernel
theorem c60_5 : cdA 60 5 = some (.goto 4) := by decide +kernel
theorem c60_9 : cdA 60 9 = some (.istore_n 2) := by decide +kernel
theorem c60_10 : cdA 60 10 = some (.aload_n 0) := by decide +kernel
theorem c60_11 : cdA 60 11 = some (.aload_n 0) := by decide +kernel
theorem c60_12 : cdA 60 12 = some (.getfield 42) := by decide +kernel
theorem f60_42 : fldR (moN 60) 42 = some (7, 2) := by decide +kernel
theorem c60_15 : cdA 60 15 = some (.bipush 100) := by decide +kernel
theorem c60_17 : cdA 60 17 = some (.iload_n 2) := by decide +kernel
theorem c60_18 : cdA 60 18 = some (.aload_n 0) := by decide +kernel
theorem c60_19 : cdA 60 19 = some (.getfield 18) := by decide +kernel
theorem f60_18 : fldR (moN 60) 18 = some (7, 0) := by decide +kernel
theorem c60_22 : cdA 60 22 = some (.getfield 31) := by decide +kernel
theorem f60_31 : fldR (moN 60) 31 = some (1, 5) := by decide +kernel
theorem c60_25 : cdA 60 25 = some (.getfield 118) := by decide +kernel
theorem f60_118 : fldR (moN 60) 118 = some (8, 4) := by decide +kernel
theorem t8_4 : fcl 8 4 = 2 := by decide +kernel
theorem c60_28 : cdA 60 28 = some (.iconst 0) := by decide +kernel
theorem c60_29 : cdA 60 29 = some (.iaload) := by decide +kernel
theorem c60_30 : cdA 60 30 = some (.imul) := by decide +kernel
theorem c60_31 : cdA 60 31 = some (.iadd) := by decide +kernel
theorem c60_32 : cdA 60 32 = some (.imul) := by decide +kernel
theorem c60_33 : cdA 60 33 = some (.bipush 100) := by decide +kernel
theorem c60_35 : cdA 60 35 = some (.idiv) := by decide +kernel
theorem c60_36 : cdA 60 36 = some (.putfield 42) := by decide +kernel
theorem c60_39 : cdA 60 39 = some (.aload_n 0) := by decide +kernel
theorem c60_40 : cdA 60 40 = some (.bipush 100) := by decide +kernel
theorem c60_42 : cdA 60 42 = some (.iload_n 2) := by decide +kernel
theorem c60_43 : cdA 60 43 = some (.aload_n 0) := by decide +kernel
theorem c60_44 : cdA 60 44 = some (.getfield 18) := by decide +kernel
theorem c60_47 : cdA 60 47 = some (.getfield 31) := by decide +kernel
theorem c60_50 : cdA 60 50 = some (.getfield 118) := by decide +kernel
theorem c60_53 : cdA 60 53 = some (.iconst 1) := by decide +kernel
theorem c60_54 : cdA 60 54 = some (.iaload) := by decide +kernel
theorem c60_55 : cdA 60 55 = some (.imul) := by decide +kernel
theorem c60_56 : cdA 60 56 = some (.iadd) := by decide +kernel
theorem c60_57 : cdA 60 57 = some (.putfield 49) := by decide +kernel
theorem f60_49 : fldR (moN 60) 49 = some (7, 4) := by decide +kernel
theorem c60_60 : cdA 60 60 = some (.aload_n 0) := by decide +kernel
theorem c60_61 : cdA 60 61 = some (.bipush 100) := by decide +kernel
theorem c60_63 : cdA 60 63 = some (.iload_n 2) := by decide +kernel
theorem c60_64 : cdA 60 64 = some (.aload_n 0) := by decide +kernel
theorem c60_65 : cdA 60 65 = some (.getfield 18) := by decide +kernel
theorem c60_68 : cdA 60 68 = some (.getfield 31) := by decide +kernel
theorem c60_71 : cdA 60 71 = some (.getfield 118) := by decide +kernel
theorem c60_74 : cdA 60 74 = some (.iconst 2) := by decide +kernel
theorem c60_75 : cdA 60 75 = some (.iaload) := by decide +kernel
theorem c60_76 : cdA 60 76 = some (.imul) := by decide +kernel
theorem c60_77 : cdA 60 77 = some (.isub) := by decide +kernel
theorem c60_78 : cdA 60 78 = some (.putfield 52) := by decide +kernel
theorem f60_52 : fldR (moN 60) 52 = some (7, 5) := by decide +kernel
theorem c60_81 : cdA 60 81 = some (.return_) := by decide +kernel
theorem R60 : mK 60 = 4 := by decide +kernel
theorem b60_0 {d : Nat} {h : HP} {Q : PV → HP → Prop} {v1 : Int} (H : ((v1 = 0) → X d 60 9 [some (P 41), some (I v1), none] [I (-1)] h Q) ∧ (¬ (v1 = 0) → X d 60 9 [some (P 41), some (I v1), none] [I 1] h Q)) : X d 60 0 [some (P 41), some (I v1), none] [] h Q :=
  s_iload_n c60_0 rfl (s_if 8 (v1 = 0) c60_1 (by decide) rfl ⟨fun q1 => s_iconst c60_8 rfl ((H.1 q1)), fun q1 => s_iconst c60_4 rfl (s_goto 9 c60_5 (by decide) ((H.2 q1)))⟩)
theorem b60_9 {d : Nat} {h : HP} {Q : PV → HP → Prop} {v1 s0 : Int} (H : Q (I 0) (up2 (up2 (up2 h 41 2 (w32 (Int.tdiv (w32 ((h 41 2) * (w32 (100 + (w32 (s0 * (h 35 0))))))) 100))) 41 4 (w32 (100 + (w32 (s0 * (h 35 1)))))) 41 5 (w32 (100 - (w32 (s0 * (h 35 2))))))) : X d 60 9 [some (P 41), some (I v1), none] [I s0] h Q :=
  s_istore_n c60_9 rfl (s_aload_n c60_10 rfl (s_aload_n c60_11 rfl (s_getI c60_12 f60_42 t7_2 sh_41 (s_bipush c60_15 ⟨by decide, by decide⟩ (s_iload_n c60_17 rfl (s_aload_n c60_18 rfl (s_getP 1 c60_19 f60_18 t7_0 sh_41 g_41_0 (by decide) (by decide) (s_getP 30 c60_22 f60_31 t1_5 sh_1 g_1_5 (by decide) (by decide) (s_getP 35 c60_25 f60_118 t8_4 sh_30 g_30_4 (by decide) (by decide) (s_iconst c60_28 rfl (s_iald c60_29 sh_35 ⟨⟨by decide, by decide⟩, (s_imul c60_30 (s_iadd c60_31 (s_imul c60_32 (s_bipush c60_33 ⟨by decide, by decide⟩ (s_idiv c60_35 (by decide) (s_putI c60_36 f60_42 t7_2 n7_2 sh_41 (s_aload_n c60_39 rfl (s_bipush c60_40 ⟨by decide, by decide⟩ (s_iload_n c60_42 rfl (s_aload_n c60_43 rfl (s_getP 1 c60_44 f60_18 t7_0 sh_41 g_41_0 (by decide) (by decide) (s_getP 30 c60_47 f60_31 t1_5 sh_1 g_1_5 (by decide) (by decide) (s_getP 35 c60_50 f60_118 t8_4 sh_30 g_30_4 (by decide) (by decide) (s_iconst c60_53 rfl (s_iald c60_54 sh_35 ⟨⟨by decide, by decide⟩, (s_imul c60_55 (s_iadd c60_56 (s_putI c60_57 f60_49 t7_4 n7_4 sh_41 (s_aload_n c60_60 rfl (s_bipush c60_61 ⟨by decide, by decide⟩ (s_iload_n c60_63 rfl (s_aload_n c60_64 rfl (s_getP 1 c60_65 f60_18 t7_0 sh_41 g_41_0 (by decide) (by decide) (s_getP 30 c60_68 f60_31 t1_5 sh_1 g_1_5 (by decide) (by decide) (s_getP 35 c60_71 f60_118 t8_4 sh_30 g_30_4 (by decide) (by decide) (s_iconst c60_74 rfl (s_iald c60_75 sh_35 ⟨⟨by decide, by decide⟩, (s_imul c60_76 (s_isub c60_77 (s_putI c60_78 f60_52 t7_5 n7_5 sh_41 (s_retV c60_81 R60 H))))⟩))))))))))))⟩)))))))))))))))⟩)))))))))))
-- WarmSide$Scene.only(I)V
theorem c59_0 : cdA 59 0 = some (.iload_n 1) := by decide +kernel
theorem c59_1 : cdA 59 1 = some (.iconst 1) := by decide +kernel
theorem c59_2 : cdA 59 2 = some (.iand) := by decide +kernel
theorem c59_3 : cdA 59 3 = some (.ifCond .ne 8) := by decide +kernel
theorem c59_6 : cdA 59 6 = some (.aload_n 0) := by decide +kernel
theorem c59_7 : cdA 59 7 = some (.iconst 0) := by decide +kernel
theorem c59_8 : cdA 59 8 = some (.putfield 42) := by decide +kernel
theorem f59_42 : fldR (moN 59) 42 = some (7, 2) := by decide +kernel
theorem c59_11 : cdA 59 11 = some (.iload_n 1) := by decide +kernel
theorem c59_12 : cdA 59 12 = some (.iconst 2) := by decide +kernel
theorem c59_13 : cdA 59 13 = some (.iand) := by decide +kernel
theorem c59_14 : cdA 59 14 = some (.ifCond .ne 8) := by decide +kernel
theorem c59_17 : cdA 59 17 = some (.aload_n 0) := by decide +kernel
theorem c59_18 : cdA 59 18 = some (.iconst 0) := by decide +kernel
theorem c59_19 : cdA 59 19 = some (.putfield 65) := by decide +kernel
theorem f59_65 : fldR (moN 59) 65 = some (7, 6) := by decide +kernel
theorem c59_22 : cdA 59 22 = some (.iload_n 1) := by decide +kernel
theorem c59_23 : cdA 59 23 = some (.iconst 4) := by decide +kernel
theorem c59_24 : cdA 59 24 = some (.iand) := by decide +kernel
theorem c59_25 : cdA 59 25 = some (.ifCond .ne 8) := by decide +kernel
theorem c59_33 : cdA 59 33 = some (.return_) := by decide +kernel
theorem R59 : mK 59 = 4 := by decide +kernel
theorem c59_28 : cdA 59 28 = some (.aload_n 0) := by decide +kernel
theorem c59_29 : cdA 59 29 = some (.iconst 0) := by decide +kernel
theorem c59_30 : cdA 59 30 = some (.putfield 71) := by decide +kernel
theorem f59_71 : fldR (moN 59) 71 = some (7, 7) := by decide +kernel
theorem b59_0 {d : Nat} {h : HP} {Q : PV → HP → Prop} {v1 : Int} (H : ((¬ (bAnd v1 1) = 0) → X d 59 11 [some (P 41), some (I v1)] [] h Q) ∧ (¬ (¬ (bAnd v1 1) = 0) → X d 59 11 [some (P 41), some (I v1)] [] (up2 h 41 2 0) Q)) : X d 59 0 [some (P 41), some (I v1)] [] h Q :=
  s_iload_n c59_0 rfl (s_iconst c59_1 rfl (s_iand c59_2 (s_if 11 (¬ (bAnd v1 1) = 0) c59_3 (by decide) rfl ⟨fun q1 => (H.1 q1), fun q1 => s_aload_n c59_6 rfl (s_iconst c59_7 rfl (s_putI c59_8 f59_42 t7_2 n7_2 sh_41 ((H.2 q1))))⟩)))
theorem b59_11 {d : Nat} {h : HP} {Q : PV → HP → Prop} {v1 : Int} (H : ((¬ (bAnd v1 2) = 0) → X d 59 22 [some (P 41), some (I v1)] [] h Q) ∧ (¬ (¬ (bAnd v1 2) = 0) → X d 59 22 [some (P 41), some (I v1)] [] (up2 h 41 6 0) Q)) : X d 59 11 [some (P 41), some (I v1)] [] h Q :=
  s_iload_n c59_11 rfl (s_iconst c59_12 rfl (s_iand c59_13 (s_if 22 (¬ (bAnd v1 2) = 0) c59_14 (by decide) rfl ⟨fun q2 => (H.1 q2), fun q2 => s_aload_n c59_17 rfl (s_iconst c59_18 rfl (s_putI c59_19 f59_65 t7_6 n7_6 sh_41 ((H.2 q2))))⟩)))
theorem b59_22 {d : Nat} {h : HP} {Q : PV → HP → Prop} {v1 : Int} (H : ((¬ (bAnd v1 4) = 0) → Q (I 0) h) ∧ (¬ (¬ (bAnd v1 4) = 0) → Q (I 0) (up2 h 41 7 0))) : X d 59 22 [some (P 41), some (I v1)] [] h Q :=
  s_iload_n c59_22 rfl (s_iconst c59_23 rfl (s_iand c59_24 (s_if 33 (¬ (bAnd v1 4) = 0) c59_25 (by decide) rfl ⟨fun q3 => s_retV c59_33 R59 (H.1 q3), fun q3 => s_aload_n c59_28 rfl (s_iconst c59_29 rfl (s_putI c59_30 f59_71 t7_7 n7_7 sh_41 (s_retV c59_33 R59 (H.2 q3))))⟩)))
-- WarmSide$Scene.inCan()V
theorem c58_0 : cdA 58 0 = some (.aload_n 0) := by decide +kernel
theorem c58_1 : cdA 58 1 = some (.iconst 0) := by decide +kernel
theorem c58_2 : cdA 58 2 = some (.invokevirtual 111) := by decide +kernel
theorem m58_111 : mthR (moN 58) 111 = 60 := by decide +kernel
theorem F57 : mF 57 1 3 true := by unfold mF; decide +kernel
theorem K57 : mK 57 = 4 := by decide +kernel
theorem S57_41 : SH0[41]? = some (.inl (moN 57)) := by decide +kernel
theorem c58_10 : cdA 58 10 = some (.aload_n 0) := by decide +kernel
theorem c58_11 : cdA 58 11 = some (.iconst 1) := by decide +kernel
theorem c58_12 : cdA 58 12 = some (.putfield 74) := by decide +kernel
theorem f58_74 : fldR (moN 58) 74 = some (7, 9) := by decide +kernel
theorem c58_15 : cdA 58 15 = some (.return_) := by decide +kernel
theorem R58 : mK 58 = 4 := by decide +kernel
theorem c58_5 : cdA 58 5 = some (.aload_n 0) := by decide +kernel
theorem c58_6 : cdA 58 6 = some (.iconst 0) := by decide +kernel
theorem c58_7 : cdA 58 7 = some (.invokevirtual 115) := by decide +kernel
theorem m58_115 : mthR (moN 58) 115 = 62 := by decide +kernel
theorem F59 : mF 59 1 2 true := by unfold mF; decide +kernel
theorem K59 : mK 59 = 4 := by decide +kernel
theorem S59_41 : SH0[41]? = some (.inl (moN 59)) := by decide +kernel
theorem b58_0 {d : Nat} {h : HP} {Q : PV → HP → Prop} (H : X d 57 0 [some (P 41), some (I 0), none] [] h (fun _ h' => X (d + 1) 58 5 [some (P 41)] [] h' Q)) : X (d + 1) 58 0 [some (P 41)] [] h Q :=
  s_aload_n c58_0 rfl (s_iconst c58_1 rfl (s_cVv c58_2 m58_111 F57 K57 rfl (Nat.le_of_ble_eq_true rfl) rfl S57_41 rfl H))
theorem b58_10 {d : Nat} {h : HP} {Q : PV → HP → Prop} (H : Q (I 0) (up2 h 41 9 1)) : X d 58 10 [some (P 41)] [] h Q :=
  s_aload_n c58_10 rfl (s_iconst c58_11 rfl (s_putZ c58_12 f58_74 t7_9 n7_9 sh_41 (by decide) (s_retV c58_15 R58 H)))
theorem b58_5 {d : Nat} {h : HP} {Q : PV → HP → Prop} (H : X d 59 0 [some (P 41), some (I 0)] [] h (fun _ h' => X (d + 1) 58 10 [some (P 41)] [] h' Q)) : X (d + 1) 58 5 [some (P 41)] [] h Q :=
  s_aload_n c58_5 rfl (s_iconst c58_6 rfl (s_cVv c58_7 m58_115 F59 K59 rfl (Nat.le_of_ble_eq_true rfl) rfl S59_41 rfl H))
-- WarmSide$Scene.putBoxes(IIII)Z
theorem c61_0 : cdA 61 0 = some (.iconst 0) := by decide +kernel
theorem c61_1 : cdA 61 1 = some (.istore 5) := by decide +kernel
theorem c61_3 : cdA 61 3 = some (.iconst 0) := by decide +kernel
theorem c61_4 : cdA 61 4 = some (.istore 6) := by decide +kernel
theorem c61_6 : cdA 61 6 = some (.iconst 0) := by decide +kernel
theorem c61_7 : cdA 61 7 = some (.istore 7) := by decide +kernel
theorem c61_86 : cdA 61 86 = some (.iinc 7 1) := by decide +kernel
theorem c61_89 : cdA 61 89 = some (.goto (-80)) := by decide +kernel
theorem c61_9 : cdA 61 9 = some (.iload 7) := by decide +kernel
theorem c61_11 : cdA 61 11 = some (.bipush 8) := by decide +kernel
theorem c61_13 : cdA 61 13 = some (.if_icmp .ge 79) := by decide +kernel
theorem c61_92 : cdA 61 92 = some (.iconst 1) := by decide +kernel
theorem c61_93 : cdA 61 93 = some (.ireturn) := by decide +kernel
theorem R61 : mK 61 = 3 := by decide +kernel
theorem c61_16 : cdA 61 16 = some (.iload 6) := by decide +kernel
theorem c61_18 : cdA 61 18 = some (.iload 4) := by decide +kernel
theorem c61_20 : cdA 61 20 = some (.if_icmp .ge 72) := by decide +kernel
theorem c61_23 : cdA 61 23 = some (.iload_n 1) := by decide +kernel
theorem c61_24 : cdA 61 24 = some (.iload 7) := by decide +kernel
theorem c61_26 : cdA 61 26 = some (.ishr) := by decide +kernel
theorem c61_27 : cdA 61 27 = some (.iconst 1) := by decide +kernel
theorem c61_28 : cdA 61 28 = some (.iand) := by decide +kernel
theorem c61_29 : cdA 61 29 = some (.ifCond .ne 6) := by decide +kernel
theorem c61_35 : cdA 61 35 = some (.iinc 6 1) := by decide +kernel
theorem c61_38 : cdA 61 38 = some (.iload_n 3) := by decide +kernel
theorem c61_39 : cdA 61 39 = some (.iconst 3) := by decide +kernel
theorem c61_40 : cdA 61 40 = some (.iload 4) := by decide +kernel
theorem c61_42 : cdA 61 42 = some (.iload 6) := by decide +kernel
theorem c61_44 : cdA 61 44 = some (.isub) := by decide +kernel
theorem c61_45 : cdA 61 45 = some (.imul) := by decide +kernel
theorem c61_46 : cdA 61 46 = some (.ishr) := by decide +kernel
theorem c61_47 : cdA 61 47 = some (.bipush 7) := by decide +kernel
theorem c61_49 : cdA 61 49 = some (.iand) := by decide +kernel
theorem c61_50 : cdA 61 50 = some (.istore 8) := by decide +kernel
theorem c61_52 : cdA 61 52 = some (.iload_n 2) := by decide +kernel
theorem c61_53 : cdA 61 53 = some (.iload 5) := by decide +kernel
theorem c61_55 : cdA 61 55 = some (.iconst (-1)) := by decide +kernel
theorem c61_56 : cdA 61 56 = some (.ixor) := by decide +kernel
theorem c61_57 : cdA 61 57 = some (.iand) := by decide +kernel
theorem c61_58 : cdA 61 58 = some (.iconst 1) := by decide +kernel
theorem c61_59 : cdA 61 59 = some (.iload 8) := by decide +kernel
theorem c61_61 : cdA 61 61 = some (.ishl) := by decide +kernel
theorem c61_62 : cdA 61 62 = some (.iand) := by decide +kernel
theorem c61_63 : cdA 61 63 = some (.ifCond .ne 5) := by decide +kernel
theorem c61_68 : cdA 61 68 = some (.iload 5) := by decide +kernel
theorem c61_70 : cdA 61 70 = some (.iconst 1) := by decide +kernel
theorem c61_71 : cdA 61 71 = some (.iload 8) := by decide +kernel
theorem c61_73 : cdA 61 73 = some (.ishl) := by decide +kernel
theorem c61_74 : cdA 61 74 = some (.ior) := by decide +kernel
theorem c61_75 : cdA 61 75 = some (.istore 5) := by decide +kernel
theorem c61_77 : cdA 61 77 = some (.aload_n 0) := by decide +kernel
theorem c61_78 : cdA 61 78 = some (.getfield 9) := by decide +kernel
theorem f61_9 : fldR (moN 61) 9 = some (7, 12) := by decide +kernel
theorem c61_81 : cdA 61 81 = some (.iload 7) := by decide +kernel
theorem c61_83 : cdA 61 83 = some (.iload 8) := by decide +kernel
theorem c61_85 : cdA 61 85 = some (.iastore) := by decide +kernel
theorem c61_66 : cdA 61 66 = some (.iconst 0) := by decide +kernel
theorem c61_67 : cdA 61 67 = some (.ireturn) := by decide +kernel
theorem c61_32 : cdA 61 32 = some (.goto 54) := by decide +kernel
theorem b61_0 {d : Nat} {h : HP} {Q : PV → HP → Prop} {v1 v2 v3 v4 : Int} (H : X d 61 9 [some (P 41), some (I v1), some (I v2), some (I v3), some (I v4), some (I 0), some (I 0), some (I 0), none] [] h Q) : X d 61 0 [some (P 41), some (I v1), some (I v2), some (I v3), some (I v4), none, none, none, none] [] h Q :=
  s_iconst c61_0 rfl (s_istore c61_1 rfl (s_iconst c61_3 rfl (s_istore c61_4 rfl (s_iconst c61_6 rfl (s_istore c61_7 rfl (H))))))
theorem b61_86 {d : Nat} {h : HP} {Q : PV → HP → Prop} {v1 v2 v3 v4 v5 v6 v7 : Int} (H : X d 61 9 [some (P 41), some (I v1), some (I v2), some (I v3), some (I v4), some (I v5), some (I v6), some (I (w32 (v7 + 1))), none] [] h Q) : X d 61 86 [some (P 41), some (I v1), some (I v2), some (I v3), some (I v4), some (I v5), some (I v6), some (I v7), none] [] h Q :=
  s_iinc c61_86 rfl rfl rfl (s_goto 9 c61_89 (by decide) (H))
theorem b61_9 {d : Nat} {h : HP} {Q : PV → HP → Prop} {v1 v2 v3 v4 v5 v6 v7 : Int} (H : ((8 ≤ v7) → Q (I 1) h) ∧ (¬ (8 ≤ v7) → (((v4 ≤ v6) → Q (I 1) h) ∧ (¬ (v4 ≤ v6) → (((¬ (bAnd (bShr v1 v7) 1) = 0) → (((¬ (bAnd (bAnd v2 (bXor v5 (-1))) (bShl 1 (bAnd (bShr v3 (w32 (3 * (w32 (v4 - (w32 (v6 + 1))))))) 7))) = 0) → ((0 ≤ v7 ∧ v7 < 8) ∧ X d 61 86 [some (P 41), some (I v1), some (I v2), some (I v3), some (I v4), some (I (bOr v5 (bShl 1 (bAnd (bShr v3 (w32 (3 * (w32 (v4 - (w32 (v6 + 1))))))) 7)))), some (I (w32 (v6 + 1))), some (I v7), none] [] (up2 h 42 v7.toNat (bAnd (bShr v3 (w32 (3 * (w32 (v4 - (w32 (v6 + 1))))))) 7)) Q)) ∧ (¬ (¬ (bAnd (bAnd v2 (bXor v5 (-1))) (bShl 1 (bAnd (bShr v3 (w32 (3 * (w32 (v4 - (w32 (v6 + 1))))))) 7))) = 0) → Q (I 0) h))) ∧ (¬ (¬ (bAnd (bShr v1 v7) 1) = 0) → X d 61 86 [some (P 41), some (I v1), some (I v2), some (I v3), some (I v4), some (I v5), some (I v6), some (I v7), none] [] h Q)))))) : X d 61 9 [some (P 41), some (I v1), some (I v2), some (I v3), some (I v4), some (I v5), some (I v6), some (I v7), none] [] h Q :=
  s_iload c61_9 rfl (s_bipush c61_11 ⟨by decide, by decide⟩ (s_ifc 92 (8 ≤ v7) c61_13 (by decide) rfl ⟨fun q1 => s_iconst c61_92 rfl (s_retZ c61_93 R61 ⟨by decide, (H.1 q1)⟩), fun q1 => s_iload c61_16 rfl (s_iload c61_18 rfl (s_ifc 92 (v4 ≤ v6) c61_20 (by decide) rfl ⟨fun q2 => s_iconst c61_92 rfl (s_retZ c61_93 R61 ⟨by decide, ((H.2 q1).1 q2)⟩), fun q2 => s_iload_n c61_23 rfl (s_iload c61_24 rfl (s_ishr c61_26 (s_iconst c61_27 rfl (s_iand c61_28 (s_if 35 (¬ (bAnd (bShr v1 v7) 1) = 0) c61_29 (by decide) rfl ⟨fun q3 => s_iinc c61_35 rfl rfl rfl (s_iload_n c61_38 rfl (s_iconst c61_39 rfl (s_iload c61_40 rfl (s_iload c61_42 rfl (s_isub c61_44 (s_imul c61_45 (s_ishr c61_46 (s_bipush c61_47 ⟨by decide, by decide⟩ (s_iand c61_49 (s_istore c61_50 rfl (s_iload_n c61_52 rfl (s_iload c61_53 rfl (s_iconst c61_55 rfl (s_ixor c61_56 (s_iand c61_57 (s_iconst c61_58 rfl (s_iload c61_59 rfl (s_ishl c61_61 (s_iand c61_62 (s_if 68 (¬ (bAnd (bAnd v2 (bXor v5 (-1))) (bShl 1 (bAnd (bShr v3 (w32 (3 * (w32 (v4 - (w32 (v6 + 1))))))) 7))) = 0) c61_63 (by decide) rfl ⟨fun q4 => s_iload c61_68 rfl (s_iconst c61_70 rfl (s_iload c61_71 rfl (s_ishl c61_73 (s_ior c61_74 (s_istore c61_75 rfl (s_aload_n c61_77 rfl (s_getP 42 c61_78 f61_9 t7_12 sh_41 g_41_12 (by decide) (by decide) (s_iload c61_81 rfl (s_iload c61_83 rfl (s_iast c61_85 sh_42 ⟨((((H.2 q1).2 q2).1 q3).1 q4).1, X_weak (A := [some (P 41), some (I v1), some (I v2), some (I v3), some (I v4), some (I (bOr v5 (bShl 1 (bAnd (bShr v3 (w32 (3 * (w32 (v4 - (w32 (v6 + 1))))))) 7)))), some (I (w32 (v6 + 1))), some (I v7), none]) (B := [some (P 41), some (I v1), some (I v2), some (I v3), some (I v4), some (I (bOr v5 (bShl 1 (bAnd (bShr v3 (w32 (3 * (w32 (v4 - (w32 (v6 + 1))))))) 7)))), some (I (w32 (v6 + 1))), some (I v7), some (I (bAnd (bShr v3 (w32 (3 * (w32 (v4 - (w32 (v6 + 1))))))) 7))]) ⟨Or.inl rfl, Or.inl rfl, Or.inl rfl, Or.inl rfl, Or.inl rfl, Or.inl rfl, Or.inl rfl, Or.inl rfl, Or.inr ⟨rfl, _, rfl, rfl⟩, trivial⟩ ((((H.2 q1).2 q2).1 q3).1 q4).2⟩)))))))))), fun q4 => s_iconst c61_66 rfl (s_retZ c61_67 R61 ⟨by decide, ((((H.2 q1).2 q2).1 q3).2 q4)⟩)⟩)))))))))))))))))))), fun q3 => s_goto 86 c61_32 (by decide) ((((H.2 q1).2 q2).2 q3))⟩)))))⟩))⟩))
-- WarmSide$Scene.hottest()I
theorem c63_0 : cdA 63 0 = some (.aload_n 0) := by decide +kernel
theorem c63_1 : cdA 63 1 = some (.invokevirtual 121) := by decide +kernel
theorem m63_121 : mthR (moN 63) 121 = 68 := by decide +kernel
theorem c63_35 : cdA 63 35 = some (.istore_n 1) := by decide +kernel
theorem c63_36 : cdA 63 36 = some (.iinc 2 1) := by decide +kernel
theorem c63_39 : cdA 63 39 = some (.goto (-31)) := by decide +kernel
theorem c63_4 : cdA 63 4 = some (.iconst 0) := by decide +kernel
theorem c63_5 : cdA 63 5 = some (.istore_n 1) := by decide +kernel
theorem c63_6 : cdA 63 6 = some (.iconst 0) := by decide +kernel
theorem c63_7 : cdA 63 7 = some (.istore_n 2) := by decide +kernel
theorem c63_8 : cdA 63 8 = some (.iload_n 2) := by decide +kernel
theorem c63_9 : cdA 63 9 = some (.aload_n 0) := by decide +kernel
theorem c63_10 : cdA 63 10 = some (.getfield 18) := by decide +kernel
theorem f63_18 : fldR (moN 63) 18 = some (7, 0) := by decide +kernel
theorem c63_13 : cdA 63 13 = some (.getfield 127) := by decide +kernel
theorem f63_127 : fldR (moN 63) 127 = some (1, 0) := by decide +kernel
theorem c63_16 : cdA 63 16 = some (.getfield 131) := by decide +kernel
theorem f63_131 : fldR (moN 63) 131 = some (4, 0) := by decide +kernel
theorem c63_19 : cdA 63 19 = some (.if_icmp .ge 23) := by decide +kernel
theorem c63_42 : cdA 63 42 = some (.iload_n 1) := by decide +kernel
theorem c63_43 : cdA 63 43 = some (.ireturn) := by decide +kernel
theorem R63 : mK 63 = 0 := by decide +kernel
theorem c63_22 : cdA 63 22 = some (.iload_n 1) := by decide +kernel
theorem c63_23 : cdA 63 23 = some (.aload_n 0) := by decide +kernel
theorem c63_24 : cdA 63 24 = some (.getfield 27) := by decide +kernel
theorem f63_27 : fldR (moN 63) 27 = some (7, 1) := by decide +kernel
theorem c63_27 : cdA 63 27 = some (.getfield 124) := by decide +kernel
theorem f63_124 : fldR (moN 63) 124 = some (9, 5) := by decide +kernel
theorem c63_30 : cdA 63 30 = some (.iload_n 2) := by decide +kernel
theorem c63_31 : cdA 63 31 = some (.iaload) := by decide +kernel
theorem c63_32 : cdA 63 32 = some (.invokestatic 134) := by decide +kernel
theorem m63_134 : mthR (moN 63) 134 = 227 := by decide +kernel
theorem b63_0 {d : Nat} {h : HP} {Q : PV → HP → Prop} (H : X d 65 0 [some (P 41), none] [] h (fun _ h' => X (d + 1) 63 4 [some (P 41), none, none] [] h' Q)) : X (d + 1) 63 0 [some (P 41), none, none] [] h Q :=
  s_aload_n c63_0 rfl (s_cVv c63_1 m63_121 F65 K65 rfl (Nat.le_of_ble_eq_true rfl) rfl S65_41 rfl H)
theorem b63_35 {d : Nat} {h : HP} {Q : PV → HP → Prop} {v1 v2 s0 : Int} (H : X d 63 8 [some (P 41), some (I s0), some (I (w32 (v2 + 1)))] [] h Q) : X d 63 35 [some (P 41), some (I v1), some (I v2)] [I s0] h Q :=
  s_istore_n c63_35 rfl (s_iinc c63_36 rfl rfl rfl (s_goto 8 c63_39 (by decide) (H)))
theorem b63_4 {d : Nat} {h : HP} {Q : PV → HP → Prop} (H : X d 63 8 [some (P 41), some (I 0), some (I 0)] [] h Q) : X d 63 4 [some (P 41), none, none] [] h Q :=
  s_iconst c63_4 rfl (s_istore_n c63_5 rfl (s_iconst c63_6 rfl (s_istore_n c63_7 rfl (H))))
theorem b63_8 {d : Nat} {h : HP} {Q : PV → HP → Prop} {v1 v2 : Int} (H : (((h 2 0) ≤ v2) → Q (I v1) h) ∧ (¬ ((h 2 0) ≤ v2) → ((0 ≤ v2 ∧ v2 < 8) ∧ X d 224 0 [some (I v1), some (I (h 48 v2.toNat))] [] h (fun r h' => X (d + 1) 63 35 [some (P 41), some (I v1), some (I v2)] [r] h' Q)))) : X (d + 1) 63 8 [some (P 41), some (I v1), some (I v2)] [] h Q :=
  s_iload_n c63_8 rfl (s_aload_n c63_9 rfl (s_getP 1 c63_10 f63_18 t7_0 sh_41 g_41_0 (by decide) (by decide) (s_getP 2 c63_13 f63_127 t1_0 sh_1 g_1_0 (by decide) (by decide) (s_getI c63_16 f63_131 t4_0 sh_2 (s_ifc 42 ((h 2 0) ≤ v2) c63_19 (by decide) rfl ⟨fun q1 => s_iload_n c63_42 rfl (s_retI c63_43 R63 (H.1 q1)), fun q1 => s_iload_n c63_22 rfl (s_aload_n c63_23 rfl (s_getP 44 c63_24 f63_27 t7_1 sh_41 g_41_1 (by decide) (by decide) (s_getP 48 c63_27 f63_124 t9_5 sh_44 g_44_5 (by decide) (by decide) (s_iload_n c63_30 rfl (s_iald c63_31 sh_48 ⟨(H.2 q1).1, s_cSi c63_32 m63_134 F224 K224 rfl (Nat.le_of_ble_eq_true rfl) rfl rfl (H.2 q1).2⟩)))))⟩)))))
-- WarmSide$Scene.thawOne()I
theorem c64_0 : cdA 64 0 = some (.aload_n 0) := by decide +kernel
theorem c64_1 : cdA 64 1 = some (.getfield 100) := by decide +kernel
theorem f64_100 : fldR (moN 64) 100 = some (7, 8) := by decide +kernel
theorem c64_4 : cdA 64 4 = some (.ifCond .ne 6) := by decide +kernel
theorem c64_10 : cdA 64 10 = some (.aload_n 0) := by decide +kernel
theorem c64_11 : cdA 64 11 = some (.invokevirtual 121) := by decide +kernel
theorem m64_121 : mthR (moN 64) 121 = 68 := by decide +kernel
theorem c64_7 : cdA 64 7 = some (.bipush (-9)) := by decide +kernel
theorem c64_9 : cdA 64 9 = some (.ireturn) := by decide +kernel
theorem R64 : mK 64 = 0 := by decide +kernel
theorem c64_121 : cdA 64 121 = some (.iinc 1 1) := by decide +kernel
theorem c64_124 : cdA 64 124 = some (.goto (-108)) := by decide +kernel
theorem c64_14 : cdA 64 14 = some (.iconst 0) := by decide +kernel
theorem c64_15 : cdA 64 15 = some (.istore_n 1) := by decide +kernel
theorem c64_16 : cdA 64 16 = some (.iload_n 1) := by decide +kernel
theorem c64_17 : cdA 64 17 = some (.aload_n 0) := by decide +kernel
theorem c64_18 : cdA 64 18 = some (.getfield 18) := by decide +kernel
theorem f64_18 : fldR (moN 64) 18 = some (7, 0) := by decide +kernel
theorem c64_21 : cdA 64 21 = some (.getfield 103) := by decide +kernel
theorem f64_103 : fldR (moN 64) 103 = some (1, 2) := by decide +kernel
theorem c64_24 : cdA 64 24 = some (.getfield 106) := by decide +kernel
theorem f64_106 : fldR (moN 64) 106 = some (2, 1) := by decide +kernel
theorem c64_27 : cdA 64 27 = some (.if_icmp .ge 100) := by decide +kernel
theorem c64_127 : cdA 64 127 = some (.bipush (-9)) := by decide +kernel
theorem c64_129 : cdA 64 129 = some (.ireturn) := by decide +kernel
theorem c64_30 : cdA 64 30 = some (.aload_n 0) := by decide +kernel
theorem c64_31 : cdA 64 31 = some (.getfield 100) := by decide +kernel
theorem c64_34 : cdA 64 34 = some (.iload_n 1) := by decide +kernel
theorem c64_35 : cdA 64 35 = some (.ishr) := by decide +kernel
theorem c64_36 : cdA 64 36 = some (.iconst 1) := by decide +kernel
theorem c64_37 : cdA 64 37 = some (.iand) := by decide +kernel
theorem c64_38 : cdA 64 38 = some (.ifCond .ne 6) := by decide +kernel
theorem c64_44 : cdA 64 44 = some (.aload_n 0) := by decide +kernel
theorem c64_45 : cdA 64 45 = some (.getfield 27) := by decide +kernel
theorem f64_27 : fldR (moN 64) 27 = some (7, 1) := by decide +kernel
theorem c64_48 : cdA 64 48 = some (.getfield 124) := by decide +kernel
theorem f64_124 : fldR (moN 64) 124 = some (9, 5) := by decide +kernel
theorem c64_51 : cdA 64 51 = some (.aload_n 0) := by decide +kernel
theorem c64_52 : cdA 64 52 = some (.getfield 18) := by decide +kernel
theorem c64_55 : cdA 64 55 = some (.getfield 103) := by decide +kernel
theorem c64_58 : cdA 64 58 = some (.getfield 140) := by decide +kernel
theorem f64_140 : fldR (moN 64) 140 = some (2, 2) := by decide +kernel
theorem c64_61 : cdA 64 61 = some (.iload_n 1) := by decide +kernel
theorem c64_62 : cdA 64 62 = some (.iaload) := by decide +kernel
theorem c64_63 : cdA 64 63 = some (.iaload) := by decide +kernel
theorem c64_64 : cdA 64 64 = some (.aload_n 0) := by decide +kernel
theorem c64_65 : cdA 64 65 = some (.getfield 27) := by decide +kernel
theorem c64_68 : cdA 64 68 = some (.getfield 124) := by decide +kernel
theorem c64_71 : cdA 64 71 = some (.aload_n 0) := by decide +kernel
theorem c64_72 : cdA 64 72 = some (.getfield 18) := by decide +kernel
theorem c64_75 : cdA 64 75 = some (.getfield 103) := by decide +kernel
theorem c64_78 : cdA 64 78 = some (.getfield 143) := by decide +kernel
theorem f64_143 : fldR (moN 64) 143 = some (2, 3) := by decide +kernel
theorem c64_81 : cdA 64 81 = some (.iload_n 1) := by decide +kernel
theorem c64_82 : cdA 64 82 = some (.iaload) := by decide +kernel
theorem c64_83 : cdA 64 83 = some (.iaload) := by decide +kernel
theorem c64_84 : cdA 64 84 = some (.invokestatic 146) := by decide +kernel
theorem m64_146 : mthR (moN 64) 146 = 228 := by decide +kernel
theorem c64_41 : cdA 64 41 = some (.goto 80) := by decide +kernel
theorem c64_87 : cdA 64 87 = some (.istore_n 2) := by decide +kernel
theorem c64_88 : cdA 64 88 = some (.iload_n 2) := by decide +kernel
theorem c64_89 : cdA 64 89 = some (.aload_n 0) := by decide +kernel
theorem c64_90 : cdA 64 90 = some (.getfield 18) := by decide +kernel
theorem c64_93 : cdA 64 93 = some (.getfield 31) := by decide +kernel
theorem f64_31 : fldR (moN 64) 31 = some (1, 5) := by decide +kernel
theorem c64_96 : cdA 64 96 = some (.getfield 149) := by decide +kernel
theorem f64_149 : fldR (moN 64) 149 = some (8, 6) := by decide +kernel
theorem t8_6 : fcl 8 6 = 0 := by decide +kernel
theorem c64_99 : cdA 64 99 = some (.if_icmp .ge 6) := by decide +kernel
theorem c64_105 : cdA 64 105 = some (.aload_n 0) := by decide +kernel
theorem c64_106 : cdA 64 106 = some (.dup) := by decide +kernel
theorem c64_107 : cdA 64 107 = some (.getfield 100) := by decide +kernel
theorem c64_110 : cdA 64 110 = some (.iconst 1) := by decide +kernel
theorem c64_111 : cdA 64 111 = some (.iload_n 1) := by decide +kernel
theorem c64_112 : cdA 64 112 = some (.ishl) := by decide +kernel
theorem c64_113 : cdA 64 113 = some (.iconst (-1)) := by decide +kernel
theorem c64_114 : cdA 64 114 = some (.ixor) := by decide +kernel
theorem c64_115 : cdA 64 115 = some (.iand) := by decide +kernel
theorem c64_116 : cdA 64 116 = some (.putfield 100) := by decide +kernel
theorem c64_119 : cdA 64 119 = some (.iload_n 1) := by decide +kernel
theorem c64_120 : cdA 64 120 = some (.ireturn) := by decide +kernel
theorem c64_102 : cdA 64 102 = some (.goto 19) := by decide +kernel
theorem b64_0 {d : Nat} {h : HP} {Q : PV → HP → Prop} (H : ((¬ (h 41 8) = 0) → X d 65 0 [some (P 41), none] [] h (fun _ h' => X (d + 1) 64 14 [some (P 41), none, none] [] h' Q)) ∧ (¬ (¬ (h 41 8) = 0) → Q (I (-9)) h)) : X (d + 1) 64 0 [some (P 41), none, none] [] h Q :=
  s_aload_n c64_0 rfl (s_getI c64_1 f64_100 t7_8 sh_41 (s_if 10 (¬ (h 41 8) = 0) c64_4 (by decide) rfl ⟨fun q1 => s_aload_n c64_10 rfl (s_cVv c64_11 m64_121 F65 K65 rfl (Nat.le_of_ble_eq_true rfl) rfl S65_41 rfl (H.1 q1)), fun q1 => s_bipush c64_7 ⟨by decide, by decide⟩ (s_retI c64_9 R64 (H.2 q1))⟩))
theorem b64_121 {d : Nat} {h : HP} {Q : PV → HP → Prop} {v1 : Int} (H : X d 64 16 [some (P 41), some (I (w32 (v1 + 1))), none] [] h Q) : X d 64 121 [some (P 41), some (I v1), none] [] h Q :=
  s_iinc c64_121 rfl rfl rfl (s_goto 16 c64_124 (by decide) (H))
theorem b64_14 {d : Nat} {h : HP} {Q : PV → HP → Prop} (H : X d 64 16 [some (P 41), some (I 0), none] [] h Q) : X d 64 14 [some (P 41), none, none] [] h Q :=
  s_iconst c64_14 rfl (s_istore_n c64_15 rfl (H))
theorem b64_16 {d : Nat} {h : HP} {Q : PV → HP → Prop} {v1 : Int} (H : (((h 17 1) ≤ v1) → Q (I (-9)) h) ∧ (¬ ((h 17 1) ≤ v1) → (((¬ (bAnd (bShr (h 41 8) v1) 1) = 0) → ((0 ≤ v1 ∧ v1 < 8) ∧ ((0 ≤ (h 18 v1.toNat) ∧ (h 18 v1.toNat) < 8) ∧ ((0 ≤ v1 ∧ v1 < 8) ∧ ((0 ≤ (h 19 v1.toNat) ∧ (h 19 v1.toNat) < 8) ∧ X d 225 0 [some (I (h 48 (h 18 v1.toNat).toNat)), some (I (h 48 (h 19 v1.toNat).toNat))] [] h (fun r h' => X (d + 1) 64 87 [some (P 41), some (I v1), none] [r] h' Q)))))) ∧ (¬ (¬ (bAnd (bShr (h 41 8) v1) 1) = 0) → X (d + 1) 64 121 [some (P 41), some (I v1), none] [] h Q)))) : X (d + 1) 64 16 [some (P 41), some (I v1), none] [] h Q :=
  s_iload_n c64_16 rfl (s_aload_n c64_17 rfl (s_getP 1 c64_18 f64_18 t7_0 sh_41 g_41_0 (by decide) (by decide) (s_getP 17 c64_21 f64_103 t1_2 sh_1 g_1_2 (by decide) (by decide) (s_getI c64_24 f64_106 t2_1 sh_17 (s_ifc 127 ((h 17 1) ≤ v1) c64_27 (by decide) rfl ⟨fun q2 => s_bipush c64_127 ⟨by decide, by decide⟩ (s_retI c64_129 R64 (H.1 q2)), fun q2 => s_aload_n c64_30 rfl (s_getI c64_31 f64_100 t7_8 sh_41 (s_iload_n c64_34 rfl (s_ishr c64_35 (s_iconst c64_36 rfl (s_iand c64_37 (s_if 44 (¬ (bAnd (bShr (h 41 8) v1) 1) = 0) c64_38 (by decide) rfl ⟨fun q3 => s_aload_n c64_44 rfl (s_getP 44 c64_45 f64_27 t7_1 sh_41 g_41_1 (by decide) (by decide) (s_getP 48 c64_48 f64_124 t9_5 sh_44 g_44_5 (by decide) (by decide) (s_aload_n c64_51 rfl (s_getP 1 c64_52 f64_18 t7_0 sh_41 g_41_0 (by decide) (by decide) (s_getP 17 c64_55 f64_103 t1_2 sh_1 g_1_2 (by decide) (by decide) (s_getP 18 c64_58 f64_140 t2_2 sh_17 g_17_2 (by decide) (by decide) (s_iload_n c64_61 rfl (s_iald c64_62 sh_18 ⟨((H.2 q2).1 q3).1, s_iald c64_63 sh_48 ⟨((H.2 q2).1 q3).2.1, s_aload_n c64_64 rfl (s_getP 44 c64_65 f64_27 t7_1 sh_41 g_41_1 (by decide) (by decide) (s_getP 48 c64_68 f64_124 t9_5 sh_44 g_44_5 (by decide) (by decide) (s_aload_n c64_71 rfl (s_getP 1 c64_72 f64_18 t7_0 sh_41 g_41_0 (by decide) (by decide) (s_getP 17 c64_75 f64_103 t1_2 sh_1 g_1_2 (by decide) (by decide) (s_getP 19 c64_78 f64_143 t2_3 sh_17 g_17_3 (by decide) (by decide) (s_iload_n c64_81 rfl (s_iald c64_82 sh_19 ⟨((H.2 q2).1 q3).2.2.1, s_iald c64_83 sh_48 ⟨((H.2 q2).1 q3).2.2.2.1, s_cSi c64_84 m64_146 F225 K225 rfl (Nat.le_of_ble_eq_true rfl) rfl rfl ((H.2 q2).1 q3).2.2.2.2⟩⟩))))))))⟩⟩)))))))), fun q3 => s_goto 121 c64_41 (by decide) (((H.2 q2).2 q3))⟩))))))⟩)))))
theorem b64_87 {d : Nat} {h : HP} {Q : PV → HP → Prop} {v1 s0 : Int} (H : (((h 30 6) ≤ s0) → Q (I v1) (up2 h 41 8 (bAnd (h 41 8) (bXor (bShl 1 v1) (-1))))) ∧ (¬ ((h 30 6) ≤ s0) → X d 64 121 [some (P 41), some (I v1), none] [] h Q)) : X d 64 87 [some (P 41), some (I v1), none] [I s0] h Q :=
  s_istore_n c64_87 rfl (s_iload_n c64_88 rfl (s_aload_n c64_89 rfl (s_getP 1 c64_90 f64_18 t7_0 sh_41 g_41_0 (by decide) (by decide) (s_getP 30 c64_93 f64_31 t1_5 sh_1 g_1_5 (by decide) (by decide) (s_getI c64_96 f64_149 t8_6 sh_30 (s_ifc 105 ((h 30 6) ≤ s0) c64_99 (by decide) rfl ⟨fun q4 => s_aload_n c64_105 rfl (s_dupP c64_106 (s_getI c64_107 f64_100 t7_8 sh_41 (s_iconst c64_110 rfl (s_iload_n c64_111 rfl (s_ishl c64_112 (s_iconst c64_113 rfl (s_ixor c64_114 (s_iand c64_115 (s_putI c64_116 f64_100 t7_8 n7_8 sh_41 (s_iload_n c64_119 rfl (s_retI c64_120 R64 (H.1 q4)))))))))))), fun q4 => s_goto 121 c64_102 (by decide) (X_weak (A := [some (P 41), some (I v1), none]) (B := [some (P 41), some (I v1), some (I s0)]) ⟨Or.inl rfl, Or.inl rfl, Or.inr ⟨rfl, _, rfl, rfl⟩, trivial⟩ (H.2 q4))⟩))))))
