/-! blocks of WarmSideModel, by program -/
-- WarmSideModel.isHeater(I)Z
theorem c158_0 : cdA 158 0 = some (.iload_n 1) := by decide +kernel
theorem c158_1 : cdA 158 1 = some (.ifCond .lt 15) := by decide +kernel
theorem c158_16 : cdA 158 16 = some (.iconst 0) := by decide +kernel
theorem c158_17 : cdA 158 17 = some (.ireturn) := by decide +kernel
theorem R158 : mK 158 = 3 := by decide +kernel
theorem c158_4 : cdA 158 4 = some (.iload_n 1) := by decide +kernel
theorem c158_5 : cdA 158 5 = some (.aload_n 0) := by decide +kernel
theorem c158_6 : cdA 158 6 = some (.getfield 232) := by decide +kernel
theorem f158_232 : fldR (moN 158) 232 = some (12, 30) := by decide +kernel
theorem c158_9 : cdA 158 9 = some (.if_icmp .ge 7) := by decide +kernel
theorem c158_12 : cdA 158 12 = some (.iconst 1) := by decide +kernel
theorem c158_13 : cdA 158 13 = some (.goto 4) := by decide +kernel
theorem b158_0 {d : Nat} {h : HP} {Q : PV → HP → Prop} {v1 : Int} (H : ((v1 < 0) → Q (I 0) h) ∧ (¬ (v1 < 0) → ((((h 69 30) ≤ v1) → Q (I 0) h) ∧ (¬ ((h 69 30) ≤ v1) → Q (I 1) h)))) : X d 158 0 [some (P 69), some (I v1)] [] h Q :=
  s_iload_n c158_0 rfl (s_if 16 (v1 < 0) c158_1 (by decide) rfl ⟨fun q1 => s_iconst c158_16 rfl (s_retZ c158_17 R158 ⟨by decide, (H.1 q1)⟩), fun q1 => s_iload_n c158_4 rfl (s_aload_n c158_5 rfl (s_getI c158_6 f158_232 t12_30 sh_69 (s_ifc 16 ((h 69 30) ≤ v1) c158_9 (by decide) rfl ⟨fun q2 => s_iconst c158_16 rfl (s_retZ c158_17 R158 ⟨by decide, ((H.2 q1).1 q2)⟩), fun q2 => s_iconst c158_12 rfl (s_goto 17 c158_13 (by decide) (s_retZ c158_17 R158 ⟨by decide, ((H.2 q1).2 q2)⟩))⟩)))⟩)
-- WarmSideModel.state(IZI)I
theorem c160_0 : cdA 160 0 = some (.iload_n 2) := by decide +kernel
theorem c160_1 : cdA 160 1 = some (.ifCond .eq 14) := by decide +kernel
theorem c160_15 : cdA 160 15 = some (.aload_n 0) := by decide +kernel
theorem c160_16 : cdA 160 16 = some (.iload_n 1) := by decide +kernel
theorem c160_17 : cdA 160 17 = some (.invokevirtual 235) := by decide +kernel
theorem m160_235 : mthR (moN 160) 235 = 161 := by decide +kernel
theorem F158 : mF 158 1 2 true := by unfold mF; decide +kernel
theorem K158 : ¬ mK 158 = 4 := by decide +kernel
theorem S158_69 : SH0[69]? = some (.inl (moN 158)) := by decide +kernel
theorem c160_4 : cdA 160 4 = some (.aload_n 0) := by decide +kernel
theorem c160_5 : cdA 160 5 = some (.iload_n 1) := by decide +kernel
theorem c160_6 : cdA 160 6 = some (.invokevirtual 191) := by decide +kernel
theorem m160_191 : mthR (moN 160) 191 = 139 := by decide +kernel
theorem c160_102 : cdA 160 102 = some (.iload_n 1) := by decide +kernel
theorem c160_103 : cdA 160 103 = some (.iload_n 2) := by decide +kernel
theorem c160_104 : cdA 160 104 = some (.ifCond .eq 26) := by decide +kernel
theorem c160_130 : cdA 160 130 = some (.iload_n 3) := by decide +kernel
theorem c160_107 : cdA 160 107 = some (.bipush 10) := by decide +kernel
theorem c160_109 : cdA 160 109 = some (.iload_n 3) := by decide +kernel
theorem c160_110 : cdA 160 110 = some (.iconst 3) := by decide +kernel
theorem c160_111 : cdA 160 111 = some (.if_icmp .ge 7) := by decide +kernel
theorem c160_118 : cdA 160 118 = some (.aload_n 0) := by decide +kernel
theorem c160_119 : cdA 160 119 = some (.getfield 28) := by decide +kernel
theorem f160_28 : fldR (moN 160) 28 = some (12, 6) := by decide +kernel
theorem c160_122 : cdA 160 122 = some (.iload_n 1) := by decide +kernel
theorem c160_123 : cdA 160 123 = some (.iaload) := by decide +kernel
theorem c160_114 : cdA 160 114 = some (.iload_n 3) := by decide +kernel
theorem c160_115 : cdA 160 115 = some (.goto 9) := by decide +kernel
theorem c160_124 : cdA 160 124 = some (.imul) := by decide +kernel
theorem c160_125 : cdA 160 125 = some (.iload_n 3) := by decide +kernel
theorem c160_126 : cdA 160 126 = some (.iadd) := by decide +kernel
theorem c160_127 : cdA 160 127 = some (.goto 4) := by decide +kernel
theorem c160_131 : cdA 160 131 = some (.invokevirtual 216) := by decide +kernel
theorem m160_216 : mthR (moN 160) 216 = 149 := by decide +kernel
theorem c160_134 : cdA 160 134 = some (.iload 4) := by decide +kernel
theorem c160_136 : cdA 160 136 = some (.ireturn) := by decide +kernel
theorem R160 : mK 160 = 0 := by decide +kernel
theorem c160_20 : cdA 160 20 = some (.ifCond .ne 9) := by decide +kernel
theorem c160_23 : cdA 160 23 = some (.aload_n 0) := by decide +kernel
theorem c160_24 : cdA 160 24 = some (.iconst (-1)) := by decide +kernel
theorem c160_25 : cdA 160 25 = some (.invokevirtual 187) := by decide +kernel
theorem m160_187 : mthR (moN 160) 187 = 138 := by decide +kernel
theorem c160_28 : cdA 160 28 = some (.ireturn) := by decide +kernel
theorem c160_29 : cdA 160 29 = some (.iload_n 2) := by decide +kernel
theorem c160_30 : cdA 160 30 = some (.ifCond .eq 19) := by decide +kernel
theorem c160_33 : cdA 160 33 = some (.aload_n 0) := by decide +kernel
theorem c160_34 : cdA 160 34 = some (.getfield 25) := by decide +kernel
theorem f160_25 : fldR (moN 160) 25 = some (12, 5) := by decide +kernel
theorem c160_37 : cdA 160 37 = some (.iload_n 1) := by decide +kernel
theorem c160_38 : cdA 160 38 = some (.iaload) := by decide +kernel
theorem c160_39 : cdA 160 39 = some (.ifCond .ge 10) := by decide +kernel
theorem c160_42 : cdA 160 42 = some (.aload_n 0) := by decide +kernel
theorem c160_43 : cdA 160 43 = some (.bipush (-3)) := by decide +kernel
theorem c160_45 : cdA 160 45 = some (.invokevirtual 187) := by decide +kernel
theorem c160_48 : cdA 160 48 = some (.ireturn) := by decide +kernel
theorem c160_49 : cdA 160 49 = some (.iload_n 3) := by decide +kernel
theorem c160_50 : cdA 160 50 = some (.iconst 0) := by decide +kernel
theorem c160_51 : cdA 160 51 = some (.iconst 3) := by decide +kernel
theorem c160_52 : cdA 160 52 = some (.invokestatic 183) := by decide +kernel
theorem m160_183 : mthR (moN 160) 183 = 137 := by decide +kernel
theorem c160_55 : cdA 160 55 = some (.ifCond .ne 10) := by decide +kernel
theorem c160_65 : cdA 160 65 = some (.iload_n 2) := by decide +kernel
theorem c160_66 : cdA 160 66 = some (.ifCond .eq 12) := by decide +kernel
theorem c160_78 : cdA 160 78 = some (.aload_n 0) := by decide +kernel
theorem c160_79 : cdA 160 79 = some (.getfield 86) := by decide +kernel
theorem f160_86 : fldR (moN 160) 86 = some (12, 29) := by decide +kernel
theorem c160_82 : cdA 160 82 = some (.iload_n 1) := by decide +kernel
theorem c160_83 : cdA 160 83 = some (.iaload) := by decide +kernel
theorem c160_69 : cdA 160 69 = some (.aload_n 0) := by decide +kernel
theorem c160_70 : cdA 160 70 = some (.getfield 25) := by decide +kernel
theorem c160_73 : cdA 160 73 = some (.iload_n 1) := by decide +kernel
theorem c160_74 : cdA 160 74 = some (.iaload) := by decide +kernel
theorem c160_75 : cdA 160 75 = some (.goto 9) := by decide +kernel
theorem c160_58 : cdA 160 58 = some (.aload_n 0) := by decide +kernel
theorem c160_59 : cdA 160 59 = some (.bipush (-2)) := by decide +kernel
theorem c160_61 : cdA 160 61 = some (.invokevirtual 187) := by decide +kernel
theorem c160_64 : cdA 160 64 = some (.ireturn) := by decide +kernel
theorem c160_84 : cdA 160 84 = some (.istore 4) := by decide +kernel
theorem c160_86 : cdA 160 86 = some (.iload 4) := by decide +kernel
theorem c160_88 : cdA 160 88 = some (.iload_n 3) := by decide +kernel
theorem c160_89 : cdA 160 89 = some (.if_icmp .eq 45) := by decide +kernel
theorem c160_92 : cdA 160 92 = some (.aload_n 0) := by decide +kernel
theorem c160_93 : cdA 160 93 = some (.iload_n 2) := by decide +kernel
theorem c160_94 : cdA 160 94 = some (.ifCond .eq 7) := by decide +kernel
theorem c160_101 : cdA 160 101 = some (.iconst 3) := by decide +kernel
theorem c160_97 : cdA 160 97 = some (.iconst 4) := by decide +kernel
theorem c160_98 : cdA 160 98 = some (.goto 4) := by decide +kernel
theorem c160_9 : cdA 160 9 = some (.ifCond .ne 20) := by decide +kernel
theorem c160_12 : cdA 160 12 = some (.goto 11) := by decide +kernel
theorem b160_0 {d : Nat} {h : HP} {Q : PV → HP → Prop} {v1 v2 v3 : Int} (H : ((v2 = 0) → X d 158 0 [some (P 69), some (I v1)] [] h (fun r h' => X (d + 1) 160 20 [some (P 69), some (I v1), some (I v2), some (I v3), none] [r] h' Q)) ∧ (¬ (v2 = 0) → X d 136 0 [some (P 69), some (I v1)] [] h (fun r h' => X (d + 1) 160 9 [some (P 69), some (I v1), some (I v2), some (I v3), none] [r] h' Q))) : X (d + 1) 160 0 [some (P 69), some (I v1), some (I v2), some (I v3), none] [] h Q :=
  s_iload_n c160_0 rfl (s_if 15 (v2 = 0) c160_1 (by decide) rfl ⟨fun q1 => s_aload_n c160_15 rfl (s_iload_n c160_16 rfl (s_cVi c160_17 m160_235 F158 K158 rfl (Nat.le_of_ble_eq_true rfl) rfl S158_69 rfl (H.1 q1))), fun q1 => s_aload_n c160_4 rfl (s_iload_n c160_5 rfl (s_cVi c160_6 m160_191 F136 K136 rfl (Nat.le_of_ble_eq_true rfl) rfl S136_69 rfl (H.2 q1)))⟩)
theorem b160_102 {d : Nat} {h : HP} {Q : PV → HP → Prop} {v1 v2 v3 v4 s1 : Int} (H : ((v2 = 0) → X d 160 131 [some (P 69), some (I v1), some (I v2), some (I v3), some (I v4)] [I v3, I v1, I s1, P 69] h Q) ∧ (¬ (v2 = 0) → (((3 ≤ v3) → ((0 ≤ v1 ∧ v1 < 8) ∧ X d 160 124 [some (P 69), some (I v1), some (I v2), some (I v3), some (I v4)] [I (h 76 v1.toNat), I 10, I v1, I s1, P 69] h Q)) ∧ (¬ (3 ≤ v3) → X d 160 124 [some (P 69), some (I v1), some (I v2), some (I v3), some (I v4)] [I v3, I 10, I v1, I s1, P 69] h Q)))) : X d 160 102 [some (P 69), some (I v1), some (I v2), some (I v3), some (I v4)] [I s1, P 69] h Q :=
  s_iload_n c160_102 rfl (s_iload_n c160_103 rfl (s_if 130 (v2 = 0) c160_104 (by decide) rfl ⟨fun q2 => s_iload_n c160_130 rfl ((H.1 q2)), fun q2 => s_bipush c160_107 ⟨by decide, by decide⟩ (s_iload_n c160_109 rfl (s_iconst c160_110 rfl (s_ifc 118 (3 ≤ v3) c160_111 (by decide) rfl ⟨fun q3 => s_aload_n c160_118 rfl (s_getP 76 c160_119 f160_28 t12_6 sh_69 g_69_6 (by decide) (by decide) (s_iload_n c160_122 rfl (s_iald c160_123 sh_76 ⟨((H.2 q2).1 q3).1, ((H.2 q2).1 q3).2⟩))), fun q3 => s_iload_n c160_114 rfl (s_goto 124 c160_115 (by decide) (((H.2 q2).2 q3)))⟩)))⟩))
theorem b160_124 {d : Nat} {h : HP} {Q : PV → HP → Prop} {v1 v2 v3 v4 s1 s2 s3 s4 : Int} (H : X d 160 131 [some (P 69), some (I v1), some (I v2), some (I v3), some (I v4)] [I (w32 ((w32 (s3 * s4)) + v3)), I s2, I s1, P 69] h Q) : X d 160 124 [some (P 69), some (I v1), some (I v2), some (I v3), some (I v4)] [I s4, I s3, I s2, I s1, P 69] h Q :=
  s_imul c160_124 (s_iload_n c160_125 rfl (s_iadd c160_126 (s_goto 131 c160_127 (by decide) (H))))
theorem b160_131 {d : Nat} {h : HP} {Q : PV → HP → Prop} {v1 v2 v3 v4 s1 s2 s3 : Int} (H : X d 146 0 [some (P 69), some (I s1), some (I s2), some (I s3), none, none] [] h (fun _ h' => X (d + 1) 160 134 [some (P 69), some (I v1), some (I v2), some (I v3), some (I v4)] [] h' Q)) : X (d + 1) 160 131 [some (P 69), some (I v1), some (I v2), some (I v3), some (I v4)] [I s3, I s2, I s1, P 69] h Q :=
  s_cVv c160_131 m160_216 F146 K146 rfl (Nat.le_of_ble_eq_true rfl) rfl S146_69 rfl H
theorem b160_134 {d : Nat} {h : HP} {Q : PV → HP → Prop} {v1 v2 v3 v4 : Int} (H : Q (I v4) h) : X d 160 134 [some (P 69), some (I v1), some (I v2), some (I v3), some (I v4)] [] h Q :=
  s_iload c160_134 rfl (s_retI c160_136 R160 H)
theorem b160_20 {d : Nat} {h : HP} {Q : PV → HP → Prop} {v1 v2 v3 s0 : Int} (H : ((¬ s0 = 0) → X d 160 29 [some (P 69), some (I v1), some (I v2), some (I v3), none] [] h Q) ∧ (¬ (¬ s0 = 0) → X d 160 23 [some (P 69), some (I v1), some (I v2), some (I v3), none] [] h Q)) : X d 160 20 [some (P 69), some (I v1), some (I v2), some (I v3), none] [I s0] h Q :=
  s_if 29 (¬ s0 = 0) c160_20 (by decide) rfl ⟨fun q4 => (H.1 q4), fun q4 => (H.2 q4)⟩
theorem b160_23 {d : Nat} {h : HP} {Q : PV → HP → Prop} {v1 v2 v3 : Int} (H : X d 135 0 [some (P 69), some (I (-1))] [] h (fun r h' => X (d + 1) 160 28 [some (P 69), some (I v1), some (I v2), some (I v3), none] [r] h' Q)) : X (d + 1) 160 23 [some (P 69), some (I v1), some (I v2), some (I v3), none] [] h Q :=
  s_aload_n c160_23 rfl (s_iconst c160_24 rfl (s_cVi c160_25 m160_187 F135 K135 rfl (Nat.le_of_ble_eq_true rfl) rfl S135_69 rfl H))
theorem b160_28 {d : Nat} {h : HP} {Q : PV → HP → Prop} {v1 v2 v3 s0 : Int} (H : Q (I s0) h) : X d 160 28 [some (P 69), some (I v1), some (I v2), some (I v3), none] [I s0] h Q :=
  s_retI c160_28 R160 H
theorem b160_29 {d : Nat} {h : HP} {Q : PV → HP → Prop} {v1 v2 v3 : Int} (H : ((v2 = 0) → X (d + 1) 160 49 [some (P 69), some (I v1), some (I v2), some (I v3), none] [] h Q) ∧ (¬ (v2 = 0) → ((0 ≤ v1 ∧ v1 < 8) ∧ (((0 ≤ (h 75 v1.toNat)) → X (d + 1) 160 49 [some (P 69), some (I v1), some (I v2), some (I v3), none] [] h Q) ∧ (¬ (0 ≤ (h 75 v1.toNat)) → X d 135 0 [some (P 69), some (I (-3))] [] h (fun r h' => X (d + 1) 160 48 [some (P 69), some (I v1), some (I v2), some (I v3), none] [r] h' Q)))))) : X (d + 1) 160 29 [some (P 69), some (I v1), some (I v2), some (I v3), none] [] h Q :=
  s_iload_n c160_29 rfl (s_if 49 (v2 = 0) c160_30 (by decide) rfl ⟨fun q5 => (H.1 q5), fun q5 => s_aload_n c160_33 rfl (s_getP 75 c160_34 f160_25 t12_5 sh_69 g_69_5 (by decide) (by decide) (s_iload_n c160_37 rfl (s_iald c160_38 sh_75 ⟨(H.2 q5).1, s_if 49 (0 ≤ (h 75 v1.toNat)) c160_39 (by decide) rfl ⟨fun q6 => ((H.2 q5).2.1 q6), fun q6 => s_aload_n c160_42 rfl (s_bipush c160_43 ⟨by decide, by decide⟩ (s_cVi c160_45 m160_187 F135 K135 rfl (Nat.le_of_ble_eq_true rfl) rfl S135_69 rfl ((H.2 q5).2.2 q6)))⟩⟩)))⟩)
theorem b160_48 {d : Nat} {h : HP} {Q : PV → HP → Prop} {v1 v2 v3 s0 : Int} (H : Q (I s0) h) : X d 160 48 [some (P 69), some (I v1), some (I v2), some (I v3), none] [I s0] h Q :=
  s_retI c160_48 R160 H
theorem b160_49 {d : Nat} {h : HP} {Q : PV → HP → Prop} {v1 v2 v3 : Int} (H : X d 134 0 [some (I v3), some (I 0), some (I 3)] [] h (fun r h' => X (d + 1) 160 55 [some (P 69), some (I v1), some (I v2), some (I v3), none] [r] h' Q)) : X (d + 1) 160 49 [some (P 69), some (I v1), some (I v2), some (I v3), none] [] h Q :=
  s_iload_n c160_49 rfl (s_iconst c160_50 rfl (s_iconst c160_51 rfl (s_cSi c160_52 m160_183 F134 K134 rfl (Nat.le_of_ble_eq_true rfl) rfl rfl H)))
theorem b160_55 {d : Nat} {h : HP} {Q : PV → HP → Prop} {v1 v2 v3 s0 : Int} (H : ((¬ s0 = 0) → (((v2 = 0) → ((0 ≤ v1 ∧ v1 < 4) ∧ X (d + 1) 160 84 [some (P 69), some (I v1), some (I v2), some (I v3), none] [I (h 95 v1.toNat)] h Q)) ∧ (¬ (v2 = 0) → ((0 ≤ v1 ∧ v1 < 8) ∧ X (d + 1) 160 84 [some (P 69), some (I v1), some (I v2), some (I v3), none] [I (h 75 v1.toNat)] h Q)))) ∧ (¬ (¬ s0 = 0) → X d 135 0 [some (P 69), some (I (-2))] [] h (fun r h' => X (d + 1) 160 64 [some (P 69), some (I v1), some (I v2), some (I v3), none] [r] h' Q))) : X (d + 1) 160 55 [some (P 69), some (I v1), some (I v2), some (I v3), none] [I s0] h Q :=
  s_if 65 (¬ s0 = 0) c160_55 (by decide) rfl ⟨fun q7 => s_iload_n c160_65 rfl (s_if 78 (v2 = 0) c160_66 (by decide) rfl ⟨fun q8 => s_aload_n c160_78 rfl (s_getP 95 c160_79 f160_86 t12_29 sh_69 g_69_29 (by decide) (by decide) (s_iload_n c160_82 rfl (s_iald c160_83 sh_95 ⟨((H.1 q7).1 q8).1, ((H.1 q7).1 q8).2⟩))), fun q8 => s_aload_n c160_69 rfl (s_getP 75 c160_70 f160_25 t12_5 sh_69 g_69_5 (by decide) (by decide) (s_iload_n c160_73 rfl (s_iald c160_74 sh_75 ⟨((H.1 q7).2 q8).1, s_goto 84 c160_75 (by decide) (((H.1 q7).2 q8).2)⟩)))⟩), fun q7 => s_aload_n c160_58 rfl (s_bipush c160_59 ⟨by decide, by decide⟩ (s_cVi c160_61 m160_187 F135 K135 rfl (Nat.le_of_ble_eq_true rfl) rfl S135_69 rfl (H.2 q7)))⟩
theorem b160_64 {d : Nat} {h : HP} {Q : PV → HP → Prop} {v1 v2 v3 s0 : Int} (H : Q (I s0) h) : X d 160 64 [some (P 69), some (I v1), some (I v2), some (I v3), none] [I s0] h Q :=
  s_retI c160_64 R160 H
theorem b160_84 {d : Nat} {h : HP} {Q : PV → HP → Prop} {v1 v2 v3 s0 : Int} (H : ((s0 = v3) → X d 160 134 [some (P 69), some (I v1), some (I v2), some (I v3), some (I s0)] [] h Q) ∧ (¬ (s0 = v3) → (((v2 = 0) → X d 160 102 [some (P 69), some (I v1), some (I v2), some (I v3), some (I s0)] [I 3, P 69] h Q) ∧ (¬ (v2 = 0) → X d 160 102 [some (P 69), some (I v1), some (I v2), some (I v3), some (I s0)] [I 4, P 69] h Q)))) : X d 160 84 [some (P 69), some (I v1), some (I v2), some (I v3), none] [I s0] h Q :=
  s_istore c160_84 rfl (s_iload c160_86 rfl (s_iload_n c160_88 rfl (s_ifc 134 (s0 = v3) c160_89 (by decide) rfl ⟨fun q9 => (H.1 q9), fun q9 => s_aload_n c160_92 rfl (s_iload_n c160_93 rfl (s_if 101 (v2 = 0) c160_94 (by decide) rfl ⟨fun q10 => s_iconst c160_101 rfl (((H.2 q9).1 q10)), fun q10 => s_iconst c160_97 rfl (s_goto 102 c160_98 (by decide) (((H.2 q9).2 q10)))⟩))⟩)))
theorem b160_9 {d : Nat} {h : HP} {Q : PV → HP → Prop} {v1 v2 v3 s0 : Int} (H : ((¬ s0 = 0) → X d 160 29 [some (P 69), some (I v1), some (I v2), some (I v3), none] [] h Q) ∧ (¬ (¬ s0 = 0) → X d 160 23 [some (P 69), some (I v1), some (I v2), some (I v3), none] [] h Q)) : X d 160 9 [some (P 69), some (I v1), some (I v2), some (I v3), none] [I s0] h Q :=
  s_if 29 (¬ s0 = 0) c160_9 (by decide) rfl ⟨fun q11 => (H.1 q11), fun q11 => s_goto 23 c160_12 (by decide) ((H.2 q11))⟩
-- WarmSideModel.feed(IJ)I
theorem c161_0 : cdA 161 0 = some (.iload_n 1) := by decide +kernel
theorem c161_1 : cdA 161 1 = some (.iconst 1) := by decide +kernel
theorem c161_2 : cdA 161 2 = some (.if_icmp .ge 10) := by decide +kernel
theorem c161_12 : cdA 161 12 = some (.iload_n 1) := by decide +kernel
theorem c161_13 : cdA 161 13 = some (.bipush 8) := by decide +kernel
theorem c161_15 : cdA 161 15 = some (.if_icmp .gt 14) := by decide +kernel
theorem c161_18 : cdA 161 18 = some (.aload_n 0) := by decide +kernel
theorem c161_19 : cdA 161 19 = some (.getfield 238) := by decide +kernel
theorem f161_238 : fldR (moN 161) 238 = some (12, 46) := by decide +kernel
theorem t12_46 : fcl 12 46 = 0 := by decide +kernel
theorem c161_22 : cdA 161 22 = some (.iload_n 1) := by decide +kernel
theorem c161_23 : cdA 161 23 = some (.iadd) := by decide +kernel
theorem c161_24 : cdA 161 24 = some (.bipush 40) := by decide +kernel
theorem c161_26 : cdA 161 26 = some (.if_icmp .le 10) := by decide +kernel
theorem c161_36 : cdA 161 36 = some (.iconst 0) := by decide +kernel
theorem c161_37 : cdA 161 37 = some (.istore 4) := by decide +kernel
theorem c161_5 : cdA 161 5 = some (.aload_n 0) := by decide +kernel
theorem c161_6 : cdA 161 6 = some (.bipush (-4)) := by decide +kernel
theorem c161_8 : cdA 161 8 = some (.invokevirtual 187) := by decide +kernel
theorem m161_187 : mthR (moN 161) 187 = 138 := by decide +kernel
theorem c161_11 : cdA 161 11 = some (.ireturn) := by decide +kernel
theorem R161 : mK 161 = 0 := by decide +kernel
theorem c161_29 : cdA 161 29 = some (.aload_n 0) := by decide +kernel
theorem c161_30 : cdA 161 30 = some (.bipush (-6)) := by decide +kernel
theorem c161_32 : cdA 161 32 = some (.invokevirtual 187) := by decide +kernel
theorem c161_35 : cdA 161 35 = some (.ireturn) := by decide +kernel
theorem c161_39 : cdA 161 39 = some (.iload 4) := by decide +kernel
theorem c161_41 : cdA 161 41 = some (.iload_n 1) := by decide +kernel
theorem c161_42 : cdA 161 42 = some (.if_icmp .ge 40) := by decide +kernel
theorem c161_82 : cdA 161 82 = some (.aload_n 0) := by decide +kernel
theorem c161_83 : cdA 161 83 = some (.getfield 238) := by decide +kernel
theorem c161_86 : cdA 161 86 = some (.ireturn) := by decide +kernel
theorem c161_45 : cdA 161 45 = some (.aload_n 0) := by decide +kernel
theorem c161_46 : cdA 161 46 = some (.getfield 111) := by decide +kernel
theorem f161_111 : fldR (moN 161) 111 = some (12, 45) := by decide +kernel
theorem t12_45 : fcl 12 45 = 2 := by decide +kernel
theorem c161_49 : cdA 161 49 = some (.aload_n 0) := by decide +kernel
theorem c161_50 : cdA 161 50 = some (.getfield 238) := by decide +kernel
theorem c161_53 : cdA 161 53 = some (.lload_n 2) := by decide +kernel
theorem c161_54 : cdA 161 54 = some (.bipush 8) := by decide +kernel
theorem c161_56 : cdA 161 56 = some (.iload 4) := by decide +kernel
theorem c161_58 : cdA 161 58 = some (.imul) := by decide +kernel
theorem c161_59 : cdA 161 59 = some (.lushr) := by decide +kernel
theorem c161_60 : cdA 161 60 = some (.ldc2_w 241) := by decide +kernel
theorem k161_241 : lcsR (moN 161) 241 = some 255 := by decide +kernel
theorem c161_63 : cdA 161 63 = some (.land) := by decide +kernel
theorem c161_64 : cdA 161 64 = some (.l2i) := by decide +kernel
theorem c161_65 : cdA 161 65 = some (.iastore) := by decide +kernel
theorem c161_66 : cdA 161 66 = some (.aload_n 0) := by decide +kernel
theorem c161_67 : cdA 161 67 = some (.dup) := by decide +kernel
theorem c161_68 : cdA 161 68 = some (.getfield 238) := by decide +kernel
theorem c161_71 : cdA 161 71 = some (.iconst 1) := by decide +kernel
theorem c161_72 : cdA 161 72 = some (.iadd) := by decide +kernel
theorem c161_73 : cdA 161 73 = some (.putfield 238) := by decide +kernel
theorem n12_46 : ffin 12 46 = false := by decide +kernel
theorem c161_76 : cdA 161 76 = some (.iinc 4 1) := by decide +kernel
theorem c161_79 : cdA 161 79 = some (.goto (-40)) := by decide +kernel
theorem b161_0 {d : Nat} {h : HP} {Q : PV → HP → Prop} {v1 v2 : Int} (H : ((1 ≤ v1) → (((8 < v1) → X (d + 1) 161 29 [some (P 69), some (I v1), some (J v2), none, none] [] h Q) ∧ (¬ (8 < v1) → ((((w32 ((h 69 46) + v1)) ≤ 40) → X (d + 1) 161 39 [some (P 69), some (I v1), some (J v2), none, some (I 0)] [] h Q) ∧ (¬ ((w32 ((h 69 46) + v1)) ≤ 40) → X (d + 1) 161 29 [some (P 69), some (I v1), some (J v2), none, none] [] h Q))))) ∧ (¬ (1 ≤ v1) → X d 135 0 [some (P 69), some (I (-4))] [] h (fun r h' => X (d + 1) 161 11 [some (P 69), some (I v1), some (J v2), none, none] [r] h' Q))) : X (d + 1) 161 0 [some (P 69), some (I v1), some (J v2), none, none] [] h Q :=
  s_iload_n c161_0 rfl (s_iconst c161_1 rfl (s_ifc 12 (1 ≤ v1) c161_2 (by decide) rfl ⟨fun q1 => s_iload_n c161_12 rfl (s_bipush c161_13 ⟨by decide, by decide⟩ (s_ifc 29 (8 < v1) c161_15 (by decide) rfl ⟨fun q2 => ((H.1 q1).1 q2), fun q2 => s_aload_n c161_18 rfl (s_getI c161_19 f161_238 t12_46 sh_69 (s_iload_n c161_22 rfl (s_iadd c161_23 (s_bipush c161_24 ⟨by decide, by decide⟩ (s_ifc 36 ((w32 ((h 69 46) + v1)) ≤ 40) c161_26 (by decide) rfl ⟨fun q3 => s_iconst c161_36 rfl (s_istore c161_37 rfl ((((H.1 q1).2 q2).1 q3))), fun q3 => (((H.1 q1).2 q2).2 q3)⟩)))))⟩)), fun q1 => s_aload_n c161_5 rfl (s_bipush c161_6 ⟨by decide, by decide⟩ (s_cVi c161_8 m161_187 F135 K135 rfl (Nat.le_of_ble_eq_true rfl) rfl S135_69 rfl (H.2 q1)))⟩))
theorem b161_11 {d : Nat} {h : HP} {Q : PV → HP → Prop} {v1 v2 s0 : Int} (H : Q (I s0) h) : X d 161 11 [some (P 69), some (I v1), some (J v2), none, none] [I s0] h Q :=
  s_retI c161_11 R161 H
theorem b161_29 {d : Nat} {h : HP} {Q : PV → HP → Prop} {v1 v2 : Int} (H : X d 135 0 [some (P 69), some (I (-6))] [] h (fun r h' => X (d + 1) 161 35 [some (P 69), some (I v1), some (J v2), none, none] [r] h' Q)) : X (d + 1) 161 29 [some (P 69), some (I v1), some (J v2), none, none] [] h Q :=
  s_aload_n c161_29 rfl (s_bipush c161_30 ⟨by decide, by decide⟩ (s_cVi c161_32 m161_187 F135 K135 rfl (Nat.le_of_ble_eq_true rfl) rfl S135_69 rfl H))
theorem b161_35 {d : Nat} {h : HP} {Q : PV → HP → Prop} {v1 v2 s0 : Int} (H : Q (I s0) h) : X d 161 35 [some (P 69), some (I v1), some (J v2), none, none] [I s0] h Q :=
  s_retI c161_35 R161 H
theorem b161_39 {d : Nat} {h : HP} {Q : PV → HP → Prop} {v1 v2 v4 : Int} (H : ((v1 ≤ v4) → Q (I (h 69 46)) h) ∧ (¬ (v1 ≤ v4) → ((0 ≤ (h 69 46) ∧ (h 69 46) < 40) ∧ X d 161 39 [some (P 69), some (I v1), some (J v2), none, some (I (w32 (v4 + 1)))] [] (up2 (up2 h 102 (h 69 46).toNat (w32 (lAnd (lUsh v2 (w32 (8 * v4))) 255))) 69 46 (w32 ((h 69 46) + 1))) Q))) : X d 161 39 [some (P 69), some (I v1), some (J v2), none, some (I v4)] [] h Q :=
  s_iload c161_39 rfl (s_iload_n c161_41 rfl (s_ifc 82 (v1 ≤ v4) c161_42 (by decide) rfl ⟨fun q4 => s_aload_n c161_82 rfl (s_getI c161_83 f161_238 t12_46 sh_69 (s_retI c161_86 R161 (H.1 q4))), fun q4 => s_aload_n c161_45 rfl (s_getP 102 c161_46 f161_111 t12_45 sh_69 g_69_45 (by decide) (by decide) (s_aload_n c161_49 rfl (s_getI c161_50 f161_238 t12_46 sh_69 (s_lload_n c161_53 rfl (s_bipush c161_54 ⟨by decide, by decide⟩ (s_iload c161_56 rfl (s_imul c161_58 (s_lushr c161_59 (s_ldc2 c161_60 k161_241 rfl (s_land c161_63 (s_l2i c161_64 (s_iast c161_65 sh_102 ⟨(H.2 q4).1, s_aload_n c161_66 rfl (s_dupP c161_67 (s_getI c161_68 f161_238 t12_46 sh_69 (s_iconst c161_71 rfl (s_iadd c161_72 (s_putI c161_73 f161_238 t12_46 n12_46 sh_69 (s_iinc c161_76 rfl rfl rfl (s_goto 39 c161_79 (by decide) ((H.2 q4).2))))))))⟩))))))))))))⟩))
-- WarmSideModel.byteAt()I
theorem c162_0 : cdA 162 0 = some (.aload_n 0) := by decide +kernel
theorem c162_1 : cdA 162 1 = some (.getfield 243) := by decide +kernel
theorem f162_243 : fldR (moN 162) 243 = some (12, 50) := by decide +kernel
theorem t12_50 : fcl 12 50 = 0 := by decide +kernel
theorem c162_4 : cdA 162 4 = some (.aload_n 0) := by decide +kernel
theorem c162_5 : cdA 162 5 = some (.getfield 246) := by decide +kernel
theorem f162_246 : fldR (moN 162) 246 = some (12, 51) := by decide +kernel
theorem t12_51 : fcl 12 51 = 0 := by decide +kernel
theorem c162_8 : cdA 162 8 = some (.if_icmp .ge 39) := by decide +kernel
theorem c162_47 : cdA 162 47 = some (.iconst 0) := by decide +kernel
theorem c162_48 : cdA 162 48 = some (.ireturn) := by decide +kernel
theorem R162 : mK 162 = 0 := by decide +kernel
theorem c162_11 : cdA 162 11 = some (.aload_n 0) := by decide +kernel
theorem c162_12 : cdA 162 12 = some (.getfield 249) := by decide +kernel
theorem f162_249 : fldR (moN 162) 249 = some (12, 49) := by decide +kernel
theorem t12_49 : fcl 12 49 = 0 := by decide +kernel
theorem c162_15 : cdA 162 15 = some (.ifCond .ge 15) := by decide +kernel
theorem c162_30 : cdA 162 30 = some (.aload_n 0) := by decide +kernel
theorem c162_31 : cdA 162 31 = some (.getfield 114) := by decide +kernel
theorem f162_114 : fldR (moN 162) 114 = some (12, 47) := by decide +kernel
theorem t12_47 : fcl 12 47 = 2 := by decide +kernel
theorem c162_34 : cdA 162 34 = some (.aload_n 0) := by decide +kernel
theorem c162_35 : cdA 162 35 = some (.getfield 249) := by decide +kernel
theorem c162_38 : cdA 162 38 = some (.aload_n 0) := by decide +kernel
theorem c162_39 : cdA 162 39 = some (.getfield 243) := by decide +kernel
theorem c162_42 : cdA 162 42 = some (.iadd) := by decide +kernel
theorem c162_43 : cdA 162 43 = some (.iaload) := by decide +kernel
theorem c162_44 : cdA 162 44 = some (.goto 4) := by decide +kernel
theorem c162_18 : cdA 162 18 = some (.aload_n 0) := by decide +kernel
theorem c162_19 : cdA 162 19 = some (.getfield 111) := by decide +kernel
theorem f162_111 : fldR (moN 162) 111 = some (12, 45) := by decide +kernel
theorem c162_22 : cdA 162 22 = some (.aload_n 0) := by decide +kernel
theorem c162_23 : cdA 162 23 = some (.getfield 243) := by decide +kernel
theorem c162_26 : cdA 162 26 = some (.iaload) := by decide +kernel
theorem c162_27 : cdA 162 27 = some (.goto 21) := by decide +kernel
theorem b162_0 {d : Nat} {h : HP} {Q : PV → HP → Prop} (H : (((h 69 51) ≤ (h 69 50)) → Q (I 0) h) ∧ (¬ ((h 69 51) ≤ (h 69 50)) → (((0 ≤ (h 69 49)) → ((0 ≤ (w32 ((h 69 49) + (h 69 50))) ∧ (w32 ((h 69 49) + (h 69 50))) < 480) ∧ Q (I (h 103 (w32 ((h 69 49) + (h 69 50))).toNat)) h)) ∧ (¬ (0 ≤ (h 69 49)) → ((0 ≤ (h 69 50) ∧ (h 69 50) < 40) ∧ Q (I (h 102 (h 69 50).toNat)) h))))) : X d 162 0 [some (P 69)] [] h Q :=
  s_aload_n c162_0 rfl (s_getI c162_1 f162_243 t12_50 sh_69 (s_aload_n c162_4 rfl (s_getI c162_5 f162_246 t12_51 sh_69 (s_ifc 47 ((h 69 51) ≤ (h 69 50)) c162_8 (by decide) rfl ⟨fun q1 => s_iconst c162_47 rfl (s_retI c162_48 R162 (H.1 q1)), fun q1 => s_aload_n c162_11 rfl (s_getI c162_12 f162_249 t12_49 sh_69 (s_if 30 (0 ≤ (h 69 49)) c162_15 (by decide) rfl ⟨fun q2 => s_aload_n c162_30 rfl (s_getP 103 c162_31 f162_114 t12_47 sh_69 g_69_47 (by decide) (by decide) (s_aload_n c162_34 rfl (s_getI c162_35 f162_249 t12_49 sh_69 (s_aload_n c162_38 rfl (s_getI c162_39 f162_243 t12_50 sh_69 (s_iadd c162_42 (s_iald c162_43 sh_103 ⟨((H.2 q1).1 q2).1, s_goto 48 c162_44 (by decide) (s_retI c162_48 R162 ((H.2 q1).1 q2).2)⟩))))))), fun q2 => s_aload_n c162_18 rfl (s_getP 102 c162_19 f162_111 t12_45 sh_69 g_69_45 (by decide) (by decide) (s_aload_n c162_22 rfl (s_getI c162_23 f162_243 t12_50 sh_69 (s_iald c162_26 sh_102 ⟨((H.2 q1).2 q2).1, s_goto 48 c162_27 (by decide) (s_retI c162_48 R162 ((H.2 q1).2 q2).2)⟩))))⟩))⟩))))
-- WarmSideModel.wrong()V
theorem c163_0 : cdA 163 0 = some (.aload_n 0) := by decide +kernel
theorem c163_1 : cdA 163 1 = some (.aload_n 0) := by decide +kernel
theorem c163_2 : cdA 163 2 = some (.getfield 252) := by decide +kernel
theorem f163_252 : fldR (moN 163) 252 = some (12, 52) := by decide +kernel
theorem t12_52 : fcl 12 52 = 0 := by decide +kernel
theorem c163_5 : cdA 163 5 = some (.ifCond .ge 10) := by decide +kernel
theorem c163_15 : cdA 163 15 = some (.aload_n 0) := by decide +kernel
theorem c163_16 : cdA 163 16 = some (.getfield 252) := by decide +kernel
theorem c163_19 : cdA 163 19 = some (.putfield 252) := by decide +kernel
theorem n12_52 : ffin 12 52 = false := by decide +kernel
theorem c163_22 : cdA 163 22 = some (.return_) := by decide +kernel
theorem R163 : mK 163 = 4 := by decide +kernel
theorem c163_8 : cdA 163 8 = some (.aload_n 0) := by decide +kernel
theorem c163_9 : cdA 163 9 = some (.getfield 243) := by decide +kernel
theorem f163_243 : fldR (moN 163) 243 = some (12, 50) := by decide +kernel
theorem c163_12 : cdA 163 12 = some (.goto 7) := by decide +kernel
theorem b163_0 {d : Nat} {h : HP} {Q : PV → HP → Prop} (H : ((0 ≤ (h 69 52)) → Q (I 0) (up2 h 69 52 (h 69 52))) ∧ (¬ (0 ≤ (h 69 52)) → Q (I 0) (up2 h 69 52 (h 69 50)))) : X d 163 0 [some (P 69)] [] h Q :=
  s_aload_n c163_0 rfl (s_aload_n c163_1 rfl (s_getI c163_2 f163_252 t12_52 sh_69 (s_if 15 (0 ≤ (h 69 52)) c163_5 (by decide) rfl ⟨fun q1 => s_aload_n c163_15 rfl (s_getI c163_16 f163_252 t12_52 sh_69 (s_putI c163_19 f163_252 t12_52 n12_52 sh_69 (s_retV c163_22 R163 (H.1 q1)))), fun q1 => s_aload_n c163_8 rfl (s_getI c163_9 f163_243 t12_50 sh_69 (s_goto 19 c163_12 (by decide) (s_putI c163_19 f163_252 t12_52 n12_52 sh_69 (s_retV c163_22 R163 (H.2 q1)))))⟩)))
-- WarmSideModel.takes(I)Z
theorem c164_0 : cdA 164 0 = some (.aload_n 0) := by decide +kernel
theorem c164_1 : cdA 164 1 = some (.getfield 252) := by decide +kernel
theorem f164_252 : fldR (moN 164) 252 = some (12, 52) := by decide +kernel
theorem c164_4 : cdA 164 4 = some (.ifCond .ge 11) := by decide +kernel
theorem c164_15 : cdA 164 15 = some (.iconst 0) := by decide +kernel
theorem c164_16 : cdA 164 16 = some (.ireturn) := by decide +kernel
theorem R164 : mK 164 = 3 := by decide +kernel
theorem c164_7 : cdA 164 7 = some (.aload_n 0) := by decide +kernel
theorem c164_8 : cdA 164 8 = some (.invokevirtual 255) := by decide +kernel
theorem m164_255 : mthR (moN 164) 255 = 165 := by decide +kernel
theorem F162 : mF 162 0 1 true := by unfold mF; decide +kernel
theorem K162 : ¬ mK 162 = 4 := by decide +kernel
theorem S162_69 : SH0[69]? = some (.inl (moN 162)) := by decide +kernel
theorem c164_11 : cdA 164 11 = some (.iload_n 1) := by decide +kernel
theorem c164_12 : cdA 164 12 = some (.if_icmp .eq 5) := by decide +kernel
theorem c164_17 : cdA 164 17 = some (.aload_n 0) := by decide +kernel
theorem c164_18 : cdA 164 18 = some (.dup) := by decide +kernel
theorem c164_19 : cdA 164 19 = some (.getfield 243) := by decide +kernel
theorem f164_243 : fldR (moN 164) 243 = some (12, 50) := by decide +kernel
theorem c164_22 : cdA 164 22 = some (.iconst 1) := by decide +kernel
theorem c164_23 : cdA 164 23 = some (.iadd) := by decide +kernel
theorem c164_24 : cdA 164 24 = some (.putfield 243) := by decide +kernel
theorem n12_50 : ffin 12 50 = false := by decide +kernel
theorem c164_27 : cdA 164 27 = some (.iconst 1) := by decide +kernel
theorem c164_28 : cdA 164 28 = some (.ireturn) := by decide +kernel
theorem b164_0 {d : Nat} {h : HP} {Q : PV → HP → Prop} {v1 : Int} (H : ((0 ≤ (h 69 52)) → Q (I 0) h) ∧ (¬ (0 ≤ (h 69 52)) → X d 162 0 [some (P 69)] [] h (fun r h' => X (d + 1) 164 11 [some (P 69), some (I v1)] [r] h' Q))) : X (d + 1) 164 0 [some (P 69), some (I v1)] [] h Q :=
  s_aload_n c164_0 rfl (s_getI c164_1 f164_252 t12_52 sh_69 (s_if 15 (0 ≤ (h 69 52)) c164_4 (by decide) rfl ⟨fun q1 => s_iconst c164_15 rfl (s_retZ c164_16 R164 ⟨by decide, (H.1 q1)⟩), fun q1 => s_aload_n c164_7 rfl (s_cVi c164_8 m164_255 F162 K162 rfl (Nat.le_of_ble_eq_true rfl) rfl S162_69 rfl (H.2 q1))⟩))
theorem b164_11 {d : Nat} {h : HP} {Q : PV → HP → Prop} {v1 s0 : Int} (H : ((s0 = v1) → Q (I 1) (up2 h 69 50 (w32 ((h 69 50) + 1)))) ∧ (¬ (s0 = v1) → Q (I 0) h)) : X d 164 11 [some (P 69), some (I v1)] [I s0] h Q :=
  s_iload_n c164_11 rfl (s_ifc 17 (s0 = v1) c164_12 (by decide) rfl ⟨fun q2 => s_aload_n c164_17 rfl (s_dupP c164_18 (s_getI c164_19 f164_243 t12_50 sh_69 (s_iconst c164_22 rfl (s_iadd c164_23 (s_putI c164_24 f164_243 t12_50 n12_50 sh_69 (s_iconst c164_27 rfl (s_retZ c164_28 R164 ⟨by decide, (H.1 q2)⟩))))))), fun q2 => s_iconst c164_15 rfl (s_retZ c164_16 R164 ⟨by decide, (H.2 q2)⟩)⟩)
-- WarmSideModel.isDigit()Z
theorem c165_0 : cdA 165 0 = some (.aload_n 0) := by decide +kernel
theorem c165_1 : cdA 165 1 = some (.getfield 252) := by decide +kernel
theorem f165_252 : fldR (moN 165) 252 = some (12, 52) := by decide +kernel
theorem c165_4 : cdA 165 4 = some (.ifCond .ge 21) := by decide +kernel
theorem c165_25 : cdA 165 25 = some (.iconst 0) := by decide +kernel
theorem c165_26 : cdA 165 26 = some (.ireturn) := by decide +kernel
theorem R165 : mK 165 = 3 := by decide +kernel
theorem c165_7 : cdA 165 7 = some (.aload_n 0) := by decide +kernel
theorem c165_8 : cdA 165 8 = some (.invokevirtual 255) := by decide +kernel
theorem m165_255 : mthR (moN 165) 255 = 165 := by decide +kernel
theorem c165_11 : cdA 165 11 = some (.bipush 48) := by decide +kernel
theorem c165_13 : cdA 165 13 = some (.bipush 57) := by decide +kernel
theorem c165_15 : cdA 165 15 = some (.invokestatic 183) := by decide +kernel
theorem m165_183 : mthR (moN 165) 183 = 137 := by decide +kernel
theorem c165_18 : cdA 165 18 = some (.ifCond .eq 7) := by decide +kernel
theorem c165_21 : cdA 165 21 = some (.iconst 1) := by decide +kernel
theorem c165_22 : cdA 165 22 = some (.goto 4) := by decide +kernel
theorem b165_0 {d : Nat} {h : HP} {Q : PV → HP → Prop} (H : ((0 ≤ (h 69 52)) → Q (I 0) h) ∧ (¬ (0 ≤ (h 69 52)) → X d 162 0 [some (P 69)] [] h (fun r h' => X (d + 1) 165 11 [some (P 69)] [r] h' Q))) : X (d + 1) 165 0 [some (P 69)] [] h Q :=
  s_aload_n c165_0 rfl (s_getI c165_1 f165_252 t12_52 sh_69 (s_if 25 (0 ≤ (h 69 52)) c165_4 (by decide) rfl ⟨fun q1 => s_iconst c165_25 rfl (s_retZ c165_26 R165 ⟨by decide, (H.1 q1)⟩), fun q1 => s_aload_n c165_7 rfl (s_cVi c165_8 m165_255 F162 K162 rfl (Nat.le_of_ble_eq_true rfl) rfl S162_69 rfl (H.2 q1))⟩))
theorem b165_11 {d : Nat} {h : HP} {Q : PV → HP → Prop} {s0 : Int} (H : X d 134 0 [some (I s0), some (I 48), some (I 57)] [] h (fun r h' => X (d + 1) 165 18 [some (P 69)] [r] h' Q)) : X (d + 1) 165 11 [some (P 69)] [I s0] h Q :=
  s_bipush c165_11 ⟨by decide, by decide⟩ (s_bipush c165_13 ⟨by decide, by decide⟩ (s_cSi c165_15 m165_183 F134 K134 rfl (Nat.le_of_ble_eq_true rfl) rfl rfl H))
theorem b165_18 {d : Nat} {h : HP} {Q : PV → HP → Prop} {s0 : Int} (H : ((s0 = 0) → Q (I 0) h) ∧ (¬ (s0 = 0) → Q (I 1) h)) : X d 165 18 [some (P 69)] [I s0] h Q :=
  s_if 25 (s0 = 0) c165_18 (by decide) rfl ⟨fun q2 => s_iconst c165_25 rfl (s_retZ c165_26 R165 ⟨by decide, (H.1 q2)⟩), fun q2 => s_iconst c165_21 rfl (s_goto 26 c165_22 (by decide) (s_retZ c165_26 R165 ⟨by decide, (H.2 q2)⟩))⟩
-- WarmSideModel.fact()I
theorem c169_0 : cdA 169 0 = some (.aload_n 0) := by decide +kernel
theorem c169_1 : cdA 169 1 = some (.bipush 115) := by decide +kernel
theorem c169_3 : cdA 169 3 = some (.invokevirtual 263) := by decide +kernel
theorem m169_263 : mthR (moN 169) 263 = 167 := by decide +kernel
theorem F164 : mF 164 1 2 true := by unfold mF; decide +kernel
theorem K164 : ¬ mK 164 = 4 := by decide +kernel
theorem S164_69 : SH0[69]? = some (.inl (moN 164)) := by decide +kernel
theorem c169_20 : cdA 169 20 = some (.ifCond .eq 8) := by decide +kernel
theorem c169_28 : cdA 169 28 = some (.aload_n 0) := by decide +kernel
theorem c169_29 : cdA 169 29 = some (.bipush 119) := by decide +kernel
theorem c169_31 : cdA 169 31 = some (.invokevirtual 263) := by decide +kernel
theorem c169_23 : cdA 169 23 = some (.aload_n 0) := by decide +kernel
theorem c169_24 : cdA 169 24 = some (.getfield 286) := by decide +kernel
theorem f169_286 : fldR (moN 169) 286 = some (12, 56) := by decide +kernel
theorem t12_56 : fcl 12 56 = 0 := by decide +kernel
theorem c169_27 : cdA 169 27 = some (.ireturn) := by decide +kernel
theorem R169 : mK 169 = 0 := by decide +kernel
theorem c169_34 : cdA 169 34 = some (.ifCond .eq 10) := by decide +kernel
theorem c169_37 : cdA 169 37 = some (.aload_n 0) := by decide +kernel
theorem c169_38 : cdA 169 38 = some (.invokevirtual 289) := by decide +kernel
theorem m169_289 : mthR (moN 169) 289 = 168 := by decide +kernel
theorem F165 : mF 165 0 1 true := by unfold mF; decide +kernel
theorem K165 : ¬ mK 165 = 4 := by decide +kernel
theorem S165_69 : SH0[69]? = some (.inl (moN 165)) := by decide +kernel
theorem c169_41 : cdA 169 41 = some (.ifCond .ne 9) := by decide +kernel
theorem c169_50 : cdA 169 50 = some (.aload_n 0) := by decide +kernel
theorem c169_51 : cdA 169 51 = some (.invokevirtual 255) := by decide +kernel
theorem m169_255 : mthR (moN 169) 255 = 165 := by decide +kernel
theorem c169_44 : cdA 169 44 = some (.aload_n 0) := by decide +kernel
theorem c169_45 : cdA 169 45 = some (.invokevirtual 271) := by decide +kernel
theorem m169_271 : mthR (moN 169) 271 = 166 := by decide +kernel
theorem F163 : mF 163 0 1 true := by unfold mF; decide +kernel
theorem K163 : mK 163 = 4 := by decide +kernel
theorem S163_69 : SH0[69]? = some (.inl (moN 163)) := by decide +kernel
theorem c169_48 : cdA 169 48 = some (.iconst 0) := by decide +kernel
theorem c169_49 : cdA 169 49 = some (.ireturn) := by decide +kernel
theorem c169_54 : cdA 169 54 = some (.bipush 48) := by decide +kernel
theorem c169_56 : cdA 169 56 = some (.isub) := by decide +kernel
theorem c169_57 : cdA 169 57 = some (.istore_n 1) := by decide +kernel
theorem c169_58 : cdA 169 58 = some (.aload_n 0) := by decide +kernel
theorem c169_59 : cdA 169 59 = some (.dup) := by decide +kernel
theorem c169_60 : cdA 169 60 = some (.getfield 243) := by decide +kernel
theorem f169_243 : fldR (moN 169) 243 = some (12, 50) := by decide +kernel
theorem c169_63 : cdA 169 63 = some (.iconst 1) := by decide +kernel
theorem c169_64 : cdA 169 64 = some (.iadd) := by decide +kernel
theorem c169_65 : cdA 169 65 = some (.putfield 243) := by decide +kernel
theorem c169_68 : cdA 169 68 = some (.aload_n 0) := by decide +kernel
theorem c169_69 : cdA 169 69 = some (.iload_n 1) := by decide +kernel
theorem c169_70 : cdA 169 70 = some (.invokevirtual 191) := by decide +kernel
theorem m169_191 : mthR (moN 169) 191 = 139 := by decide +kernel
theorem c169_6 : cdA 169 6 = some (.ifCond .eq 8) := by decide +kernel
theorem c169_14 : cdA 169 14 = some (.aload_n 0) := by decide +kernel
theorem c169_15 : cdA 169 15 = some (.bipush 104) := by decide +kernel
theorem c169_17 : cdA 169 17 = some (.invokevirtual 263) := by decide +kernel
theorem c169_9 : cdA 169 9 = some (.aload_n 0) := by decide +kernel
theorem c169_10 : cdA 169 10 = some (.getfield 283) := by decide +kernel
theorem f169_283 : fldR (moN 169) 283 = some (12, 55) := by decide +kernel
theorem t12_55 : fcl 12 55 = 0 := by decide +kernel
theorem c169_13 : cdA 169 13 = some (.ireturn) := by decide +kernel
theorem c169_73 : cdA 169 73 = some (.ifCond .eq 12) := by decide +kernel
theorem c169_85 : cdA 169 85 = some (.iconst 0) := by decide +kernel
theorem c169_86 : cdA 169 86 = some (.ireturn) := by decide +kernel
theorem c169_76 : cdA 169 76 = some (.aload_n 0) := by decide +kernel
theorem c169_77 : cdA 169 77 = some (.getfield 120) := by decide +kernel
theorem f169_120 : fldR (moN 169) 120 = some (12, 54) := by decide +kernel
theorem t12_54 : fcl 12 54 = 2 := by decide +kernel
theorem c169_80 : cdA 169 80 = some (.iload_n 1) := by decide +kernel
theorem c169_81 : cdA 169 81 = some (.iaload) := by decide +kernel
theorem c169_82 : cdA 169 82 = some (.goto 4) := by decide +kernel
theorem b169_0 {d : Nat} {h : HP} {Q : PV → HP → Prop} (H : X d 164 0 [some (P 69), some (I 115)] [] h (fun r h' => X (d + 1) 169 6 [some (P 69), none] [r] h' Q)) : X (d + 1) 169 0 [some (P 69), none] [] h Q :=
  s_aload_n c169_0 rfl (s_bipush c169_1 ⟨by decide, by decide⟩ (s_cVi c169_3 m169_263 F164 K164 rfl (Nat.le_of_ble_eq_true rfl) rfl S164_69 rfl H))
theorem b169_20 {d : Nat} {h : HP} {Q : PV → HP → Prop} {s0 : Int} (H : ((s0 = 0) → X d 164 0 [some (P 69), some (I 119)] [] h (fun r h' => X (d + 1) 169 34 [some (P 69), none] [r] h' Q)) ∧ (¬ (s0 = 0) → Q (I (h 69 56)) h)) : X (d + 1) 169 20 [some (P 69), none] [I s0] h Q :=
  s_if 28 (s0 = 0) c169_20 (by decide) rfl ⟨fun q1 => s_aload_n c169_28 rfl (s_bipush c169_29 ⟨by decide, by decide⟩ (s_cVi c169_31 m169_263 F164 K164 rfl (Nat.le_of_ble_eq_true rfl) rfl S164_69 rfl (H.1 q1))), fun q1 => s_aload_n c169_23 rfl (s_getI c169_24 f169_286 t12_56 sh_69 (s_retI c169_27 R169 (H.2 q1)))⟩
theorem b169_34 {d : Nat} {h : HP} {Q : PV → HP → Prop} {s0 : Int} (H : ((s0 = 0) → X (d + 1) 169 44 [some (P 69), none] [] h Q) ∧ (¬ (s0 = 0) → X d 165 0 [some (P 69)] [] h (fun r h' => X (d + 1) 169 41 [some (P 69), none] [r] h' Q))) : X (d + 1) 169 34 [some (P 69), none] [I s0] h Q :=
  s_if 44 (s0 = 0) c169_34 (by decide) rfl ⟨fun q2 => (H.1 q2), fun q2 => s_aload_n c169_37 rfl (s_cVi c169_38 m169_289 F165 K165 rfl (Nat.le_of_ble_eq_true rfl) rfl S165_69 rfl (H.2 q2))⟩
theorem b169_41 {d : Nat} {h : HP} {Q : PV → HP → Prop} {s0 : Int} (H : ((¬ s0 = 0) → X d 162 0 [some (P 69)] [] h (fun r h' => X (d + 1) 169 54 [some (P 69), none] [r] h' Q)) ∧ (¬ (¬ s0 = 0) → X (d + 1) 169 44 [some (P 69), none] [] h Q)) : X (d + 1) 169 41 [some (P 69), none] [I s0] h Q :=
  s_if 50 (¬ s0 = 0) c169_41 (by decide) rfl ⟨fun q3 => s_aload_n c169_50 rfl (s_cVi c169_51 m169_255 F162 K162 rfl (Nat.le_of_ble_eq_true rfl) rfl S162_69 rfl (H.1 q3)), fun q3 => (H.2 q3)⟩
theorem b169_44 {d : Nat} {h : HP} {Q : PV → HP → Prop} (H : X d 163 0 [some (P 69)] [] h (fun _ h' => X (d + 1) 169 48 [some (P 69), none] [] h' Q)) : X (d + 1) 169 44 [some (P 69), none] [] h Q :=
  s_aload_n c169_44 rfl (s_cVv c169_45 m169_271 F163 K163 rfl (Nat.le_of_ble_eq_true rfl) rfl S163_69 rfl H)
theorem b169_48 {d : Nat} {h : HP} {Q : PV → HP → Prop} (H : Q (I 0) h) : X d 169 48 [some (P 69), none] [] h Q :=
  s_iconst c169_48 rfl (s_retI c169_49 R169 H)
theorem b169_54 {d : Nat} {h : HP} {Q : PV → HP → Prop} {s0 : Int} (H : X d 136 0 [some (P 69), some (I (w32 (s0 - 48)))] [] (up2 h 69 50 (w32 ((h 69 50) + 1))) (fun r h' => X (d + 1) 169 73 [some (P 69), some (I (w32 (s0 - 48)))] [r] h' Q)) : X (d + 1) 169 54 [some (P 69), none] [I s0] h Q :=
  s_bipush c169_54 ⟨by decide, by decide⟩ (s_isub c169_56 (s_istore_n c169_57 rfl (s_aload_n c169_58 rfl (s_dupP c169_59 (s_getI c169_60 f169_243 t12_50 sh_69 (s_iconst c169_63 rfl (s_iadd c169_64 (s_putI c169_65 f169_243 t12_50 n12_50 sh_69 (s_aload_n c169_68 rfl (s_iload_n c169_69 rfl (s_cVi c169_70 m169_191 F136 K136 rfl (Nat.le_of_ble_eq_true rfl) rfl S136_69 rfl H)))))))))))
theorem b169_6 {d : Nat} {h : HP} {Q : PV → HP → Prop} {s0 : Int} (H : ((s0 = 0) → X d 164 0 [some (P 69), some (I 104)] [] h (fun r h' => X (d + 1) 169 20 [some (P 69), none] [r] h' Q)) ∧ (¬ (s0 = 0) → Q (I (h 69 55)) h)) : X (d + 1) 169 6 [some (P 69), none] [I s0] h Q :=
  s_if 14 (s0 = 0) c169_6 (by decide) rfl ⟨fun q4 => s_aload_n c169_14 rfl (s_bipush c169_15 ⟨by decide, by decide⟩ (s_cVi c169_17 m169_263 F164 K164 rfl (Nat.le_of_ble_eq_true rfl) rfl S164_69 rfl (H.1 q4))), fun q4 => s_aload_n c169_9 rfl (s_getI c169_10 f169_283 t12_55 sh_69 (s_retI c169_13 R169 (H.2 q4)))⟩
theorem b169_73 {d : Nat} {h : HP} {Q : PV → HP → Prop} {v1 s0 : Int} (H : ((s0 = 0) → Q (I 0) h) ∧ (¬ (s0 = 0) → ((0 ≤ v1 ∧ v1 < 8) ∧ Q (I (h 105 v1.toNat)) h))) : X d 169 73 [some (P 69), some (I v1)] [I s0] h Q :=
  s_if 85 (s0 = 0) c169_73 (by decide) rfl ⟨fun q5 => s_iconst c169_85 rfl (s_retI c169_86 R169 (H.1 q5)), fun q5 => s_aload_n c169_76 rfl (s_getP 105 c169_77 f169_120 t12_54 sh_69 g_69_54 (by decide) (by decide) (s_iload_n c169_80 rfl (s_iald c169_81 sh_105 ⟨(H.2 q5).1, s_goto 86 c169_82 (by decide) (s_retI c169_86 R169 (H.2 q5).2)⟩)))⟩
-- WarmSideModel.number()I
theorem c170_0 : cdA 170 0 = some (.iconst 0) := by decide +kernel
theorem c170_1 : cdA 170 1 = some (.istore_n 1) := by decide +kernel
theorem c170_2 : cdA 170 2 = some (.iconst 0) := by decide +kernel
theorem c170_3 : cdA 170 3 = some (.istore_n 2) := by decide +kernel
theorem c170_13 : cdA 170 13 = some (.ifCond .eq 32) := by decide +kernel
theorem c170_16 : cdA 170 16 = some (.bipush 10) := by decide +kernel
theorem c170_18 : cdA 170 18 = some (.iload_n 1) := by decide +kernel
theorem c170_19 : cdA 170 19 = some (.imul) := by decide +kernel
theorem c170_20 : cdA 170 20 = some (.aload_n 0) := by decide +kernel
theorem c170_21 : cdA 170 21 = some (.invokevirtual 255) := by decide +kernel
theorem m170_255 : mthR (moN 170) 255 = 165 := by decide +kernel
theorem c170_24 : cdA 170 24 = some (.iadd) := by decide +kernel
theorem c170_25 : cdA 170 25 = some (.bipush 48) := by decide +kernel
theorem c170_27 : cdA 170 27 = some (.isub) := by decide +kernel
theorem c170_28 : cdA 170 28 = some (.istore_n 1) := by decide +kernel
theorem c170_29 : cdA 170 29 = some (.aload_n 0) := by decide +kernel
theorem c170_30 : cdA 170 30 = some (.dup) := by decide +kernel
theorem c170_31 : cdA 170 31 = some (.getfield 243) := by decide +kernel
theorem f170_243 : fldR (moN 170) 243 = some (12, 50) := by decide +kernel
theorem c170_34 : cdA 170 34 = some (.iconst 1) := by decide +kernel
theorem c170_35 : cdA 170 35 = some (.iadd) := by decide +kernel
theorem c170_36 : cdA 170 36 = some (.putfield 243) := by decide +kernel
theorem c170_39 : cdA 170 39 = some (.iinc 2 1) := by decide +kernel
theorem c170_42 : cdA 170 42 = some (.goto (-38)) := by decide +kernel
theorem c170_4 : cdA 170 4 = some (.iload_n 2) := by decide +kernel
theorem c170_5 : cdA 170 5 = some (.iconst 3) := by decide +kernel
theorem c170_6 : cdA 170 6 = some (.if_icmp .ge 39) := by decide +kernel
theorem c170_9 : cdA 170 9 = some (.aload_n 0) := by decide +kernel
theorem c170_10 : cdA 170 10 = some (.invokevirtual 289) := by decide +kernel
theorem m170_289 : mthR (moN 170) 289 = 168 := by decide +kernel
theorem c170_45 : cdA 170 45 = some (.iload_n 2) := by decide +kernel
theorem c170_46 : cdA 170 46 = some (.ifCond .ne 7) := by decide +kernel
theorem c170_49 : cdA 170 49 = some (.aload_n 0) := by decide +kernel
theorem c170_50 : cdA 170 50 = some (.invokevirtual 271) := by decide +kernel
theorem m170_271 : mthR (moN 170) 271 = 166 := by decide +kernel
theorem c170_53 : cdA 170 53 = some (.iload_n 1) := by decide +kernel
theorem c170_54 : cdA 170 54 = some (.ireturn) := by decide +kernel
theorem R170 : mK 170 = 0 := by decide +kernel
theorem b170_0 {d : Nat} {h : HP} {Q : PV → HP → Prop} (H : X d 170 4 [some (P 69), some (I 0), some (I 0)] [] h Q) : X d 170 0 [some (P 69), none, none] [] h Q :=
  s_iconst c170_0 rfl (s_istore_n c170_1 rfl (s_iconst c170_2 rfl (s_istore_n c170_3 rfl (H))))
theorem b170_13 {d : Nat} {h : HP} {Q : PV → HP → Prop} {v1 v2 s0 : Int} (H : ((s0 = 0) → X (d + 1) 170 45 [some (P 69), some (I v1), some (I v2)] [] h Q) ∧ (¬ (s0 = 0) → X d 162 0 [some (P 69)] [] h (fun r h' => X (d + 1) 170 24 [some (P 69), some (I v1), some (I v2)] [r, I (w32 (10 * v1))] h' Q))) : X (d + 1) 170 13 [some (P 69), some (I v1), some (I v2)] [I s0] h Q :=
  s_if 45 (s0 = 0) c170_13 (by decide) rfl ⟨fun q1 => (H.1 q1), fun q1 => s_bipush c170_16 ⟨by decide, by decide⟩ (s_iload_n c170_18 rfl (s_imul c170_19 (s_aload_n c170_20 rfl (s_cVi c170_21 m170_255 F162 K162 rfl (Nat.le_of_ble_eq_true rfl) rfl S162_69 rfl (H.2 q1)))))⟩
theorem b170_24 {d : Nat} {h : HP} {Q : PV → HP → Prop} {v1 v2 s0 s1 : Int} (H : X d 170 4 [some (P 69), some (I (w32 ((w32 (s0 + s1)) - 48))), some (I (w32 (v2 + 1)))] [] (up2 h 69 50 (w32 ((h 69 50) + 1))) Q) : X d 170 24 [some (P 69), some (I v1), some (I v2)] [I s1, I s0] h Q :=
  s_iadd c170_24 (s_bipush c170_25 ⟨by decide, by decide⟩ (s_isub c170_27 (s_istore_n c170_28 rfl (s_aload_n c170_29 rfl (s_dupP c170_30 (s_getI c170_31 f170_243 t12_50 sh_69 (s_iconst c170_34 rfl (s_iadd c170_35 (s_putI c170_36 f170_243 t12_50 n12_50 sh_69 (s_iinc c170_39 rfl rfl rfl (s_goto 4 c170_42 (by decide) (H))))))))))))
theorem b170_4 {d : Nat} {h : HP} {Q : PV → HP → Prop} {v1 v2 : Int} (H : ((3 ≤ v2) → X (d + 1) 170 45 [some (P 69), some (I v1), some (I v2)] [] h Q) ∧ (¬ (3 ≤ v2) → X d 165 0 [some (P 69)] [] h (fun r h' => X (d + 1) 170 13 [some (P 69), some (I v1), some (I v2)] [r] h' Q))) : X (d + 1) 170 4 [some (P 69), some (I v1), some (I v2)] [] h Q :=
  s_iload_n c170_4 rfl (s_iconst c170_5 rfl (s_ifc 45 (3 ≤ v2) c170_6 (by decide) rfl ⟨fun q2 => (H.1 q2), fun q2 => s_aload_n c170_9 rfl (s_cVi c170_10 m170_289 F165 K165 rfl (Nat.le_of_ble_eq_true rfl) rfl S165_69 rfl (H.2 q2))⟩))
theorem b170_45 {d : Nat} {h : HP} {Q : PV → HP → Prop} {v1 v2 : Int} (H : ((¬ v2 = 0) → X (d + 1) 170 53 [some (P 69), some (I v1), some (I v2)] [] h Q) ∧ (¬ (¬ v2 = 0) → X d 163 0 [some (P 69)] [] h (fun _ h' => X (d + 1) 170 53 [some (P 69), some (I v1), some (I v2)] [] h' Q))) : X (d + 1) 170 45 [some (P 69), some (I v1), some (I v2)] [] h Q :=
  s_iload_n c170_45 rfl (s_if 53 (¬ v2 = 0) c170_46 (by decide) rfl ⟨fun q3 => (H.1 q3), fun q3 => s_aload_n c170_49 rfl (s_cVv c170_50 m170_271 F163 K163 rfl (Nat.le_of_ble_eq_true rfl) rfl S163_69 rfl (H.2 q3))⟩)
theorem b170_53 {d : Nat} {h : HP} {Q : PV → HP → Prop} {v1 v2 : Int} (H : Q (I v1) h) : X d 170 53 [some (P 69), some (I v1), some (I v2)] [] h Q :=
  s_iload_n c170_53 rfl (s_retI c170_54 R170 H)
-- WarmSideModel.part()Z
theorem c168_0 : cdA 168 0 = some (.aload_n 0) := by decide +kernel
theorem c168_1 : cdA 168 1 = some (.getfield 252) := by decide +kernel
theorem f168_252 : fldR (moN 168) 252 = some (12, 52) := by decide +kernel
theorem c168_4 : cdA 168 4 = some (.ifCond .lt 5) := by decide +kernel
theorem c168_9 : cdA 168 9 = some (.aload_n 0) := by decide +kernel
theorem c168_10 : cdA 168 10 = some (.invokevirtual 255) := by decide +kernel
theorem m168_255 : mthR (moN 168) 255 = 165 := by decide +kernel
theorem c168_7 : cdA 168 7 = some (.iconst 0) := by decide +kernel
theorem c168_8 : cdA 168 8 = some (.ireturn) := by decide +kernel
theorem R168 : mK 168 = 3 := by decide +kernel
theorem c168_105 : cdA 168 105 = some (.aload_n 0) := by decide +kernel
theorem c168_106 : cdA 168 106 = some (.dup) := by decide +kernel
theorem c168_107 : cdA 168 107 = some (.getfield 268) := by decide +kernel
theorem f168_268 : fldR (moN 168) 268 = some (12, 53) := by decide +kernel
theorem t12_53 : fcl 12 53 = 0 := by decide +kernel
theorem c168_110 : cdA 168 110 = some (.iconst 1) := by decide +kernel
theorem c168_111 : cdA 168 111 = some (.isub) := by decide +kernel
theorem c168_112 : cdA 168 112 = some (.putfield 268) := by decide +kernel
theorem n12_53 : ffin 12 53 = false := by decide +kernel
theorem c168_115 : cdA 168 115 = some (.iload_n 2) := by decide +kernel
theorem c168_116 : cdA 168 116 = some (.ireturn) := by decide +kernel
theorem c168_121 : cdA 168 121 = some (.istore_n 2) := by decide +kernel
theorem c168_122 : cdA 168 122 = some (.aload_n 0) := by decide +kernel
theorem c168_123 : cdA 168 123 = some (.invokevirtual 255) := by decide +kernel
theorem c168_126 : cdA 168 126 = some (.istore_n 3) := by decide +kernel
theorem c168_127 : cdA 168 127 = some (.aload_n 0) := by decide +kernel
theorem c168_128 : cdA 168 128 = some (.getfield 252) := by decide +kernel
theorem c168_131 : cdA 168 131 = some (.ifCond .ge 21) := by decide +kernel
theorem c168_134 : cdA 168 134 = some (.iload_n 3) := by decide +kernel
theorem c168_135 : cdA 168 135 = some (.bipush 60) := by decide +kernel
theorem c168_137 : cdA 168 137 = some (.if_icmp .eq 21) := by decide +kernel
theorem c168_140 : cdA 168 140 = some (.iload_n 3) := by decide +kernel
theorem c168_141 : cdA 168 141 = some (.bipush 61) := by decide +kernel
theorem c168_143 : cdA 168 143 = some (.if_icmp .eq 15) := by decide +kernel
theorem c168_146 : cdA 168 146 = some (.iload_n 3) := by decide +kernel
theorem c168_147 : cdA 168 147 = some (.bipush 62) := by decide +kernel
theorem c168_149 : cdA 168 149 = some (.if_icmp .eq 9) := by decide +kernel
theorem c168_13 : cdA 168 13 = some (.istore_n 1) := by decide +kernel
theorem c168_14 : cdA 168 14 = some (.iload_n 1) := by decide +kernel
theorem c168_15 : cdA 168 15 = some (.bipush 33) := by decide +kernel
theorem c168_17 : cdA 168 17 = some (.if_icmp .eq 9) := by decide +kernel
theorem c168_20 : cdA 168 20 = some (.iload_n 1) := by decide +kernel
theorem c168_21 : cdA 168 21 = some (.bipush 40) := by decide +kernel
theorem c168_23 : cdA 168 23 = some (.if_icmp .ne 94) := by decide +kernel
theorem c168_117 : cdA 168 117 = some (.aload_n 0) := by decide +kernel
theorem c168_118 : cdA 168 118 = some (.invokevirtual 277) := by decide +kernel
theorem m168_277 : mthR (moN 168) 277 = 172 := by decide +kernel
theorem F169 : mF 169 0 2 true := by unfold mF; decide +kernel
theorem K169 : ¬ mK 169 = 4 := by decide +kernel
theorem S169_69 : SH0[69]? = some (.inl (moN 169)) := by decide +kernel
theorem c168_152 : cdA 168 152 = some (.aload_n 0) := by decide +kernel
theorem c168_153 : cdA 168 153 = some (.invokevirtual 271) := by decide +kernel
theorem m168_271 : mthR (moN 168) 271 = 166 := by decide +kernel
theorem c168_156 : cdA 168 156 = some (.iconst 0) := by decide +kernel
theorem c168_157 : cdA 168 157 = some (.ireturn) := by decide +kernel
theorem c168_158 : cdA 168 158 = some (.aload_n 0) := by decide +kernel
theorem c168_159 : cdA 168 159 = some (.dup) := by decide +kernel
theorem c168_160 : cdA 168 160 = some (.getfield 243) := by decide +kernel
theorem f168_243 : fldR (moN 168) 243 = some (12, 50) := by decide +kernel
theorem c168_163 : cdA 168 163 = some (.iconst 1) := by decide +kernel
theorem c168_164 : cdA 168 164 = some (.iadd) := by decide +kernel
theorem c168_165 : cdA 168 165 = some (.putfield 243) := by decide +kernel
theorem c168_168 : cdA 168 168 = some (.aload_n 0) := by decide +kernel
theorem c168_169 : cdA 168 169 = some (.invokevirtual 280) := by decide +kernel
theorem m168_280 : mthR (moN 168) 280 = 173 := by decide +kernel
theorem F170 : mF 170 0 3 true := by unfold mF; decide +kernel
theorem K170 : ¬ mK 170 = 4 := by decide +kernel
theorem S170_69 : SH0[69]? = some (.inl (moN 170)) := by decide +kernel
theorem c168_172 : cdA 168 172 = some (.istore 4) := by decide +kernel
theorem c168_174 : cdA 168 174 = some (.iload_n 3) := by decide +kernel
theorem c168_175 : cdA 168 175 = some (.bipush 60) := by decide +kernel
theorem c168_177 : cdA 168 177 = some (.if_icmp .ne 17) := by decide +kernel
theorem c168_194 : cdA 168 194 = some (.iload_n 3) := by decide +kernel
theorem c168_195 : cdA 168 195 = some (.bipush 61) := by decide +kernel
theorem c168_197 : cdA 168 197 = some (.if_icmp .ne 17) := by decide +kernel
theorem c168_214 : cdA 168 214 = some (.iload_n 2) := by decide +kernel
theorem c168_215 : cdA 168 215 = some (.iload 4) := by decide +kernel
theorem c168_217 : cdA 168 217 = some (.if_icmp .le 7) := by decide +kernel
theorem c168_224 : cdA 168 224 = some (.iconst 0) := by decide +kernel
theorem c168_225 : cdA 168 225 = some (.ireturn) := by decide +kernel
theorem c168_220 : cdA 168 220 = some (.iconst 1) := by decide +kernel
theorem c168_221 : cdA 168 221 = some (.goto 4) := by decide +kernel
theorem c168_200 : cdA 168 200 = some (.iload_n 2) := by decide +kernel
theorem c168_201 : cdA 168 201 = some (.iload 4) := by decide +kernel
theorem c168_203 : cdA 168 203 = some (.if_icmp .ne 7) := by decide +kernel
theorem c168_210 : cdA 168 210 = some (.iconst 0) := by decide +kernel
theorem c168_211 : cdA 168 211 = some (.goto 14) := by decide +kernel
theorem c168_206 : cdA 168 206 = some (.iconst 1) := by decide +kernel
theorem c168_207 : cdA 168 207 = some (.goto 18) := by decide +kernel
theorem c168_180 : cdA 168 180 = some (.iload_n 2) := by decide +kernel
theorem c168_181 : cdA 168 181 = some (.iload 4) := by decide +kernel
theorem c168_183 : cdA 168 183 = some (.if_icmp .ge 7) := by decide +kernel
theorem c168_190 : cdA 168 190 = some (.iconst 0) := by decide +kernel
theorem c168_191 : cdA 168 191 = some (.goto 34) := by decide +kernel
theorem c168_186 : cdA 168 186 = some (.iconst 1) := by decide +kernel
theorem c168_187 : cdA 168 187 = some (.goto 38) := by decide +kernel
theorem c168_26 : cdA 168 26 = some (.aload_n 0) := by decide +kernel
theorem c168_27 : cdA 168 27 = some (.getfield 268) := by decide +kernel
theorem c168_30 : cdA 168 30 = some (.iconst 4) := by decide +kernel
theorem c168_31 : cdA 168 31 = some (.if_icmp .ne 9) := by decide +kernel
theorem c168_40 : cdA 168 40 = some (.aload_n 0) := by decide +kernel
theorem c168_41 : cdA 168 41 = some (.dup) := by decide +kernel
theorem c168_42 : cdA 168 42 = some (.getfield 268) := by decide +kernel
theorem c168_45 : cdA 168 45 = some (.iconst 1) := by decide +kernel
theorem c168_46 : cdA 168 46 = some (.iadd) := by decide +kernel
theorem c168_47 : cdA 168 47 = some (.putfield 268) := by decide +kernel
theorem c168_50 : cdA 168 50 = some (.aload_n 0) := by decide +kernel
theorem c168_51 : cdA 168 51 = some (.dup) := by decide +kernel
theorem c168_52 : cdA 168 52 = some (.getfield 243) := by decide +kernel
theorem c168_55 : cdA 168 55 = some (.iconst 1) := by decide +kernel
theorem c168_56 : cdA 168 56 = some (.iadd) := by decide +kernel
theorem c168_57 : cdA 168 57 = some (.putfield 243) := by decide +kernel
theorem c168_60 : cdA 168 60 = some (.iload_n 1) := by decide +kernel
theorem c168_61 : cdA 168 61 = some (.bipush 33) := by decide +kernel
theorem c168_63 : cdA 168 63 = some (.if_icmp .ne 18) := by decide +kernel
theorem c168_81 : cdA 168 81 = some (.aload_n 0) := by decide +kernel
theorem c168_82 : cdA 168 82 = some (.invokevirtual 274) := by decide +kernel
theorem m168_274 : mthR (moN 168) 274 = 169 := by decide +kernel
theorem F166 : mF 166 0 3 true := by unfold mF; decide +kernel
theorem K166 : ¬ mK 166 = 4 := by decide +kernel
theorem S166_69 : SH0[69]? = some (.inl (moN 166)) := by decide +kernel
theorem c168_66 : cdA 168 66 = some (.aload_n 0) := by decide +kernel
theorem c168_67 : cdA 168 67 = some (.invokevirtual 265) := by decide +kernel
theorem m168_265 : mthR (moN 168) 265 = 171 := by decide +kernel
theorem F168 : mF 168 0 5 true := by unfold mF; decide +kernel
theorem K168 : ¬ mK 168 = 4 := by decide +kernel
theorem S168_69 : SH0[69]? = some (.inl (moN 168)) := by decide +kernel
theorem c168_34 : cdA 168 34 = some (.aload_n 0) := by decide +kernel
theorem c168_35 : cdA 168 35 = some (.invokevirtual 271) := by decide +kernel
theorem c168_38 : cdA 168 38 = some (.iconst 0) := by decide +kernel
theorem c168_39 : cdA 168 39 = some (.ireturn) := by decide +kernel
theorem c168_70 : cdA 168 70 = some (.ifCond .ne 7) := by decide +kernel
theorem c168_77 : cdA 168 77 = some (.iconst 0) := by decide +kernel
theorem c168_78 : cdA 168 78 = some (.goto 7) := by decide +kernel
theorem c168_73 : cdA 168 73 = some (.iconst 1) := by decide +kernel
theorem c168_74 : cdA 168 74 = some (.goto 11) := by decide +kernel
theorem c168_85 : cdA 168 85 = some (.istore_n 2) := by decide +kernel
theorem c168_86 : cdA 168 86 = some (.iload_n 1) := by decide +kernel
theorem c168_87 : cdA 168 87 = some (.bipush 40) := by decide +kernel
theorem c168_89 : cdA 168 89 = some (.if_icmp .ne 16) := by decide +kernel
theorem c168_92 : cdA 168 92 = some (.aload_n 0) := by decide +kernel
theorem c168_93 : cdA 168 93 = some (.bipush 41) := by decide +kernel
theorem c168_95 : cdA 168 95 = some (.invokevirtual 263) := by decide +kernel
theorem m168_263 : mthR (moN 168) 263 = 167 := by decide +kernel
theorem c168_98 : cdA 168 98 = some (.ifCond .ne 7) := by decide +kernel
theorem c168_101 : cdA 168 101 = some (.aload_n 0) := by decide +kernel
theorem c168_102 : cdA 168 102 = some (.invokevirtual 271) := by decide +kernel
theorem b168_0 {d : Nat} {h : HP} {Q : PV → HP → Prop} (H : (((h 69 52) < 0) → X d 162 0 [some (P 69)] [] h (fun r h' => X (d + 1) 168 13 [some (P 69), none, none, none, none] [r] h' Q)) ∧ (¬ ((h 69 52) < 0) → Q (I 0) h)) : X (d + 1) 168 0 [some (P 69), none, none, none, none] [] h Q :=
  s_aload_n c168_0 rfl (s_getI c168_1 f168_252 t12_52 sh_69 (s_if 9 ((h 69 52) < 0) c168_4 (by decide) rfl ⟨fun q1 => s_aload_n c168_9 rfl (s_cVi c168_10 m168_255 F162 K162 rfl (Nat.le_of_ble_eq_true rfl) rfl S162_69 rfl (H.1 q1)), fun q1 => s_iconst c168_7 rfl (s_retZ c168_8 R168 ⟨by decide, (H.2 q1)⟩)⟩))
theorem b168_105 {d : Nat} {h : HP} {Q : PV → HP → Prop} {v1 v2 : Int} (H : (v2 = 0 ∨ v2 = 1) ∧ Q (I v2) (up2 h 69 53 (w32 ((h 69 53) - 1)))) : X d 168 105 [some (P 69), some (I v1), some (I v2), none, none] [] h Q :=
  s_aload_n c168_105 rfl (s_dupP c168_106 (s_getI c168_107 f168_268 t12_53 sh_69 (s_iconst c168_110 rfl (s_isub c168_111 (s_putI c168_112 f168_268 t12_53 n12_53 sh_69 (s_iload_n c168_115 rfl (s_retZ c168_116 R168 H)))))))
theorem b168_121 {d : Nat} {h : HP} {Q : PV → HP → Prop} {v1 s0 : Int} (H : X d 162 0 [some (P 69)] [] h (fun r h' => X (d + 1) 168 126 [some (P 69), some (I v1), some (I s0), none, none] [r] h' Q)) : X (d + 1) 168 121 [some (P 69), some (I v1), none, none, none] [I s0] h Q :=
  s_istore_n c168_121 rfl (s_aload_n c168_122 rfl (s_cVi c168_123 m168_255 F162 K162 rfl (Nat.le_of_ble_eq_true rfl) rfl S162_69 rfl H))
theorem b168_126 {d : Nat} {h : HP} {Q : PV → HP → Prop} {v1 v2 s0 : Int} (H : ((0 ≤ (h 69 52)) → X d 168 152 [some (P 69), some (I v1), some (I v2), some (I s0), none] [] h Q) ∧ (¬ (0 ≤ (h 69 52)) → (((s0 = 60) → X d 168 158 [some (P 69), some (I v1), some (I v2), some (I s0), none] [] h Q) ∧ (¬ (s0 = 60) → (((s0 = 61) → X d 168 158 [some (P 69), some (I v1), some (I v2), some (I s0), none] [] h Q) ∧ (¬ (s0 = 61) → (((s0 = 62) → X d 168 158 [some (P 69), some (I v1), some (I v2), some (I s0), none] [] h Q) ∧ (¬ (s0 = 62) → X d 168 152 [some (P 69), some (I v1), some (I v2), some (I s0), none] [] h Q)))))))) : X d 168 126 [some (P 69), some (I v1), some (I v2), none, none] [I s0] h Q :=
  s_istore_n c168_126 rfl (s_aload_n c168_127 rfl (s_getI c168_128 f168_252 t12_52 sh_69 (s_if 152 (0 ≤ (h 69 52)) c168_131 (by decide) rfl ⟨fun q2 => (H.1 q2), fun q2 => s_iload_n c168_134 rfl (s_bipush c168_135 ⟨by decide, by decide⟩ (s_ifc 158 (s0 = 60) c168_137 (by decide) rfl ⟨fun q3 => ((H.2 q2).1 q3), fun q3 => s_iload_n c168_140 rfl (s_bipush c168_141 ⟨by decide, by decide⟩ (s_ifc 158 (s0 = 61) c168_143 (by decide) rfl ⟨fun q4 => (((H.2 q2).2 q3).1 q4), fun q4 => s_iload_n c168_146 rfl (s_bipush c168_147 ⟨by decide, by decide⟩ (s_ifc 158 (s0 = 62) c168_149 (by decide) rfl ⟨fun q5 => ((((H.2 q2).2 q3).2 q4).1 q5), fun q5 => ((((H.2 q2).2 q3).2 q4).2 q5)⟩))⟩))⟩))⟩)))
theorem b168_13 {d : Nat} {h : HP} {Q : PV → HP → Prop} {s0 : Int} (H : ((s0 = 33) → X (d + 1) 168 26 [some (P 69), some (I s0), none, none, none] [] h Q) ∧ (¬ (s0 = 33) → (((¬ s0 = 40) → X d 169 0 [some (P 69), none] [] h (fun r h' => X (d + 1) 168 121 [some (P 69), some (I s0), none, none, none] [r] h' Q)) ∧ (¬ (¬ s0 = 40) → X (d + 1) 168 26 [some (P 69), some (I s0), none, none, none] [] h Q)))) : X (d + 1) 168 13 [some (P 69), none, none, none, none] [I s0] h Q :=
  s_istore_n c168_13 rfl (s_iload_n c168_14 rfl (s_bipush c168_15 ⟨by decide, by decide⟩ (s_ifc 26 (s0 = 33) c168_17 (by decide) rfl ⟨fun q6 => (H.1 q6), fun q6 => s_iload_n c168_20 rfl (s_bipush c168_21 ⟨by decide, by decide⟩ (s_ifc 117 (¬ s0 = 40) c168_23 (by decide) rfl ⟨fun q7 => s_aload_n c168_117 rfl (s_cVi c168_118 m168_277 F169 K169 rfl (Nat.le_of_ble_eq_true rfl) rfl S169_69 rfl ((H.2 q6).1 q7)), fun q7 => ((H.2 q6).2 q7)⟩))⟩)))
theorem b168_152 {d : Nat} {h : HP} {Q : PV → HP → Prop} {v1 v2 v3 : Int} (H : X d 163 0 [some (P 69)] [] h (fun _ h' => X (d + 1) 168 156 [some (P 69), some (I v1), some (I v2), some (I v3), none] [] h' Q)) : X (d + 1) 168 152 [some (P 69), some (I v1), some (I v2), some (I v3), none] [] h Q :=
  s_aload_n c168_152 rfl (s_cVv c168_153 m168_271 F163 K163 rfl (Nat.le_of_ble_eq_true rfl) rfl S163_69 rfl H)
theorem b168_156 {d : Nat} {h : HP} {Q : PV → HP → Prop} {v1 v2 v3 : Int} (H : Q (I 0) h) : X d 168 156 [some (P 69), some (I v1), some (I v2), some (I v3), none] [] h Q :=
  s_iconst c168_156 rfl (s_retZ c168_157 R168 ⟨by decide, H⟩)
theorem b168_158 {d : Nat} {h : HP} {Q : PV → HP → Prop} {v1 v2 v3 : Int} (H : X d 170 0 [some (P 69), none, none] [] (up2 h 69 50 (w32 ((h 69 50) + 1))) (fun r h' => X (d + 1) 168 172 [some (P 69), some (I v1), some (I v2), some (I v3), none] [r] h' Q)) : X (d + 1) 168 158 [some (P 69), some (I v1), some (I v2), some (I v3), none] [] h Q :=
  s_aload_n c168_158 rfl (s_dupP c168_159 (s_getI c168_160 f168_243 t12_50 sh_69 (s_iconst c168_163 rfl (s_iadd c168_164 (s_putI c168_165 f168_243 t12_50 n12_50 sh_69 (s_aload_n c168_168 rfl (s_cVi c168_169 m168_280 F170 K170 rfl (Nat.le_of_ble_eq_true rfl) rfl S170_69 rfl H)))))))
theorem b168_172 {d : Nat} {h : HP} {Q : PV → HP → Prop} {v1 v2 v3 s0 : Int} (H : ((¬ v3 = 60) → (((¬ v3 = 61) → (((v2 ≤ s0) → Q (I 0) h) ∧ (¬ (v2 ≤ s0) → Q (I 1) h))) ∧ (¬ (¬ v3 = 61) → (((¬ v2 = s0) → Q (I 0) h) ∧ (¬ (¬ v2 = s0) → Q (I 1) h))))) ∧ (¬ (¬ v3 = 60) → (((s0 ≤ v2) → Q (I 0) h) ∧ (¬ (s0 ≤ v2) → Q (I 1) h)))) : X d 168 172 [some (P 69), some (I v1), some (I v2), some (I v3), none] [I s0] h Q :=
  s_istore c168_172 rfl (s_iload_n c168_174 rfl (s_bipush c168_175 ⟨by decide, by decide⟩ (s_ifc 194 (¬ v3 = 60) c168_177 (by decide) rfl ⟨fun q8 => s_iload_n c168_194 rfl (s_bipush c168_195 ⟨by decide, by decide⟩ (s_ifc 214 (¬ v3 = 61) c168_197 (by decide) rfl ⟨fun q9 => s_iload_n c168_214 rfl (s_iload c168_215 rfl (s_ifc 224 (v2 ≤ s0) c168_217 (by decide) rfl ⟨fun q10 => s_iconst c168_224 rfl (s_retZ c168_225 R168 ⟨by decide, (((H.1 q8).1 q9).1 q10)⟩), fun q10 => s_iconst c168_220 rfl (s_goto 225 c168_221 (by decide) (s_retZ c168_225 R168 ⟨by decide, (((H.1 q8).1 q9).2 q10)⟩))⟩)), fun q9 => s_iload_n c168_200 rfl (s_iload c168_201 rfl (s_ifc 210 (¬ v2 = s0) c168_203 (by decide) rfl ⟨fun q11 => s_iconst c168_210 rfl (s_goto 225 c168_211 (by decide) (s_retZ c168_225 R168 ⟨by decide, (((H.1 q8).2 q9).1 q11)⟩)), fun q11 => s_iconst c168_206 rfl (s_goto 225 c168_207 (by decide) (s_retZ c168_225 R168 ⟨by decide, (((H.1 q8).2 q9).2 q11)⟩))⟩))⟩)), fun q8 => s_iload_n c168_180 rfl (s_iload c168_181 rfl (s_ifc 190 (s0 ≤ v2) c168_183 (by decide) rfl ⟨fun q12 => s_iconst c168_190 rfl (s_goto 225 c168_191 (by decide) (s_retZ c168_225 R168 ⟨by decide, ((H.2 q8).1 q12)⟩)), fun q12 => s_iconst c168_186 rfl (s_goto 225 c168_187 (by decide) (s_retZ c168_225 R168 ⟨by decide, ((H.2 q8).2 q12)⟩))⟩))⟩)))
theorem b168_26 {d : Nat} {h : HP} {Q : PV → HP → Prop} {v1 : Int} (H : ((¬ (h 69 53) = 4) → (((¬ v1 = 33) → X d 166 0 [some (P 69), none, none] [] (up2 (up2 h 69 53 (w32 ((h 69 53) + 1))) 69 50 (w32 ((h 69 50) + 1))) (fun r h' => X (d + 1) 168 85 [some (P 69), some (I v1), none, none, none] [r] h' Q)) ∧ (¬ (¬ v1 = 33) → X d 168 0 [some (P 69), none, none, none, none] [] (up2 (up2 h 69 53 (w32 ((h 69 53) + 1))) 69 50 (w32 ((h 69 50) + 1))) (fun r h' => X (d + 1) 168 70 [some (P 69), some (I v1), none, none, none] [r] h' Q)))) ∧ (¬ (¬ (h 69 53) = 4) → X d 163 0 [some (P 69)] [] h (fun _ h' => X (d + 1) 168 38 [some (P 69), some (I v1), none, none, none] [] h' Q))) : X (d + 1) 168 26 [some (P 69), some (I v1), none, none, none] [] h Q :=
  s_aload_n c168_26 rfl (s_getI c168_27 f168_268 t12_53 sh_69 (s_iconst c168_30 rfl (s_ifc 40 (¬ (h 69 53) = 4) c168_31 (by decide) rfl ⟨fun q13 => s_aload_n c168_40 rfl (s_dupP c168_41 (s_getI c168_42 f168_268 t12_53 sh_69 (s_iconst c168_45 rfl (s_iadd c168_46 (s_putI c168_47 f168_268 t12_53 n12_53 sh_69 (s_aload_n c168_50 rfl (s_dupP c168_51 (s_getI c168_52 f168_243 t12_50 sh_69 (s_iconst c168_55 rfl (s_iadd c168_56 (s_putI c168_57 f168_243 t12_50 n12_50 sh_69 (s_iload_n c168_60 rfl (s_bipush c168_61 ⟨by decide, by decide⟩ (s_ifc 81 (¬ v1 = 33) c168_63 (by decide) rfl ⟨fun q14 => s_aload_n c168_81 rfl (s_cVi c168_82 m168_274 F166 K166 rfl (Nat.le_of_ble_eq_true rfl) rfl S166_69 rfl ((H.1 q13).1 q14)), fun q14 => s_aload_n c168_66 rfl (s_cVi c168_67 m168_265 F168 K168 rfl (Nat.le_of_ble_eq_true rfl) rfl S168_69 rfl ((H.1 q13).2 q14))⟩)))))))))))))), fun q13 => s_aload_n c168_34 rfl (s_cVv c168_35 m168_271 F163 K163 rfl (Nat.le_of_ble_eq_true rfl) rfl S163_69 rfl (H.2 q13))⟩)))
theorem b168_38 {d : Nat} {h : HP} {Q : PV → HP → Prop} {v1 : Int} (H : Q (I 0) h) : X d 168 38 [some (P 69), some (I v1), none, none, none] [] h Q :=
  s_iconst c168_38 rfl (s_retZ c168_39 R168 ⟨by decide, H⟩)
theorem b168_70 {d : Nat} {h : HP} {Q : PV → HP → Prop} {v1 s0 : Int} (H : ((¬ s0 = 0) → X d 168 85 [some (P 69), some (I v1), none, none, none] [I 0] h Q) ∧ (¬ (¬ s0 = 0) → X d 168 85 [some (P 69), some (I v1), none, none, none] [I 1] h Q)) : X d 168 70 [some (P 69), some (I v1), none, none, none] [I s0] h Q :=
  s_if 77 (¬ s0 = 0) c168_70 (by decide) rfl ⟨fun q15 => s_iconst c168_77 rfl (s_goto 85 c168_78 (by decide) ((H.1 q15))), fun q15 => s_iconst c168_73 rfl (s_goto 85 c168_74 (by decide) ((H.2 q15)))⟩
theorem b168_85 {d : Nat} {h : HP} {Q : PV → HP → Prop} {v1 s0 : Int} (H : ((¬ v1 = 40) → X (d + 1) 168 105 [some (P 69), some (I v1), some (I s0), none, none] [] h Q) ∧ (¬ (¬ v1 = 40) → X d 164 0 [some (P 69), some (I 41)] [] h (fun r h' => X (d + 1) 168 98 [some (P 69), some (I v1), some (I s0), none, none] [r] h' Q))) : X (d + 1) 168 85 [some (P 69), some (I v1), none, none, none] [I s0] h Q :=
  s_istore_n c168_85 rfl (s_iload_n c168_86 rfl (s_bipush c168_87 ⟨by decide, by decide⟩ (s_ifc 105 (¬ v1 = 40) c168_89 (by decide) rfl ⟨fun q16 => (H.1 q16), fun q16 => s_aload_n c168_92 rfl (s_bipush c168_93 ⟨by decide, by decide⟩ (s_cVi c168_95 m168_263 F164 K164 rfl (Nat.le_of_ble_eq_true rfl) rfl S164_69 rfl (H.2 q16)))⟩)))
theorem b168_98 {d : Nat} {h : HP} {Q : PV → HP → Prop} {v1 v2 s0 : Int} (H : ((¬ s0 = 0) → X (d + 1) 168 105 [some (P 69), some (I v1), some (I v2), none, none] [] h Q) ∧ (¬ (¬ s0 = 0) → X d 163 0 [some (P 69)] [] h (fun _ h' => X (d + 1) 168 105 [some (P 69), some (I v1), some (I v2), none, none] [] h' Q))) : X (d + 1) 168 98 [some (P 69), some (I v1), some (I v2), none, none] [I s0] h Q :=
  s_if 105 (¬ s0 = 0) c168_98 (by decide) rfl ⟨fun q17 => (H.1 q17), fun q17 => s_aload_n c168_101 rfl (s_cVv c168_102 m168_271 F163 K163 rfl (Nat.le_of_ble_eq_true rfl) rfl S163_69 rfl (H.2 q17))⟩
-- WarmSideModel.term()Z
theorem c167_0 : cdA 167 0 = some (.aload_n 0) := by decide +kernel
theorem c167_1 : cdA 167 1 = some (.invokevirtual 265) := by decide +kernel
theorem m167_265 : mthR (moN 167) 265 = 171 := by decide +kernel
theorem c167_11 : cdA 167 11 = some (.ifCond .eq 25) := by decide +kernel
theorem c167_36 : cdA 167 36 = some (.iload_n 1) := by decide +kernel
theorem c167_37 : cdA 167 37 = some (.ireturn) := by decide +kernel
theorem R167 : mK 167 = 3 := by decide +kernel
theorem c167_14 : cdA 167 14 = some (.aload_n 0) := by decide +kernel
theorem c167_15 : cdA 167 15 = some (.invokevirtual 265) := by decide +kernel
theorem c167_18 : cdA 167 18 = some (.istore_n 2) := by decide +kernel
theorem c167_19 : cdA 167 19 = some (.iload_n 1) := by decide +kernel
theorem c167_20 : cdA 167 20 = some (.ifCond .eq 11) := by decide +kernel
theorem c167_23 : cdA 167 23 = some (.iload_n 2) := by decide +kernel
theorem c167_24 : cdA 167 24 = some (.ifCond .eq 7) := by decide +kernel
theorem c167_27 : cdA 167 27 = some (.iconst 1) := by decide +kernel
theorem c167_28 : cdA 167 28 = some (.goto 4) := by decide +kernel
theorem c167_31 : cdA 167 31 = some (.iconst 0) := by decide +kernel
theorem c167_32 : cdA 167 32 = some (.istore_n 1) := by decide +kernel
theorem c167_33 : cdA 167 33 = some (.goto (-28)) := by decide +kernel
theorem c167_4 : cdA 167 4 = some (.istore_n 1) := by decide +kernel
theorem c167_5 : cdA 167 5 = some (.aload_n 0) := by decide +kernel
theorem c167_6 : cdA 167 6 = some (.bipush 38) := by decide +kernel
theorem c167_8 : cdA 167 8 = some (.invokevirtual 263) := by decide +kernel
theorem m167_263 : mthR (moN 167) 263 = 167 := by decide +kernel
theorem b167_0 {d : Nat} {h : HP} {Q : PV → HP → Prop} (H : X d 168 0 [some (P 69), none, none, none, none] [] h (fun r h' => X (d + 1) 167 4 [some (P 69), none, none] [r] h' Q)) : X (d + 1) 167 0 [some (P 69), none, none] [] h Q :=
  s_aload_n c167_0 rfl (s_cVi c167_1 m167_265 F168 K168 rfl (Nat.le_of_ble_eq_true rfl) rfl S168_69 rfl H)
theorem b167_11 {d : Nat} {h : HP} {Q : PV → HP → Prop} {v1 s0 : Int} (H : ((s0 = 0) → ((v1 = 0 ∨ v1 = 1) ∧ Q (I v1) h)) ∧ (¬ (s0 = 0) → X d 168 0 [some (P 69), none, none, none, none] [] h (fun r h' => X (d + 1) 167 18 [some (P 69), some (I v1), none] [r] h' Q))) : X (d + 1) 167 11 [some (P 69), some (I v1), none] [I s0] h Q :=
  s_if 36 (s0 = 0) c167_11 (by decide) rfl ⟨fun q1 => s_iload_n c167_36 rfl (s_retZ c167_37 R167 (H.1 q1)), fun q1 => s_aload_n c167_14 rfl (s_cVi c167_15 m167_265 F168 K168 rfl (Nat.le_of_ble_eq_true rfl) rfl S168_69 rfl (H.2 q1))⟩
theorem b167_18 {d : Nat} {h : HP} {Q : PV → HP → Prop} {v1 s0 : Int} (H : ((v1 = 0) → X d 167 31 [some (P 69), some (I v1), some (I s0)] [] h Q) ∧ (¬ (v1 = 0) → (((s0 = 0) → X d 167 31 [some (P 69), some (I v1), some (I s0)] [] h Q) ∧ (¬ (s0 = 0) → X d 167 32 [some (P 69), some (I v1), some (I s0)] [I 1] h Q)))) : X d 167 18 [some (P 69), some (I v1), none] [I s0] h Q :=
  s_istore_n c167_18 rfl (s_iload_n c167_19 rfl (s_if 31 (v1 = 0) c167_20 (by decide) rfl ⟨fun q2 => (H.1 q2), fun q2 => s_iload_n c167_23 rfl (s_if 31 (s0 = 0) c167_24 (by decide) rfl ⟨fun q3 => ((H.2 q2).1 q3), fun q3 => s_iconst c167_27 rfl (s_goto 32 c167_28 (by decide) (((H.2 q2).2 q3)))⟩)⟩))
theorem b167_31 {d : Nat} {h : HP} {Q : PV → HP → Prop} {v1 v2 : Int} (H : X d 167 32 [some (P 69), some (I v1), some (I v2)] [I 0] h Q) : X d 167 31 [some (P 69), some (I v1), some (I v2)] [] h Q :=
  s_iconst c167_31 rfl (H)
theorem b167_32 {d : Nat} {h : HP} {Q : PV → HP → Prop} {v1 v2 s0 : Int} (H : X d 167 5 [some (P 69), some (I s0), none] [] h Q) : X d 167 32 [some (P 69), some (I v1), some (I v2)] [I s0] h Q :=
  s_istore_n c167_32 rfl (s_goto 5 c167_33 (by decide) (X_weak (A := [some (P 69), some (I s0), none]) (B := [some (P 69), some (I s0), some (I v2)]) ⟨Or.inl rfl, Or.inl rfl, Or.inr ⟨rfl, _, rfl, rfl⟩, trivial⟩ H))
theorem b167_4 {d : Nat} {h : HP} {Q : PV → HP → Prop} {s0 : Int} (H : X d 167 5 [some (P 69), some (I s0), none] [] h Q) : X d 167 4 [some (P 69), none, none] [I s0] h Q :=
  s_istore_n c167_4 rfl (H)
theorem b167_5 {d : Nat} {h : HP} {Q : PV → HP → Prop} {v1 : Int} (H : X d 164 0 [some (P 69), some (I 38)] [] h (fun r h' => X (d + 1) 167 11 [some (P 69), some (I v1), none] [r] h' Q)) : X (d + 1) 167 5 [some (P 69), some (I v1), none] [] h Q :=
  s_aload_n c167_5 rfl (s_bipush c167_6 ⟨by decide, by decide⟩ (s_cVi c167_8 m167_263 F164 K164 rfl (Nat.le_of_ble_eq_true rfl) rfl S164_69 rfl H))
-- WarmSideModel.test()Z
theorem c166_0 : cdA 166 0 = some (.aload_n 0) := by decide +kernel
theorem c166_1 : cdA 166 1 = some (.invokevirtual 259) := by decide +kernel
theorem m166_259 : mthR (moN 166) 259 = 170 := by decide +kernel
theorem F167 : mF 167 0 3 true := by unfold mF; decide +kernel
theorem K167 : ¬ mK 167 = 4 := by decide +kernel
theorem S167_69 : SH0[69]? = some (.inl (moN 167)) := by decide +kernel
theorem c166_11 : cdA 166 11 = some (.ifCond .eq 25) := by decide +kernel
theorem c166_36 : cdA 166 36 = some (.iload_n 1) := by decide +kernel
theorem c166_37 : cdA 166 37 = some (.ireturn) := by decide +kernel
theorem R166 : mK 166 = 3 := by decide +kernel
theorem c166_14 : cdA 166 14 = some (.aload_n 0) := by decide +kernel
theorem c166_15 : cdA 166 15 = some (.invokevirtual 259) := by decide +kernel
theorem c166_18 : cdA 166 18 = some (.istore_n 2) := by decide +kernel
theorem c166_19 : cdA 166 19 = some (.iload_n 1) := by decide +kernel
theorem c166_20 : cdA 166 20 = some (.ifCond .ne 7) := by decide +kernel
theorem c166_23 : cdA 166 23 = some (.iload_n 2) := by decide +kernel
theorem c166_24 : cdA 166 24 = some (.ifCond .eq 7) := by decide +kernel
theorem c166_31 : cdA 166 31 = some (.iconst 0) := by decide +kernel
theorem c166_27 : cdA 166 27 = some (.iconst 1) := by decide +kernel
theorem c166_28 : cdA 166 28 = some (.goto 4) := by decide +kernel
theorem c166_32 : cdA 166 32 = some (.istore_n 1) := by decide +kernel
theorem c166_33 : cdA 166 33 = some (.goto (-28)) := by decide +kernel
theorem c166_4 : cdA 166 4 = some (.istore_n 1) := by decide +kernel
theorem c166_5 : cdA 166 5 = some (.aload_n 0) := by decide +kernel
theorem c166_6 : cdA 166 6 = some (.bipush 124) := by decide +kernel
theorem c166_8 : cdA 166 8 = some (.invokevirtual 263) := by decide +kernel
theorem m166_263 : mthR (moN 166) 263 = 167 := by decide +kernel
theorem b166_0 {d : Nat} {h : HP} {Q : PV → HP → Prop} (H : X d 167 0 [some (P 69), none, none] [] h (fun r h' => X (d + 1) 166 4 [some (P 69), none, none] [r] h' Q)) : X (d + 1) 166 0 [some (P 69), none, none] [] h Q :=
  s_aload_n c166_0 rfl (s_cVi c166_1 m166_259 F167 K167 rfl (Nat.le_of_ble_eq_true rfl) rfl S167_69 rfl H)
theorem b166_11 {d : Nat} {h : HP} {Q : PV → HP → Prop} {v1 s0 : Int} (H : ((s0 = 0) → ((v1 = 0 ∨ v1 = 1) ∧ Q (I v1) h)) ∧ (¬ (s0 = 0) → X d 167 0 [some (P 69), none, none] [] h (fun r h' => X (d + 1) 166 18 [some (P 69), some (I v1), none] [r] h' Q))) : X (d + 1) 166 11 [some (P 69), some (I v1), none] [I s0] h Q :=
  s_if 36 (s0 = 0) c166_11 (by decide) rfl ⟨fun q1 => s_iload_n c166_36 rfl (s_retZ c166_37 R166 (H.1 q1)), fun q1 => s_aload_n c166_14 rfl (s_cVi c166_15 m166_259 F167 K167 rfl (Nat.le_of_ble_eq_true rfl) rfl S167_69 rfl (H.2 q1))⟩
theorem b166_18 {d : Nat} {h : HP} {Q : PV → HP → Prop} {v1 s0 : Int} (H : ((¬ v1 = 0) → X d 166 27 [some (P 69), some (I v1), some (I s0)] [] h Q) ∧ (¬ (¬ v1 = 0) → (((s0 = 0) → X d 166 32 [some (P 69), some (I v1), some (I s0)] [I 0] h Q) ∧ (¬ (s0 = 0) → X d 166 27 [some (P 69), some (I v1), some (I s0)] [] h Q)))) : X d 166 18 [some (P 69), some (I v1), none] [I s0] h Q :=
  s_istore_n c166_18 rfl (s_iload_n c166_19 rfl (s_if 27 (¬ v1 = 0) c166_20 (by decide) rfl ⟨fun q2 => (H.1 q2), fun q2 => s_iload_n c166_23 rfl (s_if 31 (s0 = 0) c166_24 (by decide) rfl ⟨fun q3 => s_iconst c166_31 rfl (((H.2 q2).1 q3)), fun q3 => ((H.2 q2).2 q3)⟩)⟩))
theorem b166_27 {d : Nat} {h : HP} {Q : PV → HP → Prop} {v1 v2 : Int} (H : X d 166 32 [some (P 69), some (I v1), some (I v2)] [I 1] h Q) : X d 166 27 [some (P 69), some (I v1), some (I v2)] [] h Q :=
  s_iconst c166_27 rfl (s_goto 32 c166_28 (by decide) (H))
theorem b166_32 {d : Nat} {h : HP} {Q : PV → HP → Prop} {v1 v2 s0 : Int} (H : X d 166 5 [some (P 69), some (I s0), none] [] h Q) : X d 166 32 [some (P 69), some (I v1), some (I v2)] [I s0] h Q :=
  s_istore_n c166_32 rfl (s_goto 5 c166_33 (by decide) (X_weak (A := [some (P 69), some (I s0), none]) (B := [some (P 69), some (I s0), some (I v2)]) ⟨Or.inl rfl, Or.inl rfl, Or.inr ⟨rfl, _, rfl, rfl⟩, trivial⟩ H))
theorem b166_4 {d : Nat} {h : HP} {Q : PV → HP → Prop} {s0 : Int} (H : X d 166 5 [some (P 69), some (I s0), none] [] h Q) : X d 166 4 [some (P 69), none, none] [I s0] h Q :=
  s_istore_n c166_4 rfl (H)
theorem b166_5 {d : Nat} {h : HP} {Q : PV → HP → Prop} {v1 : Int} (H : X d 164 0 [some (P 69), some (I 124)] [] h (fun r h' => X (d + 1) 166 11 [some (P 69), some (I v1), none] [r] h' Q)) : X (d + 1) 166 5 [some (P 69), some (I v1), none] [] h Q :=
  s_aload_n c166_5 rfl (s_bipush c166_6 ⟨by decide, by decide⟩ (s_cVi c166_8 m166_263 F164 K164 rfl (Nat.le_of_ble_eq_true rfl) rfl S164_69 rfl H))
-- WarmSideModel.cases()V
theorem c171_0 : cdA 171 0 = some (.aload_n 0) := by decide +kernel
theorem c171_1 : cdA 171 1 = some (.bipush (-9)) := by decide +kernel
theorem c171_3 : cdA 171 3 = some (.putfield 292) := by decide +kernel
theorem f171_292 : fldR (moN 171) 292 = some (12, 58) := by decide +kernel
theorem t12_58 : fcl 12 58 = 0 := by decide +kernel
theorem n12_58 : ffin 12 58 = false := by decide +kernel
theorem c171_6 : cdA 171 6 = some (.iconst 1) := by decide +kernel
theorem c171_7 : cdA 171 7 = some (.istore_n 1) := by decide +kernel
theorem c171_116 : cdA 171 116 = some (.return_) := by decide +kernel
theorem R171 : mK 171 = 4 := by decide +kernel
theorem c171_16 : cdA 171 16 = some (.istore_n 2) := by decide +kernel
theorem c171_17 : cdA 171 17 = some (.aload_n 0) := by decide +kernel
theorem c171_18 : cdA 171 18 = some (.bipush 63) := by decide +kernel
theorem c171_20 : cdA 171 20 = some (.invokevirtual 263) := by decide +kernel
theorem m171_263 : mthR (moN 171) 263 = 167 := by decide +kernel
theorem c171_23 : cdA 171 23 = some (.ifCond .eq 24) := by decide +kernel
theorem c171_26 : cdA 171 26 = some (.aload_n 0) := by decide +kernel
theorem c171_27 : cdA 171 27 = some (.invokevirtual 289) := by decide +kernel
theorem m171_289 : mthR (moN 171) 289 = 168 := by decide +kernel
theorem c171_30 : cdA 171 30 = some (.ifCond .eq 17) := by decide +kernel
theorem c171_33 : cdA 171 33 = some (.aload_n 0) := by decide +kernel
theorem c171_34 : cdA 171 34 = some (.invokevirtual 255) := by decide +kernel
theorem m171_255 : mthR (moN 171) 255 = 165 := by decide +kernel
theorem c171_37 : cdA 171 37 = some (.bipush 48) := by decide +kernel
theorem c171_39 : cdA 171 39 = some (.isub) := by decide +kernel
theorem c171_40 : cdA 171 40 = some (.aload_n 0) := by decide +kernel
theorem c171_41 : cdA 171 41 = some (.getfield 295) := by decide +kernel
theorem f171_295 : fldR (moN 171) 295 = some (12, 57) := by decide +kernel
theorem t12_57 : fcl 12 57 = 0 := by decide +kernel
theorem c171_44 : cdA 171 44 = some (.if_icmp .lt 8) := by decide +kernel
theorem c171_52 : cdA 171 52 = some (.aload_n 0) := by decide +kernel
theorem c171_53 : cdA 171 53 = some (.iload_n 2) := by decide +kernel
theorem c171_54 : cdA 171 54 = some (.ifCond .eq 20) := by decide +kernel
theorem c171_57 : cdA 171 57 = some (.aload_n 0) := by decide +kernel
theorem c171_58 : cdA 171 58 = some (.getfield 292) := by decide +kernel
theorem c171_61 : cdA 171 61 = some (.ifCond .ge 13) := by decide +kernel
theorem c171_64 : cdA 171 64 = some (.aload_n 0) := by decide +kernel
theorem c171_65 : cdA 171 65 = some (.invokevirtual 255) := by decide +kernel
theorem c171_47 : cdA 171 47 = some (.aload_n 0) := by decide +kernel
theorem c171_48 : cdA 171 48 = some (.invokevirtual 271) := by decide +kernel
theorem m171_271 : mthR (moN 171) 271 = 166 := by decide +kernel
theorem c171_51 : cdA 171 51 = some (.return_) := by decide +kernel
theorem c171_68 : cdA 171 68 = some (.bipush 48) := by decide +kernel
theorem c171_70 : cdA 171 70 = some (.isub) := by decide +kernel
theorem c171_71 : cdA 171 71 = some (.goto 7) := by decide +kernel
theorem c171_74 : cdA 171 74 = some (.aload_n 0) := by decide +kernel
theorem c171_75 : cdA 171 75 = some (.getfield 292) := by decide +kernel
theorem c171_78 : cdA 171 78 = some (.putfield 292) := by decide +kernel
theorem c171_81 : cdA 171 81 = some (.aload_n 0) := by decide +kernel
theorem c171_82 : cdA 171 82 = some (.dup) := by decide +kernel
theorem c171_83 : cdA 171 83 = some (.getfield 243) := by decide +kernel
theorem f171_243 : fldR (moN 171) 243 = some (12, 50) := by decide +kernel
theorem c171_86 : cdA 171 86 = some (.iconst 1) := by decide +kernel
theorem c171_87 : cdA 171 87 = some (.iadd) := by decide +kernel
theorem c171_88 : cdA 171 88 = some (.putfield 243) := by decide +kernel
theorem c171_91 : cdA 171 91 = some (.aload_n 0) := by decide +kernel
theorem c171_92 : cdA 171 92 = some (.bipush 59) := by decide +kernel
theorem c171_94 : cdA 171 94 = some (.invokevirtual 263) := by decide +kernel
theorem c171_8 : cdA 171 8 = some (.iload_n 1) := by decide +kernel
theorem c171_9 : cdA 171 9 = some (.ifCond .eq 92) := by decide +kernel
theorem c171_101 : cdA 171 101 = some (.aload_n 0) := by decide +kernel
theorem c171_102 : cdA 171 102 = some (.getfield 243) := by decide +kernel
theorem c171_105 : cdA 171 105 = some (.aload_n 0) := by decide +kernel
theorem c171_106 : cdA 171 106 = some (.getfield 246) := by decide +kernel
theorem f171_246 : fldR (moN 171) 246 = some (12, 51) := by decide +kernel
theorem c171_109 : cdA 171 109 = some (.if_icmp .ge 7) := by decide +kernel
theorem c171_112 : cdA 171 112 = some (.aload_n 0) := by decide +kernel
theorem c171_113 : cdA 171 113 = some (.invokevirtual 271) := by decide +kernel
theorem c171_12 : cdA 171 12 = some (.aload_n 0) := by decide +kernel
theorem c171_13 : cdA 171 13 = some (.invokevirtual 274) := by decide +kernel
theorem m171_274 : mthR (moN 171) 274 = 169 := by decide +kernel
theorem c171_97 : cdA 171 97 = some (.istore_n 1) := by decide +kernel
theorem c171_98 : cdA 171 98 = some (.goto (-90)) := by decide +kernel
theorem b171_0 {d : Nat} {h : HP} {Q : PV → HP → Prop} (H : X d 171 8 [some (P 69), some (I 1), none] [] (up2 h 69 58 (-9)) Q) : X d 171 0 [some (P 69), none, none] [] h Q :=
  s_aload_n c171_0 rfl (s_bipush c171_1 ⟨by decide, by decide⟩ (s_putI c171_3 f171_292 t12_58 n12_58 sh_69 (s_iconst c171_6 rfl (s_istore_n c171_7 rfl (H)))))
theorem b171_116 {d : Nat} {h : HP} {Q : PV → HP → Prop} {v1 : Int} (H : Q (I 0) h) : X d 171 116 [some (P 69), some (I v1), none] [] h Q :=
  s_retV c171_116 R171 H
theorem b171_16 {d : Nat} {h : HP} {Q : PV → HP → Prop} {v1 s0 : Int} (H : X d 164 0 [some (P 69), some (I 63)] [] h (fun r h' => X (d + 1) 171 23 [some (P 69), some (I v1), some (I s0)] [r] h' Q)) : X (d + 1) 171 16 [some (P 69), some (I v1), none] [I s0] h Q :=
  s_istore_n c171_16 rfl (s_aload_n c171_17 rfl (s_bipush c171_18 ⟨by decide, by decide⟩ (s_cVi c171_20 m171_263 F164 K164 rfl (Nat.le_of_ble_eq_true rfl) rfl S164_69 rfl H)))
theorem b171_23 {d : Nat} {h : HP} {Q : PV → HP → Prop} {v1 v2 s0 : Int} (H : ((s0 = 0) → X (d + 1) 171 47 [some (P 69), some (I v1), some (I v2)] [] h Q) ∧ (¬ (s0 = 0) → X d 165 0 [some (P 69)] [] h (fun r h' => X (d + 1) 171 30 [some (P 69), some (I v1), some (I v2)] [r] h' Q))) : X (d + 1) 171 23 [some (P 69), some (I v1), some (I v2)] [I s0] h Q :=
  s_if 47 (s0 = 0) c171_23 (by decide) rfl ⟨fun q1 => (H.1 q1), fun q1 => s_aload_n c171_26 rfl (s_cVi c171_27 m171_289 F165 K165 rfl (Nat.le_of_ble_eq_true rfl) rfl S165_69 rfl (H.2 q1))⟩
theorem b171_30 {d : Nat} {h : HP} {Q : PV → HP → Prop} {v1 v2 s0 : Int} (H : ((s0 = 0) → X (d + 1) 171 47 [some (P 69), some (I v1), some (I v2)] [] h Q) ∧ (¬ (s0 = 0) → X d 162 0 [some (P 69)] [] h (fun r h' => X (d + 1) 171 37 [some (P 69), some (I v1), some (I v2)] [r] h' Q))) : X (d + 1) 171 30 [some (P 69), some (I v1), some (I v2)] [I s0] h Q :=
  s_if 47 (s0 = 0) c171_30 (by decide) rfl ⟨fun q2 => (H.1 q2), fun q2 => s_aload_n c171_33 rfl (s_cVi c171_34 m171_255 F162 K162 rfl (Nat.le_of_ble_eq_true rfl) rfl S162_69 rfl (H.2 q2))⟩
theorem b171_37 {d : Nat} {h : HP} {Q : PV → HP → Prop} {v1 v2 s0 : Int} (H : (((w32 (s0 - 48)) < (h 69 57)) → (((v2 = 0) → X (d + 1) 171 74 [some (P 69), some (I v1), some (I v2)] [P 69] h Q) ∧ (¬ (v2 = 0) → (((0 ≤ (h 69 58)) → X (d + 1) 171 74 [some (P 69), some (I v1), some (I v2)] [P 69] h Q) ∧ (¬ (0 ≤ (h 69 58)) → X d 162 0 [some (P 69)] [] h (fun r h' => X (d + 1) 171 68 [some (P 69), some (I v1), some (I v2)] [r, P 69] h' Q)))))) ∧ (¬ ((w32 (s0 - 48)) < (h 69 57)) → X (d + 1) 171 47 [some (P 69), some (I v1), some (I v2)] [] h Q)) : X (d + 1) 171 37 [some (P 69), some (I v1), some (I v2)] [I s0] h Q :=
  s_bipush c171_37 ⟨by decide, by decide⟩ (s_isub c171_39 (s_aload_n c171_40 rfl (s_getI c171_41 f171_295 t12_57 sh_69 (s_ifc 52 ((w32 (s0 - 48)) < (h 69 57)) c171_44 (by decide) rfl ⟨fun q3 => s_aload_n c171_52 rfl (s_iload_n c171_53 rfl (s_if 74 (v2 = 0) c171_54 (by decide) rfl ⟨fun q4 => ((H.1 q3).1 q4), fun q4 => s_aload_n c171_57 rfl (s_getI c171_58 f171_292 t12_58 sh_69 (s_if 74 (0 ≤ (h 69 58)) c171_61 (by decide) rfl ⟨fun q5 => (((H.1 q3).2 q4).1 q5), fun q5 => s_aload_n c171_64 rfl (s_cVi c171_65 m171_255 F162 K162 rfl (Nat.le_of_ble_eq_true rfl) rfl S162_69 rfl (((H.1 q3).2 q4).2 q5))⟩))⟩)), fun q3 => (H.2 q3)⟩))))
theorem b171_47 {d : Nat} {h : HP} {Q : PV → HP → Prop} {v1 v2 : Int} (H : X d 163 0 [some (P 69)] [] h (fun _ h' => X (d + 1) 171 51 [some (P 69), some (I v1), some (I v2)] [] h' Q)) : X (d + 1) 171 47 [some (P 69), some (I v1), some (I v2)] [] h Q :=
  s_aload_n c171_47 rfl (s_cVv c171_48 m171_271 F163 K163 rfl (Nat.le_of_ble_eq_true rfl) rfl S163_69 rfl H)
theorem b171_51 {d : Nat} {h : HP} {Q : PV → HP → Prop} {v1 v2 : Int} (H : Q (I 0) h) : X d 171 51 [some (P 69), some (I v1), some (I v2)] [] h Q :=
  s_retV c171_51 R171 H
theorem b171_68 {d : Nat} {h : HP} {Q : PV → HP → Prop} {v1 v2 s1 : Int} (H : X d 171 78 [some (P 69), some (I v1), some (I v2)] [I (w32 (s1 - 48)), P 69] h Q) : X d 171 68 [some (P 69), some (I v1), some (I v2)] [I s1, P 69] h Q :=
  s_bipush c171_68 ⟨by decide, by decide⟩ (s_isub c171_70 (s_goto 78 c171_71 (by decide) (H)))
theorem b171_74 {d : Nat} {h : HP} {Q : PV → HP → Prop} {v1 v2 : Int} (H : X d 171 78 [some (P 69), some (I v1), some (I v2)] [I (h 69 58), P 69] h Q) : X d 171 74 [some (P 69), some (I v1), some (I v2)] [P 69] h Q :=
  s_aload_n c171_74 rfl (s_getI c171_75 f171_292 t12_58 sh_69 (H))
theorem b171_78 {d : Nat} {h : HP} {Q : PV → HP → Prop} {v1 v2 s1 : Int} (H : X d 164 0 [some (P 69), some (I 59)] [] (up2 (up2 h 69 58 s1) 69 50 (w32 ((h 69 50) + 1))) (fun r h' => X (d + 1) 171 97 [some (P 69), some (I v1), some (I v2)] [r] h' Q)) : X (d + 1) 171 78 [some (P 69), some (I v1), some (I v2)] [I s1, P 69] h Q :=
  s_putI c171_78 f171_292 t12_58 n12_58 sh_69 (s_aload_n c171_81 rfl (s_dupP c171_82 (s_getI c171_83 f171_243 t12_50 sh_69 (s_iconst c171_86 rfl (s_iadd c171_87 (s_putI c171_88 f171_243 t12_50 n12_50 sh_69 (s_aload_n c171_91 rfl (s_bipush c171_92 ⟨by decide, by decide⟩ (s_cVi c171_94 m171_263 F164 K164 rfl (Nat.le_of_ble_eq_true rfl) rfl S164_69 rfl H)))))))))
theorem b171_8 {d : Nat} {h : HP} {Q : PV → HP → Prop} {v1 : Int} (H : ((v1 = 0) → ((((h 69 51) ≤ (h 69 50)) → X (d + 1) 171 116 [some (P 69), some (I v1), none] [] h Q) ∧ (¬ ((h 69 51) ≤ (h 69 50)) → X d 163 0 [some (P 69)] [] h (fun _ h' => X (d + 1) 171 116 [some (P 69), some (I v1), none] [] h' Q)))) ∧ (¬ (v1 = 0) → X d 166 0 [some (P 69), none, none] [] h (fun r h' => X (d + 1) 171 16 [some (P 69), some (I v1), none] [r] h' Q))) : X (d + 1) 171 8 [some (P 69), some (I v1), none] [] h Q :=
  s_iload_n c171_8 rfl (s_if 101 (v1 = 0) c171_9 (by decide) rfl ⟨fun q6 => s_aload_n c171_101 rfl (s_getI c171_102 f171_243 t12_50 sh_69 (s_aload_n c171_105 rfl (s_getI c171_106 f171_246 t12_51 sh_69 (s_ifc 116 ((h 69 51) ≤ (h 69 50)) c171_109 (by decide) rfl ⟨fun q7 => ((H.1 q6).1 q7), fun q7 => s_aload_n c171_112 rfl (s_cVv c171_113 m171_271 F163 K163 rfl (Nat.le_of_ble_eq_true rfl) rfl S163_69 rfl ((H.1 q6).2 q7))⟩)))), fun q6 => s_aload_n c171_12 rfl (s_cVi c171_13 m171_274 F166 K166 rfl (Nat.le_of_ble_eq_true rfl) rfl S166_69 rfl (H.2 q6))⟩)
theorem b171_97 {d : Nat} {h : HP} {Q : PV → HP → Prop} {v1 v2 s0 : Int} (H : X d 171 8 [some (P 69), some (I s0), none] [] h Q) : X d 171 97 [some (P 69), some (I v1), some (I v2)] [I s0] h Q :=
  s_istore_n c171_97 rfl (s_goto 8 c171_98 (by decide) (X_weak (A := [some (P 69), some (I s0), none]) (B := [some (P 69), some (I s0), some (I v2)]) ⟨Or.inl rfl, Or.inl rfl, Or.inr ⟨rfl, _, rfl, rfl⟩, trivial⟩ H))
-- WarmSideModel.text()I
theorem c172_0 : cdA 172 0 = some (.aload_n 0) := by decide +kernel
theorem c172_1 : cdA 172 1 = some (.bipush (-9)) := by decide +kernel
theorem c172_3 : cdA 172 3 = some (.putfield 249) := by decide +kernel
theorem f172_249 : fldR (moN 172) 249 = some (12, 49) := by decide +kernel
theorem n12_49 : ffin 12 49 = false := by decide +kernel
theorem c172_6 : cdA 172 6 = some (.aload_n 0) := by decide +kernel
theorem c172_7 : cdA 172 7 = some (.iconst 0) := by decide +kernel
theorem c172_8 : cdA 172 8 = some (.putfield 243) := by decide +kernel
theorem f172_243 : fldR (moN 172) 243 = some (12, 50) := by decide +kernel
theorem c172_11 : cdA 172 11 = some (.aload_n 0) := by decide +kernel
theorem c172_12 : cdA 172 12 = some (.aload_n 0) := by decide +kernel
theorem c172_13 : cdA 172 13 = some (.getfield 238) := by decide +kernel
theorem f172_238 : fldR (moN 172) 238 = some (12, 46) := by decide +kernel
theorem c172_16 : cdA 172 16 = some (.putfield 246) := by decide +kernel
theorem f172_246 : fldR (moN 172) 246 = some (12, 51) := by decide +kernel
theorem n12_51 : ffin 12 51 = false := by decide +kernel
theorem c172_19 : cdA 172 19 = some (.aload_n 0) := by decide +kernel
theorem c172_20 : cdA 172 20 = some (.bipush (-9)) := by decide +kernel
theorem c172_22 : cdA 172 22 = some (.putfield 252) := by decide +kernel
theorem f172_252 : fldR (moN 172) 252 = some (12, 52) := by decide +kernel
theorem c172_25 : cdA 172 25 = some (.aload_n 0) := by decide +kernel
theorem c172_26 : cdA 172 26 = some (.iconst 0) := by decide +kernel
theorem c172_27 : cdA 172 27 = some (.putfield 268) := by decide +kernel
theorem f172_268 : fldR (moN 172) 268 = some (12, 53) := by decide +kernel
theorem c172_30 : cdA 172 30 = some (.iconst 0) := by decide +kernel
theorem c172_31 : cdA 172 31 = some (.istore_n 1) := by decide +kernel
theorem c172_32 : cdA 172 32 = some (.aload_n 0) := by decide +kernel
theorem c172_33 : cdA 172 33 = some (.invokevirtual 255) := by decide +kernel
theorem m172_255 : mthR (moN 172) 255 = 165 := by decide +kernel
theorem c172_101 : cdA 172 101 = some (.ifCond .eq 39) := by decide +kernel
theorem c172_104 : cdA 172 104 = some (.aload_n 0) := by decide +kernel
theorem c172_105 : cdA 172 105 = some (.getfield 25) := by decide +kernel
theorem f172_25 : fldR (moN 172) 25 = some (12, 5) := by decide +kernel
theorem c172_108 : cdA 172 108 = some (.aload_n 0) := by decide +kernel
theorem c172_109 : cdA 172 109 = some (.iload_n 1) := by decide +kernel
theorem c172_110 : cdA 172 110 = some (.invokevirtual 191) := by decide +kernel
theorem m172_191 : mthR (moN 172) 191 = 139 := by decide +kernel
theorem c172_113 : cdA 172 113 = some (.ifCond .eq 7) := by decide +kernel
theorem c172_120 : cdA 172 120 = some (.iconst 0) := by decide +kernel
theorem c172_116 : cdA 172 116 = some (.iload_n 1) := by decide +kernel
theorem c172_117 : cdA 172 117 = some (.goto 4) := by decide +kernel
theorem c172_121 : cdA 172 121 = some (.iaload) := by decide +kernel
theorem c172_122 : cdA 172 122 = some (.ifCond .lt 18) := by decide +kernel
theorem c172_125 : cdA 172 125 = some (.goto 11) := by decide +kernel
theorem c172_133 : cdA 172 133 = some (.ifCond .eq 7) := by decide +kernel
theorem c172_136 : cdA 172 136 = some (.iconst 1) := by decide +kernel
theorem c172_137 : cdA 172 137 = some (.goto 4) := by decide +kernel
theorem c172_140 : cdA 172 140 = some (.iconst 0) := by decide +kernel
theorem c172_141 : cdA 172 141 = some (.istore_n 3) := by decide +kernel
theorem c172_142 : cdA 172 142 = some (.iload_n 3) := by decide +kernel
theorem c172_143 : cdA 172 143 = some (.ifCond .ne 10) := by decide +kernel
theorem c172_153 : cdA 172 153 = some (.aload_n 0) := by decide +kernel
theorem c172_154 : cdA 172 154 = some (.dup) := by decide +kernel
theorem c172_155 : cdA 172 155 = some (.getfield 243) := by decide +kernel
theorem c172_158 : cdA 172 158 = some (.iconst 1) := by decide +kernel
theorem c172_159 : cdA 172 159 = some (.iadd) := by decide +kernel
theorem c172_160 : cdA 172 160 = some (.putfield 243) := by decide +kernel
theorem c172_163 : cdA 172 163 = some (.aload_n 0) := by decide +kernel
theorem c172_164 : cdA 172 164 = some (.bipush 58) := by decide +kernel
theorem c172_166 : cdA 172 166 = some (.invokevirtual 263) := by decide +kernel
theorem m172_263 : mthR (moN 172) 263 = 167 := by decide +kernel
theorem c172_146 : cdA 172 146 = some (.aload_n 0) := by decide +kernel
theorem c172_147 : cdA 172 147 = some (.invokevirtual 271) := by decide +kernel
theorem m172_271 : mthR (moN 172) 271 = 166 := by decide +kernel
theorem c172_150 : cdA 172 150 = some (.goto 46) := by decide +kernel
theorem c172_169 : cdA 172 169 = some (.ifCond .eq 23) := by decide +kernel
theorem c172_192 : cdA 172 192 = some (.aload_n 0) := by decide +kernel
theorem c172_193 : cdA 172 193 = some (.invokevirtual 271) := by decide +kernel
theorem c172_172 : cdA 172 172 = some (.aload_n 0) := by decide +kernel
theorem c172_173 : cdA 172 173 = some (.iload_n 2) := by decide +kernel
theorem c172_174 : cdA 172 174 = some (.ifCond .eq 7) := by decide +kernel
theorem c172_181 : cdA 172 181 = some (.iconst 2) := by decide +kernel
theorem c172_177 : cdA 172 177 = some (.iconst 3) := by decide +kernel
theorem c172_178 : cdA 172 178 = some (.goto 4) := by decide +kernel
theorem c172_182 : cdA 172 182 = some (.putfield 295) := by decide +kernel
theorem f172_295 : fldR (moN 172) 295 = some (12, 57) := by decide +kernel
theorem n12_57 : ffin 12 57 = false := by decide +kernel
theorem c172_185 : cdA 172 185 = some (.aload_n 0) := by decide +kernel
theorem c172_186 : cdA 172 186 = some (.invokevirtual 298) := by decide +kernel
theorem m172_298 : mthR (moN 172) 298 = 174 := by decide +kernel
theorem F171 : mF 171 0 3 true := by unfold mF; decide +kernel
theorem K171 : mK 171 = 4 := by decide +kernel
theorem S171_69 : SH0[69]? = some (.inl (moN 171)) := by decide +kernel
theorem c172_189 : cdA 172 189 = some (.goto 7) := by decide +kernel
theorem c172_196 : cdA 172 196 = some (.aload_n 0) := by decide +kernel
theorem c172_197 : cdA 172 197 = some (.getfield 238) := by decide +kernel
theorem c172_200 : cdA 172 200 = some (.istore_n 3) := by decide +kernel
theorem c172_201 : cdA 172 201 = some (.aload_n 0) := by decide +kernel
theorem c172_202 : cdA 172 202 = some (.iconst 0) := by decide +kernel
theorem c172_203 : cdA 172 203 = some (.putfield 238) := by decide +kernel
theorem c172_206 : cdA 172 206 = some (.aload_n 0) := by decide +kernel
theorem c172_207 : cdA 172 207 = some (.getfield 252) := by decide +kernel
theorem c172_210 : cdA 172 210 = some (.ifCond .lt 11) := by decide +kernel
theorem c172_221 : cdA 172 221 = some (.iload_n 2) := by decide +kernel
theorem c172_222 : cdA 172 222 = some (.ifCond .eq 9) := by decide +kernel
theorem c172_231 : cdA 172 231 = some (.iload_n 1) := by decide +kernel
theorem c172_225 : cdA 172 225 = some (.iconst 4) := by decide +kernel
theorem c172_226 : cdA 172 226 = some (.iload_n 1) := by decide +kernel
theorem c172_227 : cdA 172 227 = some (.iadd) := by decide +kernel
theorem c172_228 : cdA 172 228 = some (.goto 4) := by decide +kernel
theorem c172_213 : cdA 172 213 = some (.bipush (-20)) := by decide +kernel
theorem c172_215 : cdA 172 215 = some (.aload_n 0) := by decide +kernel
theorem c172_216 : cdA 172 216 = some (.getfield 252) := by decide +kernel
theorem c172_219 : cdA 172 219 = some (.isub) := by decide +kernel
theorem c172_220 : cdA 172 220 = some (.ireturn) := by decide +kernel
theorem R172 : mK 172 = 0 := by decide +kernel
theorem c172_232 : cdA 172 232 = some (.istore 4) := by decide +kernel
theorem c172_234 : cdA 172 234 = some (.iconst 0) := by decide +kernel
theorem c172_235 : cdA 172 235 = some (.istore 5) := by decide +kernel
theorem c172_237 : cdA 172 237 = some (.iload 5) := by decide +kernel
theorem c172_239 : cdA 172 239 = some (.iload_n 3) := by decide +kernel
theorem c172_240 : cdA 172 240 = some (.if_icmp .ge 29) := by decide +kernel
theorem c172_269 : cdA 172 269 = some (.aload_n 0) := by decide +kernel
theorem c172_270 : cdA 172 270 = some (.getfield 117) := by decide +kernel
theorem f172_117 : fldR (moN 172) 117 = some (12, 48) := by decide +kernel
theorem t12_48 : fcl 12 48 = 2 := by decide +kernel
theorem c172_273 : cdA 172 273 = some (.iload 4) := by decide +kernel
theorem c172_275 : cdA 172 275 = some (.iload_n 3) := by decide +kernel
theorem c172_276 : cdA 172 276 = some (.iastore) := by decide +kernel
theorem c172_277 : cdA 172 277 = some (.iconst 1) := by decide +kernel
theorem c172_278 : cdA 172 278 = some (.ireturn) := by decide +kernel
theorem c172_243 : cdA 172 243 = some (.aload_n 0) := by decide +kernel
theorem c172_244 : cdA 172 244 = some (.getfield 114) := by decide +kernel
theorem f172_114 : fldR (moN 172) 114 = some (12, 47) := by decide +kernel
theorem c172_247 : cdA 172 247 = some (.bipush 40) := by decide +kernel
theorem c172_249 : cdA 172 249 = some (.iload 4) := by decide +kernel
theorem c172_251 : cdA 172 251 = some (.imul) := by decide +kernel
theorem c172_252 : cdA 172 252 = some (.iload 5) := by decide +kernel
theorem c172_254 : cdA 172 254 = some (.iadd) := by decide +kernel
theorem c172_255 : cdA 172 255 = some (.aload_n 0) := by decide +kernel
theorem c172_256 : cdA 172 256 = some (.getfield 111) := by decide +kernel
theorem f172_111 : fldR (moN 172) 111 = some (12, 45) := by decide +kernel
theorem c172_259 : cdA 172 259 = some (.iload 5) := by decide +kernel
theorem c172_261 : cdA 172 261 = some (.iaload) := by decide +kernel
theorem c172_262 : cdA 172 262 = some (.iastore) := by decide +kernel
theorem c172_263 : cdA 172 263 = some (.iinc 5 1) := by decide +kernel
theorem c172_266 : cdA 172 266 = some (.goto (-29)) := by decide +kernel
theorem c172_36 : cdA 172 36 = some (.bipush 70) := by decide +kernel
theorem c172_38 : cdA 172 38 = some (.if_icmp .ne 7) := by decide +kernel
theorem c172_45 : cdA 172 45 = some (.iconst 0) := by decide +kernel
theorem c172_41 : cdA 172 41 = some (.iconst 1) := by decide +kernel
theorem c172_42 : cdA 172 42 = some (.goto 4) := by decide +kernel
theorem c172_46 : cdA 172 46 = some (.istore_n 2) := by decide +kernel
theorem c172_47 : cdA 172 47 = some (.iload_n 2) := by decide +kernel
theorem c172_48 : cdA 172 48 = some (.ifCond .ne 19) := by decide +kernel
theorem c172_51 : cdA 172 51 = some (.aload_n 0) := by decide +kernel
theorem c172_52 : cdA 172 52 = some (.invokevirtual 255) := by decide +kernel
theorem c172_55 : cdA 172 55 = some (.bipush 72) := by decide +kernel
theorem c172_57 : cdA 172 57 = some (.if_icmp .eq 10) := by decide +kernel
theorem c172_60 : cdA 172 60 = some (.aload_n 0) := by decide +kernel
theorem c172_61 : cdA 172 61 = some (.invokevirtual 271) := by decide +kernel
theorem c172_64 : cdA 172 64 = some (.goto 132) := by decide +kernel
theorem c172_67 : cdA 172 67 = some (.aload_n 0) := by decide +kernel
theorem c172_68 : cdA 172 68 = some (.dup) := by decide +kernel
theorem c172_69 : cdA 172 69 = some (.getfield 243) := by decide +kernel
theorem c172_72 : cdA 172 72 = some (.iconst 1) := by decide +kernel
theorem c172_73 : cdA 172 73 = some (.iadd) := by decide +kernel
theorem c172_74 : cdA 172 74 = some (.putfield 243) := by decide +kernel
theorem c172_77 : cdA 172 77 = some (.aload_n 0) := by decide +kernel
theorem c172_78 : cdA 172 78 = some (.invokevirtual 255) := by decide +kernel
theorem c172_81 : cdA 172 81 = some (.bipush 48) := by decide +kernel
theorem c172_83 : cdA 172 83 = some (.isub) := by decide +kernel
theorem c172_84 : cdA 172 84 = some (.istore_n 1) := by decide +kernel
theorem c172_85 : cdA 172 85 = some (.aload_n 0) := by decide +kernel
theorem c172_86 : cdA 172 86 = some (.invokevirtual 289) := by decide +kernel
theorem m172_289 : mthR (moN 172) 289 = 168 := by decide +kernel
theorem c172_89 : cdA 172 89 = some (.ifCond .eq 51) := by decide +kernel
theorem c172_92 : cdA 172 92 = some (.iload_n 2) := by decide +kernel
theorem c172_93 : cdA 172 93 = some (.ifCond .eq 35) := by decide +kernel
theorem c172_128 : cdA 172 128 = some (.aload_n 0) := by decide +kernel
theorem c172_129 : cdA 172 129 = some (.iload_n 1) := by decide +kernel
theorem c172_130 : cdA 172 130 = some (.invokevirtual 235) := by decide +kernel
theorem m172_235 : mthR (moN 172) 235 = 161 := by decide +kernel
theorem c172_96 : cdA 172 96 = some (.aload_n 0) := by decide +kernel
theorem c172_97 : cdA 172 97 = some (.iload_n 1) := by decide +kernel
theorem c172_98 : cdA 172 98 = some (.invokevirtual 191) := by decide +kernel
theorem b172_0 {d : Nat} {h : HP} {Q : PV → HP → Prop} (H : X d 162 0 [some (P 69)] [] (up2 (up2 (up2 (up2 (up2 h 69 49 (-9)) 69 50 0) 69 51 (h 69 46)) 69 52 (-9)) 69 53 0) (fun r h' => X (d + 1) 172 36 [some (P 69), some (I 0), none, none, none, none] [r] h' Q)) : X (d + 1) 172 0 [some (P 69), none, none, none, none, none] [] h Q :=
  s_aload_n c172_0 rfl (s_bipush c172_1 ⟨by decide, by decide⟩ (s_putI c172_3 f172_249 t12_49 n12_49 sh_69 (s_aload_n c172_6 rfl (s_iconst c172_7 rfl (s_putI c172_8 f172_243 t12_50 n12_50 sh_69 (s_aload_n c172_11 rfl (s_aload_n c172_12 rfl (s_getI c172_13 f172_238 t12_46 sh_69 (s_putI c172_16 f172_246 t12_51 n12_51 sh_69 (s_aload_n c172_19 rfl (s_bipush c172_20 ⟨by decide, by decide⟩ (s_putI c172_22 f172_252 t12_52 n12_52 sh_69 (s_aload_n c172_25 rfl (s_iconst c172_26 rfl (s_putI c172_27 f172_268 t12_53 n12_53 sh_69 (s_iconst c172_30 rfl (s_istore_n c172_31 rfl (s_aload_n c172_32 rfl (s_cVi c172_33 m172_255 F162 K162 rfl (Nat.le_of_ble_eq_true rfl) rfl S162_69 rfl H)))))))))))))))))))
theorem b172_101 {d : Nat} {h : HP} {Q : PV → HP → Prop} {v1 v2 s0 : Int} (H : ((s0 = 0) → X (d + 1) 172 140 [some (P 69), some (I v1), some (I v2), none, none, none] [] h Q) ∧ (¬ (s0 = 0) → X d 136 0 [some (P 69), some (I v1)] [] h (fun r h' => X (d + 1) 172 113 [some (P 69), some (I v1), some (I v2), none, none, none] [r, P 75] h' Q))) : X (d + 1) 172 101 [some (P 69), some (I v1), some (I v2), none, none, none] [I s0] h Q :=
  s_if 140 (s0 = 0) c172_101 (by decide) rfl ⟨fun q1 => (H.1 q1), fun q1 => s_aload_n c172_104 rfl (s_getP 75 c172_105 f172_25 t12_5 sh_69 g_69_5 (by decide) (by decide) (s_aload_n c172_108 rfl (s_iload_n c172_109 rfl (s_cVi c172_110 m172_191 F136 K136 rfl (Nat.le_of_ble_eq_true rfl) rfl S136_69 rfl (H.2 q1)))))⟩
theorem b172_113 {d : Nat} {h : HP} {Q : PV → HP → Prop} {v1 v2 s1 : Int} (H : ((s1 = 0) → X d 172 121 [some (P 69), some (I v1), some (I v2), none, none, none] [I 0, P 75] h Q) ∧ (¬ (s1 = 0) → X d 172 121 [some (P 69), some (I v1), some (I v2), none, none, none] [I v1, P 75] h Q)) : X d 172 113 [some (P 69), some (I v1), some (I v2), none, none, none] [I s1, P 75] h Q :=
  s_if 120 (s1 = 0) c172_113 (by decide) rfl ⟨fun q2 => s_iconst c172_120 rfl ((H.1 q2)), fun q2 => s_iload_n c172_116 rfl (s_goto 121 c172_117 (by decide) ((H.2 q2)))⟩
theorem b172_121 {d : Nat} {h : HP} {Q : PV → HP → Prop} {v1 v2 s1 : Int} (H : (0 ≤ s1 ∧ s1 < 8) ∧ ((((h 75 s1.toNat) < 0) → X d 172 140 [some (P 69), some (I v1), some (I v2), none, none, none] [] h Q) ∧ (¬ ((h 75 s1.toNat) < 0) → X d 172 136 [some (P 69), some (I v1), some (I v2), none, none, none] [] h Q))) : X d 172 121 [some (P 69), some (I v1), some (I v2), none, none, none] [I s1, P 75] h Q :=
  s_iald c172_121 sh_75 ⟨H.1, s_if 140 ((h 75 s1.toNat) < 0) c172_122 (by decide) rfl ⟨fun q3 => (H.2.1 q3), fun q3 => s_goto 136 c172_125 (by decide) ((H.2.2 q3))⟩⟩
theorem b172_133 {d : Nat} {h : HP} {Q : PV → HP → Prop} {v1 v2 s0 : Int} (H : ((s0 = 0) → X d 172 140 [some (P 69), some (I v1), some (I v2), none, none, none] [] h Q) ∧ (¬ (s0 = 0) → X d 172 136 [some (P 69), some (I v1), some (I v2), none, none, none] [] h Q)) : X d 172 133 [some (P 69), some (I v1), some (I v2), none, none, none] [I s0] h Q :=
  s_if 140 (s0 = 0) c172_133 (by decide) rfl ⟨fun q4 => (H.1 q4), fun q4 => (H.2 q4)⟩
theorem b172_136 {d : Nat} {h : HP} {Q : PV → HP → Prop} {v1 v2 : Int} (H : X d 172 141 [some (P 69), some (I v1), some (I v2), none, none, none] [I 1] h Q) : X d 172 136 [some (P 69), some (I v1), some (I v2), none, none, none] [] h Q :=
  s_iconst c172_136 rfl (s_goto 141 c172_137 (by decide) (H))
theorem b172_140 {d : Nat} {h : HP} {Q : PV → HP → Prop} {v1 v2 : Int} (H : X d 172 141 [some (P 69), some (I v1), some (I v2), none, none, none] [I 0] h Q) : X d 172 140 [some (P 69), some (I v1), some (I v2), none, none, none] [] h Q :=
  s_iconst c172_140 rfl (H)
theorem b172_141 {d : Nat} {h : HP} {Q : PV → HP → Prop} {v1 v2 s0 : Int} (H : ((¬ s0 = 0) → X d 164 0 [some (P 69), some (I 58)] [] (up2 h 69 50 (w32 ((h 69 50) + 1))) (fun r h' => X (d + 1) 172 169 [some (P 69), some (I v1), some (I v2), some (I s0), none, none] [r] h' Q)) ∧ (¬ (¬ s0 = 0) → X d 163 0 [some (P 69)] [] h (fun _ h' => X (d + 1) 172 150 [some (P 69), some (I v1), some (I v2), some (I s0), none, none] [] h' Q))) : X (d + 1) 172 141 [some (P 69), some (I v1), some (I v2), none, none, none] [I s0] h Q :=
  s_istore_n c172_141 rfl (s_iload_n c172_142 rfl (s_if 153 (¬ s0 = 0) c172_143 (by decide) rfl ⟨fun q5 => s_aload_n c172_153 rfl (s_dupP c172_154 (s_getI c172_155 f172_243 t12_50 sh_69 (s_iconst c172_158 rfl (s_iadd c172_159 (s_putI c172_160 f172_243 t12_50 n12_50 sh_69 (s_aload_n c172_163 rfl (s_bipush c172_164 ⟨by decide, by decide⟩ (s_cVi c172_166 m172_263 F164 K164 rfl (Nat.le_of_ble_eq_true rfl) rfl S164_69 rfl (H.1 q5))))))))), fun q5 => s_aload_n c172_146 rfl (s_cVv c172_147 m172_271 F163 K163 rfl (Nat.le_of_ble_eq_true rfl) rfl S163_69 rfl (H.2 q5))⟩))
theorem b172_150 {d : Nat} {h : HP} {Q : PV → HP → Prop} {v1 v2 v3 : Int} (H : X d 172 196 [some (P 69), some (I v1), some (I v2), none, none, none] [] h Q) : X d 172 150 [some (P 69), some (I v1), some (I v2), some (I v3), none, none] [] h Q :=
  s_goto 196 c172_150 (by decide) (X_weak (A := [some (P 69), some (I v1), some (I v2), none, none, none]) (B := [some (P 69), some (I v1), some (I v2), some (I v3), none, none]) ⟨Or.inl rfl, Or.inl rfl, Or.inl rfl, Or.inr ⟨rfl, _, rfl, rfl⟩, Or.inl rfl, Or.inl rfl, trivial⟩ H)
theorem b172_169 {d : Nat} {h : HP} {Q : PV → HP → Prop} {v1 v2 v3 s0 : Int} (H : ((s0 = 0) → X d 163 0 [some (P 69)] [] h (fun _ h' => X (d + 1) 172 196 [some (P 69), some (I v1), some (I v2), some (I v3), none, none] [] h' Q)) ∧ (¬ (s0 = 0) → (((v2 = 0) → X (d + 1) 172 182 [some (P 69), some (I v1), some (I v2), some (I v3), none, none] [I 2, P 69] h Q) ∧ (¬ (v2 = 0) → X (d + 1) 172 182 [some (P 69), some (I v1), some (I v2), some (I v3), none, none] [I 3, P 69] h Q)))) : X (d + 1) 172 169 [some (P 69), some (I v1), some (I v2), some (I v3), none, none] [I s0] h Q :=
  s_if 192 (s0 = 0) c172_169 (by decide) rfl ⟨fun q6 => s_aload_n c172_192 rfl (s_cVv c172_193 m172_271 F163 K163 rfl (Nat.le_of_ble_eq_true rfl) rfl S163_69 rfl (H.1 q6)), fun q6 => s_aload_n c172_172 rfl (s_iload_n c172_173 rfl (s_if 181 (v2 = 0) c172_174 (by decide) rfl ⟨fun q7 => s_iconst c172_181 rfl (((H.2 q6).1 q7)), fun q7 => s_iconst c172_177 rfl (s_goto 182 c172_178 (by decide) (((H.2 q6).2 q7)))⟩))⟩
theorem b172_182 {d : Nat} {h : HP} {Q : PV → HP → Prop} {v1 v2 v3 s1 : Int} (H : X d 171 0 [some (P 69), none, none] [] (up2 h 69 57 s1) (fun _ h' => X (d + 1) 172 189 [some (P 69), some (I v1), some (I v2), some (I v3), none, none] [] h' Q)) : X (d + 1) 172 182 [some (P 69), some (I v1), some (I v2), some (I v3), none, none] [I s1, P 69] h Q :=
  s_putI c172_182 f172_295 t12_57 n12_57 sh_69 (s_aload_n c172_185 rfl (s_cVv c172_186 m172_298 F171 K171 rfl (Nat.le_of_ble_eq_true rfl) rfl S171_69 rfl H))
theorem b172_189 {d : Nat} {h : HP} {Q : PV → HP → Prop} {v1 v2 v3 : Int} (H : X d 172 196 [some (P 69), some (I v1), some (I v2), none, none, none] [] h Q) : X d 172 189 [some (P 69), some (I v1), some (I v2), some (I v3), none, none] [] h Q :=
  s_goto 196 c172_189 (by decide) (X_weak (A := [some (P 69), some (I v1), some (I v2), none, none, none]) (B := [some (P 69), some (I v1), some (I v2), some (I v3), none, none]) ⟨Or.inl rfl, Or.inl rfl, Or.inl rfl, Or.inr ⟨rfl, _, rfl, rfl⟩, Or.inl rfl, Or.inl rfl, trivial⟩ H)
theorem b172_196 {d : Nat} {h : HP} {Q : PV → HP → Prop} {v1 v2 : Int} (H : (((h 69 52) < 0) → (((v2 = 0) → X d 172 232 [some (P 69), some (I v1), some (I v2), some (I (h 69 46)), none, none] [I v1] (up2 h 69 46 0) Q) ∧ (¬ (v2 = 0) → X d 172 232 [some (P 69), some (I v1), some (I v2), some (I (h 69 46)), none, none] [I (w32 (4 + v1))] (up2 h 69 46 0) Q))) ∧ (¬ ((h 69 52) < 0) → Q (I (w32 ((-20) - (h 69 52)))) (up2 h 69 46 0))) : X d 172 196 [some (P 69), some (I v1), some (I v2), none, none, none] [] h Q :=
  s_aload_n c172_196 rfl (s_getI c172_197 f172_238 t12_46 sh_69 (s_istore_n c172_200 rfl (s_aload_n c172_201 rfl (s_iconst c172_202 rfl (s_putI c172_203 f172_238 t12_46 n12_46 sh_69 (s_aload_n c172_206 rfl (s_getI c172_207 f172_252 t12_52 sh_69 (s_if 221 ((h 69 52) < 0) c172_210 (by decide) rfl ⟨fun q8 => s_iload_n c172_221 rfl (s_if 231 (v2 = 0) c172_222 (by decide) rfl ⟨fun q9 => s_iload_n c172_231 rfl (((H.1 q8).1 q9)), fun q9 => s_iconst c172_225 rfl (s_iload_n c172_226 rfl (s_iadd c172_227 (s_goto 232 c172_228 (by decide) (((H.1 q8).2 q9)))))⟩), fun q8 => s_bipush c172_213 ⟨by decide, by decide⟩ (s_aload_n c172_215 rfl (s_getI c172_216 f172_252 t12_52 sh_69 (s_isub c172_219 (s_retI c172_220 R172 (H.2 q8)))))⟩))))))))
theorem b172_232 {d : Nat} {h : HP} {Q : PV → HP → Prop} {v1 v2 v3 s0 : Int} (H : X d 172 237 [some (P 69), some (I v1), some (I v2), some (I v3), some (I s0), some (I 0)] [] h Q) : X d 172 232 [some (P 69), some (I v1), some (I v2), some (I v3), none, none] [I s0] h Q :=
  s_istore c172_232 rfl (s_iconst c172_234 rfl (s_istore c172_235 rfl (H)))
theorem b172_237 {d : Nat} {h : HP} {Q : PV → HP → Prop} {v1 v2 v3 v4 v5 : Int} (H : ((v3 ≤ v5) → ((0 ≤ v4 ∧ v4 < 12) ∧ Q (I 1) (up2 h 104 v4.toNat v3))) ∧ (¬ (v3 ≤ v5) → ((0 ≤ v5 ∧ v5 < 40) ∧ ((0 ≤ (w32 ((w32 (40 * v4)) + v5)) ∧ (w32 ((w32 (40 * v4)) + v5)) < 480) ∧ X d 172 237 [some (P 69), some (I v1), some (I v2), some (I v3), some (I v4), some (I (w32 (v5 + 1)))] [] (up2 h 103 (w32 ((w32 (40 * v4)) + v5)).toNat (h 102 v5.toNat)) Q)))) : X d 172 237 [some (P 69), some (I v1), some (I v2), some (I v3), some (I v4), some (I v5)] [] h Q :=
  s_iload c172_237 rfl (s_iload_n c172_239 rfl (s_ifc 269 (v3 ≤ v5) c172_240 (by decide) rfl ⟨fun q10 => s_aload_n c172_269 rfl (s_getP 104 c172_270 f172_117 t12_48 sh_69 g_69_48 (by decide) (by decide) (s_iload c172_273 rfl (s_iload_n c172_275 rfl (s_iast c172_276 sh_104 ⟨(H.1 q10).1, s_iconst c172_277 rfl (s_retI c172_278 R172 (H.1 q10).2)⟩)))), fun q10 => s_aload_n c172_243 rfl (s_getP 103 c172_244 f172_114 t12_47 sh_69 g_69_47 (by decide) (by decide) (s_bipush c172_247 ⟨by decide, by decide⟩ (s_iload c172_249 rfl (s_imul c172_251 (s_iload c172_252 rfl (s_iadd c172_254 (s_aload_n c172_255 rfl (s_getP 102 c172_256 f172_111 t12_45 sh_69 g_69_45 (by decide) (by decide) (s_iload c172_259 rfl (s_iald c172_261 sh_102 ⟨(H.2 q10).1, s_iast c172_262 sh_103 ⟨(H.2 q10).2.1, s_iinc c172_263 rfl rfl rfl (s_goto 237 c172_266 (by decide) ((H.2 q10).2.2))⟩⟩))))))))))⟩))
theorem b172_36 {d : Nat} {h : HP} {Q : PV → HP → Prop} {v1 s0 : Int} (H : ((¬ s0 = 70) → X d 172 46 [some (P 69), some (I v1), none, none, none, none] [I 0] h Q) ∧ (¬ (¬ s0 = 70) → X d 172 46 [some (P 69), some (I v1), none, none, none, none] [I 1] h Q)) : X d 172 36 [some (P 69), some (I v1), none, none, none, none] [I s0] h Q :=
  s_bipush c172_36 ⟨by decide, by decide⟩ (s_ifc 45 (¬ s0 = 70) c172_38 (by decide) rfl ⟨fun q11 => s_iconst c172_45 rfl ((H.1 q11)), fun q11 => s_iconst c172_41 rfl (s_goto 46 c172_42 (by decide) ((H.2 q11)))⟩)
theorem b172_46 {d : Nat} {h : HP} {Q : PV → HP → Prop} {v1 s0 : Int} (H : ((¬ s0 = 0) → X (d + 1) 172 67 [some (P 69), some (I v1), some (I s0), none, none, none] [] h Q) ∧ (¬ (¬ s0 = 0) → X d 162 0 [some (P 69)] [] h (fun r h' => X (d + 1) 172 55 [some (P 69), some (I v1), some (I s0), none, none, none] [r] h' Q))) : X (d + 1) 172 46 [some (P 69), some (I v1), none, none, none, none] [I s0] h Q :=
  s_istore_n c172_46 rfl (s_iload_n c172_47 rfl (s_if 67 (¬ s0 = 0) c172_48 (by decide) rfl ⟨fun q12 => (H.1 q12), fun q12 => s_aload_n c172_51 rfl (s_cVi c172_52 m172_255 F162 K162 rfl (Nat.le_of_ble_eq_true rfl) rfl S162_69 rfl (H.2 q12))⟩))
theorem b172_55 {d : Nat} {h : HP} {Q : PV → HP → Prop} {v1 v2 s0 : Int} (H : ((s0 = 72) → X (d + 1) 172 67 [some (P 69), some (I v1), some (I v2), none, none, none] [] h Q) ∧ (¬ (s0 = 72) → X d 163 0 [some (P 69)] [] h (fun _ h' => X (d + 1) 172 64 [some (P 69), some (I v1), some (I v2), none, none, none] [] h' Q))) : X (d + 1) 172 55 [some (P 69), some (I v1), some (I v2), none, none, none] [I s0] h Q :=
  s_bipush c172_55 ⟨by decide, by decide⟩ (s_ifc 67 (s0 = 72) c172_57 (by decide) rfl ⟨fun q13 => (H.1 q13), fun q13 => s_aload_n c172_60 rfl (s_cVv c172_61 m172_271 F163 K163 rfl (Nat.le_of_ble_eq_true rfl) rfl S163_69 rfl (H.2 q13))⟩)
theorem b172_64 {d : Nat} {h : HP} {Q : PV → HP → Prop} {v1 v2 : Int} (H : X d 172 196 [some (P 69), some (I v1), some (I v2), none, none, none] [] h Q) : X d 172 64 [some (P 69), some (I v1), some (I v2), none, none, none] [] h Q :=
  s_goto 196 c172_64 (by decide) (H)
theorem b172_67 {d : Nat} {h : HP} {Q : PV → HP → Prop} {v1 v2 : Int} (H : X d 162 0 [some (P 69)] [] (up2 h 69 50 (w32 ((h 69 50) + 1))) (fun r h' => X (d + 1) 172 81 [some (P 69), some (I v1), some (I v2), none, none, none] [r] h' Q)) : X (d + 1) 172 67 [some (P 69), some (I v1), some (I v2), none, none, none] [] h Q :=
  s_aload_n c172_67 rfl (s_dupP c172_68 (s_getI c172_69 f172_243 t12_50 sh_69 (s_iconst c172_72 rfl (s_iadd c172_73 (s_putI c172_74 f172_243 t12_50 n12_50 sh_69 (s_aload_n c172_77 rfl (s_cVi c172_78 m172_255 F162 K162 rfl (Nat.le_of_ble_eq_true rfl) rfl S162_69 rfl H)))))))
theorem b172_81 {d : Nat} {h : HP} {Q : PV → HP → Prop} {v1 v2 s0 : Int} (H : X d 165 0 [some (P 69)] [] h (fun r h' => X (d + 1) 172 89 [some (P 69), some (I (w32 (s0 - 48))), some (I v2), none, none, none] [r] h' Q)) : X (d + 1) 172 81 [some (P 69), some (I v1), some (I v2), none, none, none] [I s0] h Q :=
  s_bipush c172_81 ⟨by decide, by decide⟩ (s_isub c172_83 (s_istore_n c172_84 rfl (s_aload_n c172_85 rfl (s_cVi c172_86 m172_289 F165 K165 rfl (Nat.le_of_ble_eq_true rfl) rfl S165_69 rfl H))))
theorem b172_89 {d : Nat} {h : HP} {Q : PV → HP → Prop} {v1 v2 s0 : Int} (H : ((s0 = 0) → X (d + 1) 172 140 [some (P 69), some (I v1), some (I v2), none, none, none] [] h Q) ∧ (¬ (s0 = 0) → (((v2 = 0) → X d 158 0 [some (P 69), some (I v1)] [] h (fun r h' => X (d + 1) 172 133 [some (P 69), some (I v1), some (I v2), none, none, none] [r] h' Q)) ∧ (¬ (v2 = 0) → X d 136 0 [some (P 69), some (I v1)] [] h (fun r h' => X (d + 1) 172 101 [some (P 69), some (I v1), some (I v2), none, none, none] [r] h' Q))))) : X (d + 1) 172 89 [some (P 69), some (I v1), some (I v2), none, none, none] [I s0] h Q :=
  s_if 140 (s0 = 0) c172_89 (by decide) rfl ⟨fun q14 => (H.1 q14), fun q14 => s_iload_n c172_92 rfl (s_if 128 (v2 = 0) c172_93 (by decide) rfl ⟨fun q15 => s_aload_n c172_128 rfl (s_iload_n c172_129 rfl (s_cVi c172_130 m172_235 F158 K158 rfl (Nat.le_of_ble_eq_true rfl) rfl S158_69 rfl ((H.2 q14).1 q15))), fun q15 => s_aload_n c172_96 rfl (s_iload_n c172_97 rfl (s_cVi c172_98 m172_191 F136 K136 rfl (Nat.le_of_ble_eq_true rfl) rfl S136_69 rfl ((H.2 q14).2 q15)))⟩)⟩
-- WarmSideModel.year(I)I
theorem c174_0 : cdA 174 0 = some (.iload_n 1) := by decide +kernel
theorem c174_1 : cdA 174 1 = some (.invokestatic 196) := by decide +kernel
theorem m174_196 : mthR (moN 174) 196 = 141 := by decide +kernel
theorem c174_12 : cdA 174 12 = some (.ireturn) := by decide +kernel
theorem R174 : mK 174 = 0 := by decide +kernel
theorem c174_4 : cdA 174 4 = some (.ifCond .ne 9) := by decide +kernel
theorem c174_13 : cdA 174 13 = some (.aload_n 0) := by decide +kernel
theorem c174_14 : cdA 174 14 = some (.getfield 301) := by decide +kernel
theorem f174_301 : fldR (moN 174) 301 = some (12, 31) := by decide +kernel
theorem t12_31 : fcl 12 31 = 0 := by decide +kernel
theorem c174_17 : cdA 174 17 = some (.istore_n 2) := by decide +kernel
theorem c174_18 : cdA 174 18 = some (.aload_n 0) := by decide +kernel
theorem c174_19 : cdA 174 19 = some (.iload_n 1) := by decide +kernel
theorem c174_20 : cdA 174 20 = some (.putfield 301) := by decide +kernel
theorem n12_31 : ffin 12 31 = false := by decide +kernel
theorem c174_23 : cdA 174 23 = some (.iload_n 2) := by decide +kernel
theorem c174_24 : cdA 174 24 = some (.ireturn) := by decide +kernel
theorem c174_7 : cdA 174 7 = some (.aload_n 0) := by decide +kernel
theorem c174_8 : cdA 174 8 = some (.iconst (-1)) := by decide +kernel
theorem c174_9 : cdA 174 9 = some (.invokevirtual 187) := by decide +kernel
theorem m174_187 : mthR (moN 174) 187 = 138 := by decide +kernel
theorem b174_0 {d : Nat} {h : HP} {Q : PV → HP → Prop} {v1 : Int} (H : X d 138 0 [some (I v1)] [] h (fun r h' => X (d + 1) 174 4 [some (P 69), some (I v1), none] [r] h' Q)) : X (d + 1) 174 0 [some (P 69), some (I v1), none] [] h Q :=
  s_iload_n c174_0 rfl (s_cSi c174_1 m174_196 F138 K138 rfl (Nat.le_of_ble_eq_true rfl) rfl rfl H)
theorem b174_12 {d : Nat} {h : HP} {Q : PV → HP → Prop} {v1 s0 : Int} (H : Q (I s0) h) : X d 174 12 [some (P 69), some (I v1), none] [I s0] h Q :=
  s_retI c174_12 R174 H
theorem b174_4 {d : Nat} {h : HP} {Q : PV → HP → Prop} {v1 s0 : Int} (H : ((¬ s0 = 0) → Q (I (h 69 31)) (up2 h 69 31 v1)) ∧ (¬ (¬ s0 = 0) → X d 135 0 [some (P 69), some (I (-1))] [] h (fun r h' => X (d + 1) 174 12 [some (P 69), some (I v1), none] [r] h' Q))) : X (d + 1) 174 4 [some (P 69), some (I v1), none] [I s0] h Q :=
  s_if 13 (¬ s0 = 0) c174_4 (by decide) rfl ⟨fun q1 => s_aload_n c174_13 rfl (s_getI c174_14 f174_301 t12_31 sh_69 (s_istore_n c174_17 rfl (s_aload_n c174_18 rfl (s_iload_n c174_19 rfl (s_putI c174_20 f174_301 t12_31 n12_31 sh_69 (s_iload_n c174_23 rfl (s_retI c174_24 R174 (H.1 q1)))))))), fun q1 => s_aload_n c174_7 rfl (s_iconst c174_8 rfl (s_cVi c174_9 m174_187 F135 K135 rfl (Nat.le_of_ble_eq_true rfl) rfl S135_69 rfl (H.2 q1)))⟩
-- WarmSideModel.forget()V
theorem c147_0 : cdA 147 0 = some (.aload_n 0) := by decide +kernel
theorem c147_1 : cdA 147 1 = some (.iconst 0) := by decide +kernel
theorem c147_2 : cdA 147 2 = some (.putfield 209) := by decide +kernel
theorem f147_209 : fldR (moN 147) 209 = some (12, 43) := by decide +kernel
theorem c147_5 : cdA 147 5 = some (.aload_n 0) := by decide +kernel
theorem c147_6 : cdA 147 6 = some (.iconst 0) := by decide +kernel
theorem c147_7 : cdA 147 7 = some (.putfield 206) := by decide +kernel
theorem f147_206 : fldR (moN 147) 206 = some (12, 44) := by decide +kernel
theorem c147_10 : cdA 147 10 = some (.return_) := by decide +kernel
theorem R147 : mK 147 = 4 := by decide +kernel
theorem b147_0 {d : Nat} {h : HP} {Q : PV → HP → Prop} (H : Q (I 0) (up2 (up2 h 69 43 0) 69 44 0)) : X d 147 0 [some (P 69)] [] h Q :=
  s_aload_n c147_0 rfl (s_iconst c147_1 rfl (s_putI c147_2 f147_209 t12_43 n12_43 sh_69 (s_aload_n c147_5 rfl (s_iconst c147_6 rfl (s_putI c147_7 f147_206 t12_44 n12_44 sh_69 (s_retV c147_10 R147 H))))))
-- WarmSideModel.toldBy(I)I
theorem c173_0 : cdA 173 0 = some (.aload_n 0) := by decide +kernel
theorem c173_1 : cdA 173 1 = some (.bipush 40) := by decide +kernel
theorem c173_3 : cdA 173 3 = some (.iload_n 1) := by decide +kernel
theorem c173_4 : cdA 173 4 = some (.imul) := by decide +kernel
theorem c173_5 : cdA 173 5 = some (.putfield 249) := by decide +kernel
theorem f173_249 : fldR (moN 173) 249 = some (12, 49) := by decide +kernel
theorem c173_8 : cdA 173 8 = some (.aload_n 0) := by decide +kernel
theorem c173_9 : cdA 173 9 = some (.iconst 3) := by decide +kernel
theorem c173_10 : cdA 173 10 = some (.putfield 243) := by decide +kernel
theorem f173_243 : fldR (moN 173) 243 = some (12, 50) := by decide +kernel
theorem c173_13 : cdA 173 13 = some (.aload_n 0) := by decide +kernel
theorem c173_14 : cdA 173 14 = some (.aload_n 0) := by decide +kernel
theorem c173_15 : cdA 173 15 = some (.getfield 117) := by decide +kernel
theorem f173_117 : fldR (moN 173) 117 = some (12, 48) := by decide +kernel
theorem c173_18 : cdA 173 18 = some (.iload_n 1) := by decide +kernel
theorem c173_19 : cdA 173 19 = some (.iaload) := by decide +kernel
theorem c173_20 : cdA 173 20 = some (.putfield 246) := by decide +kernel
theorem f173_246 : fldR (moN 173) 246 = some (12, 51) := by decide +kernel
theorem c173_23 : cdA 173 23 = some (.aload_n 0) := by decide +kernel
theorem c173_24 : cdA 173 24 = some (.bipush (-9)) := by decide +kernel
theorem c173_26 : cdA 173 26 = some (.putfield 252) := by decide +kernel
theorem f173_252 : fldR (moN 173) 252 = some (12, 52) := by decide +kernel
theorem c173_29 : cdA 173 29 = some (.aload_n 0) := by decide +kernel
theorem c173_30 : cdA 173 30 = some (.iconst 0) := by decide +kernel
theorem c173_31 : cdA 173 31 = some (.putfield 268) := by decide +kernel
theorem f173_268 : fldR (moN 173) 268 = some (12, 53) := by decide +kernel
theorem c173_34 : cdA 173 34 = some (.aload_n 0) := by decide +kernel
theorem c173_35 : cdA 173 35 = some (.iload_n 1) := by decide +kernel
theorem c173_36 : cdA 173 36 = some (.iconst 4) := by decide +kernel
theorem c173_37 : cdA 173 37 = some (.if_icmp .ge 7) := by decide +kernel
theorem c173_44 : cdA 173 44 = some (.iconst 3) := by decide +kernel
theorem c173_40 : cdA 173 40 = some (.iconst 2) := by decide +kernel
theorem c173_41 : cdA 173 41 = some (.goto 4) := by decide +kernel
theorem c173_45 : cdA 173 45 = some (.putfield 295) := by decide +kernel
theorem f173_295 : fldR (moN 173) 295 = some (12, 57) := by decide +kernel
theorem c173_48 : cdA 173 48 = some (.aload_n 0) := by decide +kernel
theorem c173_49 : cdA 173 49 = some (.invokevirtual 298) := by decide +kernel
theorem m173_298 : mthR (moN 173) 298 = 174 := by decide +kernel
theorem c173_52 : cdA 173 52 = some (.aload_n 0) := by decide +kernel
theorem c173_53 : cdA 173 53 = some (.getfield 292) := by decide +kernel
theorem f173_292 : fldR (moN 173) 292 = some (12, 58) := by decide +kernel
theorem c173_56 : cdA 173 56 = some (.ireturn) := by decide +kernel
theorem R173 : mK 173 = 0 := by decide +kernel
theorem b173_0 {d : Nat} {h : HP} {Q : PV → HP → Prop} {v1 : Int} (H : (0 ≤ v1 ∧ v1 < 12) ∧ (((4 ≤ v1) → X d 173 45 [some (P 69), some (I v1)] [I 3, P 69] (up2 (up2 (up2 (up2 (up2 h 69 49 (w32 (40 * v1))) 69 50 3) 69 51 (h 104 v1.toNat)) 69 52 (-9)) 69 53 0) Q) ∧ (¬ (4 ≤ v1) → X d 173 45 [some (P 69), some (I v1)] [I 2, P 69] (up2 (up2 (up2 (up2 (up2 h 69 49 (w32 (40 * v1))) 69 50 3) 69 51 (h 104 v1.toNat)) 69 52 (-9)) 69 53 0) Q))) : X d 173 0 [some (P 69), some (I v1)] [] h Q :=
  s_aload_n c173_0 rfl (s_bipush c173_1 ⟨by decide, by decide⟩ (s_iload_n c173_3 rfl (s_imul c173_4 (s_putI c173_5 f173_249 t12_49 n12_49 sh_69 (s_aload_n c173_8 rfl (s_iconst c173_9 rfl (s_putI c173_10 f173_243 t12_50 n12_50 sh_69 (s_aload_n c173_13 rfl (s_aload_n c173_14 rfl (s_getP 104 c173_15 f173_117 t12_48 sh_69 g_69_48 (by decide) (by decide) (s_iload_n c173_18 rfl (s_iald c173_19 sh_104 ⟨H.1, s_putI c173_20 f173_246 t12_51 n12_51 sh_69 (s_aload_n c173_23 rfl (s_bipush c173_24 ⟨by decide, by decide⟩ (s_putI c173_26 f173_252 t12_52 n12_52 sh_69 (s_aload_n c173_29 rfl (s_iconst c173_30 rfl (s_putI c173_31 f173_268 t12_53 n12_53 sh_69 (s_aload_n c173_34 rfl (s_iload_n c173_35 rfl (s_iconst c173_36 rfl (s_ifc 44 (4 ≤ v1) c173_37 (by decide) rfl ⟨fun q1 => s_iconst c173_44 rfl ((H.2.1 q1)), fun q1 => s_iconst c173_40 rfl (s_goto 45 c173_41 (by decide) ((H.2.2 q1)))⟩))))))))))⟩))))))))))))
theorem b173_45 {d : Nat} {h : HP} {Q : PV → HP → Prop} {v1 s1 : Int} (H : X d 171 0 [some (P 69), none, none] [] (up2 h 69 57 s1) (fun _ h' => X (d + 1) 173 52 [some (P 69), some (I v1)] [] h' Q)) : X (d + 1) 173 45 [some (P 69), some (I v1)] [I s1, P 69] h Q :=
  s_putI c173_45 f173_295 t12_57 n12_57 sh_69 (s_aload_n c173_48 rfl (s_cVv c173_49 m173_298 F171 K171 rfl (Nat.le_of_ble_eq_true rfl) rfl S171_69 rfl H))
theorem b173_52 {d : Nat} {h : HP} {Q : PV → HP → Prop} {v1 : Int} (H : Q (I (h 69 58)) h) : X d 173 52 [some (P 69), some (I v1)] [] h Q :=
  s_aload_n c173_52 rfl (s_getI c173_53 f173_292 t12_58 sh_69 (s_retI c173_56 R173 H))
-- WarmSideModel.warmthOf(I)I
theorem c175_0 : cdA 175 0 = some (.aload_n 0) := by decide +kernel
theorem c175_1 : cdA 175 1 = some (.getfield 19) := by decide +kernel
theorem f175_19 : fldR (moN 175) 19 = some (12, 3) := by decide +kernel
theorem c175_4 : cdA 175 4 = some (.iload_n 1) := by decide +kernel
theorem c175_5 : cdA 175 5 = some (.iaload) := by decide +kernel
theorem c175_6 : cdA 175 6 = some (.aload_n 0) := by decide +kernel
theorem c175_7 : cdA 175 7 = some (.getfield 9) := by decide +kernel
theorem f175_9 : fldR (moN 175) 9 = some (12, 0) := by decide +kernel
theorem c175_10 : cdA 175 10 = some (.iload_n 1) := by decide +kernel
theorem c175_11 : cdA 175 11 = some (.iaload) := by decide +kernel
theorem c175_12 : cdA 175 12 = some (.idiv) := by decide +kernel
theorem c175_13 : cdA 175 13 = some (.istore_n 2) := by decide +kernel
theorem c175_14 : cdA 175 14 = some (.iload_n 2) := by decide +kernel
theorem c175_15 : cdA 175 15 = some (.sipush 600) := by decide +kernel
theorem c175_18 : cdA 175 18 = some (.if_icmp .le 9) := by decide +kernel
theorem c175_27 : cdA 175 27 = some (.iload_n 2) := by decide +kernel
theorem c175_28 : cdA 175 28 = some (.ireturn) := by decide +kernel
theorem R175 : mK 175 = 0 := by decide +kernel
theorem c175_21 : cdA 175 21 = some (.sipush 600) := by decide +kernel
theorem c175_24 : cdA 175 24 = some (.goto 4) := by decide +kernel
theorem b175_0 {d : Nat} {h : HP} {Q : PV → HP → Prop} {v1 : Int} (H : (0 ≤ v1 ∧ v1 < 8) ∧ ((0 ≤ v1 ∧ v1 < 8) ∧ (¬ (h 70 v1.toNat) = 0 ∧ ((((w32 (Int.tdiv (h 73 v1.toNat) (h 70 v1.toNat))) ≤ 600) → Q (I (w32 (Int.tdiv (h 73 v1.toNat) (h 70 v1.toNat)))) h) ∧ (¬ ((w32 (Int.tdiv (h 73 v1.toNat) (h 70 v1.toNat))) ≤ 600) → Q (I 600) h))))) : X d 175 0 [some (P 69), some (I v1), none] [] h Q :=
  s_aload_n c175_0 rfl (s_getP 73 c175_1 f175_19 t12_3 sh_69 g_69_3 (by decide) (by decide) (s_iload_n c175_4 rfl (s_iald c175_5 sh_73 ⟨H.1, s_aload_n c175_6 rfl (s_getP 70 c175_7 f175_9 t12_0 sh_69 g_69_0 (by decide) (by decide) (s_iload_n c175_10 rfl (s_iald c175_11 sh_70 ⟨H.2.1, s_idiv c175_12 H.2.2.1 (s_istore_n c175_13 rfl (s_iload_n c175_14 rfl (s_sipush c175_15 ⟨by decide, by decide⟩ (s_ifc 27 ((w32 (Int.tdiv (h 73 v1.toNat) (h 70 v1.toNat))) ≤ 600) c175_18 (by decide) rfl ⟨fun q1 => s_iload_n c175_27 rfl (s_retI c175_28 R175 (H.2.2.2.1 q1)), fun q1 => s_sipush c175_21 ⟨by decide, by decide⟩ (s_goto 28 c175_24 (by decide) (s_retI c175_28 R175 (H.2.2.2.2 q1)))⟩))))⟩)))⟩)))
-- WarmSideModel.layOut(I)V
theorem c177_0 : cdA 177 0 = some (.aload_n 0) := by decide +kernel
theorem c177_1 : cdA 177 1 = some (.aload_n 0) := by decide +kernel
theorem c177_2 : cdA 177 2 = some (.getfield 46) := by decide +kernel
theorem f177_46 : fldR (moN 177) 46 = some (12, 13) := by decide +kernel
theorem c177_5 : cdA 177 5 = some (.iload_n 1) := by decide +kernel
theorem c177_6 : cdA 177 6 = some (.iaload) := by decide +kernel
theorem c177_7 : cdA 177 7 = some (.putfield 304) := by decide +kernel
theorem f177_304 : fldR (moN 177) 304 = some (12, 59) := by decide +kernel
theorem t12_59 : fcl 12 59 = 0 := by decide +kernel
theorem n12_59 : ffin 12 59 = false := by decide +kernel
theorem c177_10 : cdA 177 10 = some (.aload_n 0) := by decide +kernel
theorem c177_11 : cdA 177 11 = some (.aload_n 0) := by decide +kernel
theorem c177_12 : cdA 177 12 = some (.getfield 301) := by decide +kernel
theorem f177_301 : fldR (moN 177) 301 = some (12, 31) := by decide +kernel
theorem c177_15 : cdA 177 15 = some (.putfield 307) := by decide +kernel
theorem f177_307 : fldR (moN 177) 307 = some (12, 60) := by decide +kernel
theorem t12_60 : fcl 12 60 = 0 := by decide +kernel
theorem n12_60 : ffin 12 60 = false := by decide +kernel
theorem c177_18 : cdA 177 18 = some (.aload_n 0) := by decide +kernel
theorem c177_19 : cdA 177 19 = some (.bipush 100) := by decide +kernel
theorem c177_21 : cdA 177 21 = some (.putfield 310) := by decide +kernel
theorem f177_310 : fldR (moN 177) 310 = some (12, 61) := by decide +kernel
theorem t12_61 : fcl 12 61 = 0 := by decide +kernel
theorem n12_61 : ffin 12 61 = false := by decide +kernel
theorem c177_24 : cdA 177 24 = some (.aload_n 0) := by decide +kernel
theorem c177_25 : cdA 177 25 = some (.bipush 100) := by decide +kernel
theorem c177_27 : cdA 177 27 = some (.putfield 313) := by decide +kernel
theorem f177_313 : fldR (moN 177) 313 = some (12, 62) := by decide +kernel
theorem t12_62 : fcl 12 62 = 0 := by decide +kernel
theorem n12_62 : ffin 12 62 = false := by decide +kernel
theorem c177_30 : cdA 177 30 = some (.iconst 0) := by decide +kernel
theorem c177_31 : cdA 177 31 = some (.istore_n 2) := by decide +kernel
theorem c177_128 : cdA 177 128 = some (.iload_n 2) := by decide +kernel
theorem c177_129 : cdA 177 129 = some (.aload_n 0) := by decide +kernel
theorem c177_130 : cdA 177 130 = some (.getfield 232) := by decide +kernel
theorem f177_232 : fldR (moN 177) 232 = some (12, 30) := by decide +kernel
theorem c177_133 : cdA 177 133 = some (.if_icmp .ge 40) := by decide +kernel
theorem c177_173 : cdA 177 173 = some (.iconst 0) := by decide +kernel
theorem c177_174 : cdA 177 174 = some (.istore_n 2) := by decide +kernel
theorem c177_136 : cdA 177 136 = some (.aload_n 0) := by decide +kernel
theorem c177_137 : cdA 177 137 = some (.getfield 135) := by decide +kernel
theorem f177_135 : fldR (moN 177) 135 = some (12, 67) := by decide +kernel
theorem t12_67 : fcl 12 67 = 2 := by decide +kernel
theorem c177_140 : cdA 177 140 = some (.iload_n 2) := by decide +kernel
theorem c177_141 : cdA 177 141 = some (.aload_n 0) := by decide +kernel
theorem c177_142 : cdA 177 142 = some (.getfield 86) := by decide +kernel
theorem f177_86 : fldR (moN 177) 86 = some (12, 29) := by decide +kernel
theorem c177_145 : cdA 177 145 = some (.iload_n 2) := by decide +kernel
theorem c177_146 : cdA 177 146 = some (.iaload) := by decide +kernel
theorem c177_147 : cdA 177 147 = some (.iconst 1) := by decide +kernel
theorem c177_148 : cdA 177 148 = some (.if_icmp .eq 13) := by decide +kernel
theorem c177_151 : cdA 177 151 = some (.aload_n 0) := by decide +kernel
theorem c177_152 : cdA 177 152 = some (.getfield 86) := by decide +kernel
theorem c177_155 : cdA 177 155 = some (.iload_n 2) := by decide +kernel
theorem c177_156 : cdA 177 156 = some (.iaload) := by decide +kernel
theorem c177_157 : cdA 177 157 = some (.iconst 3) := by decide +kernel
theorem c177_158 : cdA 177 158 = some (.if_icmp .ne 7) := by decide +kernel
theorem c177_165 : cdA 177 165 = some (.iconst 0) := by decide +kernel
theorem c177_161 : cdA 177 161 = some (.iconst 1) := by decide +kernel
theorem c177_162 : cdA 177 162 = some (.goto 4) := by decide +kernel
theorem c177_166 : cdA 177 166 = some (.bastore) := by decide +kernel
theorem c177_167 : cdA 177 167 = some (.iinc 2 1) := by decide +kernel
theorem c177_170 : cdA 177 170 = some (.goto (-42)) := by decide +kernel
theorem c177_175 : cdA 177 175 = some (.iload_n 2) := by decide +kernel
theorem c177_176 : cdA 177 176 = some (.aload_n 0) := by decide +kernel
theorem c177_177 : cdA 177 177 = some (.getfield 180) := by decide +kernel
theorem f177_180 : fldR (moN 177) 180 = some (12, 9) := by decide +kernel
theorem c177_180 : cdA 177 180 = some (.if_icmp .ge 34) := by decide +kernel
theorem c177_214 : cdA 177 214 = some (.return_) := by decide +kernel
theorem R177 : mK 177 = 4 := by decide +kernel
theorem c177_183 : cdA 177 183 = some (.aload_n 0) := by decide +kernel
theorem c177_184 : cdA 177 184 = some (.getfield 138) := by decide +kernel
theorem f177_138 : fldR (moN 177) 138 = some (12, 68) := by decide +kernel
theorem t12_68 : fcl 12 68 = 2 := by decide +kernel
theorem c177_187 : cdA 177 187 = some (.iload_n 2) := by decide +kernel
theorem c177_188 : cdA 177 188 = some (.aload_n 0) := by decide +kernel
theorem c177_189 : cdA 177 189 = some (.getfield 25) := by decide +kernel
theorem f177_25 : fldR (moN 177) 25 = some (12, 5) := by decide +kernel
theorem c177_192 : cdA 177 192 = some (.iload_n 2) := by decide +kernel
theorem c177_193 : cdA 177 193 = some (.iaload) := by decide +kernel
theorem c177_194 : cdA 177 194 = some (.ifCond .ge 7) := by decide +kernel
theorem c177_201 : cdA 177 201 = some (.aload_n 0) := by decide +kernel
theorem c177_202 : cdA 177 202 = some (.getfield 28) := by decide +kernel
theorem f177_28 : fldR (moN 177) 28 = some (12, 6) := by decide +kernel
theorem c177_205 : cdA 177 205 = some (.iload_n 2) := by decide +kernel
theorem c177_206 : cdA 177 206 = some (.iaload) := by decide +kernel
theorem c177_197 : cdA 177 197 = some (.iconst 2) := by decide +kernel
theorem c177_198 : cdA 177 198 = some (.goto 9) := by decide +kernel
theorem c177_207 : cdA 177 207 = some (.iastore) := by decide +kernel
theorem c177_208 : cdA 177 208 = some (.iinc 2 1) := by decide +kernel
theorem c177_211 : cdA 177 211 = some (.goto (-36)) := by decide +kernel
theorem c177_32 : cdA 177 32 = some (.iload_n 2) := by decide +kernel
theorem c177_33 : cdA 177 33 = some (.aload_n 0) := by decide +kernel
theorem c177_34 : cdA 177 34 = some (.getfield 219) := by decide +kernel
theorem f177_219 : fldR (moN 177) 219 = some (12, 17) := by decide +kernel
theorem c177_37 : cdA 177 37 = some (.if_icmp .ge 21) := by decide +kernel
theorem c177_58 : cdA 177 58 = some (.iconst 0) := by decide +kernel
theorem c177_59 : cdA 177 59 = some (.istore_n 2) := by decide +kernel
theorem c177_40 : cdA 177 40 = some (.aload_n 0) := by decide +kernel
theorem c177_41 : cdA 177 41 = some (.getfield 123) := by decide +kernel
theorem f177_123 : fldR (moN 177) 123 = some (12, 63) := by decide +kernel
theorem t12_63 : fcl 12 63 = 2 := by decide +kernel
theorem c177_44 : cdA 177 44 = some (.iload_n 2) := by decide +kernel
theorem c177_45 : cdA 177 45 = some (.aload_n 0) := by decide +kernel
theorem c177_46 : cdA 177 46 = some (.getfield 55) := by decide +kernel
theorem f177_55 : fldR (moN 177) 55 = some (12, 16) := by decide +kernel
theorem c177_49 : cdA 177 49 = some (.iload_n 2) := by decide +kernel
theorem c177_50 : cdA 177 50 = some (.iaload) := by decide +kernel
theorem c177_51 : cdA 177 51 = some (.iastore) := by decide +kernel
theorem c177_52 : cdA 177 52 = some (.iinc 2 1) := by decide +kernel
theorem c177_55 : cdA 177 55 = some (.goto (-23)) := by decide +kernel
theorem c177_60 : cdA 177 60 = some (.iload_n 2) := by decide +kernel
theorem c177_61 : cdA 177 61 = some (.aload_n 0) := by decide +kernel
theorem c177_62 : cdA 177 62 = some (.getfield 226) := by decide +kernel
theorem f177_226 : fldR (moN 177) 226 = some (12, 22) := by decide +kernel
theorem c177_65 : cdA 177 65 = some (.if_icmp .ge 21) := by decide +kernel
theorem c177_86 : cdA 177 86 = some (.iconst 0) := by decide +kernel
theorem c177_87 : cdA 177 87 = some (.istore_n 2) := by decide +kernel
theorem c177_68 : cdA 177 68 = some (.aload_n 0) := by decide +kernel
theorem c177_69 : cdA 177 69 = some (.getfield 126) := by decide +kernel
theorem f177_126 : fldR (moN 177) 126 = some (12, 64) := by decide +kernel
theorem t12_64 : fcl 12 64 = 2 := by decide +kernel
theorem c177_72 : cdA 177 72 = some (.iload_n 2) := by decide +kernel
theorem c177_73 : cdA 177 73 = some (.aload_n 0) := by decide +kernel
theorem c177_74 : cdA 177 74 = some (.getfield 67) := by decide +kernel
theorem f177_67 : fldR (moN 177) 67 = some (12, 21) := by decide +kernel
theorem c177_77 : cdA 177 77 = some (.iload_n 2) := by decide +kernel
theorem c177_78 : cdA 177 78 = some (.baload) := by decide +kernel
theorem c177_79 : cdA 177 79 = some (.bastore) := by decide +kernel
theorem c177_80 : cdA 177 80 = some (.iinc 2 1) := by decide +kernel
theorem c177_83 : cdA 177 83 = some (.goto (-23)) := by decide +kernel
theorem c177_88 : cdA 177 88 = some (.iload_n 2) := by decide +kernel
theorem c177_89 : cdA 177 89 = some (.aload_n 0) := by decide +kernel
theorem c177_90 : cdA 177 90 = some (.getfield 229) := by decide +kernel
theorem f177_229 : fldR (moN 177) 229 = some (12, 26) := by decide +kernel
theorem c177_93 : cdA 177 93 = some (.if_icmp .ge 33) := by decide +kernel
theorem c177_126 : cdA 177 126 = some (.iconst 0) := by decide +kernel
theorem c177_127 : cdA 177 127 = some (.istore_n 2) := by decide +kernel
theorem c177_96 : cdA 177 96 = some (.aload_n 0) := by decide +kernel
theorem c177_97 : cdA 177 97 = some (.getfield 129) := by decide +kernel
theorem f177_129 : fldR (moN 177) 129 = some (12, 65) := by decide +kernel
theorem t12_65 : fcl 12 65 = 2 := by decide +kernel
theorem c177_100 : cdA 177 100 = some (.iload_n 2) := by decide +kernel
theorem c177_101 : cdA 177 101 = some (.aload_n 0) := by decide +kernel
theorem c177_102 : cdA 177 102 = some (.getfield 77) := by decide +kernel
theorem f177_77 : fldR (moN 177) 77 = some (12, 25) := by decide +kernel
theorem c177_105 : cdA 177 105 = some (.iload_n 2) := by decide +kernel
theorem c177_106 : cdA 177 106 = some (.baload) := by decide +kernel
theorem c177_107 : cdA 177 107 = some (.bastore) := by decide +kernel
theorem c177_108 : cdA 177 108 = some (.aload_n 0) := by decide +kernel
theorem c177_109 : cdA 177 109 = some (.getfield 132) := by decide +kernel
theorem f177_132 : fldR (moN 177) 132 = some (12, 66) := by decide +kernel
theorem t12_66 : fcl 12 66 = 2 := by decide +kernel
theorem c177_112 : cdA 177 112 = some (.iload_n 2) := by decide +kernel
theorem c177_113 : cdA 177 113 = some (.aload_n 0) := by decide +kernel
theorem c177_114 : cdA 177 114 = some (.getfield 71) := by decide +kernel
theorem f177_71 : fldR (moN 177) 71 = some (12, 23) := by decide +kernel
theorem c177_117 : cdA 177 117 = some (.iload_n 2) := by decide +kernel
theorem c177_118 : cdA 177 118 = some (.iaload) := by decide +kernel
theorem c177_119 : cdA 177 119 = some (.iastore) := by decide +kernel
theorem c177_120 : cdA 177 120 = some (.iinc 2 1) := by decide +kernel
theorem c177_123 : cdA 177 123 = some (.goto (-35)) := by decide +kernel
theorem b177_0 {d : Nat} {h : HP} {Q : PV → HP → Prop} {v1 : Int} (H : (0 ≤ v1 ∧ v1 < 12) ∧ X d 177 32 [some (P 69), some (I v1), some (I 0)] [] (up2 (up2 (up2 (up2 h 69 59 (h 82 v1.toNat)) 69 60 (h 69 31)) 69 61 100) 69 62 100) Q) : X d 177 0 [some (P 69), some (I v1), none] [] h Q :=
  s_aload_n c177_0 rfl (s_aload_n c177_1 rfl (s_getP 82 c177_2 f177_46 t12_13 sh_69 g_69_13 (by decide) (by decide) (s_iload_n c177_5 rfl (s_iald c177_6 sh_82 ⟨H.1, s_putI c177_7 f177_304 t12_59 n12_59 sh_69 (s_aload_n c177_10 rfl (s_aload_n c177_11 rfl (s_getI c177_12 f177_301 t12_31 sh_69 (s_putI c177_15 f177_307 t12_60 n12_60 sh_69 (s_aload_n c177_18 rfl (s_bipush c177_19 ⟨by decide, by decide⟩ (s_putI c177_21 f177_310 t12_61 n12_61 sh_69 (s_aload_n c177_24 rfl (s_bipush c177_25 ⟨by decide, by decide⟩ (s_putI c177_27 f177_313 t12_62 n12_62 sh_69 (s_iconst c177_30 rfl (s_istore_n c177_31 rfl (H.2)))))))))))))⟩))))
theorem b177_128 {d : Nat} {h : HP} {Q : PV → HP → Prop} {v1 v2 : Int} (H : (((h 69 30) ≤ v2) → X d 177 175 [some (P 69), some (I v1), some (I 0)] [] h Q) ∧ (¬ ((h 69 30) ≤ v2) → ((0 ≤ v2 ∧ v2 < 4) ∧ ((((h 95 v2.toNat) = 1) → X d 177 161 [some (P 69), some (I v1), some (I v2)] [I v2, P 110] h Q) ∧ (¬ ((h 95 v2.toNat) = 1) → ((0 ≤ v2 ∧ v2 < 4) ∧ (((¬ (h 95 v2.toNat) = 3) → X d 177 166 [some (P 69), some (I v1), some (I v2)] [I 0, I v2, P 110] h Q) ∧ (¬ (¬ (h 95 v2.toNat) = 3) → X d 177 161 [some (P 69), some (I v1), some (I v2)] [I v2, P 110] h Q)))))))) : X d 177 128 [some (P 69), some (I v1), some (I v2)] [] h Q :=
  s_iload_n c177_128 rfl (s_aload_n c177_129 rfl (s_getI c177_130 f177_232 t12_30 sh_69 (s_ifc 173 ((h 69 30) ≤ v2) c177_133 (by decide) rfl ⟨fun q1 => s_iconst c177_173 rfl (s_istore_n c177_174 rfl ((H.1 q1))), fun q1 => s_aload_n c177_136 rfl (s_getP 110 c177_137 f177_135 t12_67 sh_69 g_69_67 (by decide) (by decide) (s_iload_n c177_140 rfl (s_aload_n c177_141 rfl (s_getP 95 c177_142 f177_86 t12_29 sh_69 g_69_29 (by decide) (by decide) (s_iload_n c177_145 rfl (s_iald c177_146 sh_95 ⟨(H.2 q1).1, s_iconst c177_147 rfl (s_ifc 161 ((h 95 v2.toNat) = 1) c177_148 (by decide) rfl ⟨fun q2 => ((H.2 q1).2.1 q2), fun q2 => s_aload_n c177_151 rfl (s_getP 95 c177_152 f177_86 t12_29 sh_69 g_69_29 (by decide) (by decide) (s_iload_n c177_155 rfl (s_iald c177_156 sh_95 ⟨((H.2 q1).2.2 q2).1, s_iconst c177_157 rfl (s_ifc 165 (¬ (h 95 v2.toNat) = 3) c177_158 (by decide) rfl ⟨fun q3 => s_iconst c177_165 rfl ((((H.2 q1).2.2 q2).2.1 q3)), fun q3 => (((H.2 q1).2.2 q2).2.2 q3)⟩)⟩)))⟩)⟩))))))⟩)))
theorem b177_161 {d : Nat} {h : HP} {Q : PV → HP → Prop} {v1 v2 s1 : Int} (H : X d 177 166 [some (P 69), some (I v1), some (I v2)] [I 1, I s1, P 110] h Q) : X d 177 161 [some (P 69), some (I v1), some (I v2)] [I s1, P 110] h Q :=
  s_iconst c177_161 rfl (s_goto 166 c177_162 (by decide) (H))
theorem b177_166 {d : Nat} {h : HP} {Q : PV → HP → Prop} {v1 v2 s1 s2 : Int} (H : (0 ≤ s1 ∧ s1 < 4) ∧ (s2 = 0 ∨ s2 = 1) ∧ X d 177 128 [some (P 69), some (I v1), some (I (w32 (v2 + 1)))] [] (up2 h 110 s1.toNat s2) Q) : X d 177 166 [some (P 69), some (I v1), some (I v2)] [I s2, I s1, P 110] h Q :=
  s_bast c177_166 sh_110 ⟨H.1, H.2.1, s_iinc c177_167 rfl rfl rfl (s_goto 128 c177_170 (by decide) (H.2.2))⟩
theorem b177_175 {d : Nat} {h : HP} {Q : PV → HP → Prop} {v1 v2 : Int} (H : (((h 69 9) ≤ v2) → Q (I 0) h) ∧ (¬ ((h 69 9) ≤ v2) → ((0 ≤ v2 ∧ v2 < 8) ∧ (((0 ≤ (h 75 v2.toNat)) → ((0 ≤ v2 ∧ v2 < 8) ∧ X d 177 207 [some (P 69), some (I v1), some (I v2)] [I (h 76 v2.toNat), I v2, P 111] h Q)) ∧ (¬ (0 ≤ (h 75 v2.toNat)) → X d 177 207 [some (P 69), some (I v1), some (I v2)] [I 2, I v2, P 111] h Q))))) : X d 177 175 [some (P 69), some (I v1), some (I v2)] [] h Q :=
  s_iload_n c177_175 rfl (s_aload_n c177_176 rfl (s_getI c177_177 f177_180 t12_9 sh_69 (s_ifc 214 ((h 69 9) ≤ v2) c177_180 (by decide) rfl ⟨fun q4 => s_retV c177_214 R177 (H.1 q4), fun q4 => s_aload_n c177_183 rfl (s_getP 111 c177_184 f177_138 t12_68 sh_69 g_69_68 (by decide) (by decide) (s_iload_n c177_187 rfl (s_aload_n c177_188 rfl (s_getP 75 c177_189 f177_25 t12_5 sh_69 g_69_5 (by decide) (by decide) (s_iload_n c177_192 rfl (s_iald c177_193 sh_75 ⟨(H.2 q4).1, s_if 201 (0 ≤ (h 75 v2.toNat)) c177_194 (by decide) rfl ⟨fun q5 => s_aload_n c177_201 rfl (s_getP 76 c177_202 f177_28 t12_6 sh_69 g_69_6 (by decide) (by decide) (s_iload_n c177_205 rfl (s_iald c177_206 sh_76 ⟨((H.2 q4).2.1 q5).1, ((H.2 q4).2.1 q5).2⟩))), fun q5 => s_iconst c177_197 rfl (s_goto 207 c177_198 (by decide) (((H.2 q4).2.2 q5)))⟩⟩))))))⟩)))
theorem b177_207 {d : Nat} {h : HP} {Q : PV → HP → Prop} {v1 v2 s1 s2 : Int} (H : (0 ≤ s1 ∧ s1 < 8) ∧ X d 177 175 [some (P 69), some (I v1), some (I (w32 (v2 + 1)))] [] (up2 h 111 s1.toNat s2) Q) : X d 177 207 [some (P 69), some (I v1), some (I v2)] [I s2, I s1, P 111] h Q :=
  s_iast c177_207 sh_111 ⟨H.1, s_iinc c177_208 rfl rfl rfl (s_goto 175 c177_211 (by decide) (H.2))⟩
theorem b177_32 {d : Nat} {h : HP} {Q : PV → HP → Prop} {v1 v2 : Int} (H : (((h 69 17) ≤ v2) → X d 177 60 [some (P 69), some (I v1), some (I 0)] [] h Q) ∧ (¬ ((h 69 17) ≤ v2) → ((0 ≤ v2 ∧ v2 < 20) ∧ ((0 ≤ v2 ∧ v2 < 20) ∧ X d 177 32 [some (P 69), some (I v1), some (I (w32 (v2 + 1)))] [] (up2 h 106 v2.toNat (h 85 v2.toNat)) Q)))) : X d 177 32 [some (P 69), some (I v1), some (I v2)] [] h Q :=
  s_iload_n c177_32 rfl (s_aload_n c177_33 rfl (s_getI c177_34 f177_219 t12_17 sh_69 (s_ifc 58 ((h 69 17) ≤ v2) c177_37 (by decide) rfl ⟨fun q6 => s_iconst c177_58 rfl (s_istore_n c177_59 rfl ((H.1 q6))), fun q6 => s_aload_n c177_40 rfl (s_getP 106 c177_41 f177_123 t12_63 sh_69 g_69_63 (by decide) (by decide) (s_iload_n c177_44 rfl (s_aload_n c177_45 rfl (s_getP 85 c177_46 f177_55 t12_16 sh_69 g_69_16 (by decide) (by decide) (s_iload_n c177_49 rfl (s_iald c177_50 sh_85 ⟨(H.2 q6).1, s_iast c177_51 sh_106 ⟨(H.2 q6).2.1, s_iinc c177_52 rfl rfl rfl (s_goto 32 c177_55 (by decide) ((H.2 q6).2.2))⟩⟩))))))⟩)))
theorem b177_60 {d : Nat} {h : HP} {Q : PV → HP → Prop} {v1 v2 : Int} (H : (((h 69 22) ≤ v2) → X d 177 88 [some (P 69), some (I v1), some (I 0)] [] h Q) ∧ (¬ ((h 69 22) ≤ v2) → ((0 ≤ v2 ∧ v2 < 8) ∧ ((0 ≤ v2 ∧ v2 < 8) ∧ ((h 89 v2.toNat) = 0 ∨ (h 89 v2.toNat) = 1) ∧ X d 177 60 [some (P 69), some (I v1), some (I (w32 (v2 + 1)))] [] (up2 h 107 v2.toNat (h 89 v2.toNat)) Q)))) : X d 177 60 [some (P 69), some (I v1), some (I v2)] [] h Q :=
  s_iload_n c177_60 rfl (s_aload_n c177_61 rfl (s_getI c177_62 f177_226 t12_22 sh_69 (s_ifc 86 ((h 69 22) ≤ v2) c177_65 (by decide) rfl ⟨fun q7 => s_iconst c177_86 rfl (s_istore_n c177_87 rfl ((H.1 q7))), fun q7 => s_aload_n c177_68 rfl (s_getP 107 c177_69 f177_126 t12_64 sh_69 g_69_64 (by decide) (by decide) (s_iload_n c177_72 rfl (s_aload_n c177_73 rfl (s_getP 89 c177_74 f177_67 t12_21 sh_69 g_69_21 (by decide) (by decide) (s_iload_n c177_77 rfl (s_bald c177_78 sh_89 ⟨(H.2 q7).1, s_bast c177_79 sh_107 ⟨(H.2 q7).2.1, (H.2 q7).2.2.1, s_iinc c177_80 rfl rfl rfl (s_goto 60 c177_83 (by decide) ((H.2 q7).2.2.2))⟩⟩))))))⟩)))
theorem b177_88 {d : Nat} {h : HP} {Q : PV → HP → Prop} {v1 v2 : Int} (H : (((h 69 26) ≤ v2) → X d 177 128 [some (P 69), some (I v1), some (I 0)] [] h Q) ∧ (¬ ((h 69 26) ≤ v2) → ((0 ≤ v2 ∧ v2 < 8) ∧ ((0 ≤ v2 ∧ v2 < 8) ∧ ((h 92 v2.toNat) = 0 ∨ (h 92 v2.toNat) = 1) ∧ ((0 ≤ v2 ∧ v2 < 8) ∧ ((0 ≤ v2 ∧ v2 < 8) ∧ X d 177 88 [some (P 69), some (I v1), some (I (w32 (v2 + 1)))] [] (up2 (up2 h 108 v2.toNat (h 92 v2.toNat)) 109 v2.toNat (h 90 v2.toNat)) Q)))))) : X d 177 88 [some (P 69), some (I v1), some (I v2)] [] h Q :=
  s_iload_n c177_88 rfl (s_aload_n c177_89 rfl (s_getI c177_90 f177_229 t12_26 sh_69 (s_ifc 126 ((h 69 26) ≤ v2) c177_93 (by decide) rfl ⟨fun q8 => s_iconst c177_126 rfl (s_istore_n c177_127 rfl ((H.1 q8))), fun q8 => s_aload_n c177_96 rfl (s_getP 108 c177_97 f177_129 t12_65 sh_69 g_69_65 (by decide) (by decide) (s_iload_n c177_100 rfl (s_aload_n c177_101 rfl (s_getP 92 c177_102 f177_77 t12_25 sh_69 g_69_25 (by decide) (by decide) (s_iload_n c177_105 rfl (s_bald c177_106 sh_92 ⟨(H.2 q8).1, s_bast c177_107 sh_108 ⟨(H.2 q8).2.1, (H.2 q8).2.2.1, s_aload_n c177_108 rfl (s_getP 109 c177_109 f177_132 t12_66 sh_69 g_69_66 (by decide) (by decide) (s_iload_n c177_112 rfl (s_aload_n c177_113 rfl (s_getP 90 c177_114 f177_71 t12_23 sh_69 g_69_23 (by decide) (by decide) (s_iload_n c177_117 rfl (s_iald c177_118 sh_90 ⟨(H.2 q8).2.2.2.1, s_iast c177_119 sh_109 ⟨(H.2 q8).2.2.2.2.1, s_iinc c177_120 rfl rfl rfl (s_goto 88 c177_123 (by decide) ((H.2 q8).2.2.2.2.2))⟩⟩))))))⟩⟩))))))⟩)))
-- WarmSideModel.takesOf(I)I
theorem c178_0 : cdA 178 0 = some (.aload_n 0) := by decide +kernel
theorem c178_1 : cdA 178 1 = some (.getfield 13) := by decide +kernel
theorem f178_13 : fldR (moN 178) 13 = some (12, 1) := by decide +kernel
theorem c178_4 : cdA 178 4 = some (.iload_n 1) := by decide +kernel
theorem c178_5 : cdA 178 5 = some (.iaload) := by decide +kernel
theorem c178_6 : cdA 178 6 = some (.aload_n 0) := by decide +kernel
theorem c178_7 : cdA 178 7 = some (.getfield 304) := by decide +kernel
theorem f178_304 : fldR (moN 178) 304 = some (12, 59) := by decide +kernel
theorem c178_10 : cdA 178 10 = some (.imul) := by decide +kernel
theorem c178_11 : cdA 178 11 = some (.aload_n 0) := by decide +kernel
theorem c178_12 : cdA 178 12 = some (.getfield 40) := by decide +kernel
theorem f178_40 : fldR (moN 178) 40 = some (12, 11) := by decide +kernel
theorem c178_15 : cdA 178 15 = some (.bipush 10) := by decide +kernel
theorem c178_17 : cdA 178 17 = some (.aload_n 0) := by decide +kernel
theorem c178_18 : cdA 178 18 = some (.getfield 16) := by decide +kernel
theorem f178_16 : fldR (moN 178) 16 = some (12, 2) := by decide +kernel
theorem c178_21 : cdA 178 21 = some (.iload_n 1) := by decide +kernel
theorem c178_22 : cdA 178 22 = some (.iaload) := by decide +kernel
theorem c178_23 : cdA 178 23 = some (.imul) := by decide +kernel
theorem c178_24 : cdA 178 24 = some (.aload_n 0) := by decide +kernel
theorem c178_25 : cdA 178 25 = some (.getfield 307) := by decide +kernel
theorem f178_307 : fldR (moN 178) 307 = some (12, 60) := by decide +kernel
theorem c178_28 : cdA 178 28 = some (.iadd) := by decide +kernel
theorem c178_29 : cdA 178 29 = some (.iaload) := by decide +kernel
theorem c178_30 : cdA 178 30 = some (.imul) := by decide +kernel
theorem c178_31 : cdA 178 31 = some (.aload_n 0) := by decide +kernel
theorem c178_32 : cdA 178 32 = some (.getfield 22) := by decide +kernel
theorem f178_22 : fldR (moN 178) 22 = some (12, 4) := by decide +kernel
theorem c178_35 : cdA 178 35 = some (.iload_n 1) := by decide +kernel
theorem c178_36 : cdA 178 36 = some (.iaload) := by decide +kernel
theorem c178_37 : cdA 178 37 = some (.imul) := by decide +kernel
theorem c178_38 : cdA 178 38 = some (.sipush 200) := by decide +kernel
theorem c178_41 : cdA 178 41 = some (.idiv) := by decide +kernel
theorem c178_42 : cdA 178 42 = some (.ireturn) := by decide +kernel
theorem R178 : mK 178 = 0 := by decide +kernel
theorem b178_0 {d : Nat} {h : HP} {Q : PV → HP → Prop} {v1 : Int} (H : (0 ≤ v1 ∧ v1 < 8) ∧ ((0 ≤ v1 ∧ v1 < 8) ∧ ((0 ≤ (w32 ((w32 (10 * (h 72 v1.toNat))) + (h 69 60))) ∧ (w32 ((w32 (10 * (h 72 v1.toNat))) + (h 69 60))) < 40) ∧ ((0 ≤ v1 ∧ v1 < 8) ∧ Q (I (w32 (Int.tdiv (w32 ((w32 ((w32 ((h 71 v1.toNat) * (h 69 59))) * (h 80 (w32 ((w32 (10 * (h 72 v1.toNat))) + (h 69 60))).toNat))) * (h 74 v1.toNat))) 200))) h)))) : X d 178 0 [some (P 69), some (I v1)] [] h Q :=
  s_aload_n c178_0 rfl (s_getP 71 c178_1 f178_13 t12_1 sh_69 g_69_1 (by decide) (by decide) (s_iload_n c178_4 rfl (s_iald c178_5 sh_71 ⟨H.1, s_aload_n c178_6 rfl (s_getI c178_7 f178_304 t12_59 sh_69 (s_imul c178_10 (s_aload_n c178_11 rfl (s_getP 80 c178_12 f178_40 t12_11 sh_69 g_69_11 (by decide) (by decide) (s_bipush c178_15 ⟨by decide, by decide⟩ (s_aload_n c178_17 rfl (s_getP 72 c178_18 f178_16 t12_2 sh_69 g_69_2 (by decide) (by decide) (s_iload_n c178_21 rfl (s_iald c178_22 sh_72 ⟨H.2.1, s_imul c178_23 (s_aload_n c178_24 rfl (s_getI c178_25 f178_307 t12_60 sh_69 (s_iadd c178_28 (s_iald c178_29 sh_80 ⟨H.2.2.1, s_imul c178_30 (s_aload_n c178_31 rfl (s_getP 74 c178_32 f178_22 t12_4 sh_69 g_69_4 (by decide) (by decide) (s_iload_n c178_35 rfl (s_iald c178_36 sh_74 ⟨H.2.2.2.1, s_imul c178_37 (s_sipush c178_38 ⟨by decide, by decide⟩ (s_idiv c178_41 (by decide) (s_retI c178_42 R178 H.2.2.2.2)))⟩))))⟩))))⟩)))))))))⟩)))
-- WarmSideModel.makesOf(I)I
theorem c179_0 : cdA 179 0 = some (.iconst 0) := by decide +kernel
theorem c179_1 : cdA 179 1 = some (.istore_n 2) := by decide +kernel
theorem c179_2 : cdA 179 2 = some (.iconst 0) := by decide +kernel
theorem c179_3 : cdA 179 3 = some (.istore_n 3) := by decide +kernel
theorem c179_4 : cdA 179 4 = some (.iload_n 3) := by decide +kernel
theorem c179_5 : cdA 179 5 = some (.aload_n 0) := by decide +kernel
theorem c179_6 : cdA 179 6 = some (.getfield 229) := by decide +kernel
theorem f179_229 : fldR (moN 179) 229 = some (12, 26) := by decide +kernel
theorem c179_9 : cdA 179 9 = some (.if_icmp .ge 49) := by decide +kernel
theorem c179_58 : cdA 179 58 = some (.iconst 0) := by decide +kernel
theorem c179_59 : cdA 179 59 = some (.istore_n 3) := by decide +kernel
theorem c179_12 : cdA 179 12 = some (.iload_n 2) := by decide +kernel
theorem c179_13 : cdA 179 13 = some (.aload_n 0) := by decide +kernel
theorem c179_14 : cdA 179 14 = some (.getfield 129) := by decide +kernel
theorem f179_129 : fldR (moN 179) 129 = some (12, 65) := by decide +kernel
theorem c179_17 : cdA 179 17 = some (.iload_n 3) := by decide +kernel
theorem c179_18 : cdA 179 18 = some (.baload) := by decide +kernel
theorem c179_19 : cdA 179 19 = some (.ifCond .eq 30) := by decide +kernel
theorem c179_22 : cdA 179 22 = some (.aload_n 0) := by decide +kernel
theorem c179_23 : cdA 179 23 = some (.getfield 132) := by decide +kernel
theorem f179_132 : fldR (moN 179) 132 = some (12, 66) := by decide +kernel
theorem c179_26 : cdA 179 26 = some (.iload_n 3) := by decide +kernel
theorem c179_27 : cdA 179 27 = some (.iaload) := by decide +kernel
theorem c179_28 : cdA 179 28 = some (.iload_n 1) := by decide +kernel
theorem c179_29 : cdA 179 29 = some (.if_icmp .ne 20) := by decide +kernel
theorem c179_32 : cdA 179 32 = some (.aload_n 0) := by decide +kernel
theorem c179_33 : cdA 179 33 = some (.getfield 74) := by decide +kernel
theorem f179_74 : fldR (moN 179) 74 = some (12, 24) := by decide +kernel
theorem c179_36 : cdA 179 36 = some (.iload_n 3) := by decide +kernel
theorem c179_37 : cdA 179 37 = some (.iaload) := by decide +kernel
theorem c179_38 : cdA 179 38 = some (.aload_n 0) := by decide +kernel
theorem c179_39 : cdA 179 39 = some (.getfield 310) := by decide +kernel
theorem f179_310 : fldR (moN 179) 310 = some (12, 61) := by decide +kernel
theorem c179_42 : cdA 179 42 = some (.imul) := by decide +kernel
theorem c179_43 : cdA 179 43 = some (.bipush 100) := by decide +kernel
theorem c179_45 : cdA 179 45 = some (.idiv) := by decide +kernel
theorem c179_46 : cdA 179 46 = some (.goto 4) := by decide +kernel
theorem c179_49 : cdA 179 49 = some (.iconst 0) := by decide +kernel
theorem c179_50 : cdA 179 50 = some (.iadd) := by decide +kernel
theorem c179_51 : cdA 179 51 = some (.istore_n 2) := by decide +kernel
theorem c179_52 : cdA 179 52 = some (.iinc 3 1) := by decide +kernel
theorem c179_55 : cdA 179 55 = some (.goto (-51)) := by decide +kernel
theorem c179_60 : cdA 179 60 = some (.iload_n 3) := by decide +kernel
theorem c179_61 : cdA 179 61 = some (.aload_n 0) := by decide +kernel
theorem c179_62 : cdA 179 62 = some (.getfield 232) := by decide +kernel
theorem f179_232 : fldR (moN 179) 232 = some (12, 30) := by decide +kernel
theorem c179_65 : cdA 179 65 = some (.if_icmp .ge 41) := by decide +kernel
theorem c179_106 : cdA 179 106 = some (.iload_n 2) := by decide +kernel
theorem c179_107 : cdA 179 107 = some (.ireturn) := by decide +kernel
theorem R179 : mK 179 = 0 := by decide +kernel
theorem c179_68 : cdA 179 68 = some (.iload_n 2) := by decide +kernel
theorem c179_69 : cdA 179 69 = some (.aload_n 0) := by decide +kernel
theorem c179_70 : cdA 179 70 = some (.getfield 135) := by decide +kernel
theorem f179_135 : fldR (moN 179) 135 = some (12, 67) := by decide +kernel
theorem c179_73 : cdA 179 73 = some (.iload_n 3) := by decide +kernel
theorem c179_74 : cdA 179 74 = some (.baload) := by decide +kernel
theorem c179_75 : cdA 179 75 = some (.ifCond .eq 22) := by decide +kernel
theorem c179_78 : cdA 179 78 = some (.aload_n 0) := by decide +kernel
theorem c179_79 : cdA 179 79 = some (.getfield 80) := by decide +kernel
theorem f179_80 : fldR (moN 179) 80 = some (12, 27) := by decide +kernel
theorem c179_82 : cdA 179 82 = some (.iload_n 3) := by decide +kernel
theorem c179_83 : cdA 179 83 = some (.iaload) := by decide +kernel
theorem c179_84 : cdA 179 84 = some (.iload_n 1) := by decide +kernel
theorem c179_85 : cdA 179 85 = some (.if_icmp .ne 12) := by decide +kernel
theorem c179_88 : cdA 179 88 = some (.aload_n 0) := by decide +kernel
theorem c179_89 : cdA 179 89 = some (.getfield 83) := by decide +kernel
theorem f179_83 : fldR (moN 179) 83 = some (12, 28) := by decide +kernel
theorem c179_92 : cdA 179 92 = some (.iload_n 3) := by decide +kernel
theorem c179_93 : cdA 179 93 = some (.iaload) := by decide +kernel
theorem c179_94 : cdA 179 94 = some (.goto 4) := by decide +kernel
theorem c179_97 : cdA 179 97 = some (.iconst 0) := by decide +kernel
theorem c179_98 : cdA 179 98 = some (.iadd) := by decide +kernel
theorem c179_99 : cdA 179 99 = some (.istore_n 2) := by decide +kernel
theorem c179_100 : cdA 179 100 = some (.iinc 3 1) := by decide +kernel
theorem c179_103 : cdA 179 103 = some (.goto (-43)) := by decide +kernel
theorem b179_0 {d : Nat} {h : HP} {Q : PV → HP → Prop} {v1 : Int} (H : X d 179 4 [some (P 69), some (I v1), some (I 0), some (I 0)] [] h Q) : X d 179 0 [some (P 69), some (I v1), none, none] [] h Q :=
  s_iconst c179_0 rfl (s_istore_n c179_1 rfl (s_iconst c179_2 rfl (s_istore_n c179_3 rfl (H))))
theorem b179_4 {d : Nat} {h : HP} {Q : PV → HP → Prop} {v1 v2 v3 : Int} (H : (((h 69 26) ≤ v3) → X d 179 60 [some (P 69), some (I v1), some (I v2), some (I 0)] [] h Q) ∧ (¬ ((h 69 26) ≤ v3) → ((0 ≤ v3 ∧ v3 < 8) ∧ ((((h 108 v3.toNat) = 0) → X d 179 49 [some (P 69), some (I v1), some (I v2), some (I v3)] [I v2] h Q) ∧ (¬ ((h 108 v3.toNat) = 0) → ((0 ≤ v3 ∧ v3 < 8) ∧ (((¬ (h 109 v3.toNat) = v1) → X d 179 49 [some (P 69), some (I v1), some (I v2), some (I v3)] [I v2] h Q) ∧ (¬ (¬ (h 109 v3.toNat) = v1) → ((0 ≤ v3 ∧ v3 < 8) ∧ X d 179 50 [some (P 69), some (I v1), some (I v2), some (I v3)] [I (w32 (Int.tdiv (w32 ((h 91 v3.toNat) * (h 69 61))) 100)), I v2] h Q))))))))) : X d 179 4 [some (P 69), some (I v1), some (I v2), some (I v3)] [] h Q :=
  s_iload_n c179_4 rfl (s_aload_n c179_5 rfl (s_getI c179_6 f179_229 t12_26 sh_69 (s_ifc 58 ((h 69 26) ≤ v3) c179_9 (by decide) rfl ⟨fun q1 => s_iconst c179_58 rfl (s_istore_n c179_59 rfl ((H.1 q1))), fun q1 => s_iload_n c179_12 rfl (s_aload_n c179_13 rfl (s_getP 108 c179_14 f179_129 t12_65 sh_69 g_69_65 (by decide) (by decide) (s_iload_n c179_17 rfl (s_bald c179_18 sh_108 ⟨(H.2 q1).1, s_if 49 ((h 108 v3.toNat) = 0) c179_19 (by decide) rfl ⟨fun q2 => ((H.2 q1).2.1 q2), fun q2 => s_aload_n c179_22 rfl (s_getP 109 c179_23 f179_132 t12_66 sh_69 g_69_66 (by decide) (by decide) (s_iload_n c179_26 rfl (s_iald c179_27 sh_109 ⟨((H.2 q1).2.2 q2).1, s_iload_n c179_28 rfl (s_ifc 49 (¬ (h 109 v3.toNat) = v1) c179_29 (by decide) rfl ⟨fun q3 => (((H.2 q1).2.2 q2).2.1 q3), fun q3 => s_aload_n c179_32 rfl (s_getP 91 c179_33 f179_74 t12_24 sh_69 g_69_24 (by decide) (by decide) (s_iload_n c179_36 rfl (s_iald c179_37 sh_91 ⟨(((H.2 q1).2.2 q2).2.2 q3).1, s_aload_n c179_38 rfl (s_getI c179_39 f179_310 t12_61 sh_69 (s_imul c179_42 (s_bipush c179_43 ⟨by decide, by decide⟩ (s_idiv c179_45 (by decide) (s_goto 50 c179_46 (by decide) ((((H.2 q1).2.2 q2).2.2 q3).2))))))⟩)))⟩)⟩)))⟩⟩))))⟩)))
theorem b179_49 {d : Nat} {h : HP} {Q : PV → HP → Prop} {v1 v2 v3 s0 : Int} (H : X d 179 50 [some (P 69), some (I v1), some (I v2), some (I v3)] [I 0, I s0] h Q) : X d 179 49 [some (P 69), some (I v1), some (I v2), some (I v3)] [I s0] h Q :=
  s_iconst c179_49 rfl (H)
theorem b179_50 {d : Nat} {h : HP} {Q : PV → HP → Prop} {v1 v2 v3 s0 s1 : Int} (H : X d 179 4 [some (P 69), some (I v1), some (I (w32 (s0 + s1))), some (I (w32 (v3 + 1)))] [] h Q) : X d 179 50 [some (P 69), some (I v1), some (I v2), some (I v3)] [I s1, I s0] h Q :=
  s_iadd c179_50 (s_istore_n c179_51 rfl (s_iinc c179_52 rfl rfl rfl (s_goto 4 c179_55 (by decide) (H))))
theorem b179_60 {d : Nat} {h : HP} {Q : PV → HP → Prop} {v1 v2 v3 : Int} (H : (((h 69 30) ≤ v3) → Q (I v2) h) ∧ (¬ ((h 69 30) ≤ v3) → ((0 ≤ v3 ∧ v3 < 4) ∧ ((((h 110 v3.toNat) = 0) → X d 179 97 [some (P 69), some (I v1), some (I v2), some (I v3)] [I v2] h Q) ∧ (¬ ((h 110 v3.toNat) = 0) → ((0 ≤ v3 ∧ v3 < 4) ∧ (((¬ (h 93 v3.toNat) = v1) → X d 179 97 [some (P 69), some (I v1), some (I v2), some (I v3)] [I v2] h Q) ∧ (¬ (¬ (h 93 v3.toNat) = v1) → ((0 ≤ v3 ∧ v3 < 4) ∧ X d 179 98 [some (P 69), some (I v1), some (I v2), some (I v3)] [I (h 94 v3.toNat), I v2] h Q))))))))) : X d 179 60 [some (P 69), some (I v1), some (I v2), some (I v3)] [] h Q :=
  s_iload_n c179_60 rfl (s_aload_n c179_61 rfl (s_getI c179_62 f179_232 t12_30 sh_69 (s_ifc 106 ((h 69 30) ≤ v3) c179_65 (by decide) rfl ⟨fun q4 => s_iload_n c179_106 rfl (s_retI c179_107 R179 (H.1 q4)), fun q4 => s_iload_n c179_68 rfl (s_aload_n c179_69 rfl (s_getP 110 c179_70 f179_135 t12_67 sh_69 g_69_67 (by decide) (by decide) (s_iload_n c179_73 rfl (s_bald c179_74 sh_110 ⟨(H.2 q4).1, s_if 97 ((h 110 v3.toNat) = 0) c179_75 (by decide) rfl ⟨fun q5 => ((H.2 q4).2.1 q5), fun q5 => s_aload_n c179_78 rfl (s_getP 93 c179_79 f179_80 t12_27 sh_69 g_69_27 (by decide) (by decide) (s_iload_n c179_82 rfl (s_iald c179_83 sh_93 ⟨((H.2 q4).2.2 q5).1, s_iload_n c179_84 rfl (s_ifc 97 (¬ (h 93 v3.toNat) = v1) c179_85 (by decide) rfl ⟨fun q6 => (((H.2 q4).2.2 q5).2.1 q6), fun q6 => s_aload_n c179_88 rfl (s_getP 94 c179_89 f179_83 t12_28 sh_69 g_69_28 (by decide) (by decide) (s_iload_n c179_92 rfl (s_iald c179_93 sh_94 ⟨(((H.2 q4).2.2 q5).2.2 q6).1, s_goto 98 c179_94 (by decide) ((((H.2 q4).2.2 q5).2.2 q6).2)⟩)))⟩)⟩)))⟩⟩))))⟩)))
theorem b179_97 {d : Nat} {h : HP} {Q : PV → HP → Prop} {v1 v2 v3 s0 : Int} (H : X d 179 98 [some (P 69), some (I v1), some (I v2), some (I v3)] [I 0, I s0] h Q) : X d 179 97 [some (P 69), some (I v1), some (I v2), some (I v3)] [I s0] h Q :=
  s_iconst c179_97 rfl (H)
theorem b179_98 {d : Nat} {h : HP} {Q : PV → HP → Prop} {v1 v2 v3 s0 s1 : Int} (H : X d 179 60 [some (P 69), some (I v1), some (I (w32 (s0 + s1))), some (I (w32 (v3 + 1)))] [] h Q) : X d 179 98 [some (P 69), some (I v1), some (I v2), some (I v3)] [I s1, I s0] h Q :=
  s_iadd c179_98 (s_istore_n c179_99 rfl (s_iinc c179_100 rfl rfl rfl (s_goto 60 c179_103 (by decide) (H))))
