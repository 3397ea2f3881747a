/-! blocks of WarmSide, by program -/
-- WarmSide.share(IIIZ)I
theorem c117_0 : cdA 117 0 = some (.aload_n 0) := by decide +kernel
theorem c117_1 : cdA 117 1 = some (.iload_n 1) := by decide +kernel
theorem c117_2 : cdA 117 2 = some (.invokevirtual 88) := by decide +kernel
theorem m117_88 : mthR (moN 117) 88 = 127 := by decide +kernel
theorem c117_110 : cdA 117 110 = some (.imul) := by decide +kernel
theorem c117_111 : cdA 117 111 = some (.iadd) := by decide +kernel
theorem c117_112 : cdA 117 112 = some (.istore 5) := by decide +kernel
theorem c117_114 : cdA 117 114 = some (.iinc 6 1) := by decide +kernel
theorem c117_117 : cdA 117 117 = some (.goto (-55)) := by decide +kernel
theorem c117_14 : cdA 117 14 = some (.ifCond .eq 9) := by decide +kernel
theorem c117_23 : cdA 117 23 = some (.iload_n 3) := by decide +kernel
theorem c117_24 : cdA 117 24 = some (.iconst 3) := by decide +kernel
theorem c117_25 : cdA 117 25 = some (.invokestatic 67) := by decide +kernel
theorem m117_67 : mthR (moN 117) 67 = 126 := by decide +kernel
theorem c117_17 : cdA 117 17 = some (.aload_n 0) := by decide +kernel
theorem c117_18 : cdA 117 18 = some (.iconst (-1)) := by decide +kernel
theorem c117_19 : cdA 117 19 = some (.invokevirtual 235) := by decide +kernel
theorem m117_235 : mthR (moN 117) 235 = 125 := by decide +kernel
theorem c117_22 : cdA 117 22 = some (.ireturn) := by decide +kernel
theorem R117 : mK 117 = 0 := by decide +kernel
theorem c117_28 : cdA 117 28 = some (.ifCond .eq 10) := by decide +kernel
theorem c117_38 : cdA 117 38 = some (.iload 4) := by decide +kernel
theorem c117_40 : cdA 117 40 = some (.ifCond .ne 16) := by decide +kernel
theorem c117_56 : cdA 117 56 = some (.iconst 0) := by decide +kernel
theorem c117_57 : cdA 117 57 = some (.istore 5) := by decide +kernel
theorem c117_59 : cdA 117 59 = some (.iconst 0) := by decide +kernel
theorem c117_60 : cdA 117 60 = some (.istore 6) := by decide +kernel
theorem c117_43 : cdA 117 43 = some (.aload_n 0) := by decide +kernel
theorem c117_44 : cdA 117 44 = some (.iload_n 1) := by decide +kernel
theorem c117_45 : cdA 117 45 = some (.iload_n 2) := by decide +kernel
theorem c117_46 : cdA 117 46 = some (.iload_n 3) := by decide +kernel
theorem c117_47 : cdA 117 47 = some (.iconst 1) := by decide +kernel
theorem c117_48 : cdA 117 48 = some (.iload_n 3) := by decide +kernel
theorem c117_49 : cdA 117 49 = some (.ishl) := by decide +kernel
theorem c117_50 : cdA 117 50 = some (.iconst 1) := by decide +kernel
theorem c117_51 : cdA 117 51 = some (.isub) := by decide +kernel
theorem c117_52 : cdA 117 52 = some (.invokevirtual 297) := by decide +kernel
theorem m117_297 : mthR (moN 117) 297 = 135 := by decide +kernel
theorem F132 : mF 132 4 6 true := by unfold mF; decide +kernel
theorem K132 : ¬ mK 132 = 4 := by decide +kernel
theorem S132_0 : SH0[0]? = some (.inl (moN 132)) := by decide +kernel
theorem c117_31 : cdA 117 31 = some (.aload_n 0) := by decide +kernel
theorem c117_32 : cdA 117 32 = some (.bipush (-2)) := by decide +kernel
theorem c117_34 : cdA 117 34 = some (.invokevirtual 235) := by decide +kernel
theorem c117_37 : cdA 117 37 = some (.ireturn) := by decide +kernel
theorem c117_5 : cdA 117 5 = some (.ifCond .ne 12) := by decide +kernel
theorem c117_8 : cdA 117 8 = some (.iload_n 2) := by decide +kernel
theorem c117_9 : cdA 117 9 = some (.bipush 12) := by decide +kernel
theorem c117_11 : cdA 117 11 = some (.invokestatic 67) := by decide +kernel
theorem c117_55 : cdA 117 55 = some (.ireturn) := by decide +kernel
theorem c117_62 : cdA 117 62 = some (.iload 6) := by decide +kernel
theorem c117_64 : cdA 117 64 = some (.bipush 8) := by decide +kernel
theorem c117_66 : cdA 117 66 = some (.if_icmp .ge 54) := by decide +kernel
theorem c117_120 : cdA 117 120 = some (.iload 5) := by decide +kernel
theorem c117_122 : cdA 117 122 = some (.ireturn) := by decide +kernel
theorem c117_69 : cdA 117 69 = some (.iload 6) := by decide +kernel
theorem c117_71 : cdA 117 71 = some (.iload_n 3) := by decide +kernel
theorem c117_72 : cdA 117 72 = some (.ishr) := by decide +kernel
theorem c117_73 : cdA 117 73 = some (.iconst 1) := by decide +kernel
theorem c117_74 : cdA 117 74 = some (.iand) := by decide +kernel
theorem c117_75 : cdA 117 75 = some (.ifCond .eq 6) := by decide +kernel
theorem c117_81 : cdA 117 81 = some (.iload 6) := by decide +kernel
theorem c117_83 : cdA 117 83 = some (.invokestatic 264) := by decide +kernel
theorem m117_264 : mthR (moN 117) 264 = 225 := by decide +kernel
theorem c117_78 : cdA 117 78 = some (.goto 36) := by decide +kernel
theorem c117_86 : cdA 117 86 = some (.iconst 1) := by decide +kernel
theorem c117_87 : cdA 117 87 = some (.if_icmp .ne 7) := by decide +kernel
theorem c117_94 : cdA 117 94 = some (.iconst 2) := by decide +kernel
theorem c117_90 : cdA 117 90 = some (.iconst 1) := by decide +kernel
theorem c117_91 : cdA 117 91 = some (.goto 4) := by decide +kernel
theorem c117_95 : cdA 117 95 = some (.istore 7) := by decide +kernel
theorem c117_97 : cdA 117 97 = some (.iload 5) := by decide +kernel
theorem c117_99 : cdA 117 99 = some (.iload 7) := by decide +kernel
theorem c117_101 : cdA 117 101 = some (.aload_n 0) := by decide +kernel
theorem c117_102 : cdA 117 102 = some (.iload_n 1) := by decide +kernel
theorem c117_103 : cdA 117 103 = some (.iload_n 2) := by decide +kernel
theorem c117_104 : cdA 117 104 = some (.iload_n 3) := by decide +kernel
theorem c117_105 : cdA 117 105 = some (.iload 6) := by decide +kernel
theorem c117_107 : cdA 117 107 = some (.invokevirtual 297) := by decide +kernel
theorem b117_0 {d : Nat} {h : HP} {Q : PV → HP → Prop} {v1 v2 v3 v4 : Int} (H : X d 124 0 [some (P 0), some (I v1)] [] h (fun r h' => X (d + 1) 117 5 [some (P 0), some (I v1), some (I v2), some (I v3), some (I v4), none, none, none] [r] h' Q)) : X (d + 1) 117 0 [some (P 0), some (I v1), some (I v2), some (I v3), some (I v4), none, none, none] [] h Q :=
  s_aload_n c117_0 rfl (s_iload_n c117_1 rfl (s_cVi c117_2 m117_88 F124 K124 rfl (Nat.le_of_ble_eq_true rfl) rfl S124_0 rfl H))
theorem b117_110 {d : Nat} {h : HP} {Q : PV → HP → Prop} {v1 v2 v3 v4 v5 v6 v7 s0 s1 s2 : Int} (H : X d 117 114 [some (P 0), some (I v1), some (I v2), some (I v3), some (I v4), some (I (w32 (s0 + (w32 (s1 * s2))))), some (I v6), none] [] h Q) : X d 117 110 [some (P 0), some (I v1), some (I v2), some (I v3), some (I v4), some (I v5), some (I v6), some (I v7)] [I s2, I s1, I s0] h Q :=
  s_imul c117_110 (s_iadd c117_111 (s_istore c117_112 rfl (X_weak (A := [some (P 0), some (I v1), some (I v2), some (I v3), some (I v4), some (I (w32 (s0 + (w32 (s1 * s2))))), some (I v6), none]) (B := [some (P 0), some (I v1), some (I v2), some (I v3), some (I v4), some (I (w32 (s0 + (w32 (s1 * s2))))), some (I v6), some (I v7)]) ⟨Or.inl rfl, Or.inl rfl, Or.inl rfl, Or.inl rfl, Or.inl rfl, Or.inl rfl, Or.inl rfl, Or.inr ⟨rfl, _, rfl, rfl⟩, trivial⟩ H)))
theorem b117_114 {d : Nat} {h : HP} {Q : PV → HP → Prop} {v1 v2 v3 v4 v5 v6 : Int} (H : X d 117 62 [some (P 0), some (I v1), some (I v2), some (I v3), some (I v4), some (I v5), some (I (w32 (v6 + 1))), none] [] h Q) : X d 117 114 [some (P 0), some (I v1), some (I v2), some (I v3), some (I v4), some (I v5), some (I v6), none] [] h Q :=
  s_iinc c117_114 rfl rfl rfl (s_goto 62 c117_117 (by decide) (H))
theorem b117_14 {d : Nat} {h : HP} {Q : PV → HP → Prop} {v1 v2 v3 v4 s0 : Int} (H : ((s0 = 0) → X d 123 0 [some (I v3), some (I 3)] [] h (fun r h' => X (d + 1) 117 28 [some (P 0), some (I v1), some (I v2), some (I v3), some (I v4), none, none, none] [r] h' Q)) ∧ (¬ (s0 = 0) → X (d + 1) 117 17 [some (P 0), some (I v1), some (I v2), some (I v3), some (I v4), none, none, none] [] h Q)) : X (d + 1) 117 14 [some (P 0), some (I v1), some (I v2), some (I v3), some (I v4), none, none, none] [I s0] h Q :=
  s_if 23 (s0 = 0) c117_14 (by decide) rfl ⟨fun q1 => s_iload_n c117_23 rfl (s_iconst c117_24 rfl (s_cSi c117_25 m117_67 F123 K123 rfl (Nat.le_of_ble_eq_true rfl) rfl rfl (H.1 q1))), fun q1 => (H.2 q1)⟩
theorem b117_17 {d : Nat} {h : HP} {Q : PV → HP → Prop} {v1 v2 v3 v4 : Int} (H : X d 122 0 [some (P 0), some (I (-1))] [] h (fun r h' => X (d + 1) 117 22 [some (P 0), some (I v1), some (I v2), some (I v3), some (I v4), none, none, none] [r] h' Q)) : X (d + 1) 117 17 [some (P 0), some (I v1), some (I v2), some (I v3), some (I v4), none, none, none] [] h Q :=
  s_aload_n c117_17 rfl (s_iconst c117_18 rfl (s_cVi c117_19 m117_235 F122 K122 rfl (Nat.le_of_ble_eq_true rfl) rfl S122_0 rfl H))
theorem b117_22 {d : Nat} {h : HP} {Q : PV → HP → Prop} {v1 v2 v3 v4 s0 : Int} (H : Q (I s0) h) : X d 117 22 [some (P 0), some (I v1), some (I v2), some (I v3), some (I v4), none, none, none] [I s0] h Q :=
  s_retI c117_22 R117 H
theorem b117_28 {d : Nat} {h : HP} {Q : PV → HP → Prop} {v1 v2 v3 v4 s0 : Int} (H : ((s0 = 0) → (((¬ v4 = 0) → X (d + 1) 117 62 [some (P 0), some (I v1), some (I v2), some (I v3), some (I v4), some (I 0), some (I 0), none] [] h Q) ∧ (¬ (¬ v4 = 0) → X d 132 0 [some (P 0), some (I v1), some (I v2), some (I v3), some (I (w32 ((bShl 1 v3) - 1))), none] [] h (fun r h' => X (d + 1) 117 55 [some (P 0), some (I v1), some (I v2), some (I v3), some (I v4), none, none, none] [r] h' Q)))) ∧ (¬ (s0 = 0) → X d 122 0 [some (P 0), some (I (-2))] [] h (fun r h' => X (d + 1) 117 37 [some (P 0), some (I v1), some (I v2), some (I v3), some (I v4), none, none, none] [r] h' Q))) : X (d + 1) 117 28 [some (P 0), some (I v1), some (I v2), some (I v3), some (I v4), none, none, none] [I s0] h Q :=
  s_if 38 (s0 = 0) c117_28 (by decide) rfl ⟨fun q2 => s_iload c117_38 rfl (s_if 56 (¬ v4 = 0) c117_40 (by decide) rfl ⟨fun q3 => s_iconst c117_56 rfl (s_istore c117_57 rfl (s_iconst c117_59 rfl (s_istore c117_60 rfl (((H.1 q2).1 q3))))), fun q3 => s_aload_n c117_43 rfl (s_iload_n c117_44 rfl (s_iload_n c117_45 rfl (s_iload_n c117_46 rfl (s_iconst c117_47 rfl (s_iload_n c117_48 rfl (s_ishl c117_49 (s_iconst c117_50 rfl (s_isub c117_51 (s_cVi c117_52 m117_297 F132 K132 rfl (Nat.le_of_ble_eq_true rfl) rfl S132_0 rfl ((H.1 q2).2 q3))))))))))⟩), fun q2 => s_aload_n c117_31 rfl (s_bipush c117_32 ⟨by decide, by decide⟩ (s_cVi c117_34 m117_235 F122 K122 rfl (Nat.le_of_ble_eq_true rfl) rfl S122_0 rfl (H.2 q2)))⟩
theorem b117_37 {d : Nat} {h : HP} {Q : PV → HP → Prop} {v1 v2 v3 v4 s0 : Int} (H : Q (I s0) h) : X d 117 37 [some (P 0), some (I v1), some (I v2), some (I v3), some (I v4), none, none, none] [I s0] h Q :=
  s_retI c117_37 R117 H
theorem b117_5 {d : Nat} {h : HP} {Q : PV → HP → Prop} {v1 v2 v3 v4 s0 : Int} (H : ((¬ s0 = 0) → X (d + 1) 117 17 [some (P 0), some (I v1), some (I v2), some (I v3), some (I v4), none, none, none] [] h Q) ∧ (¬ (¬ s0 = 0) → X d 123 0 [some (I v2), some (I 12)] [] h (fun r h' => X (d + 1) 117 14 [some (P 0), some (I v1), some (I v2), some (I v3), some (I v4), none, none, none] [r] h' Q))) : X (d + 1) 117 5 [some (P 0), some (I v1), some (I v2), some (I v3), some (I v4), none, none, none] [I s0] h Q :=
  s_if 17 (¬ s0 = 0) c117_5 (by decide) rfl ⟨fun q4 => (H.1 q4), fun q4 => s_iload_n c117_8 rfl (s_bipush c117_9 ⟨by decide, by decide⟩ (s_cSi c117_11 m117_67 F123 K123 rfl (Nat.le_of_ble_eq_true rfl) rfl rfl (H.2 q4)))⟩
theorem b117_55 {d : Nat} {h : HP} {Q : PV → HP → Prop} {v1 v2 v3 v4 s0 : Int} (H : Q (I s0) h) : X d 117 55 [some (P 0), some (I v1), some (I v2), some (I v3), some (I v4), none, none, none] [I s0] h Q :=
  s_retI c117_55 R117 H
theorem b117_62 {d : Nat} {h : HP} {Q : PV → HP → Prop} {v1 v2 v3 v4 v5 v6 : Int} (H : ((8 ≤ v6) → Q (I v5) h) ∧ (¬ (8 ≤ v6) → ((((bAnd (bShr v6 v3) 1) = 0) → X d 222 0 [some (I v6)] [] h (fun r h' => X (d + 1) 117 86 [some (P 0), some (I v1), some (I v2), some (I v3), some (I v4), some (I v5), some (I v6), none] [r] h' Q)) ∧ (¬ ((bAnd (bShr v6 v3) 1) = 0) → X (d + 1) 117 114 [some (P 0), some (I v1), some (I v2), some (I v3), some (I v4), some (I v5), some (I v6), none] [] h Q)))) : X (d + 1) 117 62 [some (P 0), some (I v1), some (I v2), some (I v3), some (I v4), some (I v5), some (I v6), none] [] h Q :=
  s_iload c117_62 rfl (s_bipush c117_64 ⟨by decide, by decide⟩ (s_ifc 120 (8 ≤ v6) c117_66 (by decide) rfl ⟨fun q5 => s_iload c117_120 rfl (s_retI c117_122 R117 (H.1 q5)), fun q5 => s_iload c117_69 rfl (s_iload_n c117_71 rfl (s_ishr c117_72 (s_iconst c117_73 rfl (s_iand c117_74 (s_if 81 ((bAnd (bShr v6 v3) 1) = 0) c117_75 (by decide) rfl ⟨fun q6 => s_iload c117_81 rfl (s_cSi c117_83 m117_264 F222 K222 rfl (Nat.le_of_ble_eq_true rfl) rfl rfl ((H.2 q5).1 q6)), fun q6 => s_goto 114 c117_78 (by decide) (((H.2 q5).2 q6))⟩)))))⟩))
theorem b117_86 {d : Nat} {h : HP} {Q : PV → HP → Prop} {v1 v2 v3 v4 v5 v6 s0 : Int} (H : ((¬ s0 = 1) → X d 117 95 [some (P 0), some (I v1), some (I v2), some (I v3), some (I v4), some (I v5), some (I v6), none] [I 2] h Q) ∧ (¬ (¬ s0 = 1) → X d 117 95 [some (P 0), some (I v1), some (I v2), some (I v3), some (I v4), some (I v5), some (I v6), none] [I 1] h Q)) : X d 117 86 [some (P 0), some (I v1), some (I v2), some (I v3), some (I v4), some (I v5), some (I v6), none] [I s0] h Q :=
  s_iconst c117_86 rfl (s_ifc 94 (¬ s0 = 1) c117_87 (by decide) rfl ⟨fun q7 => s_iconst c117_94 rfl ((H.1 q7)), fun q7 => s_iconst c117_90 rfl (s_goto 95 c117_91 (by decide) ((H.2 q7)))⟩)
theorem b117_95 {d : Nat} {h : HP} {Q : PV → HP → Prop} {v1 v2 v3 v4 v5 v6 s0 : Int} (H : X d 132 0 [some (P 0), some (I v1), some (I v2), some (I v3), some (I v6), none] [] h (fun r h' => X (d + 1) 117 110 [some (P 0), some (I v1), some (I v2), some (I v3), some (I v4), some (I v5), some (I v6), some (I s0)] [r, I s0, I v5] h' Q)) : X (d + 1) 117 95 [some (P 0), some (I v1), some (I v2), some (I v3), some (I v4), some (I v5), some (I v6), none] [I s0] h Q :=
  s_istore c117_95 rfl (s_iload c117_97 rfl (s_iload c117_99 rfl (s_aload_n c117_101 rfl (s_iload_n c117_102 rfl (s_iload_n c117_103 rfl (s_iload_n c117_104 rfl (s_iload c117_105 rfl (s_cVi c117_107 m117_297 F132 K132 rfl (Nat.le_of_ble_eq_true rfl) rfl S132_0 rfl H))))))))
-- WarmSide.undo()I
theorem c118_0 : cdA 118 0 = some (.aload_n 0) := by decide +kernel
theorem c118_1 : cdA 118 1 = some (.getfield 44) := by decide +kernel
theorem f118_44 : fldR (moN 118) 44 = some (11, 4) := by decide +kernel
theorem c118_4 : cdA 118 4 = some (.invokevirtual 301) := by decide +kernel
theorem m118_301 : mthR (moN 118) 301 = 6 := by decide +kernel
theorem F3 : mF 3 0 1 true := by unfold mF; decide +kernel
theorem K3 : ¬ mK 3 = 4 := by decide +kernel
theorem S3_57 : SH0[57]? = some (.inl (moN 3)) := by decide +kernel
theorem c118_20 : cdA 118 20 = some (.ireturn) := by decide +kernel
theorem R118 : mK 118 = 0 := by decide +kernel
theorem c118_7 : cdA 118 7 = some (.ifCond .eq 7) := by decide +kernel
theorem c118_14 : cdA 118 14 = some (.aload_n 0) := by decide +kernel
theorem c118_15 : cdA 118 15 = some (.bipush (-3)) := by decide +kernel
theorem c118_17 : cdA 118 17 = some (.invokevirtual 71) := by decide +kernel
theorem m118_71 : mthR (moN 118) 71 = 124 := by decide +kernel
theorem c118_10 : cdA 118 10 = some (.iconst 1) := by decide +kernel
theorem c118_11 : cdA 118 11 = some (.goto 9) := by decide +kernel
theorem b118_0 {d : Nat} {h : HP} {Q : PV → HP → Prop} (H : X d 3 0 [some (P 57)] [] h (fun r h' => X (d + 1) 118 7 [some (P 0)] [r] h' Q)) : X (d + 1) 118 0 [some (P 0)] [] h Q :=
  s_aload_n c118_0 rfl (s_getP 57 c118_1 f118_44 t11_4 sh_0 g_0_4 (by decide) (by decide) (s_cVi c118_4 m118_301 F3 K3 rfl (Nat.le_of_ble_eq_true rfl) rfl S3_57 rfl H))
theorem b118_20 {d : Nat} {h : HP} {Q : PV → HP → Prop} {s0 : Int} (H : Q (I s0) h) : X d 118 20 [some (P 0)] [I s0] h Q :=
  s_retI c118_20 R118 H
theorem b118_7 {d : Nat} {h : HP} {Q : PV → HP → Prop} {s0 : Int} (H : ((s0 = 0) → X d 121 0 [some (P 0), some (I (-3))] [] h (fun r h' => X (d + 1) 118 20 [some (P 0)] [r] h' Q)) ∧ (¬ (s0 = 0) → X (d + 1) 118 20 [some (P 0)] [I 1] h Q)) : X (d + 1) 118 7 [some (P 0)] [I s0] h Q :=
  s_if 14 (s0 = 0) c118_7 (by decide) rfl ⟨fun q1 => s_aload_n c118_14 rfl (s_bipush c118_15 ⟨by decide, by decide⟩ (s_cVi c118_17 m118_71 F121 K121 rfl (Nat.le_of_ble_eq_true rfl) rfl S121_0 rfl (H.1 q1))), fun q1 => s_iconst c118_10 rfl (s_goto 20 c118_11 (by decide) ((H.2 q1)))⟩
-- WarmSide.redo()I
theorem c119_0 : cdA 119 0 = some (.aload_n 0) := by decide +kernel
theorem c119_1 : cdA 119 1 = some (.getfield 44) := by decide +kernel
theorem f119_44 : fldR (moN 119) 44 = some (11, 4) := by decide +kernel
theorem c119_4 : cdA 119 4 = some (.invokevirtual 304) := by decide +kernel
theorem m119_304 : mthR (moN 119) 304 = 7 := by decide +kernel
theorem F4 : mF 4 0 1 true := by unfold mF; decide +kernel
theorem K4 : ¬ mK 4 = 4 := by decide +kernel
theorem S4_57 : SH0[57]? = some (.inl (moN 4)) := by decide +kernel
theorem c119_20 : cdA 119 20 = some (.ireturn) := by decide +kernel
theorem R119 : mK 119 = 0 := by decide +kernel
theorem c119_7 : cdA 119 7 = some (.ifCond .eq 7) := by decide +kernel
theorem c119_14 : cdA 119 14 = some (.aload_n 0) := by decide +kernel
theorem c119_15 : cdA 119 15 = some (.bipush (-3)) := by decide +kernel
theorem c119_17 : cdA 119 17 = some (.invokevirtual 71) := by decide +kernel
theorem m119_71 : mthR (moN 119) 71 = 124 := by decide +kernel
theorem c119_10 : cdA 119 10 = some (.iconst 1) := by decide +kernel
theorem c119_11 : cdA 119 11 = some (.goto 9) := by decide +kernel
theorem b119_0 {d : Nat} {h : HP} {Q : PV → HP → Prop} (H : X d 4 0 [some (P 57)] [] h (fun r h' => X (d + 1) 119 7 [some (P 0)] [r] h' Q)) : X (d + 1) 119 0 [some (P 0)] [] h Q :=
  s_aload_n c119_0 rfl (s_getP 57 c119_1 f119_44 t11_4 sh_0 g_0_4 (by decide) (by decide) (s_cVi c119_4 m119_304 F4 K4 rfl (Nat.le_of_ble_eq_true rfl) rfl S4_57 rfl H))
theorem b119_20 {d : Nat} {h : HP} {Q : PV → HP → Prop} {s0 : Int} (H : Q (I s0) h) : X d 119 20 [some (P 0)] [I s0] h Q :=
  s_retI c119_20 R119 H
theorem b119_7 {d : Nat} {h : HP} {Q : PV → HP → Prop} {s0 : Int} (H : ((s0 = 0) → X d 121 0 [some (P 0), some (I (-3))] [] h (fun r h' => X (d + 1) 119 20 [some (P 0)] [r] h' Q)) ∧ (¬ (s0 = 0) → X (d + 1) 119 20 [some (P 0)] [I 1] h Q)) : X (d + 1) 119 7 [some (P 0)] [I s0] h Q :=
  s_if 14 (s0 = 0) c119_7 (by decide) rfl ⟨fun q1 => s_aload_n c119_14 rfl (s_bipush c119_15 ⟨by decide, by decide⟩ (s_cVi c119_17 m119_71 F121 K121 rfl (Nat.le_of_ble_eq_true rfl) rfl S121_0 rfl (H.1 q1))), fun q1 => s_iconst c119_10 rfl (s_goto 20 c119_11 (by decide) ((H.2 q1)))⟩
-- WarmSide.count(I)I
theorem c120_0 : cdA 120 0 = some (.iload_n 1) := by decide +kernel
theorem c120_1 : cdA 120 1 = some (.tableswitch 135 0 8 #[51, 56, 67, 78, 89, 100, 111, 119, 127]) := by decide +kernel
theorem c120_136 : cdA 120 136 = some (.iload_n 1) := by decide +kernel
theorem c120_137 : cdA 120 137 = some (.bipush 11) := by decide +kernel
theorem c120_139 : cdA 120 139 = some (.if_icmp .lt 21) := by decide +kernel
theorem c120_160 : cdA 120 160 = some (.bipush (-9)) := by decide +kernel
theorem c120_162 : cdA 120 162 = some (.ireturn) := by decide +kernel
theorem R120 : mK 120 = 0 := by decide +kernel
theorem c120_142 : cdA 120 142 = some (.iload_n 1) := by decide +kernel
theorem c120_143 : cdA 120 143 = some (.bipush 16) := by decide +kernel
theorem c120_145 : cdA 120 145 = some (.if_icmp .gt 15) := by decide +kernel
theorem c120_148 : cdA 120 148 = some (.aload_n 0) := by decide +kernel
theorem c120_149 : cdA 120 149 = some (.getfield 59) := by decide +kernel
theorem f120_59 : fldR (moN 120) 59 = some (11, 7) := by decide +kernel
theorem c120_152 : cdA 120 152 = some (.iload_n 1) := by decide +kernel
theorem c120_153 : cdA 120 153 = some (.bipush 10) := by decide +kernel
theorem c120_155 : cdA 120 155 = some (.isub) := by decide +kernel
theorem c120_156 : cdA 120 156 = some (.iaload) := by decide +kernel
theorem c120_157 : cdA 120 157 = some (.goto 5) := by decide +kernel
theorem c120_52 : cdA 120 52 = some (.aload_n 0) := by decide +kernel
theorem c120_53 : cdA 120 53 = some (.getfield 63) := by decide +kernel
theorem f120_63 : fldR (moN 120) 63 = some (11, 8) := by decide +kernel
theorem c120_56 : cdA 120 56 = some (.ireturn) := by decide +kernel
theorem c120_57 : cdA 120 57 = some (.aload_n 0) := by decide +kernel
theorem c120_58 : cdA 120 58 = some (.getfield 10) := by decide +kernel
theorem f120_10 : fldR (moN 120) 10 = some (11, 0) := by decide +kernel
theorem c120_61 : cdA 120 61 = some (.getfield 75) := by decide +kernel
theorem f120_75 : fldR (moN 120) 75 = some (1, 0) := by decide +kernel
theorem c120_64 : cdA 120 64 = some (.getfield 79) := by decide +kernel
theorem f120_79 : fldR (moN 120) 79 = some (4, 0) := by decide +kernel
theorem c120_67 : cdA 120 67 = some (.ireturn) := by decide +kernel
theorem c120_68 : cdA 120 68 = some (.aload_n 0) := by decide +kernel
theorem c120_69 : cdA 120 69 = some (.getfield 10) := by decide +kernel
theorem c120_72 : cdA 120 72 = some (.getfield 128) := by decide +kernel
theorem f120_128 : fldR (moN 120) 128 = some (1, 1) := by decide +kernel
theorem c120_75 : cdA 120 75 = some (.getfield 139) := by decide +kernel
theorem f120_139 : fldR (moN 120) 139 = some (2, 1) := by decide +kernel
theorem c120_78 : cdA 120 78 = some (.ireturn) := by decide +kernel
theorem c120_79 : cdA 120 79 = some (.aload_n 0) := by decide +kernel
theorem c120_80 : cdA 120 80 = some (.getfield 10) := by decide +kernel
theorem c120_83 : cdA 120 83 = some (.getfield 136) := by decide +kernel
theorem f120_136 : fldR (moN 120) 136 = some (1, 2) := by decide +kernel
theorem c120_86 : cdA 120 86 = some (.getfield 139) := by decide +kernel
theorem c120_89 : cdA 120 89 = some (.ireturn) := by decide +kernel
theorem c120_90 : cdA 120 90 = some (.aload_n 0) := by decide +kernel
theorem c120_91 : cdA 120 91 = some (.getfield 10) := by decide +kernel
theorem c120_94 : cdA 120 94 = some (.getfield 142) := by decide +kernel
theorem f120_142 : fldR (moN 120) 142 = some (1, 3) := by decide +kernel
theorem c120_97 : cdA 120 97 = some (.getfield 150) := by decide +kernel
theorem f120_150 : fldR (moN 120) 150 = some (3, 2) := by decide +kernel
theorem c120_100 : cdA 120 100 = some (.ireturn) := by decide +kernel
theorem c120_101 : cdA 120 101 = some (.aload_n 0) := by decide +kernel
theorem c120_102 : cdA 120 102 = some (.getfield 10) := by decide +kernel
theorem c120_105 : cdA 120 105 = some (.getfield 153) := by decide +kernel
theorem f120_153 : fldR (moN 120) 153 = some (1, 4) := by decide +kernel
theorem c120_108 : cdA 120 108 = some (.getfield 150) := by decide +kernel
theorem c120_111 : cdA 120 111 = some (.ireturn) := by decide +kernel
theorem c120_112 : cdA 120 112 = some (.aload_n 0) := by decide +kernel
theorem c120_113 : cdA 120 113 = some (.getfield 51) := by decide +kernel
theorem f120_51 : fldR (moN 120) 51 = some (11, 5) := by decide +kernel
theorem c120_116 : cdA 120 116 = some (.getfield 250) := by decide +kernel
theorem f120_250 : fldR (moN 120) 250 = some (10, 0) := by decide +kernel
theorem c120_119 : cdA 120 119 = some (.ireturn) := by decide +kernel
theorem c120_120 : cdA 120 120 = some (.aload_n 0) := by decide +kernel
theorem c120_121 : cdA 120 121 = some (.getfield 21) := by decide +kernel
theorem f120_21 : fldR (moN 120) 21 = some (11, 1) := by decide +kernel
theorem c120_124 : cdA 120 124 = some (.getfield 166) := by decide +kernel
theorem f120_166 : fldR (moN 120) 166 = some (5, 1) := by decide +kernel
theorem c120_127 : cdA 120 127 = some (.ireturn) := by decide +kernel
theorem c120_128 : cdA 120 128 = some (.aload_n 0) := by decide +kernel
theorem c120_129 : cdA 120 129 = some (.getfield 44) := by decide +kernel
theorem f120_44 : fldR (moN 120) 44 = some (11, 4) := by decide +kernel
theorem c120_132 : cdA 120 132 = some (.getfield 307) := by decide +kernel
theorem f120_307 : fldR (moN 120) 307 = some (0, 1) := by decide +kernel
theorem c120_135 : cdA 120 135 = some (.ireturn) := by decide +kernel
theorem b120_0 {d : Nat} {h : HP} {Q : PV → HP → Prop} {v1 : Int} (H : ((v1 < 0 ∨ 8 < v1) → (((v1 < 11) → Q (I (-9)) h) ∧ (¬ (v1 < 11) → (((16 < v1) → Q (I (-9)) h) ∧ (¬ (16 < v1) → ((0 ≤ (w32 (v1 - 10)) ∧ (w32 (v1 - 10)) < 7) ∧ Q (I (h 68 (w32 (v1 - 10)).toNat)) h)))))) ∧ (v1 = 0 → Q (I (h 0 8)) h) ∧ (v1 = 1 → Q (I (h 2 0)) h) ∧ (v1 = 2 → Q (I (h 12 1)) h) ∧ (v1 = 3 → Q (I (h 17 1)) h) ∧ (v1 = 4 → Q (I (h 22 2)) h) ∧ (v1 = 5 → Q (I (h 26 2)) h) ∧ (v1 = 6 → Q (I (h 61 0)) h) ∧ (v1 = 7 → Q (I (h 36 1)) h) ∧ (v1 = 8 → Q (I (h 57 1)) h)) : X d 120 0 [some (P 0), some (I v1)] [] h Q :=
  s_iload_n c120_0 rfl (s_tsw (x := v1) 136 c120_1 (by decide) (fun q1 => s_iload_n c120_136 rfl (s_bipush c120_137 ⟨by decide, by decide⟩ (s_ifc 160 (v1 < 11) c120_139 (by decide) rfl ⟨fun q2 => s_bipush c120_160 ⟨by decide, by decide⟩ (s_retI c120_162 R120 ((H.1 q1).1 q2)), fun q2 => s_iload_n c120_142 rfl (s_bipush c120_143 ⟨by decide, by decide⟩ (s_ifc 160 (16 < v1) c120_145 (by decide) rfl ⟨fun q3 => s_bipush c120_160 ⟨by decide, by decide⟩ (s_retI c120_162 R120 (((H.1 q1).2 q2).1 q3)), fun q3 => s_aload_n c120_148 rfl (s_getP 68 c120_149 f120_59 t11_7 sh_0 g_0_7 (by decide) (by decide) (s_iload_n c120_152 rfl (s_bipush c120_153 ⟨by decide, by decide⟩ (s_isub c120_155 (s_iald c120_156 sh_68 ⟨(((H.1 q1).2 q2).2 q3).1, s_goto 162 c120_157 (by decide) (s_retI c120_162 R120 (((H.1 q1).2 q2).2 q3).2)⟩)))))⟩))⟩))) (fun qn => by
    have qc : v1 = 0 ∨ v1 = 1 ∨ v1 = 2 ∨ v1 = 3 ∨ v1 = 4 ∨ v1 = 5 ∨ v1 = 6 ∨ v1 = 7 ∨ v1 = 8 := by omega
    rcases qc with q1 | q1 | q1 | q1 | q1 | q1 | q1 | q1 | q1
    · exact ⟨51, 52, by rw [q1]; rfl, by decide, s_aload_n c120_52 rfl (s_getI c120_53 f120_63 t11_8 sh_0 (s_retI c120_56 R120 (H.2.1 q1)))⟩
    · exact ⟨56, 57, by rw [q1]; rfl, by decide, s_aload_n c120_57 rfl (s_getP 1 c120_58 f120_10 t11_0 sh_0 g_0_0 (by decide) (by decide) (s_getP 2 c120_61 f120_75 t1_0 sh_1 g_1_0 (by decide) (by decide) (s_getI c120_64 f120_79 t4_0 sh_2 (s_retI c120_67 R120 (H.2.2.1 q1)))))⟩
    · exact ⟨67, 68, by rw [q1]; rfl, by decide, s_aload_n c120_68 rfl (s_getP 1 c120_69 f120_10 t11_0 sh_0 g_0_0 (by decide) (by decide) (s_getP 12 c120_72 f120_128 t1_1 sh_1 g_1_1 (by decide) (by decide) (s_getI c120_75 f120_139 t2_1 sh_12 (s_retI c120_78 R120 (H.2.2.2.1 q1)))))⟩
    · exact ⟨78, 79, by rw [q1]; rfl, by decide, s_aload_n c120_79 rfl (s_getP 1 c120_80 f120_10 t11_0 sh_0 g_0_0 (by decide) (by decide) (s_getP 17 c120_83 f120_136 t1_2 sh_1 g_1_2 (by decide) (by decide) (s_getI c120_86 f120_139 t2_1 sh_17 (s_retI c120_89 R120 (H.2.2.2.2.1 q1)))))⟩
    · exact ⟨89, 90, by rw [q1]; rfl, by decide, s_aload_n c120_90 rfl (s_getP 1 c120_91 f120_10 t11_0 sh_0 g_0_0 (by decide) (by decide) (s_getP 22 c120_94 f120_142 t1_3 sh_1 g_1_3 (by decide) (by decide) (s_getI c120_97 f120_150 t3_2 sh_22 (s_retI c120_100 R120 (H.2.2.2.2.2.1 q1)))))⟩
    · exact ⟨100, 101, by rw [q1]; rfl, by decide, s_aload_n c120_101 rfl (s_getP 1 c120_102 f120_10 t11_0 sh_0 g_0_0 (by decide) (by decide) (s_getP 26 c120_105 f120_153 t1_4 sh_1 g_1_4 (by decide) (by decide) (s_getI c120_108 f120_150 t3_2 sh_26 (s_retI c120_111 R120 (H.2.2.2.2.2.2.1 q1)))))⟩
    · exact ⟨111, 112, by rw [q1]; rfl, by decide, s_aload_n c120_112 rfl (s_getP 61 c120_113 f120_51 t11_5 sh_0 g_0_5 (by decide) (by decide) (s_getI c120_116 f120_250 t10_0 sh_61 (s_retI c120_119 R120 (H.2.2.2.2.2.2.2.1 q1))))⟩
    · exact ⟨119, 120, by rw [q1]; rfl, by decide, s_aload_n c120_120 rfl (s_getP 36 c120_121 f120_21 t11_1 sh_0 g_0_1 (by decide) (by decide) (s_getI c120_124 f120_166 t5_1 sh_36 (s_retI c120_127 R120 (H.2.2.2.2.2.2.2.2.1 q1))))⟩
    · exact ⟨127, 128, by rw [q1]; rfl, by decide, s_aload_n c120_128 rfl (s_getP 57 c120_129 f120_44 t11_4 sh_0 g_0_4 (by decide) (by decide) (s_getI c120_132 f120_307 t0_1 sh_57 (s_retI c120_135 R120 (H.2.2.2.2.2.2.2.2.2 q1))))⟩
    ))
