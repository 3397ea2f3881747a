/-! blocks of WarmSide, by program -/
-- WarmSide.refuse(I)I
theorem c121_0 : cdA 121 0 = some (.aload_n 0) := by decide +kernel
theorem c121_1 : cdA 121 1 = some (.getfield 59) := by decide +kernel
theorem f121_59 : fldR (moN 121) 59 = some (11, 7) := by decide +kernel
theorem t11_7 : fcl 11 7 = 2 := by decide +kernel
theorem c121_4 : cdA 121 4 = some (.iload_n 1) := by decide +kernel
theorem c121_5 : cdA 121 5 = some (.ineg) := by decide +kernel
theorem c121_6 : cdA 121 6 = some (.dup2) := by decide +kernel
theorem c121_7 : cdA 121 7 = some (.iaload) := by decide +kernel
theorem c121_8 : cdA 121 8 = some (.iconst 1) := by decide +kernel
theorem c121_9 : cdA 121 9 = some (.iadd) := by decide +kernel
theorem c121_10 : cdA 121 10 = some (.iastore) := by decide +kernel
theorem c121_11 : cdA 121 11 = some (.iload_n 1) := by decide +kernel
theorem c121_12 : cdA 121 12 = some (.ireturn) := by decide +kernel
theorem R121 : mK 121 = 0 := by decide +kernel
theorem b121_0 {d : Nat} {h : HP} {Q : PV → HP → Prop} {v1 : Int} (H : (0 ≤ (w32 (-v1)) ∧ (w32 (-v1)) < 7) ∧ ((0 ≤ (w32 (-v1)) ∧ (w32 (-v1)) < 7) ∧ Q (I v1) (up2 h 68 (w32 (-v1)).toNat (w32 ((h 68 (w32 (-v1)).toNat) + 1))))) : X d 121 0 [some (P 0), some (I v1)] [] h Q :=
  s_aload_n c121_0 rfl (s_getP 68 c121_1 f121_59 t11_7 sh_0 g_0_7 (by decide) (by decide) (s_iload_n c121_4 rfl (s_ineg c121_5 (s_dup2 c121_6 (s_iald c121_7 sh_68 ⟨H.1, s_iconst c121_8 rfl (s_iadd c121_9 (s_iast c121_10 sh_68 ⟨H.2.1, s_iload_n c121_11 rfl (s_retI c121_12 R121 H.2.2)⟩))⟩)))))
-- WarmSide.outside(II)Z
theorem c123_0 : cdA 123 0 = some (.iload_n 0) := by decide +kernel
theorem c123_1 : cdA 123 1 = some (.ifCond .lt 8) := by decide +kernel
theorem c123_9 : cdA 123 9 = some (.iconst 1) := by decide +kernel
theorem c123_10 : cdA 123 10 = some (.goto 4) := by decide +kernel
theorem c123_14 : cdA 123 14 = some (.ireturn) := by decide +kernel
theorem R123 : mK 123 = 3 := by decide +kernel
theorem c123_4 : cdA 123 4 = some (.iload_n 0) := by decide +kernel
theorem c123_5 : cdA 123 5 = some (.iload_n 1) := by decide +kernel
theorem c123_6 : cdA 123 6 = some (.if_icmp .lt 7) := by decide +kernel
theorem c123_13 : cdA 123 13 = some (.iconst 0) := by decide +kernel
theorem b123_0 {d : Nat} {h : HP} {Q : PV → HP → Prop} {v0 v1 : Int} (H : ((v0 < 0) → Q (I 1) h) ∧ (¬ (v0 < 0) → (((v0 < v1) → Q (I 0) h) ∧ (¬ (v0 < v1) → Q (I 1) h)))) : X d 123 0 [some (I v0), some (I v1)] [] h Q :=
  s_iload_n c123_0 rfl (s_if 9 (v0 < 0) c123_1 (by decide) rfl ⟨fun q1 => s_iconst c123_9 rfl (s_goto 14 c123_10 (by decide) (s_retZ c123_14 R123 ⟨by decide, (H.1 q1)⟩)), fun q1 => s_iload_n c123_4 rfl (s_iload_n c123_5 rfl (s_ifc 13 (v0 < v1) c123_6 (by decide) rfl ⟨fun q2 => s_iconst c123_13 rfl (s_retZ c123_14 R123 ⟨by decide, ((H.2 q1).1 q2)⟩), fun q2 => s_iconst c123_9 rfl (s_goto 14 c123_10 (by decide) (s_retZ c123_14 R123 ⟨by decide, ((H.2 q1).2 q2)⟩))⟩))⟩)
-- WarmSide.plate(III)I
theorem c80_0 : cdA 80 0 = some (.iload_n 3) := by decide +kernel
theorem c80_1 : cdA 80 1 = some (.iconst 4) := by decide +kernel
theorem c80_2 : cdA 80 2 = some (.invokestatic 67) := by decide +kernel
theorem m80_67 : mthR (moN 80) 67 = 126 := by decide +kernel
theorem c80_13 : cdA 80 13 = some (.ireturn) := by decide +kernel
theorem R80 : mK 80 = 0 := by decide +kernel
theorem c80_24 : cdA 80 24 = some (.aload_n 0) := by decide +kernel
theorem c80_25 : cdA 80 25 = some (.bipush (-4)) := by decide +kernel
theorem c80_27 : cdA 80 27 = some (.invokevirtual 71) := by decide +kernel
theorem m80_71 : mthR (moN 80) 71 = 124 := by decide +kernel
theorem F121 : mF 121 1 2 true := by unfold mF; decide +kernel
theorem K121 : ¬ mK 121 = 4 := by decide +kernel
theorem S121_0 : SH0[0]? = some (.inl (moN 121)) := by decide +kernel
theorem c80_30 : cdA 80 30 = some (.ireturn) := by decide +kernel
theorem c80_5 : cdA 80 5 = some (.ifCond .eq 9) := by decide +kernel
theorem c80_14 : cdA 80 14 = some (.iload_n 1) := by decide +kernel
theorem c80_15 : cdA 80 15 = some (.iconst 1) := by decide +kernel
theorem c80_16 : cdA 80 16 = some (.if_icmp .lt 8) := by decide +kernel
theorem c80_19 : cdA 80 19 = some (.iload_n 2) := by decide +kernel
theorem c80_20 : cdA 80 20 = some (.iconst 1) := by decide +kernel
theorem c80_21 : cdA 80 21 = some (.if_icmp .ge 10) := by decide +kernel
theorem c80_31 : cdA 80 31 = some (.iload_n 1) := by decide +kernel
theorem c80_32 : cdA 80 32 = some (.bipush 99) := by decide +kernel
theorem c80_34 : cdA 80 34 = some (.if_icmp .gt 24) := by decide +kernel
theorem c80_37 : cdA 80 37 = some (.iload_n 2) := by decide +kernel
theorem c80_38 : cdA 80 38 = some (.bipush 20) := by decide +kernel
theorem c80_40 : cdA 80 40 = some (.if_icmp .gt 18) := by decide +kernel
theorem c80_43 : cdA 80 43 = some (.aload_n 0) := by decide +kernel
theorem c80_44 : cdA 80 44 = some (.getfield 10) := by decide +kernel
theorem f80_10 : fldR (moN 80) 10 = some (11, 0) := by decide +kernel
theorem t11_0 : fcl 11 0 = 2 := by decide +kernel
theorem c80_47 : cdA 80 47 = some (.getfield 75) := by decide +kernel
theorem f80_75 : fldR (moN 80) 75 = some (1, 0) := by decide +kernel
theorem c80_50 : cdA 80 50 = some (.getfield 79) := by decide +kernel
theorem f80_79 : fldR (moN 80) 79 = some (4, 0) := by decide +kernel
theorem c80_53 : cdA 80 53 = some (.bipush 8) := by decide +kernel
theorem c80_55 : cdA 80 55 = some (.if_icmp .lt 10) := by decide +kernel
theorem c80_65 : cdA 80 65 = some (.aload_n 0) := by decide +kernel
theorem c80_66 : cdA 80 66 = some (.getfield 10) := by decide +kernel
theorem c80_69 : cdA 80 69 = some (.getfield 75) := by decide +kernel
theorem c80_72 : cdA 80 72 = some (.iload_n 1) := by decide +kernel
theorem c80_73 : cdA 80 73 = some (.iload_n 2) := by decide +kernel
theorem c80_74 : cdA 80 74 = some (.iload_n 3) := by decide +kernel
theorem c80_75 : cdA 80 75 = some (.invokevirtual 84) := by decide +kernel
theorem m80_84 : mthR (moN 80) 84 = 23 := by decide +kernel
theorem F20 : mF 20 3 5 true := by unfold mF; decide +kernel
theorem K20 : ¬ mK 20 = 4 := by decide +kernel
theorem S20_2 : SH0[2]? = some (.inl (moN 20)) := by decide +kernel
theorem c80_8 : cdA 80 8 = some (.aload_n 0) := by decide +kernel
theorem c80_9 : cdA 80 9 = some (.iconst (-1)) := by decide +kernel
theorem c80_10 : cdA 80 10 = some (.invokevirtual 71) := by decide +kernel
theorem c80_58 : cdA 80 58 = some (.aload_n 0) := by decide +kernel
theorem c80_59 : cdA 80 59 = some (.bipush (-6)) := by decide +kernel
theorem c80_61 : cdA 80 61 = some (.invokevirtual 71) := by decide +kernel
theorem c80_64 : cdA 80 64 = some (.ireturn) := by decide +kernel
theorem c80_78 : cdA 80 78 = some (.ireturn) := by decide +kernel
theorem b80_0 {d : Nat} {h : HP} {Q : PV → HP → Prop} {v1 v2 v3 : Int} (H : X d 123 0 [some (I v3), some (I 4)] [] h (fun r h' => X (d + 1) 80 5 [some (P 0), some (I v1), some (I v2), some (I v3)] [r] h' Q)) : X (d + 1) 80 0 [some (P 0), some (I v1), some (I v2), some (I v3)] [] h Q :=
  s_iload_n c80_0 rfl (s_iconst c80_1 rfl (s_cSi c80_2 m80_67 F123 K123 rfl (Nat.le_of_ble_eq_true rfl) rfl rfl H))
theorem b80_13 {d : Nat} {h : HP} {Q : PV → HP → Prop} {v1 v2 v3 s0 : Int} (H : Q (I s0) h) : X d 80 13 [some (P 0), some (I v1), some (I v2), some (I v3)] [I s0] h Q :=
  s_retI c80_13 R80 H
theorem b80_24 {d : Nat} {h : HP} {Q : PV → HP → Prop} {v1 v2 v3 : Int} (H : X d 121 0 [some (P 0), some (I (-4))] [] h (fun r h' => X (d + 1) 80 30 [some (P 0), some (I v1), some (I v2), some (I v3)] [r] h' Q)) : X (d + 1) 80 24 [some (P 0), some (I v1), some (I v2), some (I v3)] [] h Q :=
  s_aload_n c80_24 rfl (s_bipush c80_25 ⟨by decide, by decide⟩ (s_cVi c80_27 m80_71 F121 K121 rfl (Nat.le_of_ble_eq_true rfl) rfl S121_0 rfl H))
theorem b80_30 {d : Nat} {h : HP} {Q : PV → HP → Prop} {v1 v2 v3 s0 : Int} (H : Q (I s0) h) : X d 80 30 [some (P 0), some (I v1), some (I v2), some (I v3)] [I s0] h Q :=
  s_retI c80_30 R80 H
theorem b80_5 {d : Nat} {h : HP} {Q : PV → HP → Prop} {v1 v2 v3 s0 : Int} (H : ((s0 = 0) → (((v1 < 1) → X (d + 1) 80 24 [some (P 0), some (I v1), some (I v2), some (I v3)] [] h Q) ∧ (¬ (v1 < 1) → (((1 ≤ v2) → (((99 < v1) → X (d + 1) 80 58 [some (P 0), some (I v1), some (I v2), some (I v3)] [] h Q) ∧ (¬ (99 < v1) → (((20 < v2) → X (d + 1) 80 58 [some (P 0), some (I v1), some (I v2), some (I v3)] [] h Q) ∧ (¬ (20 < v2) → ((((h 2 0) < 8) → X d 20 0 [some (P 2), some (I v1), some (I v2), some (I v3), none] [] h (fun r h' => X (d + 1) 80 78 [some (P 0), some (I v1), some (I v2), some (I v3)] [r] h' Q)) ∧ (¬ ((h 2 0) < 8) → X (d + 1) 80 58 [some (P 0), some (I v1), some (I v2), some (I v3)] [] h Q))))))) ∧ (¬ (1 ≤ v2) → X (d + 1) 80 24 [some (P 0), some (I v1), some (I v2), some (I v3)] [] h Q))))) ∧ (¬ (s0 = 0) → X d 121 0 [some (P 0), some (I (-1))] [] h (fun r h' => X (d + 1) 80 13 [some (P 0), some (I v1), some (I v2), some (I v3)] [r] h' Q))) : X (d + 1) 80 5 [some (P 0), some (I v1), some (I v2), some (I v3)] [I s0] h Q :=
  s_if 14 (s0 = 0) c80_5 (by decide) rfl ⟨fun q1 => s_iload_n c80_14 rfl (s_iconst c80_15 rfl (s_ifc 24 (v1 < 1) c80_16 (by decide) rfl ⟨fun q2 => ((H.1 q1).1 q2), fun q2 => s_iload_n c80_19 rfl (s_iconst c80_20 rfl (s_ifc 31 (1 ≤ v2) c80_21 (by decide) rfl ⟨fun q3 => s_iload_n c80_31 rfl (s_bipush c80_32 ⟨by decide, by decide⟩ (s_ifc 58 (99 < v1) c80_34 (by decide) rfl ⟨fun q4 => ((((H.1 q1).2 q2).1 q3).1 q4), fun q4 => s_iload_n c80_37 rfl (s_bipush c80_38 ⟨by decide, by decide⟩ (s_ifc 58 (20 < v2) c80_40 (by decide) rfl ⟨fun q5 => (((((H.1 q1).2 q2).1 q3).2 q4).1 q5), fun q5 => s_aload_n c80_43 rfl (s_getP 1 c80_44 f80_10 t11_0 sh_0 g_0_0 (by decide) (by decide) (s_getP 2 c80_47 f80_75 t1_0 sh_1 g_1_0 (by decide) (by decide) (s_getI c80_50 f80_79 t4_0 sh_2 (s_bipush c80_53 ⟨by decide, by decide⟩ (s_ifc 65 ((h 2 0) < 8) c80_55 (by decide) rfl ⟨fun q6 => s_aload_n c80_65 rfl (s_getP 1 c80_66 f80_10 t11_0 sh_0 g_0_0 (by decide) (by decide) (s_getP 2 c80_69 f80_75 t1_0 sh_1 g_1_0 (by decide) (by decide) (s_iload_n c80_72 rfl (s_iload_n c80_73 rfl (s_iload_n c80_74 rfl (s_cVi c80_75 m80_84 F20 K20 rfl (Nat.le_of_ble_eq_true rfl) rfl S20_2 rfl ((((((H.1 q1).2 q2).1 q3).2 q4).2 q5).1 q6))))))), fun q6 => ((((((H.1 q1).2 q2).1 q3).2 q4).2 q5).2 q6)⟩)))))⟩))⟩)), fun q3 => (((H.1 q1).2 q2).2 q3)⟩))⟩)), fun q1 => s_aload_n c80_8 rfl (s_iconst c80_9 rfl (s_cVi c80_10 m80_71 F121 K121 rfl (Nat.le_of_ble_eq_true rfl) rfl S121_0 rfl (H.2 q1)))⟩
theorem b80_58 {d : Nat} {h : HP} {Q : PV → HP → Prop} {v1 v2 v3 : Int} (H : X d 121 0 [some (P 0), some (I (-6))] [] h (fun r h' => X (d + 1) 80 64 [some (P 0), some (I v1), some (I v2), some (I v3)] [r] h' Q)) : X (d + 1) 80 58 [some (P 0), some (I v1), some (I v2), some (I v3)] [] h Q :=
  s_aload_n c80_58 rfl (s_bipush c80_59 ⟨by decide, by decide⟩ (s_cVi c80_61 m80_71 F121 K121 rfl (Nat.le_of_ble_eq_true rfl) rfl S121_0 rfl H))
theorem b80_64 {d : Nat} {h : HP} {Q : PV → HP → Prop} {v1 v2 v3 s0 : Int} (H : Q (I s0) h) : X d 80 64 [some (P 0), some (I v1), some (I v2), some (I v3)] [I s0] h Q :=
  s_retI c80_64 R80 H
theorem b80_78 {d : Nat} {h : HP} {Q : PV → HP → Prop} {v1 v2 v3 s0 : Int} (H : Q (I s0) h) : X d 80 78 [some (P 0), some (I v1), some (I v2), some (I v3)] [I s0] h Q :=
  s_retI c80_78 R80 H
-- WarmSide.noPlate(I)Z
theorem c124_0 : cdA 124 0 = some (.iload_n 1) := by decide +kernel
theorem c124_1 : cdA 124 1 = some (.aload_n 0) := by decide +kernel
theorem c124_2 : cdA 124 2 = some (.getfield 10) := by decide +kernel
theorem f124_10 : fldR (moN 124) 10 = some (11, 0) := by decide +kernel
theorem c124_5 : cdA 124 5 = some (.getfield 75) := by decide +kernel
theorem f124_75 : fldR (moN 124) 75 = some (1, 0) := by decide +kernel
theorem c124_8 : cdA 124 8 = some (.getfield 79) := by decide +kernel
theorem f124_79 : fldR (moN 124) 79 = some (4, 0) := by decide +kernel
theorem c124_11 : cdA 124 11 = some (.invokestatic 67) := by decide +kernel
theorem m124_67 : mthR (moN 124) 67 = 126 := by decide +kernel
theorem c124_14 : cdA 124 14 = some (.ireturn) := by decide +kernel
theorem R124 : mK 124 = 3 := by decide +kernel
theorem b124_0 {d : Nat} {h : HP} {Q : PV → HP → Prop} {v1 : Int} (H : X d 123 0 [some (I v1), some (I (h 2 0))] [] h (fun r h' => X (d + 1) 124 14 [some (P 0), some (I v1)] [r] h' Q)) : X (d + 1) 124 0 [some (P 0), some (I v1)] [] h Q :=
  s_iload_n c124_0 rfl (s_aload_n c124_1 rfl (s_getP 1 c124_2 f124_10 t11_0 sh_0 g_0_0 (by decide) (by decide) (s_getP 2 c124_5 f124_75 t1_0 sh_1 g_1_0 (by decide) (by decide) (s_getI c124_8 f124_79 t4_0 sh_2 (s_cSi c124_11 m124_67 F123 K123 rfl (Nat.le_of_ble_eq_true rfl) rfl rfl H)))))
theorem b124_14 {d : Nat} {h : HP} {Q : PV → HP → Prop} {v1 s0 : Int} (H : (s0 = 0 ∨ s0 = 1) ∧ Q (I s0) h) : X d 124 14 [some (P 0), some (I v1)] [I s0] h Q :=
  s_retZ c124_14 R124 H
-- WarmSide.swap([III)I
theorem c126_0 : cdA 126 0 = some (.aload_n 0) := by decide +kernel
theorem c126_1 : cdA 126 1 = some (.iload_n 1) := by decide +kernel
theorem c126_2 : cdA 126 2 = some (.iaload) := by decide +kernel
theorem c126_3 : cdA 126 3 = some (.istore_n 3) := by decide +kernel
theorem c126_4 : cdA 126 4 = some (.aload_n 0) := by decide +kernel
theorem c126_5 : cdA 126 5 = some (.iload_n 1) := by decide +kernel
theorem c126_6 : cdA 126 6 = some (.iload_n 2) := by decide +kernel
theorem c126_7 : cdA 126 7 = some (.iastore) := by decide +kernel
theorem c126_8 : cdA 126 8 = some (.iload_n 3) := by decide +kernel
theorem c126_9 : cdA 126 9 = some (.ireturn) := by decide +kernel
theorem R126 : mK 126 = 0 := by decide +kernel
theorem b126a_0 {d : Nat} {h : HP} {Q : PV → HP → Prop} {v1 v2 : Int} (H : (0 ≤ v1 ∧ v1 < 8) ∧ ((0 ≤ v1 ∧ v1 < 8) ∧ Q (I (h 7 v1.toNat)) (up2 h 7 v1.toNat v2))) : X d 126 0 [some (P 7), some (I v1), some (I v2), none] [] h Q :=
  s_aload_n c126_0 rfl (s_iload_n c126_1 rfl (s_iald c126_2 sh_7 ⟨H.1, s_istore_n c126_3 rfl (s_aload_n c126_4 rfl (s_iload_n c126_5 rfl (s_iload_n c126_6 rfl (s_iast c126_7 sh_7 ⟨H.2.1, s_iload_n c126_8 rfl (s_retI c126_9 R126 H.2.2)⟩))))⟩))
-- WarmSide.heat(II)I
theorem c81_0 : cdA 81 0 = some (.aload_n 0) := by decide +kernel
theorem c81_1 : cdA 81 1 = some (.iload_n 1) := by decide +kernel
theorem c81_2 : cdA 81 2 = some (.invokevirtual 88) := by decide +kernel
theorem m81_88 : mthR (moN 81) 88 = 127 := by decide +kernel
theorem F124 : mF 124 1 2 true := by unfold mF; decide +kernel
theorem K124 : ¬ mK 124 = 4 := by decide +kernel
theorem S124_0 : SH0[0]? = some (.inl (moN 124)) := by decide +kernel
theorem c81_13 : cdA 81 13 = some (.ireturn) := by decide +kernel
theorem R81 : mK 81 = 0 := by decide +kernel
theorem c81_24 : cdA 81 24 = some (.ireturn) := by decide +kernel
theorem c81_37 : cdA 81 37 = some (.ireturn) := by decide +kernel
theorem c81_5 : cdA 81 5 = some (.ifCond .eq 9) := by decide +kernel
theorem c81_14 : cdA 81 14 = some (.iload_n 2) := by decide +kernel
theorem c81_15 : cdA 81 15 = some (.ifCond .ge 10) := by decide +kernel
theorem c81_25 : cdA 81 25 = some (.iload_n 2) := by decide +kernel
theorem c81_26 : cdA 81 26 = some (.ldc 92) := by decide +kernel
theorem k81_92 : cstR (moN 81) 92 = some 59999 := by decide +kernel
theorem c81_28 : cdA 81 28 = some (.if_icmp .le 10) := by decide +kernel
theorem c81_38 : cdA 81 38 = some (.aload_n 0) := by decide +kernel
theorem c81_39 : cdA 81 39 = some (.getfield 10) := by decide +kernel
theorem f81_10 : fldR (moN 81) 10 = some (11, 0) := by decide +kernel
theorem c81_42 : cdA 81 42 = some (.getfield 75) := by decide +kernel
theorem f81_75 : fldR (moN 81) 75 = some (1, 0) := by decide +kernel
theorem c81_45 : cdA 81 45 = some (.getfield 93) := by decide +kernel
theorem f81_93 : fldR (moN 81) 93 = some (4, 5) := by decide +kernel
theorem c81_48 : cdA 81 48 = some (.iload_n 1) := by decide +kernel
theorem c81_49 : cdA 81 49 = some (.iload_n 2) := by decide +kernel
theorem c81_50 : cdA 81 50 = some (.invokestatic 96) := by decide +kernel
theorem m81_96 : mthR (moN 81) 96 = 129 := by decide +kernel
theorem F126 : mF 126 3 4 false := by unfold mF; decide +kernel
theorem K126 : ¬ mK 126 = 4 := by decide +kernel
theorem c81_31 : cdA 81 31 = some (.aload_n 0) := by decide +kernel
theorem c81_32 : cdA 81 32 = some (.bipush (-6)) := by decide +kernel
theorem c81_34 : cdA 81 34 = some (.invokevirtual 71) := by decide +kernel
theorem m81_71 : mthR (moN 81) 71 = 124 := by decide +kernel
theorem c81_18 : cdA 81 18 = some (.aload_n 0) := by decide +kernel
theorem c81_19 : cdA 81 19 = some (.bipush (-4)) := by decide +kernel
theorem c81_21 : cdA 81 21 = some (.invokevirtual 71) := by decide +kernel
theorem c81_8 : cdA 81 8 = some (.aload_n 0) := by decide +kernel
theorem c81_9 : cdA 81 9 = some (.iconst (-1)) := by decide +kernel
theorem c81_10 : cdA 81 10 = some (.invokevirtual 71) := by decide +kernel
theorem c81_53 : cdA 81 53 = some (.ireturn) := by decide +kernel
theorem b81_0 {d : Nat} {h : HP} {Q : PV → HP → Prop} {v1 v2 : Int} (H : X d 124 0 [some (P 0), some (I v1)] [] h (fun r h' => X (d + 1) 81 5 [some (P 0), some (I v1), some (I v2)] [r] h' Q)) : X (d + 1) 81 0 [some (P 0), some (I v1), some (I v2)] [] h Q :=
  s_aload_n c81_0 rfl (s_iload_n c81_1 rfl (s_cVi c81_2 m81_88 F124 K124 rfl (Nat.le_of_ble_eq_true rfl) rfl S124_0 rfl H))
theorem b81_13 {d : Nat} {h : HP} {Q : PV → HP → Prop} {v1 v2 s0 : Int} (H : Q (I s0) h) : X d 81 13 [some (P 0), some (I v1), some (I v2)] [I s0] h Q :=
  s_retI c81_13 R81 H
theorem b81_24 {d : Nat} {h : HP} {Q : PV → HP → Prop} {v1 v2 s0 : Int} (H : Q (I s0) h) : X d 81 24 [some (P 0), some (I v1), some (I v2)] [I s0] h Q :=
  s_retI c81_24 R81 H
theorem b81_37 {d : Nat} {h : HP} {Q : PV → HP → Prop} {v1 v2 s0 : Int} (H : Q (I s0) h) : X d 81 37 [some (P 0), some (I v1), some (I v2)] [I s0] h Q :=
  s_retI c81_37 R81 H
theorem b81_5 {d : Nat} {h : HP} {Q : PV → HP → Prop} {v1 v2 s0 : Int} (H : ((s0 = 0) → (((0 ≤ v2) → (((v2 ≤ 59999) → X d 126 0 [some (P 7), some (I v1), some (I v2), none] [] h (fun r h' => X (d + 1) 81 53 [some (P 0), some (I v1), some (I v2)] [r] h' Q)) ∧ (¬ (v2 ≤ 59999) → X d 121 0 [some (P 0), some (I (-6))] [] h (fun r h' => X (d + 1) 81 37 [some (P 0), some (I v1), some (I v2)] [r] h' Q)))) ∧ (¬ (0 ≤ v2) → X d 121 0 [some (P 0), some (I (-4))] [] h (fun r h' => X (d + 1) 81 24 [some (P 0), some (I v1), some (I v2)] [r] h' Q)))) ∧ (¬ (s0 = 0) → X d 121 0 [some (P 0), some (I (-1))] [] h (fun r h' => X (d + 1) 81 13 [some (P 0), some (I v1), some (I v2)] [r] h' Q))) : X (d + 1) 81 5 [some (P 0), some (I v1), some (I v2)] [I s0] h Q :=
  s_if 14 (s0 = 0) c81_5 (by decide) rfl ⟨fun q1 => s_iload_n c81_14 rfl (s_if 25 (0 ≤ v2) c81_15 (by decide) rfl ⟨fun q2 => s_iload_n c81_25 rfl (s_ldc c81_26 k81_92 rfl (s_ifc 38 (v2 ≤ 59999) c81_28 (by decide) rfl ⟨fun q3 => s_aload_n c81_38 rfl (s_getP 1 c81_39 f81_10 t11_0 sh_0 g_0_0 (by decide) (by decide) (s_getP 2 c81_42 f81_75 t1_0 sh_1 g_1_0 (by decide) (by decide) (s_getP 7 c81_45 f81_93 t4_5 sh_2 g_2_5 (by decide) (by decide) (s_iload_n c81_48 rfl (s_iload_n c81_49 rfl (s_cSi c81_50 m81_96 F126 K126 rfl (Nat.le_of_ble_eq_true rfl) rfl rfl (((H.1 q1).1 q2).1 q3))))))), fun q3 => s_aload_n c81_31 rfl (s_bipush c81_32 ⟨by decide, by decide⟩ (s_cVi c81_34 m81_71 F121 K121 rfl (Nat.le_of_ble_eq_true rfl) rfl S121_0 rfl (((H.1 q1).1 q2).2 q3)))⟩)), fun q2 => s_aload_n c81_18 rfl (s_bipush c81_19 ⟨by decide, by decide⟩ (s_cVi c81_21 m81_71 F121 K121 rfl (Nat.le_of_ble_eq_true rfl) rfl S121_0 rfl ((H.1 q1).2 q2)))⟩), fun q1 => s_aload_n c81_8 rfl (s_iconst c81_9 rfl (s_cVi c81_10 m81_71 F121 K121 rfl (Nat.le_of_ble_eq_true rfl) rfl S121_0 rfl (H.2 q1)))⟩
theorem b81_53 {d : Nat} {h : HP} {Q : PV → HP → Prop} {v1 v2 s0 : Int} (H : Q (I s0) h) : X d 81 53 [some (P 0), some (I v1), some (I v2)] [I s0] h Q :=
  s_retI c81_53 R81 H
-- WarmSide.swap([III)I
theorem b126b_0 {d : Nat} {h : HP} {Q : PV → HP → Prop} {v1 v2 : Int} (H : (0 ≤ v1 ∧ v1 < 7) ∧ ((0 ≤ v1 ∧ v1 < 7) ∧ Q (I (h 31 v1.toNat)) (up2 h 31 v1.toNat v2))) : X d 126 0 [some (P 31), some (I v1), some (I v2), none] [] h Q :=
  s_aload_n c126_0 rfl (s_iload_n c126_1 rfl (s_iald c126_2 sh_31 ⟨H.1, s_istore_n c126_3 rfl (s_aload_n c126_4 rfl (s_iload_n c126_5 rfl (s_iload_n c126_6 rfl (s_iast c126_7 sh_31 ⟨H.2.1, s_iload_n c126_8 rfl (s_retI c126_9 R126 H.2.2)⟩))))⟩))
-- WarmSide.point(II)I
theorem c82_0 : cdA 82 0 = some (.iload_n 1) := by decide +kernel
theorem c82_1 : cdA 82 1 = some (.bipush 7) := by decide +kernel
theorem c82_3 : cdA 82 3 = some (.invokestatic 67) := by decide +kernel
theorem m82_67 : mthR (moN 82) 67 = 126 := by decide +kernel
theorem c82_14 : cdA 82 14 = some (.ireturn) := by decide +kernel
theorem R82 : mK 82 = 0 := by decide +kernel
theorem c82_25 : cdA 82 25 = some (.ireturn) := by decide +kernel
theorem c82_39 : cdA 82 39 = some (.ireturn) := by decide +kernel
theorem c82_52 : cdA 82 52 = some (.ifCond .ne 10) := by decide +kernel
theorem c82_62 : cdA 82 62 = some (.aload_n 0) := by decide +kernel
theorem c82_63 : cdA 82 63 = some (.getfield 10) := by decide +kernel
theorem f82_10 : fldR (moN 82) 10 = some (11, 0) := by decide +kernel
theorem c82_66 : cdA 82 66 = some (.getfield 100) := by decide +kernel
theorem f82_100 : fldR (moN 82) 100 = some (1, 5) := by decide +kernel
theorem c82_69 : cdA 82 69 = some (.getfield 109) := by decide +kernel
theorem f82_109 : fldR (moN 82) 109 = some (8, 0) := by decide +kernel
theorem c82_72 : cdA 82 72 = some (.iload_n 1) := by decide +kernel
theorem c82_73 : cdA 82 73 = some (.iload_n 2) := by decide +kernel
theorem c82_74 : cdA 82 74 = some (.invokestatic 96) := by decide +kernel
theorem m82_96 : mthR (moN 82) 96 = 129 := by decide +kernel
theorem c82_55 : cdA 82 55 = some (.aload_n 0) := by decide +kernel
theorem c82_56 : cdA 82 56 = some (.bipush (-3)) := by decide +kernel
theorem c82_58 : cdA 82 58 = some (.invokevirtual 71) := by decide +kernel
theorem m82_71 : mthR (moN 82) 71 = 124 := by decide +kernel
theorem c82_6 : cdA 82 6 = some (.ifCond .eq 9) := by decide +kernel
theorem c82_15 : cdA 82 15 = some (.iload_n 2) := by decide +kernel
theorem c82_16 : cdA 82 16 = some (.ifCond .ge 10) := by decide +kernel
theorem c82_26 : cdA 82 26 = some (.iload_n 2) := by decide +kernel
theorem c82_27 : cdA 82 27 = some (.sipush 9999) := by decide +kernel
theorem c82_30 : cdA 82 30 = some (.if_icmp .le 10) := by decide +kernel
theorem c82_40 : cdA 82 40 = some (.aload_n 0) := by decide +kernel
theorem c82_41 : cdA 82 41 = some (.getfield 10) := by decide +kernel
theorem c82_44 : cdA 82 44 = some (.getfield 100) := by decide +kernel
theorem c82_47 : cdA 82 47 = some (.iload_n 1) := by decide +kernel
theorem c82_48 : cdA 82 48 = some (.iload_n 2) := by decide +kernel
theorem c82_49 : cdA 82 49 = some (.invokevirtual 104) := by decide +kernel
theorem m82_104 : mthR (moN 82) 104 = 71 := by decide +kernel
theorem F68 : mF 68 2 3 true := by unfold mF; decide +kernel
theorem K68 : ¬ mK 68 = 4 := by decide +kernel
theorem S68_30 : SH0[30]? = some (.inl (moN 68)) := by decide +kernel
theorem c82_33 : cdA 82 33 = some (.aload_n 0) := by decide +kernel
theorem c82_34 : cdA 82 34 = some (.bipush (-6)) := by decide +kernel
theorem c82_36 : cdA 82 36 = some (.invokevirtual 71) := by decide +kernel
theorem c82_19 : cdA 82 19 = some (.aload_n 0) := by decide +kernel
theorem c82_20 : cdA 82 20 = some (.bipush (-4)) := by decide +kernel
theorem c82_22 : cdA 82 22 = some (.invokevirtual 71) := by decide +kernel
theorem c82_9 : cdA 82 9 = some (.aload_n 0) := by decide +kernel
theorem c82_10 : cdA 82 10 = some (.iconst (-1)) := by decide +kernel
theorem c82_11 : cdA 82 11 = some (.invokevirtual 71) := by decide +kernel
theorem c82_61 : cdA 82 61 = some (.ireturn) := by decide +kernel
theorem c82_77 : cdA 82 77 = some (.ireturn) := by decide +kernel
theorem b82_0 {d : Nat} {h : HP} {Q : PV → HP → Prop} {v1 v2 : Int} (H : X d 123 0 [some (I v1), some (I 7)] [] h (fun r h' => X (d + 1) 82 6 [some (P 0), some (I v1), some (I v2)] [r] h' Q)) : X (d + 1) 82 0 [some (P 0), some (I v1), some (I v2)] [] h Q :=
  s_iload_n c82_0 rfl (s_bipush c82_1 ⟨by decide, by decide⟩ (s_cSi c82_3 m82_67 F123 K123 rfl (Nat.le_of_ble_eq_true rfl) rfl rfl H))
theorem b82_14 {d : Nat} {h : HP} {Q : PV → HP → Prop} {v1 v2 s0 : Int} (H : Q (I s0) h) : X d 82 14 [some (P 0), some (I v1), some (I v2)] [I s0] h Q :=
  s_retI c82_14 R82 H
theorem b82_25 {d : Nat} {h : HP} {Q : PV → HP → Prop} {v1 v2 s0 : Int} (H : Q (I s0) h) : X d 82 25 [some (P 0), some (I v1), some (I v2)] [I s0] h Q :=
  s_retI c82_25 R82 H
theorem b82_39 {d : Nat} {h : HP} {Q : PV → HP → Prop} {v1 v2 s0 : Int} (H : Q (I s0) h) : X d 82 39 [some (P 0), some (I v1), some (I v2)] [I s0] h Q :=
  s_retI c82_39 R82 H
theorem b82_52 {d : Nat} {h : HP} {Q : PV → HP → Prop} {v1 v2 s0 : Int} (H : ((¬ s0 = 0) → X d 126 0 [some (P 31), some (I v1), some (I v2), none] [] h (fun r h' => X (d + 1) 82 77 [some (P 0), some (I v1), some (I v2)] [r] h' Q)) ∧ (¬ (¬ s0 = 0) → X d 121 0 [some (P 0), some (I (-3))] [] h (fun r h' => X (d + 1) 82 61 [some (P 0), some (I v1), some (I v2)] [r] h' Q))) : X (d + 1) 82 52 [some (P 0), some (I v1), some (I v2)] [I s0] h Q :=
  s_if 62 (¬ s0 = 0) c82_52 (by decide) rfl ⟨fun q1 => s_aload_n c82_62 rfl (s_getP 1 c82_63 f82_10 t11_0 sh_0 g_0_0 (by decide) (by decide) (s_getP 30 c82_66 f82_100 t1_5 sh_1 g_1_5 (by decide) (by decide) (s_getP 31 c82_69 f82_109 t8_0 sh_30 g_30_0 (by decide) (by decide) (s_iload_n c82_72 rfl (s_iload_n c82_73 rfl (s_cSi c82_74 m82_96 F126 K126 rfl (Nat.le_of_ble_eq_true rfl) rfl rfl (H.1 q1))))))), fun q1 => s_aload_n c82_55 rfl (s_bipush c82_56 ⟨by decide, by decide⟩ (s_cVi c82_58 m82_71 F121 K121 rfl (Nat.le_of_ble_eq_true rfl) rfl S121_0 rfl (H.2 q1)))⟩
theorem b82_6 {d : Nat} {h : HP} {Q : PV → HP → Prop} {v1 v2 s0 : Int} (H : ((s0 = 0) → (((0 ≤ v2) → (((v2 ≤ 9999) → X d 68 0 [some (P 30), some (I v1), some (I v2)] [] h (fun r h' => X (d + 1) 82 52 [some (P 0), some (I v1), some (I v2)] [r] h' Q)) ∧ (¬ (v2 ≤ 9999) → X d 121 0 [some (P 0), some (I (-6))] [] h (fun r h' => X (d + 1) 82 39 [some (P 0), some (I v1), some (I v2)] [r] h' Q)))) ∧ (¬ (0 ≤ v2) → X d 121 0 [some (P 0), some (I (-4))] [] h (fun r h' => X (d + 1) 82 25 [some (P 0), some (I v1), some (I v2)] [r] h' Q)))) ∧ (¬ (s0 = 0) → X d 121 0 [some (P 0), some (I (-1))] [] h (fun r h' => X (d + 1) 82 14 [some (P 0), some (I v1), some (I v2)] [r] h' Q))) : X (d + 1) 82 6 [some (P 0), some (I v1), some (I v2)] [I s0] h Q :=
  s_if 15 (s0 = 0) c82_6 (by decide) rfl ⟨fun q2 => s_iload_n c82_15 rfl (s_if 26 (0 ≤ v2) c82_16 (by decide) rfl ⟨fun q3 => s_iload_n c82_26 rfl (s_sipush c82_27 ⟨by decide, by decide⟩ (s_ifc 40 (v2 ≤ 9999) c82_30 (by decide) rfl ⟨fun q4 => s_aload_n c82_40 rfl (s_getP 1 c82_41 f82_10 t11_0 sh_0 g_0_0 (by decide) (by decide) (s_getP 30 c82_44 f82_100 t1_5 sh_1 g_1_5 (by decide) (by decide) (s_iload_n c82_47 rfl (s_iload_n c82_48 rfl (s_cVi c82_49 m82_104 F68 K68 rfl (Nat.le_of_ble_eq_true rfl) rfl S68_30 rfl (((H.1 q2).1 q3).1 q4)))))), fun q4 => s_aload_n c82_33 rfl (s_bipush c82_34 ⟨by decide, by decide⟩ (s_cVi c82_36 m82_71 F121 K121 rfl (Nat.le_of_ble_eq_true rfl) rfl S121_0 rfl (((H.1 q2).1 q3).2 q4)))⟩)), fun q3 => s_aload_n c82_19 rfl (s_bipush c82_20 ⟨by decide, by decide⟩ (s_cVi c82_22 m82_71 F121 K121 rfl (Nat.le_of_ble_eq_true rfl) rfl S121_0 rfl ((H.1 q2).2 q3)))⟩), fun q2 => s_aload_n c82_9 rfl (s_iconst c82_10 rfl (s_cVi c82_11 m82_71 F121 K121 rfl (Nat.le_of_ble_eq_true rfl) rfl S121_0 rfl (H.2 q2)))⟩
theorem b82_61 {d : Nat} {h : HP} {Q : PV → HP → Prop} {v1 v2 s0 : Int} (H : Q (I s0) h) : X d 82 61 [some (P 0), some (I v1), some (I v2)] [I s0] h Q :=
  s_retI c82_61 R82 H
theorem b82_77 {d : Nat} {h : HP} {Q : PV → HP → Prop} {v1 v2 s0 : Int} (H : Q (I s0) h) : X d 82 77 [some (P 0), some (I v1), some (I v2)] [I s0] h Q :=
  s_retI c82_77 R82 H
-- WarmSide.swap([III)I
theorem b126c_0 {d : Nat} {h : HP} {Q : PV → HP → Prop} {v1 v2 : Int} (H : (0 ≤ v1 ∧ v1 < 40) ∧ ((0 ≤ v1 ∧ v1 < 40) ∧ Q (I (h 32 v1.toNat)) (up2 h 32 v1.toNat v2))) : X d 126 0 [some (P 32), some (I v1), some (I v2), none] [] h Q :=
  s_aload_n c126_0 rfl (s_iload_n c126_1 rfl (s_iald c126_2 sh_32 ⟨H.1, s_istore_n c126_3 rfl (s_aload_n c126_4 rfl (s_iload_n c126_5 rfl (s_iload_n c126_6 rfl (s_iast c126_7 sh_32 ⟨H.2.1, s_iload_n c126_8 rfl (s_retI c126_9 R126 H.2.2)⟩))))⟩))
-- WarmSide.swap([III)I
theorem b126d_0 {d : Nat} {h : HP} {Q : PV → HP → Prop} {v1 v2 : Int} (H : (0 ≤ v1 ∧ v1 < 40) ∧ ((0 ≤ v1 ∧ v1 < 40) ∧ Q (I (h 33 v1.toNat)) (up2 h 33 v1.toNat v2))) : X d 126 0 [some (P 33), some (I v1), some (I v2), none] [] h Q :=
  s_aload_n c126_0 rfl (s_iload_n c126_1 rfl (s_iald c126_2 sh_33 ⟨H.1, s_istore_n c126_3 rfl (s_aload_n c126_4 rfl (s_iload_n c126_5 rfl (s_iload_n c126_6 rfl (s_iast c126_7 sh_33 ⟨H.2.1, s_iload_n c126_8 rfl (s_retI c126_9 R126 H.2.2)⟩))))⟩))
-- WarmSide.coat(IIZI)I
theorem c83_0 : cdA 83 0 = some (.iload_n 1) := by decide +kernel
theorem c83_1 : cdA 83 1 = some (.iconst 4) := by decide +kernel
theorem c83_2 : cdA 83 2 = some (.invokestatic 67) := by decide +kernel
theorem m83_67 : mthR (moN 83) 67 = 126 := by decide +kernel
theorem c83_14 : cdA 83 14 = some (.ifCond .eq 9) := by decide +kernel
theorem c83_23 : cdA 83 23 = some (.iload 4) := by decide +kernel
theorem c83_25 : cdA 83 25 = some (.ifCond .ge 10) := by decide +kernel
theorem c83_35 : cdA 83 35 = some (.iload 4) := by decide +kernel
theorem c83_37 : cdA 83 37 = some (.bipush 100) := by decide +kernel
theorem c83_39 : cdA 83 39 = some (.if_icmp .le 10) := by decide +kernel
theorem c83_49 : cdA 83 49 = some (.iload_n 3) := by decide +kernel
theorem c83_50 : cdA 83 50 = some (.ifCond .eq 16) := by decide +kernel
theorem c83_66 : cdA 83 66 = some (.aload_n 0) := by decide +kernel
theorem c83_67 : cdA 83 67 = some (.getfield 10) := by decide +kernel
theorem f83_10 : fldR (moN 83) 10 = some (11, 0) := by decide +kernel
theorem c83_70 : cdA 83 70 = some (.getfield 100) := by decide +kernel
theorem f83_100 : fldR (moN 83) 100 = some (1, 5) := by decide +kernel
theorem c83_73 : cdA 83 73 = some (.getfield 115) := by decide +kernel
theorem f83_115 : fldR (moN 83) 115 = some (8, 1) := by decide +kernel
theorem c83_76 : cdA 83 76 = some (.iload_n 1) := by decide +kernel
theorem c83_77 : cdA 83 77 = some (.bipush 10) := by decide +kernel
theorem c83_79 : cdA 83 79 = some (.imul) := by decide +kernel
theorem c83_80 : cdA 83 80 = some (.iload_n 2) := by decide +kernel
theorem c83_81 : cdA 83 81 = some (.iadd) := by decide +kernel
theorem c83_82 : cdA 83 82 = some (.iload 4) := by decide +kernel
theorem c83_84 : cdA 83 84 = some (.invokestatic 96) := by decide +kernel
theorem m83_96 : mthR (moN 83) 96 = 129 := by decide +kernel
theorem c83_53 : cdA 83 53 = some (.aload_n 0) := by decide +kernel
theorem c83_54 : cdA 83 54 = some (.getfield 10) := by decide +kernel
theorem c83_57 : cdA 83 57 = some (.getfield 100) := by decide +kernel
theorem c83_60 : cdA 83 60 = some (.getfield 112) := by decide +kernel
theorem f83_112 : fldR (moN 83) 112 = some (8, 2) := by decide +kernel
theorem c83_63 : cdA 83 63 = some (.goto 13) := by decide +kernel
theorem c83_42 : cdA 83 42 = some (.aload_n 0) := by decide +kernel
theorem c83_43 : cdA 83 43 = some (.bipush (-6)) := by decide +kernel
theorem c83_45 : cdA 83 45 = some (.invokevirtual 71) := by decide +kernel
theorem m83_71 : mthR (moN 83) 71 = 124 := by decide +kernel
theorem c83_28 : cdA 83 28 = some (.aload_n 0) := by decide +kernel
theorem c83_29 : cdA 83 29 = some (.bipush (-4)) := by decide +kernel
theorem c83_31 : cdA 83 31 = some (.invokevirtual 71) := by decide +kernel
theorem c83_17 : cdA 83 17 = some (.aload_n 0) := by decide +kernel
theorem c83_18 : cdA 83 18 = some (.iconst (-1)) := by decide +kernel
theorem c83_19 : cdA 83 19 = some (.invokevirtual 71) := by decide +kernel
theorem c83_22 : cdA 83 22 = some (.ireturn) := by decide +kernel
theorem R83 : mK 83 = 0 := by decide +kernel
theorem c83_34 : cdA 83 34 = some (.ireturn) := by decide +kernel
theorem c83_48 : cdA 83 48 = some (.ireturn) := by decide +kernel
theorem c83_5 : cdA 83 5 = some (.ifCond .ne 12) := by decide +kernel
theorem c83_8 : cdA 83 8 = some (.iload_n 2) := by decide +kernel
theorem c83_9 : cdA 83 9 = some (.bipush 10) := by decide +kernel
theorem c83_11 : cdA 83 11 = some (.invokestatic 67) := by decide +kernel
theorem c83_87 : cdA 83 87 = some (.ireturn) := by decide +kernel
theorem b83_0 {d : Nat} {h : HP} {Q : PV → HP → Prop} {v1 v2 v3 v4 : Int} (H : X d 123 0 [some (I v1), some (I 4)] [] h (fun r h' => X (d + 1) 83 5 [some (P 0), some (I v1), some (I v2), some (I v3), some (I v4)] [r] h' Q)) : X (d + 1) 83 0 [some (P 0), some (I v1), some (I v2), some (I v3), some (I v4)] [] h Q :=
  s_iload_n c83_0 rfl (s_iconst c83_1 rfl (s_cSi c83_2 m83_67 F123 K123 rfl (Nat.le_of_ble_eq_true rfl) rfl rfl H))
theorem b83_14 {d : Nat} {h : HP} {Q : PV → HP → Prop} {v1 v2 v3 v4 s0 : Int} (H : ((s0 = 0) → (((0 ≤ v4) → (((v4 ≤ 100) → (((v3 = 0) → X d 126 0 [some (P 32), some (I (w32 ((w32 (v1 * 10)) + v2))), some (I v4), none] [] h (fun r h' => X (d + 1) 83 87 [some (P 0), some (I v1), some (I v2), some (I v3), some (I v4)] [r] h' Q)) ∧ (¬ (v3 = 0) → X d 126 0 [some (P 33), some (I (w32 ((w32 (v1 * 10)) + v2))), some (I v4), none] [] h (fun r h' => X (d + 1) 83 87 [some (P 0), some (I v1), some (I v2), some (I v3), some (I v4)] [r] h' Q)))) ∧ (¬ (v4 ≤ 100) → X d 121 0 [some (P 0), some (I (-6))] [] h (fun r h' => X (d + 1) 83 48 [some (P 0), some (I v1), some (I v2), some (I v3), some (I v4)] [r] h' Q)))) ∧ (¬ (0 ≤ v4) → X d 121 0 [some (P 0), some (I (-4))] [] h (fun r h' => X (d + 1) 83 34 [some (P 0), some (I v1), some (I v2), some (I v3), some (I v4)] [r] h' Q)))) ∧ (¬ (s0 = 0) → X (d + 1) 83 17 [some (P 0), some (I v1), some (I v2), some (I v3), some (I v4)] [] h Q)) : X (d + 1) 83 14 [some (P 0), some (I v1), some (I v2), some (I v3), some (I v4)] [I s0] h Q :=
  s_if 23 (s0 = 0) c83_14 (by decide) rfl ⟨fun q1 => s_iload c83_23 rfl (s_if 35 (0 ≤ v4) c83_25 (by decide) rfl ⟨fun q2 => s_iload c83_35 rfl (s_bipush c83_37 ⟨by decide, by decide⟩ (s_ifc 49 (v4 ≤ 100) c83_39 (by decide) rfl ⟨fun q3 => s_iload_n c83_49 rfl (s_if 66 (v3 = 0) c83_50 (by decide) rfl ⟨fun q4 => s_aload_n c83_66 rfl (s_getP 1 c83_67 f83_10 t11_0 sh_0 g_0_0 (by decide) (by decide) (s_getP 30 c83_70 f83_100 t1_5 sh_1 g_1_5 (by decide) (by decide) (s_getP 32 c83_73 f83_115 t8_1 sh_30 g_30_1 (by decide) (by decide) (s_iload_n c83_76 rfl (s_bipush c83_77 ⟨by decide, by decide⟩ (s_imul c83_79 (s_iload_n c83_80 rfl (s_iadd c83_81 (s_iload c83_82 rfl (s_cSi c83_84 m83_96 F126 K126 rfl (Nat.le_of_ble_eq_true rfl) rfl rfl ((((H.1 q1).1 q2).1 q3).1 q4))))))))))), fun q4 => s_aload_n c83_53 rfl (s_getP 1 c83_54 f83_10 t11_0 sh_0 g_0_0 (by decide) (by decide) (s_getP 30 c83_57 f83_100 t1_5 sh_1 g_1_5 (by decide) (by decide) (s_getP 33 c83_60 f83_112 t8_2 sh_30 g_30_2 (by decide) (by decide) (s_goto 76 c83_63 (by decide) (s_iload_n c83_76 rfl (s_bipush c83_77 ⟨by decide, by decide⟩ (s_imul c83_79 (s_iload_n c83_80 rfl (s_iadd c83_81 (s_iload c83_82 rfl (s_cSi c83_84 m83_96 F126 K126 rfl (Nat.le_of_ble_eq_true rfl) rfl rfl ((((H.1 q1).1 q2).1 q3).2 q4))))))))))))⟩), fun q3 => s_aload_n c83_42 rfl (s_bipush c83_43 ⟨by decide, by decide⟩ (s_cVi c83_45 m83_71 F121 K121 rfl (Nat.le_of_ble_eq_true rfl) rfl S121_0 rfl (((H.1 q1).1 q2).2 q3)))⟩)), fun q2 => s_aload_n c83_28 rfl (s_bipush c83_29 ⟨by decide, by decide⟩ (s_cVi c83_31 m83_71 F121 K121 rfl (Nat.le_of_ble_eq_true rfl) rfl S121_0 rfl ((H.1 q1).2 q2)))⟩), fun q1 => (H.2 q1)⟩
theorem b83_17 {d : Nat} {h : HP} {Q : PV → HP → Prop} {v1 v2 v3 v4 : Int} (H : X d 121 0 [some (P 0), some (I (-1))] [] h (fun r h' => X (d + 1) 83 22 [some (P 0), some (I v1), some (I v2), some (I v3), some (I v4)] [r] h' Q)) : X (d + 1) 83 17 [some (P 0), some (I v1), some (I v2), some (I v3), some (I v4)] [] h Q :=
  s_aload_n c83_17 rfl (s_iconst c83_18 rfl (s_cVi c83_19 m83_71 F121 K121 rfl (Nat.le_of_ble_eq_true rfl) rfl S121_0 rfl H))
theorem b83_22 {d : Nat} {h : HP} {Q : PV → HP → Prop} {v1 v2 v3 v4 s0 : Int} (H : Q (I s0) h) : X d 83 22 [some (P 0), some (I v1), some (I v2), some (I v3), some (I v4)] [I s0] h Q :=
  s_retI c83_22 R83 H
theorem b83_34 {d : Nat} {h : HP} {Q : PV → HP → Prop} {v1 v2 v3 v4 s0 : Int} (H : Q (I s0) h) : X d 83 34 [some (P 0), some (I v1), some (I v2), some (I v3), some (I v4)] [I s0] h Q :=
  s_retI c83_34 R83 H
theorem b83_48 {d : Nat} {h : HP} {Q : PV → HP → Prop} {v1 v2 v3 v4 s0 : Int} (H : Q (I s0) h) : X d 83 48 [some (P 0), some (I v1), some (I v2), some (I v3), some (I v4)] [I s0] h Q :=
  s_retI c83_48 R83 H
theorem b83_5 {d : Nat} {h : HP} {Q : PV → HP → Prop} {v1 v2 v3 v4 s0 : Int} (H : ((¬ s0 = 0) → X (d + 1) 83 17 [some (P 0), some (I v1), some (I v2), some (I v3), some (I v4)] [] h Q) ∧ (¬ (¬ s0 = 0) → X d 123 0 [some (I v2), some (I 10)] [] h (fun r h' => X (d + 1) 83 14 [some (P 0), some (I v1), some (I v2), some (I v3), some (I v4)] [r] h' Q))) : X (d + 1) 83 5 [some (P 0), some (I v1), some (I v2), some (I v3), some (I v4)] [I s0] h Q :=
  s_if 17 (¬ s0 = 0) c83_5 (by decide) rfl ⟨fun q5 => (H.1 q5), fun q5 => s_iload_n c83_8 rfl (s_bipush c83_9 ⟨by decide, by decide⟩ (s_cSi c83_11 m83_67 F123 K123 rfl (Nat.le_of_ble_eq_true rfl) rfl rfl (H.2 q5)))⟩
theorem b83_87 {d : Nat} {h : HP} {Q : PV → HP → Prop} {v1 v2 v3 v4 s0 : Int} (H : Q (I s0) h) : X d 83 87 [some (P 0), some (I v1), some (I v2), some (I v3), some (I v4)] [I s0] h Q :=
  s_retI c83_87 R83 H
-- WarmSide.swap([III)I
theorem b126e_0 {d : Nat} {h : HP} {Q : PV → HP → Prop} {v1 v2 : Int} (H : (0 ≤ v1 ∧ v1 < 12) ∧ ((0 ≤ v1 ∧ v1 < 12) ∧ Q (I (h 34 v1.toNat)) (up2 h 34 v1.toNat v2))) : X d 126 0 [some (P 34), some (I v1), some (I v2), none] [] h Q :=
  s_aload_n c126_0 rfl (s_iload_n c126_1 rfl (s_iald c126_2 sh_34 ⟨H.1, s_istore_n c126_3 rfl (s_aload_n c126_4 rfl (s_iload_n c126_5 rfl (s_iload_n c126_6 rfl (s_iast c126_7 sh_34 ⟨H.2.1, s_iload_n c126_8 rfl (s_retI c126_9 R126 H.2.2)⟩))))⟩))
-- WarmSide.sun(II)I
theorem c84_0 : cdA 84 0 = some (.iload_n 1) := by decide +kernel
theorem c84_1 : cdA 84 1 = some (.bipush 12) := by decide +kernel
theorem c84_3 : cdA 84 3 = some (.invokestatic 67) := by decide +kernel
theorem m84_67 : mthR (moN 84) 67 = 126 := by decide +kernel
theorem c84_14 : cdA 84 14 = some (.ireturn) := by decide +kernel
theorem R84 : mK 84 = 0 := by decide +kernel
theorem c84_25 : cdA 84 25 = some (.ireturn) := by decide +kernel
theorem c84_39 : cdA 84 39 = some (.ireturn) := by decide +kernel
theorem c84_55 : cdA 84 55 = some (.ireturn) := by decide +kernel
theorem c84_6 : cdA 84 6 = some (.ifCond .eq 9) := by decide +kernel
theorem c84_15 : cdA 84 15 = some (.iload_n 2) := by decide +kernel
theorem c84_16 : cdA 84 16 = some (.ifCond .ge 10) := by decide +kernel
theorem c84_26 : cdA 84 26 = some (.iload_n 2) := by decide +kernel
theorem c84_27 : cdA 84 27 = some (.sipush 999) := by decide +kernel
theorem c84_30 : cdA 84 30 = some (.if_icmp .le 10) := by decide +kernel
theorem c84_40 : cdA 84 40 = some (.aload_n 0) := by decide +kernel
theorem c84_41 : cdA 84 41 = some (.getfield 10) := by decide +kernel
theorem f84_10 : fldR (moN 84) 10 = some (11, 0) := by decide +kernel
theorem c84_44 : cdA 84 44 = some (.getfield 100) := by decide +kernel
theorem f84_100 : fldR (moN 84) 100 = some (1, 5) := by decide +kernel
theorem c84_47 : cdA 84 47 = some (.getfield 118) := by decide +kernel
theorem f84_118 : fldR (moN 84) 118 = some (8, 3) := by decide +kernel
theorem c84_50 : cdA 84 50 = some (.iload_n 1) := by decide +kernel
theorem c84_51 : cdA 84 51 = some (.iload_n 2) := by decide +kernel
theorem c84_52 : cdA 84 52 = some (.invokestatic 96) := by decide +kernel
theorem m84_96 : mthR (moN 84) 96 = 129 := by decide +kernel
theorem c84_33 : cdA 84 33 = some (.aload_n 0) := by decide +kernel
theorem c84_34 : cdA 84 34 = some (.bipush (-6)) := by decide +kernel
theorem c84_36 : cdA 84 36 = some (.invokevirtual 71) := by decide +kernel
theorem m84_71 : mthR (moN 84) 71 = 124 := by decide +kernel
theorem c84_19 : cdA 84 19 = some (.aload_n 0) := by decide +kernel
theorem c84_20 : cdA 84 20 = some (.bipush (-4)) := by decide +kernel
theorem c84_22 : cdA 84 22 = some (.invokevirtual 71) := by decide +kernel
theorem c84_9 : cdA 84 9 = some (.aload_n 0) := by decide +kernel
theorem c84_10 : cdA 84 10 = some (.iconst (-1)) := by decide +kernel
theorem c84_11 : cdA 84 11 = some (.invokevirtual 71) := by decide +kernel
theorem b84_0 {d : Nat} {h : HP} {Q : PV → HP → Prop} {v1 v2 : Int} (H : X d 123 0 [some (I v1), some (I 12)] [] h (fun r h' => X (d + 1) 84 6 [some (P 0), some (I v1), some (I v2)] [r] h' Q)) : X (d + 1) 84 0 [some (P 0), some (I v1), some (I v2)] [] h Q :=
  s_iload_n c84_0 rfl (s_bipush c84_1 ⟨by decide, by decide⟩ (s_cSi c84_3 m84_67 F123 K123 rfl (Nat.le_of_ble_eq_true rfl) rfl rfl H))
theorem b84_14 {d : Nat} {h : HP} {Q : PV → HP → Prop} {v1 v2 s0 : Int} (H : Q (I s0) h) : X d 84 14 [some (P 0), some (I v1), some (I v2)] [I s0] h Q :=
  s_retI c84_14 R84 H
theorem b84_25 {d : Nat} {h : HP} {Q : PV → HP → Prop} {v1 v2 s0 : Int} (H : Q (I s0) h) : X d 84 25 [some (P 0), some (I v1), some (I v2)] [I s0] h Q :=
  s_retI c84_25 R84 H
theorem b84_39 {d : Nat} {h : HP} {Q : PV → HP → Prop} {v1 v2 s0 : Int} (H : Q (I s0) h) : X d 84 39 [some (P 0), some (I v1), some (I v2)] [I s0] h Q :=
  s_retI c84_39 R84 H
theorem b84_55 {d : Nat} {h : HP} {Q : PV → HP → Prop} {v1 v2 s0 : Int} (H : Q (I s0) h) : X d 84 55 [some (P 0), some (I v1), some (I v2)] [I s0] h Q :=
  s_retI c84_55 R84 H
theorem b84_6 {d : Nat} {h : HP} {Q : PV → HP → Prop} {v1 v2 s0 : Int} (H : ((s0 = 0) → (((0 ≤ v2) → (((v2 ≤ 999) → X d 126 0 [some (P 34), some (I v1), some (I v2), none] [] h (fun r h' => X (d + 1) 84 55 [some (P 0), some (I v1), some (I v2)] [r] h' Q)) ∧ (¬ (v2 ≤ 999) → X d 121 0 [some (P 0), some (I (-6))] [] h (fun r h' => X (d + 1) 84 39 [some (P 0), some (I v1), some (I v2)] [r] h' Q)))) ∧ (¬ (0 ≤ v2) → X d 121 0 [some (P 0), some (I (-4))] [] h (fun r h' => X (d + 1) 84 25 [some (P 0), some (I v1), some (I v2)] [r] h' Q)))) ∧ (¬ (s0 = 0) → X d 121 0 [some (P 0), some (I (-1))] [] h (fun r h' => X (d + 1) 84 14 [some (P 0), some (I v1), some (I v2)] [r] h' Q))) : X (d + 1) 84 6 [some (P 0), some (I v1), some (I v2)] [I s0] h Q :=
  s_if 15 (s0 = 0) c84_6 (by decide) rfl ⟨fun q1 => s_iload_n c84_15 rfl (s_if 26 (0 ≤ v2) c84_16 (by decide) rfl ⟨fun q2 => s_iload_n c84_26 rfl (s_sipush c84_27 ⟨by decide, by decide⟩ (s_ifc 40 (v2 ≤ 999) c84_30 (by decide) rfl ⟨fun q3 => s_aload_n c84_40 rfl (s_getP 1 c84_41 f84_10 t11_0 sh_0 g_0_0 (by decide) (by decide) (s_getP 30 c84_44 f84_100 t1_5 sh_1 g_1_5 (by decide) (by decide) (s_getP 34 c84_47 f84_118 t8_3 sh_30 g_30_3 (by decide) (by decide) (s_iload_n c84_50 rfl (s_iload_n c84_51 rfl (s_cSi c84_52 m84_96 F126 K126 rfl (Nat.le_of_ble_eq_true rfl) rfl rfl (((H.1 q1).1 q2).1 q3))))))), fun q3 => s_aload_n c84_33 rfl (s_bipush c84_34 ⟨by decide, by decide⟩ (s_cVi c84_36 m84_71 F121 K121 rfl (Nat.le_of_ble_eq_true rfl) rfl S121_0 rfl (((H.1 q1).1 q2).2 q3)))⟩)), fun q2 => s_aload_n c84_19 rfl (s_bipush c84_20 ⟨by decide, by decide⟩ (s_cVi c84_22 m84_71 F121 K121 rfl (Nat.le_of_ble_eq_true rfl) rfl S121_0 rfl ((H.1 q1).2 q2)))⟩), fun q1 => s_aload_n c84_9 rfl (s_iconst c84_10 rfl (s_cVi c84_11 m84_71 F121 K121 rfl (Nat.le_of_ble_eq_true rfl) rfl S121_0 rfl (H.2 q1)))⟩
-- WarmSide.face(II)I
theorem c85_0 : cdA 85 0 = some (.aload_n 0) := by decide +kernel
theorem c85_1 : cdA 85 1 = some (.iload_n 1) := by decide +kernel
theorem c85_2 : cdA 85 2 = some (.invokevirtual 88) := by decide +kernel
theorem m85_88 : mthR (moN 85) 88 = 127 := by decide +kernel
theorem c85_13 : cdA 85 13 = some (.ireturn) := by decide +kernel
theorem R85 : mK 85 = 0 := by decide +kernel
theorem c85_19 : cdA 85 19 = some (.ifCond .eq 10) := by decide +kernel
theorem c85_29 : cdA 85 29 = some (.aload_n 0) := by decide +kernel
theorem c85_30 : cdA 85 30 = some (.getfield 10) := by decide +kernel
theorem f85_10 : fldR (moN 85) 10 = some (11, 0) := by decide +kernel
theorem c85_33 : cdA 85 33 = some (.getfield 75) := by decide +kernel
theorem f85_75 : fldR (moN 85) 75 = some (1, 0) := by decide +kernel
theorem c85_36 : cdA 85 36 = some (.getfield 121) := by decide +kernel
theorem f85_121 : fldR (moN 85) 121 = some (4, 4) := by decide +kernel
theorem c85_39 : cdA 85 39 = some (.iload_n 1) := by decide +kernel
theorem c85_40 : cdA 85 40 = some (.iaload) := by decide +kernel
theorem c85_41 : cdA 85 41 = some (.istore_n 3) := by decide +kernel
theorem c85_42 : cdA 85 42 = some (.aload_n 0) := by decide +kernel
theorem c85_43 : cdA 85 43 = some (.getfield 44) := by decide +kernel
theorem f85_44 : fldR (moN 85) 44 = some (11, 4) := by decide +kernel
theorem t11_4 : fcl 11 4 = 2 := by decide +kernel
theorem c85_46 : cdA 85 46 = some (.iconst 4) := by decide +kernel
theorem c85_47 : cdA 85 47 = some (.iload_n 1) := by decide +kernel
theorem c85_48 : cdA 85 48 = some (.iload_n 2) := by decide +kernel
theorem c85_49 : cdA 85 49 = some (.invokevirtual 124) := by decide +kernel
theorem m85_124 : mthR (moN 85) 124 = 5 := by decide +kernel
theorem F2 : mF 2 3 5 true := by unfold mF; decide +kernel
theorem K2 : ¬ mK 2 = 4 := by decide +kernel
theorem S2_57 : SH0[57]? = some (.inl (moN 2)) := by decide +kernel
theorem c85_22 : cdA 85 22 = some (.aload_n 0) := by decide +kernel
theorem c85_23 : cdA 85 23 = some (.bipush (-2)) := by decide +kernel
theorem c85_25 : cdA 85 25 = some (.invokevirtual 71) := by decide +kernel
theorem m85_71 : mthR (moN 85) 71 = 124 := by decide +kernel
theorem c85_28 : cdA 85 28 = some (.ireturn) := by decide +kernel
theorem c85_5 : cdA 85 5 = some (.ifCond .eq 9) := by decide +kernel
theorem c85_14 : cdA 85 14 = some (.iload_n 2) := by decide +kernel
theorem c85_15 : cdA 85 15 = some (.iconst 3) := by decide +kernel
theorem c85_16 : cdA 85 16 = some (.invokestatic 67) := by decide +kernel
theorem m85_67 : mthR (moN 85) 67 = 126 := by decide +kernel
theorem c85_8 : cdA 85 8 = some (.aload_n 0) := by decide +kernel
theorem c85_9 : cdA 85 9 = some (.iconst (-1)) := by decide +kernel
theorem c85_10 : cdA 85 10 = some (.invokevirtual 71) := by decide +kernel
theorem c85_52 : cdA 85 52 = some (.pop) := by decide +kernel
theorem c85_53 : cdA 85 53 = some (.iload_n 3) := by decide +kernel
theorem c85_54 : cdA 85 54 = some (.ireturn) := by decide +kernel
theorem b85_0 {d : Nat} {h : HP} {Q : PV → HP → Prop} {v1 v2 : Int} (H : X d 124 0 [some (P 0), some (I v1)] [] h (fun r h' => X (d + 1) 85 5 [some (P 0), some (I v1), some (I v2), none] [r] h' Q)) : X (d + 1) 85 0 [some (P 0), some (I v1), some (I v2), none] [] h Q :=
  s_aload_n c85_0 rfl (s_iload_n c85_1 rfl (s_cVi c85_2 m85_88 F124 K124 rfl (Nat.le_of_ble_eq_true rfl) rfl S124_0 rfl H))
theorem b85_13 {d : Nat} {h : HP} {Q : PV → HP → Prop} {v1 v2 s0 : Int} (H : Q (I s0) h) : X d 85 13 [some (P 0), some (I v1), some (I v2), none] [I s0] h Q :=
  s_retI c85_13 R85 H
theorem b85_19 {d : Nat} {h : HP} {Q : PV → HP → Prop} {v1 v2 s0 : Int} (H : ((s0 = 0) → ((0 ≤ v1 ∧ v1 < 8) ∧ X d 2 0 [some (P 57), some (I 4), some (I v1), some (I v2), none] [] h (fun r h' => X (d + 1) 85 52 [some (P 0), some (I v1), some (I v2), some (I (h 6 v1.toNat))] [r] h' Q))) ∧ (¬ (s0 = 0) → X d 121 0 [some (P 0), some (I (-2))] [] h (fun r h' => X (d + 1) 85 28 [some (P 0), some (I v1), some (I v2), none] [r] h' Q))) : X (d + 1) 85 19 [some (P 0), some (I v1), some (I v2), none] [I s0] h Q :=
  s_if 29 (s0 = 0) c85_19 (by decide) rfl ⟨fun q1 => s_aload_n c85_29 rfl (s_getP 1 c85_30 f85_10 t11_0 sh_0 g_0_0 (by decide) (by decide) (s_getP 2 c85_33 f85_75 t1_0 sh_1 g_1_0 (by decide) (by decide) (s_getP 6 c85_36 f85_121 t4_4 sh_2 g_2_4 (by decide) (by decide) (s_iload_n c85_39 rfl (s_iald c85_40 sh_6 ⟨(H.1 q1).1, s_istore_n c85_41 rfl (s_aload_n c85_42 rfl (s_getP 57 c85_43 f85_44 t11_4 sh_0 g_0_4 (by decide) (by decide) (s_iconst c85_46 rfl (s_iload_n c85_47 rfl (s_iload_n c85_48 rfl (s_cVi c85_49 m85_124 F2 K2 rfl (Nat.le_of_ble_eq_true rfl) rfl S2_57 rfl (H.1 q1).2))))))⟩))))), fun q1 => s_aload_n c85_22 rfl (s_bipush c85_23 ⟨by decide, by decide⟩ (s_cVi c85_25 m85_71 F121 K121 rfl (Nat.le_of_ble_eq_true rfl) rfl S121_0 rfl (H.2 q1)))⟩
theorem b85_28 {d : Nat} {h : HP} {Q : PV → HP → Prop} {v1 v2 s0 : Int} (H : Q (I s0) h) : X d 85 28 [some (P 0), some (I v1), some (I v2), none] [I s0] h Q :=
  s_retI c85_28 R85 H
theorem b85_5 {d : Nat} {h : HP} {Q : PV → HP → Prop} {v1 v2 s0 : Int} (H : ((s0 = 0) → X d 123 0 [some (I v2), some (I 3)] [] h (fun r h' => X (d + 1) 85 19 [some (P 0), some (I v1), some (I v2), none] [r] h' Q)) ∧ (¬ (s0 = 0) → X d 121 0 [some (P 0), some (I (-1))] [] h (fun r h' => X (d + 1) 85 13 [some (P 0), some (I v1), some (I v2), none] [r] h' Q))) : X (d + 1) 85 5 [some (P 0), some (I v1), some (I v2), none] [I s0] h Q :=
  s_if 14 (s0 = 0) c85_5 (by decide) rfl ⟨fun q2 => s_iload_n c85_14 rfl (s_iconst c85_15 rfl (s_cSi c85_16 m85_67 F123 K123 rfl (Nat.le_of_ble_eq_true rfl) rfl rfl (H.1 q2))), fun q2 => s_aload_n c85_8 rfl (s_iconst c85_9 rfl (s_cVi c85_10 m85_71 F121 K121 rfl (Nat.le_of_ble_eq_true rfl) rfl S121_0 rfl (H.2 q2)))⟩
theorem b85_52 {d : Nat} {h : HP} {Q : PV → HP → Prop} {v1 v2 v3 s0 : Int} (H : Q (I v3) h) : X d 85 52 [some (P 0), some (I v1), some (I v2), some (I v3)] [I s0] h Q :=
  s_pop c85_52 (s_iload_n c85_53 rfl (s_retI c85_54 R85 H))
-- WarmSide.link(LWarmSide$Links;III)I
theorem c127_0 : cdA 127 0 = some (.aload_n 0) := by decide +kernel
theorem c127_1 : cdA 127 1 = some (.iload_n 2) := by decide +kernel
theorem c127_2 : cdA 127 2 = some (.invokevirtual 88) := by decide +kernel
theorem m127_88 : mthR (moN 127) 88 = 127 := by decide +kernel
theorem c127_13 : cdA 127 13 = some (.ifCond .ne 8) := by decide +kernel
theorem c127_16 : cdA 127 16 = some (.iload_n 2) := by decide +kernel
theorem c127_17 : cdA 127 17 = some (.iload_n 3) := by decide +kernel
theorem c127_18 : cdA 127 18 = some (.if_icmp .ne 9) := by decide +kernel
theorem c127_27 : cdA 127 27 = some (.iload 4) := by decide +kernel
theorem c127_29 : cdA 127 29 = some (.iconst 1) := by decide +kernel
theorem c127_30 : cdA 127 30 = some (.if_icmp .ge 10) := by decide +kernel
theorem c127_40 : cdA 127 40 = some (.iload 4) := by decide +kernel
theorem c127_42 : cdA 127 42 = some (.bipush 99) := by decide +kernel
theorem c127_44 : cdA 127 44 = some (.if_icmp .gt 10) := by decide +kernel
theorem c127_47 : cdA 127 47 = some (.aload_n 1) := by decide +kernel
theorem c127_48 : cdA 127 48 = some (.invokevirtual 311) := by decide +kernel
theorem m127_311 : mthR (moN 127) 311 = 16 := by decide +kernel
theorem F13 : mF 13 0 1 true := by unfold mF; decide +kernel
theorem K13 : ¬ mK 13 = 4 := by decide +kernel
theorem S13_12 : SH0[12]? = some (.inl (moN 13)) := by decide +kernel
theorem c127_33 : cdA 127 33 = some (.aload_n 0) := by decide +kernel
theorem c127_34 : cdA 127 34 = some (.bipush (-4)) := by decide +kernel
theorem c127_36 : cdA 127 36 = some (.invokevirtual 71) := by decide +kernel
theorem m127_71 : mthR (moN 127) 71 = 124 := by decide +kernel
theorem c127_21 : cdA 127 21 = some (.aload_n 0) := by decide +kernel
theorem c127_22 : cdA 127 22 = some (.iconst (-1)) := by decide +kernel
theorem c127_23 : cdA 127 23 = some (.invokevirtual 71) := by decide +kernel
theorem c127_26 : cdA 127 26 = some (.ireturn) := by decide +kernel
theorem R127 : mK 127 = 0 := by decide +kernel
theorem c127_39 : cdA 127 39 = some (.ireturn) := by decide +kernel
theorem c127_5 : cdA 127 5 = some (.ifCond .ne 16) := by decide +kernel
theorem c127_8 : cdA 127 8 = some (.aload_n 0) := by decide +kernel
theorem c127_9 : cdA 127 9 = some (.iload_n 3) := by decide +kernel
theorem c127_10 : cdA 127 10 = some (.invokevirtual 88) := by decide +kernel
theorem c127_51 : cdA 127 51 = some (.ifCond .eq 10) := by decide +kernel
theorem c127_61 : cdA 127 61 = some (.aload_n 1) := by decide +kernel
theorem c127_62 : cdA 127 62 = some (.iload_n 2) := by decide +kernel
theorem c127_63 : cdA 127 63 = some (.iload_n 3) := by decide +kernel
theorem c127_64 : cdA 127 64 = some (.iload 4) := by decide +kernel
theorem c127_66 : cdA 127 66 = some (.invokevirtual 314) := by decide +kernel
theorem m127_314 : mthR (moN 127) 314 = 17 := by decide +kernel
theorem F14 : mF 14 3 5 true := by unfold mF; decide +kernel
theorem K14 : ¬ mK 14 = 4 := by decide +kernel
theorem S14_12 : SH0[12]? = some (.inl (moN 14)) := by decide +kernel
theorem c127_54 : cdA 127 54 = some (.aload_n 0) := by decide +kernel
theorem c127_55 : cdA 127 55 = some (.bipush (-6)) := by decide +kernel
theorem c127_57 : cdA 127 57 = some (.invokevirtual 71) := by decide +kernel
theorem c127_60 : cdA 127 60 = some (.ireturn) := by decide +kernel
theorem c127_69 : cdA 127 69 = some (.ireturn) := by decide +kernel
theorem b127a_0 {d : Nat} {h : HP} {Q : PV → HP → Prop} {v2 v3 v4 : Int} (H : X d 124 0 [some (P 0), some (I v2)] [] h (fun r h' => X (d + 1) 127 5 [some (P 0), some (P 12), some (I v2), some (I v3), some (I v4)] [r] h' Q)) : X (d + 1) 127 0 [some (P 0), some (P 12), some (I v2), some (I v3), some (I v4)] [] h Q :=
  s_aload_n c127_0 rfl (s_iload_n c127_1 rfl (s_cVi c127_2 m127_88 F124 K124 rfl (Nat.le_of_ble_eq_true rfl) rfl S124_0 rfl H))
theorem b127a_13 {d : Nat} {h : HP} {Q : PV → HP → Prop} {v2 v3 v4 s0 : Int} (H : ((¬ s0 = 0) → X (d + 1) 127 21 [some (P 0), some (P 12), some (I v2), some (I v3), some (I v4)] [] h Q) ∧ (¬ (¬ s0 = 0) → (((¬ v2 = v3) → (((1 ≤ v4) → (((99 < v4) → X (d + 1) 127 54 [some (P 0), some (P 12), some (I v2), some (I v3), some (I v4)] [] h Q) ∧ (¬ (99 < v4) → X d 13 0 [some (P 12)] [] h (fun r h' => X (d + 1) 127 51 [some (P 0), some (P 12), some (I v2), some (I v3), some (I v4)] [r] h' Q)))) ∧ (¬ (1 ≤ v4) → X d 121 0 [some (P 0), some (I (-4))] [] h (fun r h' => X (d + 1) 127 39 [some (P 0), some (P 12), some (I v2), some (I v3), some (I v4)] [r] h' Q)))) ∧ (¬ (¬ v2 = v3) → X (d + 1) 127 21 [some (P 0), some (P 12), some (I v2), some (I v3), some (I v4)] [] h Q)))) : X (d + 1) 127 13 [some (P 0), some (P 12), some (I v2), some (I v3), some (I v4)] [I s0] h Q :=
  s_if 21 (¬ s0 = 0) c127_13 (by decide) rfl ⟨fun q1 => (H.1 q1), fun q1 => s_iload_n c127_16 rfl (s_iload_n c127_17 rfl (s_ifc 27 (¬ v2 = v3) c127_18 (by decide) rfl ⟨fun q2 => s_iload c127_27 rfl (s_iconst c127_29 rfl (s_ifc 40 (1 ≤ v4) c127_30 (by decide) rfl ⟨fun q3 => s_iload c127_40 rfl (s_bipush c127_42 ⟨by decide, by decide⟩ (s_ifc 54 (99 < v4) c127_44 (by decide) rfl ⟨fun q4 => ((((H.2 q1).1 q2).1 q3).1 q4), fun q4 => s_aload_n c127_47 rfl (s_cVi c127_48 m127_311 F13 K13 rfl (Nat.le_of_ble_eq_true rfl) rfl S13_12 rfl ((((H.2 q1).1 q2).1 q3).2 q4))⟩)), fun q3 => s_aload_n c127_33 rfl (s_bipush c127_34 ⟨by decide, by decide⟩ (s_cVi c127_36 m127_71 F121 K121 rfl (Nat.le_of_ble_eq_true rfl) rfl S121_0 rfl (((H.2 q1).1 q2).2 q3)))⟩)), fun q2 => ((H.2 q1).2 q2)⟩))⟩
theorem b127a_21 {d : Nat} {h : HP} {Q : PV → HP → Prop} {v2 v3 v4 : Int} (H : X d 121 0 [some (P 0), some (I (-1))] [] h (fun r h' => X (d + 1) 127 26 [some (P 0), some (P 12), some (I v2), some (I v3), some (I v4)] [r] h' Q)) : X (d + 1) 127 21 [some (P 0), some (P 12), some (I v2), some (I v3), some (I v4)] [] h Q :=
  s_aload_n c127_21 rfl (s_iconst c127_22 rfl (s_cVi c127_23 m127_71 F121 K121 rfl (Nat.le_of_ble_eq_true rfl) rfl S121_0 rfl H))
theorem b127a_26 {d : Nat} {h : HP} {Q : PV → HP → Prop} {v2 v3 v4 s0 : Int} (H : Q (I s0) h) : X d 127 26 [some (P 0), some (P 12), some (I v2), some (I v3), some (I v4)] [I s0] h Q :=
  s_retI c127_26 R127 H
theorem b127a_39 {d : Nat} {h : HP} {Q : PV → HP → Prop} {v2 v3 v4 s0 : Int} (H : Q (I s0) h) : X d 127 39 [some (P 0), some (P 12), some (I v2), some (I v3), some (I v4)] [I s0] h Q :=
  s_retI c127_39 R127 H
theorem b127a_5 {d : Nat} {h : HP} {Q : PV → HP → Prop} {v2 v3 v4 s0 : Int} (H : ((¬ s0 = 0) → X (d + 1) 127 21 [some (P 0), some (P 12), some (I v2), some (I v3), some (I v4)] [] h Q) ∧ (¬ (¬ s0 = 0) → X d 124 0 [some (P 0), some (I v3)] [] h (fun r h' => X (d + 1) 127 13 [some (P 0), some (P 12), some (I v2), some (I v3), some (I v4)] [r] h' Q))) : X (d + 1) 127 5 [some (P 0), some (P 12), some (I v2), some (I v3), some (I v4)] [I s0] h Q :=
  s_if 21 (¬ s0 = 0) c127_5 (by decide) rfl ⟨fun q5 => (H.1 q5), fun q5 => s_aload_n c127_8 rfl (s_iload_n c127_9 rfl (s_cVi c127_10 m127_88 F124 K124 rfl (Nat.le_of_ble_eq_true rfl) rfl S124_0 rfl (H.2 q5)))⟩
theorem b127a_51 {d : Nat} {h : HP} {Q : PV → HP → Prop} {v2 v3 v4 s0 : Int} (H : ((s0 = 0) → X d 14 0 [some (P 12), some (I v2), some (I v3), some (I v4), none] [] h (fun r h' => X (d + 1) 127 69 [some (P 0), some (P 12), some (I v2), some (I v3), some (I v4)] [r] h' Q)) ∧ (¬ (s0 = 0) → X (d + 1) 127 54 [some (P 0), some (P 12), some (I v2), some (I v3), some (I v4)] [] h Q)) : X (d + 1) 127 51 [some (P 0), some (P 12), some (I v2), some (I v3), some (I v4)] [I s0] h Q :=
  s_if 61 (s0 = 0) c127_51 (by decide) rfl ⟨fun q6 => s_aload_n c127_61 rfl (s_iload_n c127_62 rfl (s_iload_n c127_63 rfl (s_iload c127_64 rfl (s_cVi c127_66 m127_314 F14 K14 rfl (Nat.le_of_ble_eq_true rfl) rfl S14_12 rfl (H.1 q6))))), fun q6 => (H.2 q6)⟩
theorem b127a_54 {d : Nat} {h : HP} {Q : PV → HP → Prop} {v2 v3 v4 : Int} (H : X d 121 0 [some (P 0), some (I (-6))] [] h (fun r h' => X (d + 1) 127 60 [some (P 0), some (P 12), some (I v2), some (I v3), some (I v4)] [r] h' Q)) : X (d + 1) 127 54 [some (P 0), some (P 12), some (I v2), some (I v3), some (I v4)] [] h Q :=
  s_aload_n c127_54 rfl (s_bipush c127_55 ⟨by decide, by decide⟩ (s_cVi c127_57 m127_71 F121 K121 rfl (Nat.le_of_ble_eq_true rfl) rfl S121_0 rfl H))
theorem b127a_60 {d : Nat} {h : HP} {Q : PV → HP → Prop} {v2 v3 v4 s0 : Int} (H : Q (I s0) h) : X d 127 60 [some (P 0), some (P 12), some (I v2), some (I v3), some (I v4)] [I s0] h Q :=
  s_retI c127_60 R127 H
theorem b127a_69 {d : Nat} {h : HP} {Q : PV → HP → Prop} {v2 v3 v4 s0 : Int} (H : Q (I s0) h) : X d 127 69 [some (P 0), some (P 12), some (I v2), some (I v3), some (I v4)] [I s0] h Q :=
  s_retI c127_69 R127 H
-- WarmSide.joint(III)I
theorem c86_0 : cdA 86 0 = some (.aload_n 0) := by decide +kernel
theorem c86_1 : cdA 86 1 = some (.aload_n 0) := by decide +kernel
theorem c86_2 : cdA 86 2 = some (.getfield 10) := by decide +kernel
theorem f86_10 : fldR (moN 86) 10 = some (11, 0) := by decide +kernel
theorem c86_5 : cdA 86 5 = some (.getfield 128) := by decide +kernel
theorem f86_128 : fldR (moN 86) 128 = some (1, 1) := by decide +kernel
theorem c86_8 : cdA 86 8 = some (.iload_n 1) := by decide +kernel
theorem c86_9 : cdA 86 9 = some (.iload_n 2) := by decide +kernel
theorem c86_10 : cdA 86 10 = some (.iload_n 3) := by decide +kernel
theorem c86_11 : cdA 86 11 = some (.invokevirtual 132) := by decide +kernel
theorem m86_132 : mthR (moN 86) 132 = 130 := by decide +kernel
theorem F127 : mF 127 4 5 true := by unfold mF; decide +kernel
theorem K127 : ¬ mK 127 = 4 := by decide +kernel
theorem S127_0 : SH0[0]? = some (.inl (moN 127)) := by decide +kernel
theorem c86_14 : cdA 86 14 = some (.ireturn) := by decide +kernel
theorem R86 : mK 86 = 0 := by decide +kernel
theorem b86_0 {d : Nat} {h : HP} {Q : PV → HP → Prop} {v1 v2 v3 : Int} (H : X d 127 0 [some (P 0), some (P 12), some (I v1), some (I v2), some (I v3)] [] h (fun r h' => X (d + 1) 86 14 [some (P 0), some (I v1), some (I v2), some (I v3)] [r] h' Q)) : X (d + 1) 86 0 [some (P 0), some (I v1), some (I v2), some (I v3)] [] h Q :=
  s_aload_n c86_0 rfl (s_aload_n c86_1 rfl (s_getP 1 c86_2 f86_10 t11_0 sh_0 g_0_0 (by decide) (by decide) (s_getP 12 c86_5 f86_128 t1_1 sh_1 g_1_1 (by decide) (by decide) (s_iload_n c86_8 rfl (s_iload_n c86_9 rfl (s_iload_n c86_10 rfl (s_cVi c86_11 m86_132 F127 K127 rfl (Nat.le_of_ble_eq_true rfl) rfl S127_0 rfl H)))))))
theorem b86_14 {d : Nat} {h : HP} {Q : PV → HP → Prop} {v1 v2 v3 s0 : Int} (H : Q (I s0) h) : X d 86 14 [some (P 0), some (I v1), some (I v2), some (I v3)] [I s0] h Q :=
  s_retI c86_14 R86 H
-- WarmSide.link(LWarmSide$Links;III)I
theorem S13_17 : SH0[17]? = some (.inl (moN 13)) := by decide +kernel
theorem S14_17 : SH0[17]? = some (.inl (moN 14)) := by decide +kernel
theorem b127b_0 {d : Nat} {h : HP} {Q : PV → HP → Prop} {v2 v3 v4 : Int} (H : X d 124 0 [some (P 0), some (I v2)] [] h (fun r h' => X (d + 1) 127 5 [some (P 0), some (P 17), some (I v2), some (I v3), some (I v4)] [r] h' Q)) : X (d + 1) 127 0 [some (P 0), some (P 17), some (I v2), some (I v3), some (I v4)] [] h Q :=
  s_aload_n c127_0 rfl (s_iload_n c127_1 rfl (s_cVi c127_2 m127_88 F124 K124 rfl (Nat.le_of_ble_eq_true rfl) rfl S124_0 rfl H))
theorem b127b_13 {d : Nat} {h : HP} {Q : PV → HP → Prop} {v2 v3 v4 s0 : Int} (H : ((¬ s0 = 0) → X (d + 1) 127 21 [some (P 0), some (P 17), some (I v2), some (I v3), some (I v4)] [] h Q) ∧ (¬ (¬ s0 = 0) → (((¬ v2 = v3) → (((1 ≤ v4) → (((99 < v4) → X (d + 1) 127 54 [some (P 0), some (P 17), some (I v2), some (I v3), some (I v4)] [] h Q) ∧ (¬ (99 < v4) → X d 13 0 [some (P 17)] [] h (fun r h' => X (d + 1) 127 51 [some (P 0), some (P 17), some (I v2), some (I v3), some (I v4)] [r] h' Q)))) ∧ (¬ (1 ≤ v4) → X d 121 0 [some (P 0), some (I (-4))] [] h (fun r h' => X (d + 1) 127 39 [some (P 0), some (P 17), some (I v2), some (I v3), some (I v4)] [r] h' Q)))) ∧ (¬ (¬ v2 = v3) → X (d + 1) 127 21 [some (P 0), some (P 17), some (I v2), some (I v3), some (I v4)] [] h Q)))) : X (d + 1) 127 13 [some (P 0), some (P 17), some (I v2), some (I v3), some (I v4)] [I s0] h Q :=
  s_if 21 (¬ s0 = 0) c127_13 (by decide) rfl ⟨fun q1 => (H.1 q1), fun q1 => s_iload_n c127_16 rfl (s_iload_n c127_17 rfl (s_ifc 27 (¬ v2 = v3) c127_18 (by decide) rfl ⟨fun q2 => s_iload c127_27 rfl (s_iconst c127_29 rfl (s_ifc 40 (1 ≤ v4) c127_30 (by decide) rfl ⟨fun q3 => s_iload c127_40 rfl (s_bipush c127_42 ⟨by decide, by decide⟩ (s_ifc 54 (99 < v4) c127_44 (by decide) rfl ⟨fun q4 => ((((H.2 q1).1 q2).1 q3).1 q4), fun q4 => s_aload_n c127_47 rfl (s_cVi c127_48 m127_311 F13 K13 rfl (Nat.le_of_ble_eq_true rfl) rfl S13_17 rfl ((((H.2 q1).1 q2).1 q3).2 q4))⟩)), fun q3 => s_aload_n c127_33 rfl (s_bipush c127_34 ⟨by decide, by decide⟩ (s_cVi c127_36 m127_71 F121 K121 rfl (Nat.le_of_ble_eq_true rfl) rfl S121_0 rfl (((H.2 q1).1 q2).2 q3)))⟩)), fun q2 => ((H.2 q1).2 q2)⟩))⟩
theorem b127b_21 {d : Nat} {h : HP} {Q : PV → HP → Prop} {v2 v3 v4 : Int} (H : X d 121 0 [some (P 0), some (I (-1))] [] h (fun r h' => X (d + 1) 127 26 [some (P 0), some (P 17), some (I v2), some (I v3), some (I v4)] [r] h' Q)) : X (d + 1) 127 21 [some (P 0), some (P 17), some (I v2), some (I v3), some (I v4)] [] h Q :=
  s_aload_n c127_21 rfl (s_iconst c127_22 rfl (s_cVi c127_23 m127_71 F121 K121 rfl (Nat.le_of_ble_eq_true rfl) rfl S121_0 rfl H))
theorem b127b_26 {d : Nat} {h : HP} {Q : PV → HP → Prop} {v2 v3 v4 s0 : Int} (H : Q (I s0) h) : X d 127 26 [some (P 0), some (P 17), some (I v2), some (I v3), some (I v4)] [I s0] h Q :=
  s_retI c127_26 R127 H
theorem b127b_39 {d : Nat} {h : HP} {Q : PV → HP → Prop} {v2 v3 v4 s0 : Int} (H : Q (I s0) h) : X d 127 39 [some (P 0), some (P 17), some (I v2), some (I v3), some (I v4)] [I s0] h Q :=
  s_retI c127_39 R127 H
theorem b127b_5 {d : Nat} {h : HP} {Q : PV → HP → Prop} {v2 v3 v4 s0 : Int} (H : ((¬ s0 = 0) → X (d + 1) 127 21 [some (P 0), some (P 17), some (I v2), some (I v3), some (I v4)] [] h Q) ∧ (¬ (¬ s0 = 0) → X d 124 0 [some (P 0), some (I v3)] [] h (fun r h' => X (d + 1) 127 13 [some (P 0), some (P 17), some (I v2), some (I v3), some (I v4)] [r] h' Q))) : X (d + 1) 127 5 [some (P 0), some (P 17), some (I v2), some (I v3), some (I v4)] [I s0] h Q :=
  s_if 21 (¬ s0 = 0) c127_5 (by decide) rfl ⟨fun q5 => (H.1 q5), fun q5 => s_aload_n c127_8 rfl (s_iload_n c127_9 rfl (s_cVi c127_10 m127_88 F124 K124 rfl (Nat.le_of_ble_eq_true rfl) rfl S124_0 rfl (H.2 q5)))⟩
theorem b127b_51 {d : Nat} {h : HP} {Q : PV → HP → Prop} {v2 v3 v4 s0 : Int} (H : ((s0 = 0) → X d 14 0 [some (P 17), some (I v2), some (I v3), some (I v4), none] [] h (fun r h' => X (d + 1) 127 69 [some (P 0), some (P 17), some (I v2), some (I v3), some (I v4)] [r] h' Q)) ∧ (¬ (s0 = 0) → X (d + 1) 127 54 [some (P 0), some (P 17), some (I v2), some (I v3), some (I v4)] [] h Q)) : X (d + 1) 127 51 [some (P 0), some (P 17), some (I v2), some (I v3), some (I v4)] [I s0] h Q :=
  s_if 61 (s0 = 0) c127_51 (by decide) rfl ⟨fun q6 => s_aload_n c127_61 rfl (s_iload_n c127_62 rfl (s_iload_n c127_63 rfl (s_iload c127_64 rfl (s_cVi c127_66 m127_314 F14 K14 rfl (Nat.le_of_ble_eq_true rfl) rfl S14_17 rfl (H.1 q6))))), fun q6 => (H.2 q6)⟩
theorem b127b_54 {d : Nat} {h : HP} {Q : PV → HP → Prop} {v2 v3 v4 : Int} (H : X d 121 0 [some (P 0), some (I (-6))] [] h (fun r h' => X (d + 1) 127 60 [some (P 0), some (P 17), some (I v2), some (I v3), some (I v4)] [r] h' Q)) : X (d + 1) 127 54 [some (P 0), some (P 17), some (I v2), some (I v3), some (I v4)] [] h Q :=
  s_aload_n c127_54 rfl (s_bipush c127_55 ⟨by decide, by decide⟩ (s_cVi c127_57 m127_71 F121 K121 rfl (Nat.le_of_ble_eq_true rfl) rfl S121_0 rfl H))
theorem b127b_60 {d : Nat} {h : HP} {Q : PV → HP → Prop} {v2 v3 v4 s0 : Int} (H : Q (I s0) h) : X d 127 60 [some (P 0), some (P 17), some (I v2), some (I v3), some (I v4)] [I s0] h Q :=
  s_retI c127_60 R127 H
theorem b127b_69 {d : Nat} {h : HP} {Q : PV → HP → Prop} {v2 v3 v4 s0 : Int} (H : Q (I s0) h) : X d 127 69 [some (P 0), some (P 17), some (I v2), some (I v3), some (I v4)] [I s0] h Q :=
  s_retI c127_69 R127 H
-- WarmSide.pipe(III)I
theorem c87_0 : cdA 87 0 = some (.aload_n 0) := by decide +kernel
theorem c87_1 : cdA 87 1 = some (.aload_n 0) := by decide +kernel
theorem c87_2 : cdA 87 2 = some (.getfield 10) := by decide +kernel
theorem f87_10 : fldR (moN 87) 10 = some (11, 0) := by decide +kernel
theorem c87_5 : cdA 87 5 = some (.getfield 136) := by decide +kernel
theorem f87_136 : fldR (moN 87) 136 = some (1, 2) := by decide +kernel
theorem c87_8 : cdA 87 8 = some (.iload_n 1) := by decide +kernel
theorem c87_9 : cdA 87 9 = some (.iload_n 2) := by decide +kernel
theorem c87_10 : cdA 87 10 = some (.iload_n 3) := by decide +kernel
theorem c87_11 : cdA 87 11 = some (.invokevirtual 132) := by decide +kernel
theorem m87_132 : mthR (moN 87) 132 = 130 := by decide +kernel
theorem c87_14 : cdA 87 14 = some (.ireturn) := by decide +kernel
theorem R87 : mK 87 = 0 := by decide +kernel
theorem b87_0 {d : Nat} {h : HP} {Q : PV → HP → Prop} {v1 v2 v3 : Int} (H : X d 127 0 [some (P 0), some (P 17), some (I v1), some (I v2), some (I v3)] [] h (fun r h' => X (d + 1) 87 14 [some (P 0), some (I v1), some (I v2), some (I v3)] [r] h' Q)) : X (d + 1) 87 0 [some (P 0), some (I v1), some (I v2), some (I v3)] [] h Q :=
  s_aload_n c87_0 rfl (s_aload_n c87_1 rfl (s_getP 1 c87_2 f87_10 t11_0 sh_0 g_0_0 (by decide) (by decide) (s_getP 17 c87_5 f87_136 t1_2 sh_1 g_1_2 (by decide) (by decide) (s_iload_n c87_8 rfl (s_iload_n c87_9 rfl (s_iload_n c87_10 rfl (s_cVi c87_11 m87_132 F127 K127 rfl (Nat.le_of_ble_eq_true rfl) rfl S127_0 rfl H)))))))
theorem b87_14 {d : Nat} {h : HP} {Q : PV → HP → Prop} {v1 v2 v3 s0 : Int} (H : Q (I s0) h) : X d 87 14 [some (P 0), some (I v1), some (I v2), some (I v3)] [I s0] h Q :=
  s_retI c87_14 R87 H
-- WarmSide.frozen(IZ)I
theorem c88_0 : cdA 88 0 = some (.iload_n 1) := by decide +kernel
theorem c88_1 : cdA 88 1 = some (.aload_n 0) := by decide +kernel
theorem c88_2 : cdA 88 2 = some (.getfield 10) := by decide +kernel
theorem f88_10 : fldR (moN 88) 10 = some (11, 0) := by decide +kernel
theorem c88_5 : cdA 88 5 = some (.getfield 136) := by decide +kernel
theorem f88_136 : fldR (moN 88) 136 = some (1, 2) := by decide +kernel
theorem c88_8 : cdA 88 8 = some (.getfield 139) := by decide +kernel
theorem f88_139 : fldR (moN 88) 139 = some (2, 1) := by decide +kernel
theorem c88_11 : cdA 88 11 = some (.invokestatic 67) := by decide +kernel
theorem m88_67 : mthR (moN 88) 67 = 126 := by decide +kernel
theorem c88_14 : cdA 88 14 = some (.ifCond .eq 9) := by decide +kernel
theorem c88_23 : cdA 88 23 = some (.aload_n 0) := by decide +kernel
theorem c88_24 : cdA 88 24 = some (.getfield 44) := by decide +kernel
theorem f88_44 : fldR (moN 88) 44 = some (11, 4) := by decide +kernel
theorem c88_27 : cdA 88 27 = some (.iconst 3) := by decide +kernel
theorem c88_28 : cdA 88 28 = some (.iload_n 1) := by decide +kernel
theorem c88_29 : cdA 88 29 = some (.iload_n 2) := by decide +kernel
theorem c88_30 : cdA 88 30 = some (.ifCond .eq 7) := by decide +kernel
theorem c88_37 : cdA 88 37 = some (.iconst 0) := by decide +kernel
theorem c88_33 : cdA 88 33 = some (.iconst 1) := by decide +kernel
theorem c88_34 : cdA 88 34 = some (.goto 4) := by decide +kernel
theorem c88_17 : cdA 88 17 = some (.aload_n 0) := by decide +kernel
theorem c88_18 : cdA 88 18 = some (.iconst (-1)) := by decide +kernel
theorem c88_19 : cdA 88 19 = some (.invokevirtual 71) := by decide +kernel
theorem m88_71 : mthR (moN 88) 71 = 124 := by decide +kernel
theorem c88_22 : cdA 88 22 = some (.ireturn) := by decide +kernel
theorem R88 : mK 88 = 0 := by decide +kernel
theorem c88_38 : cdA 88 38 = some (.invokevirtual 124) := by decide +kernel
theorem m88_124 : mthR (moN 88) 124 = 5 := by decide +kernel
theorem c88_41 : cdA 88 41 = some (.ifCond .eq 7) := by decide +kernel
theorem c88_48 : cdA 88 48 = some (.iconst 0) := by decide +kernel
theorem c88_49 : cdA 88 49 = some (.ireturn) := by decide +kernel
theorem c88_44 : cdA 88 44 = some (.iconst 1) := by decide +kernel
theorem c88_45 : cdA 88 45 = some (.goto 4) := by decide +kernel
theorem b88_0 {d : Nat} {h : HP} {Q : PV → HP → Prop} {v1 v2 : Int} (H : X d 123 0 [some (I v1), some (I (h 17 1))] [] h (fun r h' => X (d + 1) 88 14 [some (P 0), some (I v1), some (I v2)] [r] h' Q)) : X (d + 1) 88 0 [some (P 0), some (I v1), some (I v2)] [] h Q :=
  s_iload_n c88_0 rfl (s_aload_n c88_1 rfl (s_getP 1 c88_2 f88_10 t11_0 sh_0 g_0_0 (by decide) (by decide) (s_getP 17 c88_5 f88_136 t1_2 sh_1 g_1_2 (by decide) (by decide) (s_getI c88_8 f88_139 t2_1 sh_17 (s_cSi c88_11 m88_67 F123 K123 rfl (Nat.le_of_ble_eq_true rfl) rfl rfl H)))))
theorem b88_14 {d : Nat} {h : HP} {Q : PV → HP → Prop} {v1 v2 s0 : Int} (H : ((s0 = 0) → (((v2 = 0) → X (d + 1) 88 38 [some (P 0), some (I v1), some (I v2)] [I 0, I v1, I 3, P 57] h Q) ∧ (¬ (v2 = 0) → X (d + 1) 88 38 [some (P 0), some (I v1), some (I v2)] [I 1, I v1, I 3, P 57] h Q))) ∧ (¬ (s0 = 0) → X d 121 0 [some (P 0), some (I (-1))] [] h (fun r h' => X (d + 1) 88 22 [some (P 0), some (I v1), some (I v2)] [r] h' Q))) : X (d + 1) 88 14 [some (P 0), some (I v1), some (I v2)] [I s0] h Q :=
  s_if 23 (s0 = 0) c88_14 (by decide) rfl ⟨fun q1 => s_aload_n c88_23 rfl (s_getP 57 c88_24 f88_44 t11_4 sh_0 g_0_4 (by decide) (by decide) (s_iconst c88_27 rfl (s_iload_n c88_28 rfl (s_iload_n c88_29 rfl (s_if 37 (v2 = 0) c88_30 (by decide) rfl ⟨fun q2 => s_iconst c88_37 rfl (((H.1 q1).1 q2)), fun q2 => s_iconst c88_33 rfl (s_goto 38 c88_34 (by decide) (((H.1 q1).2 q2)))⟩))))), fun q1 => s_aload_n c88_17 rfl (s_iconst c88_18 rfl (s_cVi c88_19 m88_71 F121 K121 rfl (Nat.le_of_ble_eq_true rfl) rfl S121_0 rfl (H.2 q1)))⟩
theorem b88_22 {d : Nat} {h : HP} {Q : PV → HP → Prop} {v1 v2 s0 : Int} (H : Q (I s0) h) : X d 88 22 [some (P 0), some (I v1), some (I v2)] [I s0] h Q :=
  s_retI c88_22 R88 H
theorem b88_38 {d : Nat} {h : HP} {Q : PV → HP → Prop} {v1 v2 s1 s2 s3 : Int} (H : X d 2 0 [some (P 57), some (I s1), some (I s2), some (I s3), none] [] h (fun r h' => X (d + 1) 88 41 [some (P 0), some (I v1), some (I v2)] [r] h' Q)) : X (d + 1) 88 38 [some (P 0), some (I v1), some (I v2)] [I s3, I s2, I s1, P 57] h Q :=
  s_cVi c88_38 m88_124 F2 K2 rfl (Nat.le_of_ble_eq_true rfl) rfl S2_57 rfl H
theorem b88_41 {d : Nat} {h : HP} {Q : PV → HP → Prop} {v1 v2 s0 : Int} (H : ((s0 = 0) → Q (I 0) h) ∧ (¬ (s0 = 0) → Q (I 1) h)) : X d 88 41 [some (P 0), some (I v1), some (I v2)] [I s0] h Q :=
  s_if 48 (s0 = 0) c88_41 (by decide) rfl ⟨fun q3 => s_iconst c88_48 rfl (s_retI c88_49 R88 (H.1 q3)), fun q3 => s_iconst c88_44 rfl (s_goto 49 c88_45 (by decide) (s_retI c88_49 R88 (H.2 q3)))⟩
-- WarmSide.maker(LWarmSide$Makers;III)I
theorem c128_0 : cdA 128 0 = some (.aload_n 0) := by decide +kernel
theorem c128_1 : cdA 128 1 = some (.iload_n 2) := by decide +kernel
theorem c128_2 : cdA 128 2 = some (.invokevirtual 88) := by decide +kernel
theorem m128_88 : mthR (moN 128) 88 = 127 := by decide +kernel
theorem c128_13 : cdA 128 13 = some (.ireturn) := by decide +kernel
theorem R128 : mK 128 = 0 := by decide +kernel
theorem c128_26 : cdA 128 26 = some (.ireturn) := by decide +kernel
theorem c128_38 : cdA 128 38 = some (.ifCond .eq 10) := by decide +kernel
theorem c128_48 : cdA 128 48 = some (.aload_n 1) := by decide +kernel
theorem c128_49 : cdA 128 49 = some (.iload_n 2) := by decide +kernel
theorem c128_50 : cdA 128 50 = some (.iload_n 3) := by decide +kernel
theorem c128_51 : cdA 128 51 = some (.invokevirtual 316) := by decide +kernel
theorem m128_316 : mthR (moN 128) 316 = 20 := by decide +kernel
theorem F17 : mF 17 2 4 true := by unfold mF; decide +kernel
theorem K17 : ¬ mK 17 = 4 := by decide +kernel
theorem S17_22 : SH0[22]? = some (.inl (moN 17)) := by decide +kernel
theorem c128_41 : cdA 128 41 = some (.aload_n 0) := by decide +kernel
theorem c128_42 : cdA 128 42 = some (.bipush (-6)) := by decide +kernel
theorem c128_44 : cdA 128 44 = some (.invokevirtual 71) := by decide +kernel
theorem m128_71 : mthR (moN 128) 71 = 124 := by decide +kernel
theorem c128_47 : cdA 128 47 = some (.ireturn) := by decide +kernel
theorem c128_5 : cdA 128 5 = some (.ifCond .eq 9) := by decide +kernel
theorem c128_14 : cdA 128 14 = some (.iload_n 3) := by decide +kernel
theorem c128_15 : cdA 128 15 = some (.iload 4) := by decide +kernel
theorem c128_17 : cdA 128 17 = some (.if_icmp .ge 10) := by decide +kernel
theorem c128_27 : cdA 128 27 = some (.iload_n 3) := by decide +kernel
theorem c128_28 : cdA 128 28 = some (.sipush 999) := by decide +kernel
theorem c128_31 : cdA 128 31 = some (.if_icmp .gt 10) := by decide +kernel
theorem c128_34 : cdA 128 34 = some (.aload_n 1) := by decide +kernel
theorem c128_35 : cdA 128 35 = some (.invokevirtual 315) := by decide +kernel
theorem m128_315 : mthR (moN 128) 315 = 19 := by decide +kernel
theorem F16 : mF 16 0 1 true := by unfold mF; decide +kernel
theorem K16 : ¬ mK 16 = 4 := by decide +kernel
theorem S16_22 : SH0[22]? = some (.inl (moN 16)) := by decide +kernel
theorem c128_20 : cdA 128 20 = some (.aload_n 0) := by decide +kernel
theorem c128_21 : cdA 128 21 = some (.bipush (-4)) := by decide +kernel
theorem c128_23 : cdA 128 23 = some (.invokevirtual 71) := by decide +kernel
theorem c128_8 : cdA 128 8 = some (.aload_n 0) := by decide +kernel
theorem c128_9 : cdA 128 9 = some (.iconst (-1)) := by decide +kernel
theorem c128_10 : cdA 128 10 = some (.invokevirtual 71) := by decide +kernel
theorem c128_54 : cdA 128 54 = some (.ireturn) := by decide +kernel
theorem b128a_0 {d : Nat} {h : HP} {Q : PV → HP → Prop} {v2 v3 v4 : Int} (H : X d 124 0 [some (P 0), some (I v2)] [] h (fun r h' => X (d + 1) 128 5 [some (P 0), some (P 22), some (I v2), some (I v3), some (I v4)] [r] h' Q)) : X (d + 1) 128 0 [some (P 0), some (P 22), some (I v2), some (I v3), some (I v4)] [] h Q :=
  s_aload_n c128_0 rfl (s_iload_n c128_1 rfl (s_cVi c128_2 m128_88 F124 K124 rfl (Nat.le_of_ble_eq_true rfl) rfl S124_0 rfl H))
theorem b128a_13 {d : Nat} {h : HP} {Q : PV → HP → Prop} {v2 v3 v4 s0 : Int} (H : Q (I s0) h) : X d 128 13 [some (P 0), some (P 22), some (I v2), some (I v3), some (I v4)] [I s0] h Q :=
  s_retI c128_13 R128 H
theorem b128a_26 {d : Nat} {h : HP} {Q : PV → HP → Prop} {v2 v3 v4 s0 : Int} (H : Q (I s0) h) : X d 128 26 [some (P 0), some (P 22), some (I v2), some (I v3), some (I v4)] [I s0] h Q :=
  s_retI c128_26 R128 H
theorem b128a_38 {d : Nat} {h : HP} {Q : PV → HP → Prop} {v2 v3 v4 s0 : Int} (H : ((s0 = 0) → X d 17 0 [some (P 22), some (I v2), some (I v3), none] [] h (fun r h' => X (d + 1) 128 54 [some (P 0), some (P 22), some (I v2), some (I v3), some (I v4)] [r] h' Q)) ∧ (¬ (s0 = 0) → X (d + 1) 128 41 [some (P 0), some (P 22), some (I v2), some (I v3), some (I v4)] [] h Q)) : X (d + 1) 128 38 [some (P 0), some (P 22), some (I v2), some (I v3), some (I v4)] [I s0] h Q :=
  s_if 48 (s0 = 0) c128_38 (by decide) rfl ⟨fun q1 => s_aload_n c128_48 rfl (s_iload_n c128_49 rfl (s_iload_n c128_50 rfl (s_cVi c128_51 m128_316 F17 K17 rfl (Nat.le_of_ble_eq_true rfl) rfl S17_22 rfl (H.1 q1)))), fun q1 => (H.2 q1)⟩
theorem b128a_41 {d : Nat} {h : HP} {Q : PV → HP → Prop} {v2 v3 v4 : Int} (H : X d 121 0 [some (P 0), some (I (-6))] [] h (fun r h' => X (d + 1) 128 47 [some (P 0), some (P 22), some (I v2), some (I v3), some (I v4)] [r] h' Q)) : X (d + 1) 128 41 [some (P 0), some (P 22), some (I v2), some (I v3), some (I v4)] [] h Q :=
  s_aload_n c128_41 rfl (s_bipush c128_42 ⟨by decide, by decide⟩ (s_cVi c128_44 m128_71 F121 K121 rfl (Nat.le_of_ble_eq_true rfl) rfl S121_0 rfl H))
theorem b128a_47 {d : Nat} {h : HP} {Q : PV → HP → Prop} {v2 v3 v4 s0 : Int} (H : Q (I s0) h) : X d 128 47 [some (P 0), some (P 22), some (I v2), some (I v3), some (I v4)] [I s0] h Q :=
  s_retI c128_47 R128 H
theorem b128a_5 {d : Nat} {h : HP} {Q : PV → HP → Prop} {v2 v3 v4 s0 : Int} (H : ((s0 = 0) → (((v4 ≤ v3) → (((999 < v3) → X (d + 1) 128 41 [some (P 0), some (P 22), some (I v2), some (I v3), some (I v4)] [] h Q) ∧ (¬ (999 < v3) → X d 16 0 [some (P 22)] [] h (fun r h' => X (d + 1) 128 38 [some (P 0), some (P 22), some (I v2), some (I v3), some (I v4)] [r] h' Q)))) ∧ (¬ (v4 ≤ v3) → X d 121 0 [some (P 0), some (I (-4))] [] h (fun r h' => X (d + 1) 128 26 [some (P 0), some (P 22), some (I v2), some (I v3), some (I v4)] [r] h' Q)))) ∧ (¬ (s0 = 0) → X d 121 0 [some (P 0), some (I (-1))] [] h (fun r h' => X (d + 1) 128 13 [some (P 0), some (P 22), some (I v2), some (I v3), some (I v4)] [r] h' Q))) : X (d + 1) 128 5 [some (P 0), some (P 22), some (I v2), some (I v3), some (I v4)] [I s0] h Q :=
  s_if 14 (s0 = 0) c128_5 (by decide) rfl ⟨fun q2 => s_iload_n c128_14 rfl (s_iload c128_15 rfl (s_ifc 27 (v4 ≤ v3) c128_17 (by decide) rfl ⟨fun q3 => s_iload_n c128_27 rfl (s_sipush c128_28 ⟨by decide, by decide⟩ (s_ifc 41 (999 < v3) c128_31 (by decide) rfl ⟨fun q4 => (((H.1 q2).1 q3).1 q4), fun q4 => s_aload_n c128_34 rfl (s_cVi c128_35 m128_315 F16 K16 rfl (Nat.le_of_ble_eq_true rfl) rfl S16_22 rfl (((H.1 q2).1 q3).2 q4))⟩)), fun q3 => s_aload_n c128_20 rfl (s_bipush c128_21 ⟨by decide, by decide⟩ (s_cVi c128_23 m128_71 F121 K121 rfl (Nat.le_of_ble_eq_true rfl) rfl S121_0 rfl ((H.1 q2).2 q3)))⟩)), fun q2 => s_aload_n c128_8 rfl (s_iconst c128_9 rfl (s_cVi c128_10 m128_71 F121 K121 rfl (Nat.le_of_ble_eq_true rfl) rfl S121_0 rfl (H.2 q2)))⟩
theorem b128a_54 {d : Nat} {h : HP} {Q : PV → HP → Prop} {v2 v3 v4 s0 : Int} (H : Q (I s0) h) : X d 128 54 [some (P 0), some (P 22), some (I v2), some (I v3), some (I v4)] [I s0] h Q :=
  s_retI c128_54 R128 H
-- WarmSide.box(II)I
theorem c89_0 : cdA 89 0 = some (.aload_n 0) := by decide +kernel
theorem c89_1 : cdA 89 1 = some (.aload_n 0) := by decide +kernel
theorem c89_2 : cdA 89 2 = some (.getfield 10) := by decide +kernel
theorem f89_10 : fldR (moN 89) 10 = some (11, 0) := by decide +kernel
theorem c89_5 : cdA 89 5 = some (.getfield 142) := by decide +kernel
theorem f89_142 : fldR (moN 89) 142 = some (1, 3) := by decide +kernel
theorem c89_8 : cdA 89 8 = some (.iload_n 1) := by decide +kernel
theorem c89_9 : cdA 89 9 = some (.iload_n 2) := by decide +kernel
theorem c89_10 : cdA 89 10 = some (.iconst 0) := by decide +kernel
theorem c89_11 : cdA 89 11 = some (.invokevirtual 146) := by decide +kernel
theorem m89_146 : mthR (moN 89) 146 = 131 := by decide +kernel
theorem F128 : mF 128 4 5 true := by unfold mF; decide +kernel
theorem K128 : ¬ mK 128 = 4 := by decide +kernel
theorem S128_0 : SH0[0]? = some (.inl (moN 128)) := by decide +kernel
theorem c89_14 : cdA 89 14 = some (.ireturn) := by decide +kernel
theorem R89 : mK 89 = 0 := by decide +kernel
theorem b89_0 {d : Nat} {h : HP} {Q : PV → HP → Prop} {v1 v2 : Int} (H : X d 128 0 [some (P 0), some (P 22), some (I v1), some (I v2), some (I 0)] [] h (fun r h' => X (d + 1) 89 14 [some (P 0), some (I v1), some (I v2)] [r] h' Q)) : X (d + 1) 89 0 [some (P 0), some (I v1), some (I v2)] [] h Q :=
  s_aload_n c89_0 rfl (s_aload_n c89_1 rfl (s_getP 1 c89_2 f89_10 t11_0 sh_0 g_0_0 (by decide) (by decide) (s_getP 22 c89_5 f89_142 t1_3 sh_1 g_1_3 (by decide) (by decide) (s_iload_n c89_8 rfl (s_iload_n c89_9 rfl (s_iconst c89_10 rfl (s_cVi c89_11 m89_146 F128 K128 rfl (Nat.le_of_ble_eq_true rfl) rfl S128_0 rfl H)))))))
theorem b89_14 {d : Nat} {h : HP} {Q : PV → HP → Prop} {v1 v2 s0 : Int} (H : Q (I s0) h) : X d 89 14 [some (P 0), some (I v1), some (I v2)] [I s0] h Q :=
  s_retI c89_14 R89 H
-- WarmSide.works(IZ)I
theorem c90_0 : cdA 90 0 = some (.iload_n 1) := by decide +kernel
theorem c90_1 : cdA 90 1 = some (.aload_n 0) := by decide +kernel
theorem c90_2 : cdA 90 2 = some (.getfield 10) := by decide +kernel
theorem f90_10 : fldR (moN 90) 10 = some (11, 0) := by decide +kernel
theorem c90_5 : cdA 90 5 = some (.getfield 142) := by decide +kernel
theorem f90_142 : fldR (moN 90) 142 = some (1, 3) := by decide +kernel
theorem c90_8 : cdA 90 8 = some (.getfield 150) := by decide +kernel
theorem f90_150 : fldR (moN 90) 150 = some (3, 2) := by decide +kernel
theorem c90_11 : cdA 90 11 = some (.invokestatic 67) := by decide +kernel
theorem m90_67 : mthR (moN 90) 67 = 126 := by decide +kernel
theorem c90_14 : cdA 90 14 = some (.ifCond .eq 9) := by decide +kernel
theorem c90_23 : cdA 90 23 = some (.aload_n 0) := by decide +kernel
theorem c90_24 : cdA 90 24 = some (.getfield 44) := by decide +kernel
theorem f90_44 : fldR (moN 90) 44 = some (11, 4) := by decide +kernel
theorem c90_27 : cdA 90 27 = some (.iconst 0) := by decide +kernel
theorem c90_28 : cdA 90 28 = some (.iload_n 1) := by decide +kernel
theorem c90_29 : cdA 90 29 = some (.iload_n 2) := by decide +kernel
theorem c90_30 : cdA 90 30 = some (.ifCond .eq 7) := by decide +kernel
theorem c90_37 : cdA 90 37 = some (.iconst 0) := by decide +kernel
theorem c90_33 : cdA 90 33 = some (.iconst 1) := by decide +kernel
theorem c90_34 : cdA 90 34 = some (.goto 4) := by decide +kernel
theorem c90_17 : cdA 90 17 = some (.aload_n 0) := by decide +kernel
theorem c90_18 : cdA 90 18 = some (.iconst (-1)) := by decide +kernel
theorem c90_19 : cdA 90 19 = some (.invokevirtual 71) := by decide +kernel
theorem m90_71 : mthR (moN 90) 71 = 124 := by decide +kernel
theorem c90_22 : cdA 90 22 = some (.ireturn) := by decide +kernel
theorem R90 : mK 90 = 0 := by decide +kernel
theorem c90_38 : cdA 90 38 = some (.invokevirtual 124) := by decide +kernel
theorem m90_124 : mthR (moN 90) 124 = 5 := by decide +kernel
theorem c90_41 : cdA 90 41 = some (.ifCond .eq 7) := by decide +kernel
theorem c90_48 : cdA 90 48 = some (.iconst 0) := by decide +kernel
theorem c90_49 : cdA 90 49 = some (.ireturn) := by decide +kernel
theorem c90_44 : cdA 90 44 = some (.iconst 1) := by decide +kernel
theorem c90_45 : cdA 90 45 = some (.goto 4) := by decide +kernel
theorem b90_0 {d : Nat} {h : HP} {Q : PV → HP → Prop} {v1 v2 : Int} (H : X d 123 0 [some (I v1), some (I (h 22 2))] [] h (fun r h' => X (d + 1) 90 14 [some (P 0), some (I v1), some (I v2)] [r] h' Q)) : X (d + 1) 90 0 [some (P 0), some (I v1), some (I v2)] [] h Q :=
  s_iload_n c90_0 rfl (s_aload_n c90_1 rfl (s_getP 1 c90_2 f90_10 t11_0 sh_0 g_0_0 (by decide) (by decide) (s_getP 22 c90_5 f90_142 t1_3 sh_1 g_1_3 (by decide) (by decide) (s_getI c90_8 f90_150 t3_2 sh_22 (s_cSi c90_11 m90_67 F123 K123 rfl (Nat.le_of_ble_eq_true rfl) rfl rfl H)))))
theorem b90_14 {d : Nat} {h : HP} {Q : PV → HP → Prop} {v1 v2 s0 : Int} (H : ((s0 = 0) → (((v2 = 0) → X (d + 1) 90 38 [some (P 0), some (I v1), some (I v2)] [I 0, I v1, I 0, P 57] h Q) ∧ (¬ (v2 = 0) → X (d + 1) 90 38 [some (P 0), some (I v1), some (I v2)] [I 1, I v1, I 0, P 57] h Q))) ∧ (¬ (s0 = 0) → X d 121 0 [some (P 0), some (I (-1))] [] h (fun r h' => X (d + 1) 90 22 [some (P 0), some (I v1), some (I v2)] [r] h' Q))) : X (d + 1) 90 14 [some (P 0), some (I v1), some (I v2)] [I s0] h Q :=
  s_if 23 (s0 = 0) c90_14 (by decide) rfl ⟨fun q1 => s_aload_n c90_23 rfl (s_getP 57 c90_24 f90_44 t11_4 sh_0 g_0_4 (by decide) (by decide) (s_iconst c90_27 rfl (s_iload_n c90_28 rfl (s_iload_n c90_29 rfl (s_if 37 (v2 = 0) c90_30 (by decide) rfl ⟨fun q2 => s_iconst c90_37 rfl (((H.1 q1).1 q2)), fun q2 => s_iconst c90_33 rfl (s_goto 38 c90_34 (by decide) (((H.1 q1).2 q2)))⟩))))), fun q1 => s_aload_n c90_17 rfl (s_iconst c90_18 rfl (s_cVi c90_19 m90_71 F121 K121 rfl (Nat.le_of_ble_eq_true rfl) rfl S121_0 rfl (H.2 q1)))⟩
theorem b90_22 {d : Nat} {h : HP} {Q : PV → HP → Prop} {v1 v2 s0 : Int} (H : Q (I s0) h) : X d 90 22 [some (P 0), some (I v1), some (I v2)] [I s0] h Q :=
  s_retI c90_22 R90 H
theorem b90_38 {d : Nat} {h : HP} {Q : PV → HP → Prop} {v1 v2 s1 s2 s3 : Int} (H : X d 2 0 [some (P 57), some (I s1), some (I s2), some (I s3), none] [] h (fun r h' => X (d + 1) 90 41 [some (P 0), some (I v1), some (I v2)] [r] h' Q)) : X (d + 1) 90 38 [some (P 0), some (I v1), some (I v2)] [I s3, I s2, I s1, P 57] h Q :=
  s_cVi c90_38 m90_124 F2 K2 rfl (Nat.le_of_ble_eq_true rfl) rfl S2_57 rfl H
theorem b90_41 {d : Nat} {h : HP} {Q : PV → HP → Prop} {v1 v2 s0 : Int} (H : ((s0 = 0) → Q (I 0) h) ∧ (¬ (s0 = 0) → Q (I 1) h)) : X d 90 41 [some (P 0), some (I v1), some (I v2)] [I s0] h Q :=
  s_if 48 (s0 = 0) c90_41 (by decide) rfl ⟨fun q3 => s_iconst c90_48 rfl (s_retI c90_49 R90 (H.1 q3)), fun q3 => s_iconst c90_44 rfl (s_goto 49 c90_45 (by decide) (s_retI c90_49 R90 (H.2 q3)))⟩
-- WarmSide.maker(LWarmSide$Makers;III)I
theorem S17_26 : SH0[26]? = some (.inl (moN 17)) := by decide +kernel
theorem S16_26 : SH0[26]? = some (.inl (moN 16)) := by decide +kernel
theorem b128b_0 {d : Nat} {h : HP} {Q : PV → HP → Prop} {v2 v3 v4 : Int} (H : X d 124 0 [some (P 0), some (I v2)] [] h (fun r h' => X (d + 1) 128 5 [some (P 0), some (P 26), some (I v2), some (I v3), some (I v4)] [r] h' Q)) : X (d + 1) 128 0 [some (P 0), some (P 26), some (I v2), some (I v3), some (I v4)] [] h Q :=
  s_aload_n c128_0 rfl (s_iload_n c128_1 rfl (s_cVi c128_2 m128_88 F124 K124 rfl (Nat.le_of_ble_eq_true rfl) rfl S124_0 rfl H))
theorem b128b_13 {d : Nat} {h : HP} {Q : PV → HP → Prop} {v2 v3 v4 s0 : Int} (H : Q (I s0) h) : X d 128 13 [some (P 0), some (P 26), some (I v2), some (I v3), some (I v4)] [I s0] h Q :=
  s_retI c128_13 R128 H
theorem b128b_26 {d : Nat} {h : HP} {Q : PV → HP → Prop} {v2 v3 v4 s0 : Int} (H : Q (I s0) h) : X d 128 26 [some (P 0), some (P 26), some (I v2), some (I v3), some (I v4)] [I s0] h Q :=
  s_retI c128_26 R128 H
theorem b128b_38 {d : Nat} {h : HP} {Q : PV → HP → Prop} {v2 v3 v4 s0 : Int} (H : ((s0 = 0) → X d 17 0 [some (P 26), some (I v2), some (I v3), none] [] h (fun r h' => X (d + 1) 128 54 [some (P 0), some (P 26), some (I v2), some (I v3), some (I v4)] [r] h' Q)) ∧ (¬ (s0 = 0) → X (d + 1) 128 41 [some (P 0), some (P 26), some (I v2), some (I v3), some (I v4)] [] h Q)) : X (d + 1) 128 38 [some (P 0), some (P 26), some (I v2), some (I v3), some (I v4)] [I s0] h Q :=
  s_if 48 (s0 = 0) c128_38 (by decide) rfl ⟨fun q1 => s_aload_n c128_48 rfl (s_iload_n c128_49 rfl (s_iload_n c128_50 rfl (s_cVi c128_51 m128_316 F17 K17 rfl (Nat.le_of_ble_eq_true rfl) rfl S17_26 rfl (H.1 q1)))), fun q1 => (H.2 q1)⟩
theorem b128b_41 {d : Nat} {h : HP} {Q : PV → HP → Prop} {v2 v3 v4 : Int} (H : X d 121 0 [some (P 0), some (I (-6))] [] h (fun r h' => X (d + 1) 128 47 [some (P 0), some (P 26), some (I v2), some (I v3), some (I v4)] [r] h' Q)) : X (d + 1) 128 41 [some (P 0), some (P 26), some (I v2), some (I v3), some (I v4)] [] h Q :=
  s_aload_n c128_41 rfl (s_bipush c128_42 ⟨by decide, by decide⟩ (s_cVi c128_44 m128_71 F121 K121 rfl (Nat.le_of_ble_eq_true rfl) rfl S121_0 rfl H))
theorem b128b_47 {d : Nat} {h : HP} {Q : PV → HP → Prop} {v2 v3 v4 s0 : Int} (H : Q (I s0) h) : X d 128 47 [some (P 0), some (P 26), some (I v2), some (I v3), some (I v4)] [I s0] h Q :=
  s_retI c128_47 R128 H
theorem b128b_5 {d : Nat} {h : HP} {Q : PV → HP → Prop} {v2 v3 v4 s0 : Int} (H : ((s0 = 0) → (((v4 ≤ v3) → (((999 < v3) → X (d + 1) 128 41 [some (P 0), some (P 26), some (I v2), some (I v3), some (I v4)] [] h Q) ∧ (¬ (999 < v3) → X d 16 0 [some (P 26)] [] h (fun r h' => X (d + 1) 128 38 [some (P 0), some (P 26), some (I v2), some (I v3), some (I v4)] [r] h' Q)))) ∧ (¬ (v4 ≤ v3) → X d 121 0 [some (P 0), some (I (-4))] [] h (fun r h' => X (d + 1) 128 26 [some (P 0), some (P 26), some (I v2), some (I v3), some (I v4)] [r] h' Q)))) ∧ (¬ (s0 = 0) → X d 121 0 [some (P 0), some (I (-1))] [] h (fun r h' => X (d + 1) 128 13 [some (P 0), some (P 26), some (I v2), some (I v3), some (I v4)] [r] h' Q))) : X (d + 1) 128 5 [some (P 0), some (P 26), some (I v2), some (I v3), some (I v4)] [I s0] h Q :=
  s_if 14 (s0 = 0) c128_5 (by decide) rfl ⟨fun q2 => s_iload_n c128_14 rfl (s_iload c128_15 rfl (s_ifc 27 (v4 ≤ v3) c128_17 (by decide) rfl ⟨fun q3 => s_iload_n c128_27 rfl (s_sipush c128_28 ⟨by decide, by decide⟩ (s_ifc 41 (999 < v3) c128_31 (by decide) rfl ⟨fun q4 => (((H.1 q2).1 q3).1 q4), fun q4 => s_aload_n c128_34 rfl (s_cVi c128_35 m128_315 F16 K16 rfl (Nat.le_of_ble_eq_true rfl) rfl S16_26 rfl (((H.1 q2).1 q3).2 q4))⟩)), fun q3 => s_aload_n c128_20 rfl (s_bipush c128_21 ⟨by decide, by decide⟩ (s_cVi c128_23 m128_71 F121 K121 rfl (Nat.le_of_ble_eq_true rfl) rfl S121_0 rfl ((H.1 q2).2 q3)))⟩)), fun q2 => s_aload_n c128_8 rfl (s_iconst c128_9 rfl (s_cVi c128_10 m128_71 F121 K121 rfl (Nat.le_of_ble_eq_true rfl) rfl S121_0 rfl (H.2 q2)))⟩
theorem b128b_54 {d : Nat} {h : HP} {Q : PV → HP → Prop} {v2 v3 v4 s0 : Int} (H : Q (I s0) h) : X d 128 54 [some (P 0), some (P 26), some (I v2), some (I v3), some (I v4)] [I s0] h Q :=
  s_retI c128_54 R128 H
-- WarmSide.heater(II)I
theorem c91_0 : cdA 91 0 = some (.aload_n 0) := by decide +kernel
theorem c91_1 : cdA 91 1 = some (.aload_n 0) := by decide +kernel
theorem c91_2 : cdA 91 2 = some (.getfield 10) := by decide +kernel
theorem f91_10 : fldR (moN 91) 10 = some (11, 0) := by decide +kernel
theorem c91_5 : cdA 91 5 = some (.getfield 153) := by decide +kernel
theorem f91_153 : fldR (moN 91) 153 = some (1, 4) := by decide +kernel
theorem c91_8 : cdA 91 8 = some (.iload_n 1) := by decide +kernel
theorem c91_9 : cdA 91 9 = some (.iload_n 2) := by decide +kernel
theorem c91_10 : cdA 91 10 = some (.iconst 1) := by decide +kernel
theorem c91_11 : cdA 91 11 = some (.invokevirtual 146) := by decide +kernel
theorem m91_146 : mthR (moN 91) 146 = 131 := by decide +kernel
theorem c91_14 : cdA 91 14 = some (.ireturn) := by decide +kernel
theorem R91 : mK 91 = 0 := by decide +kernel
theorem b91_0 {d : Nat} {h : HP} {Q : PV → HP → Prop} {v1 v2 : Int} (H : X d 128 0 [some (P 0), some (P 26), some (I v1), some (I v2), some (I 1)] [] h (fun r h' => X (d + 1) 91 14 [some (P 0), some (I v1), some (I v2)] [r] h' Q)) : X (d + 1) 91 0 [some (P 0), some (I v1), some (I v2)] [] h Q :=
  s_aload_n c91_0 rfl (s_aload_n c91_1 rfl (s_getP 1 c91_2 f91_10 t11_0 sh_0 g_0_0 (by decide) (by decide) (s_getP 26 c91_5 f91_153 t1_4 sh_1 g_1_4 (by decide) (by decide) (s_iload_n c91_8 rfl (s_iload_n c91_9 rfl (s_iconst c91_10 rfl (s_cVi c91_11 m91_146 F128 K128 rfl (Nat.le_of_ble_eq_true rfl) rfl S128_0 rfl H)))))))
theorem b91_14 {d : Nat} {h : HP} {Q : PV → HP → Prop} {v1 v2 s0 : Int} (H : Q (I s0) h) : X d 91 14 [some (P 0), some (I v1), some (I v2)] [I s0] h Q :=
  s_retI c91_14 R91 H
-- WarmSide.flap(I)I
theorem c92_0 : cdA 92 0 = some (.aload_n 0) := by decide +kernel
theorem c92_1 : cdA 92 1 = some (.iload_n 1) := by decide +kernel
theorem c92_2 : cdA 92 2 = some (.invokevirtual 88) := by decide +kernel
theorem m92_88 : mthR (moN 92) 88 = 127 := by decide +kernel
theorem c92_13 : cdA 92 13 = some (.ireturn) := by decide +kernel
theorem R92 : mK 92 = 0 := by decide +kernel
theorem c92_37 : cdA 92 37 = some (.ireturn) := by decide +kernel
theorem c92_5 : cdA 92 5 = some (.ifCond .eq 9) := by decide +kernel
theorem c92_14 : cdA 92 14 = some (.aload_n 0) := by decide +kernel
theorem c92_15 : cdA 92 15 = some (.getfield 10) := by decide +kernel
theorem f92_10 : fldR (moN 92) 10 = some (11, 0) := by decide +kernel
theorem c92_18 : cdA 92 18 = some (.getfield 75) := by decide +kernel
theorem f92_75 : fldR (moN 92) 75 = some (1, 0) := by decide +kernel
theorem c92_21 : cdA 92 21 = some (.getfield 156) := by decide +kernel
theorem f92_156 : fldR (moN 92) 156 = some (4, 6) := by decide +kernel
theorem c92_24 : cdA 92 24 = some (.iload_n 1) := by decide +kernel
theorem c92_25 : cdA 92 25 = some (.iaload) := by decide +kernel
theorem c92_26 : cdA 92 26 = some (.bipush (-9)) := by decide +kernel
theorem c92_28 : cdA 92 28 = some (.if_icmp .eq 10) := by decide +kernel
theorem c92_38 : cdA 92 38 = some (.aload_n 0) := by decide +kernel
theorem c92_39 : cdA 92 39 = some (.getfield 10) := by decide +kernel
theorem c92_42 : cdA 92 42 = some (.getfield 75) := by decide +kernel
theorem c92_45 : cdA 92 45 = some (.getfield 156) := by decide +kernel
theorem c92_48 : cdA 92 48 = some (.iload_n 1) := by decide +kernel
theorem c92_49 : cdA 92 49 = some (.iconst 2) := by decide +kernel
theorem c92_50 : cdA 92 50 = some (.iastore) := by decide +kernel
theorem c92_51 : cdA 92 51 = some (.iconst 1) := by decide +kernel
theorem c92_52 : cdA 92 52 = some (.ireturn) := by decide +kernel
theorem c92_31 : cdA 92 31 = some (.aload_n 0) := by decide +kernel
theorem c92_32 : cdA 92 32 = some (.bipush (-3)) := by decide +kernel
theorem c92_34 : cdA 92 34 = some (.invokevirtual 71) := by decide +kernel
theorem m92_71 : mthR (moN 92) 71 = 124 := by decide +kernel
theorem c92_8 : cdA 92 8 = some (.aload_n 0) := by decide +kernel
theorem c92_9 : cdA 92 9 = some (.iconst (-1)) := by decide +kernel
theorem c92_10 : cdA 92 10 = some (.invokevirtual 71) := by decide +kernel
theorem b92_0 {d : Nat} {h : HP} {Q : PV → HP → Prop} {v1 : Int} (H : X d 124 0 [some (P 0), some (I v1)] [] h (fun r h' => X (d + 1) 92 5 [some (P 0), some (I v1)] [r] h' Q)) : X (d + 1) 92 0 [some (P 0), some (I v1)] [] h Q :=
  s_aload_n c92_0 rfl (s_iload_n c92_1 rfl (s_cVi c92_2 m92_88 F124 K124 rfl (Nat.le_of_ble_eq_true rfl) rfl S124_0 rfl H))
theorem b92_13 {d : Nat} {h : HP} {Q : PV → HP → Prop} {v1 s0 : Int} (H : Q (I s0) h) : X d 92 13 [some (P 0), some (I v1)] [I s0] h Q :=
  s_retI c92_13 R92 H
theorem b92_37 {d : Nat} {h : HP} {Q : PV → HP → Prop} {v1 s0 : Int} (H : Q (I s0) h) : X d 92 37 [some (P 0), some (I v1)] [I s0] h Q :=
  s_retI c92_37 R92 H
theorem b92_5 {d : Nat} {h : HP} {Q : PV → HP → Prop} {v1 s0 : Int} (H : ((s0 = 0) → ((0 ≤ v1 ∧ v1 < 8) ∧ ((((h 8 v1.toNat) = (-9)) → ((0 ≤ v1 ∧ v1 < 8) ∧ Q (I 1) (up2 h 8 v1.toNat 2))) ∧ (¬ ((h 8 v1.toNat) = (-9)) → X d 121 0 [some (P 0), some (I (-3))] [] h (fun r h' => X (d + 1) 92 37 [some (P 0), some (I v1)] [r] h' Q))))) ∧ (¬ (s0 = 0) → X d 121 0 [some (P 0), some (I (-1))] [] h (fun r h' => X (d + 1) 92 13 [some (P 0), some (I v1)] [r] h' Q))) : X (d + 1) 92 5 [some (P 0), some (I v1)] [I s0] h Q :=
  s_if 14 (s0 = 0) c92_5 (by decide) rfl ⟨fun q1 => s_aload_n c92_14 rfl (s_getP 1 c92_15 f92_10 t11_0 sh_0 g_0_0 (by decide) (by decide) (s_getP 2 c92_18 f92_75 t1_0 sh_1 g_1_0 (by decide) (by decide) (s_getP 8 c92_21 f92_156 t4_6 sh_2 g_2_6 (by decide) (by decide) (s_iload_n c92_24 rfl (s_iald c92_25 sh_8 ⟨(H.1 q1).1, s_bipush c92_26 ⟨by decide, by decide⟩ (s_ifc 38 ((h 8 v1.toNat) = (-9)) c92_28 (by decide) rfl ⟨fun q2 => s_aload_n c92_38 rfl (s_getP 1 c92_39 f92_10 t11_0 sh_0 g_0_0 (by decide) (by decide) (s_getP 2 c92_42 f92_75 t1_0 sh_1 g_1_0 (by decide) (by decide) (s_getP 8 c92_45 f92_156 t4_6 sh_2 g_2_6 (by decide) (by decide) (s_iload_n c92_48 rfl (s_iconst c92_49 rfl (s_iast c92_50 sh_8 ⟨((H.1 q1).2.1 q2).1, s_iconst c92_51 rfl (s_retI c92_52 R92 ((H.1 q1).2.1 q2).2)⟩)))))), fun q2 => s_aload_n c92_31 rfl (s_bipush c92_32 ⟨by decide, by decide⟩ (s_cVi c92_34 m92_71 F121 K121 rfl (Nat.le_of_ble_eq_true rfl) rfl S121_0 rfl ((H.1 q1).2.2 q2)))⟩)⟩))))), fun q1 => s_aload_n c92_8 rfl (s_iconst c92_9 rfl (s_cVi c92_10 m92_71 F121 K121 rfl (Nat.le_of_ble_eq_true rfl) rfl S121_0 rfl (H.2 q1)))⟩
-- WarmSide.state(IZI)I
theorem c93_0 : cdA 93 0 = some (.iload_n 1) := by decide +kernel
theorem c93_1 : cdA 93 1 = some (.iload_n 2) := by decide +kernel
theorem c93_2 : cdA 93 2 = some (.ifCond .eq 16) := by decide +kernel
theorem c93_18 : cdA 93 18 = some (.aload_n 0) := by decide +kernel
theorem c93_19 : cdA 93 19 = some (.getfield 10) := by decide +kernel
theorem f93_10 : fldR (moN 93) 10 = some (11, 0) := by decide +kernel
theorem c93_22 : cdA 93 22 = some (.getfield 153) := by decide +kernel
theorem f93_153 : fldR (moN 93) 153 = some (1, 4) := by decide +kernel
theorem c93_25 : cdA 93 25 = some (.getfield 150) := by decide +kernel
theorem f93_150 : fldR (moN 93) 150 = some (3, 2) := by decide +kernel
theorem c93_5 : cdA 93 5 = some (.aload_n 0) := by decide +kernel
theorem c93_6 : cdA 93 6 = some (.getfield 10) := by decide +kernel
theorem c93_9 : cdA 93 9 = some (.getfield 75) := by decide +kernel
theorem f93_75 : fldR (moN 93) 75 = some (1, 0) := by decide +kernel
theorem c93_12 : cdA 93 12 = some (.getfield 79) := by decide +kernel
theorem f93_79 : fldR (moN 93) 79 = some (4, 0) := by decide +kernel
theorem c93_15 : cdA 93 15 = some (.goto 13) := by decide +kernel
theorem c93_114 : cdA 93 114 = some (.istore 4) := by decide +kernel
theorem c93_116 : cdA 93 116 = some (.iload_n 2) := by decide +kernel
theorem c93_117 : cdA 93 117 = some (.ifCond .eq 28) := by decide +kernel
theorem c93_145 : cdA 93 145 = some (.aload_n 0) := by decide +kernel
theorem c93_146 : cdA 93 146 = some (.getfield 44) := by decide +kernel
theorem f93_44 : fldR (moN 93) 44 = some (11, 4) := by decide +kernel
theorem c93_149 : cdA 93 149 = some (.iconst 1) := by decide +kernel
theorem c93_150 : cdA 93 150 = some (.iload_n 1) := by decide +kernel
theorem c93_151 : cdA 93 151 = some (.iload_n 3) := by decide +kernel
theorem c93_152 : cdA 93 152 = some (.invokevirtual 124) := by decide +kernel
theorem m93_124 : mthR (moN 93) 124 = 5 := by decide +kernel
theorem c93_120 : cdA 93 120 = some (.aload_n 0) := by decide +kernel
theorem c93_121 : cdA 93 121 = some (.getfield 44) := by decide +kernel
theorem c93_124 : cdA 93 124 = some (.iconst 2) := by decide +kernel
theorem c93_125 : cdA 93 125 = some (.iload_n 1) := by decide +kernel
theorem c93_126 : cdA 93 126 = some (.aload_n 0) := by decide +kernel
theorem c93_127 : cdA 93 127 = some (.getfield 10) := by decide +kernel
theorem c93_130 : cdA 93 130 = some (.getfield 75) := by decide +kernel
theorem c93_133 : cdA 93 133 = some (.iload_n 1) := by decide +kernel
theorem c93_134 : cdA 93 134 = some (.iload_n 3) := by decide +kernel
theorem c93_135 : cdA 93 135 = some (.invokevirtual 162) := by decide +kernel
theorem m93_162 : mthR (moN 93) 162 = 25 := by decide +kernel
theorem c93_138 : cdA 93 138 = some (.invokevirtual 124) := by decide +kernel
theorem c93_141 : cdA 93 141 = some (.pop) := by decide +kernel
theorem c93_142 : cdA 93 142 = some (.goto 14) := by decide +kernel
theorem c93_156 : cdA 93 156 = some (.iload 4) := by decide +kernel
theorem c93_158 : cdA 93 158 = some (.ireturn) := by decide +kernel
theorem R93 : mK 93 = 0 := by decide +kernel
theorem c93_155 : cdA 93 155 = some (.pop) := by decide +kernel
theorem c93_28 : cdA 93 28 = some (.invokestatic 67) := by decide +kernel
theorem m93_67 : mthR (moN 93) 67 = 126 := by decide +kernel
theorem c93_31 : cdA 93 31 = some (.ifCond .eq 9) := by decide +kernel
theorem c93_40 : cdA 93 40 = some (.iload_n 2) := by decide +kernel
theorem c93_41 : cdA 93 41 = some (.ifCond .eq 27) := by decide +kernel
theorem c93_44 : cdA 93 44 = some (.aload_n 0) := by decide +kernel
theorem c93_45 : cdA 93 45 = some (.getfield 10) := by decide +kernel
theorem c93_48 : cdA 93 48 = some (.getfield 75) := by decide +kernel
theorem c93_51 : cdA 93 51 = some (.getfield 156) := by decide +kernel
theorem f93_156 : fldR (moN 93) 156 = some (4, 6) := by decide +kernel
theorem c93_54 : cdA 93 54 = some (.iload_n 1) := by decide +kernel
theorem c93_55 : cdA 93 55 = some (.iaload) := by decide +kernel
theorem c93_56 : cdA 93 56 = some (.bipush (-9)) := by decide +kernel
theorem c93_58 : cdA 93 58 = some (.if_icmp .ne 10) := by decide +kernel
theorem c93_61 : cdA 93 61 = some (.aload_n 0) := by decide +kernel
theorem c93_62 : cdA 93 62 = some (.bipush (-3)) := by decide +kernel
theorem c93_64 : cdA 93 64 = some (.invokevirtual 71) := by decide +kernel
theorem m93_71 : mthR (moN 93) 71 = 124 := by decide +kernel
theorem c93_34 : cdA 93 34 = some (.aload_n 0) := by decide +kernel
theorem c93_35 : cdA 93 35 = some (.iconst (-1)) := by decide +kernel
theorem c93_36 : cdA 93 36 = some (.invokevirtual 71) := by decide +kernel
theorem c93_39 : cdA 93 39 = some (.ireturn) := by decide +kernel
theorem c93_67 : cdA 93 67 = some (.ireturn) := by decide +kernel
theorem c93_68 : cdA 93 68 = some (.iload_n 3) := by decide +kernel
theorem c93_69 : cdA 93 69 = some (.iconst 4) := by decide +kernel
theorem c93_70 : cdA 93 70 = some (.invokestatic 67) := by decide +kernel
theorem c93_73 : cdA 93 73 = some (.ifCond .eq 10) := by decide +kernel
theorem c93_83 : cdA 93 83 = some (.iload_n 2) := by decide +kernel
theorem c93_84 : cdA 93 84 = some (.ifCond .eq 18) := by decide +kernel
theorem c93_102 : cdA 93 102 = some (.aload_n 0) := by decide +kernel
theorem c93_103 : cdA 93 103 = some (.getfield 10) := by decide +kernel
theorem c93_106 : cdA 93 106 = some (.getfield 153) := by decide +kernel
theorem c93_109 : cdA 93 109 = some (.getfield 159) := by decide +kernel
theorem f93_159 : fldR (moN 93) 159 = some (3, 5) := by decide +kernel
theorem c93_112 : cdA 93 112 = some (.iload_n 1) := by decide +kernel
theorem c93_113 : cdA 93 113 = some (.iaload) := by decide +kernel
theorem c93_87 : cdA 93 87 = some (.aload_n 0) := by decide +kernel
theorem c93_88 : cdA 93 88 = some (.getfield 10) := by decide +kernel
theorem c93_91 : cdA 93 91 = some (.getfield 75) := by decide +kernel
theorem c93_94 : cdA 93 94 = some (.getfield 156) := by decide +kernel
theorem c93_97 : cdA 93 97 = some (.iload_n 1) := by decide +kernel
theorem c93_98 : cdA 93 98 = some (.iaload) := by decide +kernel
theorem c93_99 : cdA 93 99 = some (.goto 15) := by decide +kernel
theorem c93_76 : cdA 93 76 = some (.aload_n 0) := by decide +kernel
theorem c93_77 : cdA 93 77 = some (.bipush (-2)) := by decide +kernel
theorem c93_79 : cdA 93 79 = some (.invokevirtual 71) := by decide +kernel
theorem c93_82 : cdA 93 82 = some (.ireturn) := by decide +kernel
theorem b93_0 {d : Nat} {h : HP} {Q : PV → HP → Prop} {v1 v2 v3 : Int} (H : ((v2 = 0) → X d 93 28 [some (P 0), some (I v1), some (I v2), some (I v3), none] [I (h 26 2), I v1] h Q) ∧ (¬ (v2 = 0) → X d 93 28 [some (P 0), some (I v1), some (I v2), some (I v3), none] [I (h 2 0), I v1] h Q)) : X d 93 0 [some (P 0), some (I v1), some (I v2), some (I v3), none] [] h Q :=
  s_iload_n c93_0 rfl (s_iload_n c93_1 rfl (s_if 18 (v2 = 0) c93_2 (by decide) rfl ⟨fun q1 => s_aload_n c93_18 rfl (s_getP 1 c93_19 f93_10 t11_0 sh_0 g_0_0 (by decide) (by decide) (s_getP 26 c93_22 f93_153 t1_4 sh_1 g_1_4 (by decide) (by decide) (s_getI c93_25 f93_150 t3_2 sh_26 ((H.1 q1))))), fun q1 => s_aload_n c93_5 rfl (s_getP 1 c93_6 f93_10 t11_0 sh_0 g_0_0 (by decide) (by decide) (s_getP 2 c93_9 f93_75 t1_0 sh_1 g_1_0 (by decide) (by decide) (s_getI c93_12 f93_79 t4_0 sh_2 (s_goto 28 c93_15 (by decide) ((H.2 q1))))))⟩))
theorem b93_114 {d : Nat} {h : HP} {Q : PV → HP → Prop} {v1 v2 v3 s0 : Int} (H : ((v2 = 0) → X d 2 0 [some (P 57), some (I 1), some (I v1), some (I v3), none] [] h (fun r h' => X (d + 1) 93 155 [some (P 0), some (I v1), some (I v2), some (I v3), some (I s0)] [r] h' Q)) ∧ (¬ (v2 = 0) → X d 22 0 [some (P 2), some (I v1), some (I v3)] [] h (fun r h' => X (d + 1) 93 138 [some (P 0), some (I v1), some (I v2), some (I v3), some (I s0)] [r, I v1, I 2, P 57] h' Q))) : X (d + 1) 93 114 [some (P 0), some (I v1), some (I v2), some (I v3), none] [I s0] h Q :=
  s_istore c93_114 rfl (s_iload_n c93_116 rfl (s_if 145 (v2 = 0) c93_117 (by decide) rfl ⟨fun q2 => s_aload_n c93_145 rfl (s_getP 57 c93_146 f93_44 t11_4 sh_0 g_0_4 (by decide) (by decide) (s_iconst c93_149 rfl (s_iload_n c93_150 rfl (s_iload_n c93_151 rfl (s_cVi c93_152 m93_124 F2 K2 rfl (Nat.le_of_ble_eq_true rfl) rfl S2_57 rfl (H.1 q2)))))), fun q2 => s_aload_n c93_120 rfl (s_getP 57 c93_121 f93_44 t11_4 sh_0 g_0_4 (by decide) (by decide) (s_iconst c93_124 rfl (s_iload_n c93_125 rfl (s_aload_n c93_126 rfl (s_getP 1 c93_127 f93_10 t11_0 sh_0 g_0_0 (by decide) (by decide) (s_getP 2 c93_130 f93_75 t1_0 sh_1 g_1_0 (by decide) (by decide) (s_iload_n c93_133 rfl (s_iload_n c93_134 rfl (s_cVi c93_135 m93_162 F22 K22 rfl (Nat.le_of_ble_eq_true rfl) rfl S22_2 rfl (H.2 q2))))))))))⟩))
theorem b93_138 {d : Nat} {h : HP} {Q : PV → HP → Prop} {v1 v2 v3 v4 s1 s2 s3 : Int} (H : X d 2 0 [some (P 57), some (I s1), some (I s2), some (I s3), none] [] h (fun r h' => X (d + 1) 93 141 [some (P 0), some (I v1), some (I v2), some (I v3), some (I v4)] [r] h' Q)) : X (d + 1) 93 138 [some (P 0), some (I v1), some (I v2), some (I v3), some (I v4)] [I s3, I s2, I s1, P 57] h Q :=
  s_cVi c93_138 m93_124 F2 K2 rfl (Nat.le_of_ble_eq_true rfl) rfl S2_57 rfl H
theorem b93_141 {d : Nat} {h : HP} {Q : PV → HP → Prop} {v1 v2 v3 v4 s0 : Int} (H : Q (I v4) h) : X d 93 141 [some (P 0), some (I v1), some (I v2), some (I v3), some (I v4)] [I s0] h Q :=
  s_pop c93_141 (s_goto 156 c93_142 (by decide) (s_iload c93_156 rfl (s_retI c93_158 R93 H)))
theorem b93_155 {d : Nat} {h : HP} {Q : PV → HP → Prop} {v1 v2 v3 v4 s0 : Int} (H : Q (I v4) h) : X d 93 155 [some (P 0), some (I v1), some (I v2), some (I v3), some (I v4)] [I s0] h Q :=
  s_pop c93_155 (s_iload c93_156 rfl (s_retI c93_158 R93 H))
theorem b93_28 {d : Nat} {h : HP} {Q : PV → HP → Prop} {v1 v2 v3 s0 s1 : Int} (H : X d 123 0 [some (I s0), some (I s1)] [] h (fun r h' => X (d + 1) 93 31 [some (P 0), some (I v1), some (I v2), some (I v3), none] [r] h' Q)) : X (d + 1) 93 28 [some (P 0), some (I v1), some (I v2), some (I v3), none] [I s1, I s0] h Q :=
  s_cSi c93_28 m93_67 F123 K123 rfl (Nat.le_of_ble_eq_true rfl) rfl rfl H
theorem b93_31 {d : Nat} {h : HP} {Q : PV → HP → Prop} {v1 v2 v3 s0 : Int} (H : ((s0 = 0) → (((v2 = 0) → X (d + 1) 93 68 [some (P 0), some (I v1), some (I v2), some (I v3), none] [] h Q) ∧ (¬ (v2 = 0) → ((0 ≤ v1 ∧ v1 < 8) ∧ (((¬ (h 8 v1.toNat) = (-9)) → X (d + 1) 93 68 [some (P 0), some (I v1), some (I v2), some (I v3), none] [] h Q) ∧ (¬ (¬ (h 8 v1.toNat) = (-9)) → X d 121 0 [some (P 0), some (I (-3))] [] h (fun r h' => X (d + 1) 93 67 [some (P 0), some (I v1), some (I v2), some (I v3), none] [r] h' Q))))))) ∧ (¬ (s0 = 0) → X d 121 0 [some (P 0), some (I (-1))] [] h (fun r h' => X (d + 1) 93 39 [some (P 0), some (I v1), some (I v2), some (I v3), none] [r] h' Q))) : X (d + 1) 93 31 [some (P 0), some (I v1), some (I v2), some (I v3), none] [I s0] h Q :=
  s_if 40 (s0 = 0) c93_31 (by decide) rfl ⟨fun q3 => s_iload_n c93_40 rfl (s_if 68 (v2 = 0) c93_41 (by decide) rfl ⟨fun q4 => ((H.1 q3).1 q4), fun q4 => s_aload_n c93_44 rfl (s_getP 1 c93_45 f93_10 t11_0 sh_0 g_0_0 (by decide) (by decide) (s_getP 2 c93_48 f93_75 t1_0 sh_1 g_1_0 (by decide) (by decide) (s_getP 8 c93_51 f93_156 t4_6 sh_2 g_2_6 (by decide) (by decide) (s_iload_n c93_54 rfl (s_iald c93_55 sh_8 ⟨((H.1 q3).2 q4).1, s_bipush c93_56 ⟨by decide, by decide⟩ (s_ifc 68 (¬ (h 8 v1.toNat) = (-9)) c93_58 (by decide) rfl ⟨fun q5 => (((H.1 q3).2 q4).2.1 q5), fun q5 => s_aload_n c93_61 rfl (s_bipush c93_62 ⟨by decide, by decide⟩ (s_cVi c93_64 m93_71 F121 K121 rfl (Nat.le_of_ble_eq_true rfl) rfl S121_0 rfl (((H.1 q3).2 q4).2.2 q5)))⟩)⟩)))))⟩), fun q3 => s_aload_n c93_34 rfl (s_iconst c93_35 rfl (s_cVi c93_36 m93_71 F121 K121 rfl (Nat.le_of_ble_eq_true rfl) rfl S121_0 rfl (H.2 q3)))⟩
theorem b93_39 {d : Nat} {h : HP} {Q : PV → HP → Prop} {v1 v2 v3 s0 : Int} (H : Q (I s0) h) : X d 93 39 [some (P 0), some (I v1), some (I v2), some (I v3), none] [I s0] h Q :=
  s_retI c93_39 R93 H
theorem b93_67 {d : Nat} {h : HP} {Q : PV → HP → Prop} {v1 v2 v3 s0 : Int} (H : Q (I s0) h) : X d 93 67 [some (P 0), some (I v1), some (I v2), some (I v3), none] [I s0] h Q :=
  s_retI c93_67 R93 H
theorem b93_68 {d : Nat} {h : HP} {Q : PV → HP → Prop} {v1 v2 v3 : Int} (H : X d 123 0 [some (I v3), some (I 4)] [] h (fun r h' => X (d + 1) 93 73 [some (P 0), some (I v1), some (I v2), some (I v3), none] [r] h' Q)) : X (d + 1) 93 68 [some (P 0), some (I v1), some (I v2), some (I v3), none] [] h Q :=
  s_iload_n c93_68 rfl (s_iconst c93_69 rfl (s_cSi c93_70 m93_67 F123 K123 rfl (Nat.le_of_ble_eq_true rfl) rfl rfl H))
theorem b93_73 {d : Nat} {h : HP} {Q : PV → HP → Prop} {v1 v2 v3 s0 : Int} (H : ((s0 = 0) → (((v2 = 0) → ((0 ≤ v1 ∧ v1 < 4) ∧ X (d + 1) 93 114 [some (P 0), some (I v1), some (I v2), some (I v3), none] [I (h 29 v1.toNat)] h Q)) ∧ (¬ (v2 = 0) → ((0 ≤ v1 ∧ v1 < 8) ∧ X (d + 1) 93 114 [some (P 0), some (I v1), some (I v2), some (I v3), none] [I (h 8 v1.toNat)] h Q)))) ∧ (¬ (s0 = 0) → X d 121 0 [some (P 0), some (I (-2))] [] h (fun r h' => X (d + 1) 93 82 [some (P 0), some (I v1), some (I v2), some (I v3), none] [r] h' Q))) : X (d + 1) 93 73 [some (P 0), some (I v1), some (I v2), some (I v3), none] [I s0] h Q :=
  s_if 83 (s0 = 0) c93_73 (by decide) rfl ⟨fun q6 => s_iload_n c93_83 rfl (s_if 102 (v2 = 0) c93_84 (by decide) rfl ⟨fun q7 => s_aload_n c93_102 rfl (s_getP 1 c93_103 f93_10 t11_0 sh_0 g_0_0 (by decide) (by decide) (s_getP 26 c93_106 f93_153 t1_4 sh_1 g_1_4 (by decide) (by decide) (s_getP 29 c93_109 f93_159 t3_5 sh_26 g_26_5 (by decide) (by decide) (s_iload_n c93_112 rfl (s_iald c93_113 sh_29 ⟨((H.1 q6).1 q7).1, ((H.1 q6).1 q7).2⟩))))), fun q7 => s_aload_n c93_87 rfl (s_getP 1 c93_88 f93_10 t11_0 sh_0 g_0_0 (by decide) (by decide) (s_getP 2 c93_91 f93_75 t1_0 sh_1 g_1_0 (by decide) (by decide) (s_getP 8 c93_94 f93_156 t4_6 sh_2 g_2_6 (by decide) (by decide) (s_iload_n c93_97 rfl (s_iald c93_98 sh_8 ⟨((H.1 q6).2 q7).1, s_goto 114 c93_99 (by decide) (((H.1 q6).2 q7).2)⟩)))))⟩), fun q6 => s_aload_n c93_76 rfl (s_bipush c93_77 ⟨by decide, by decide⟩ (s_cVi c93_79 m93_71 F121 K121 rfl (Nat.le_of_ble_eq_true rfl) rfl S121_0 rfl (H.2 q6)))⟩
theorem b93_82 {d : Nat} {h : HP} {Q : PV → HP → Prop} {v1 v2 v3 s0 : Int} (H : Q (I s0) h) : X d 93 82 [some (P 0), some (I v1), some (I v2), some (I v3), none] [I s0] h Q :=
  s_retI c93_82 R93 H
-- WarmSide.feed(IJ)I
theorem c94_0 : cdA 94 0 = some (.iload_n 1) := by decide +kernel
theorem c94_1 : cdA 94 1 = some (.iconst 1) := by decide +kernel
theorem c94_2 : cdA 94 2 = some (.if_icmp .ge 10) := by decide +kernel
theorem c94_12 : cdA 94 12 = some (.iload_n 1) := by decide +kernel
theorem c94_13 : cdA 94 13 = some (.bipush 8) := by decide +kernel
theorem c94_15 : cdA 94 15 = some (.if_icmp .gt 17) := by decide +kernel
theorem c94_18 : cdA 94 18 = some (.aload_n 0) := by decide +kernel
theorem c94_19 : cdA 94 19 = some (.getfield 21) := by decide +kernel
theorem f94_21 : fldR (moN 94) 21 = some (11, 1) := by decide +kernel
theorem t11_1 : fcl 11 1 = 2 := by decide +kernel
theorem c94_22 : cdA 94 22 = some (.getfield 166) := by decide +kernel
theorem f94_166 : fldR (moN 94) 166 = some (5, 1) := by decide +kernel
theorem c94_25 : cdA 94 25 = some (.iload_n 1) := by decide +kernel
theorem c94_26 : cdA 94 26 = some (.iadd) := by decide +kernel
theorem c94_27 : cdA 94 27 = some (.bipush 40) := by decide +kernel
theorem c94_29 : cdA 94 29 = some (.if_icmp .le 10) := by decide +kernel
theorem c94_39 : cdA 94 39 = some (.aload_n 0) := by decide +kernel
theorem c94_40 : cdA 94 40 = some (.getfield 21) := by decide +kernel
theorem c94_43 : cdA 94 43 = some (.iload_n 1) := by decide +kernel
theorem c94_44 : cdA 94 44 = some (.lload_n 2) := by decide +kernel
theorem c94_45 : cdA 94 45 = some (.invokevirtual 169) := by decide +kernel
theorem m94_169 : mthR (moN 94) 169 = 28 := by decide +kernel
theorem F25 : mF 25 2 5 true := by unfold mF; decide +kernel
theorem K25 : ¬ mK 25 = 4 := by decide +kernel
theorem S25_36 : SH0[36]? = some (.inl (moN 25)) := by decide +kernel
theorem c94_5 : cdA 94 5 = some (.aload_n 0) := by decide +kernel
theorem c94_6 : cdA 94 6 = some (.bipush (-4)) := by decide +kernel
theorem c94_8 : cdA 94 8 = some (.invokevirtual 71) := by decide +kernel
theorem m94_71 : mthR (moN 94) 71 = 124 := by decide +kernel
theorem c94_11 : cdA 94 11 = some (.ireturn) := by decide +kernel
theorem R94 : mK 94 = 0 := by decide +kernel
theorem c94_32 : cdA 94 32 = some (.aload_n 0) := by decide +kernel
theorem c94_33 : cdA 94 33 = some (.bipush (-6)) := by decide +kernel
theorem c94_35 : cdA 94 35 = some (.invokevirtual 71) := by decide +kernel
theorem c94_38 : cdA 94 38 = some (.ireturn) := by decide +kernel
theorem c94_48 : cdA 94 48 = some (.ireturn) := by decide +kernel
theorem b94_0 {d : Nat} {h : HP} {Q : PV → HP → Prop} {v1 v2 : Int} (H : ((1 ≤ v1) → (((8 < v1) → X (d + 1) 94 32 [some (P 0), some (I v1), some (J v2), none] [] h Q) ∧ (¬ (8 < v1) → ((((w32 ((h 36 1) + v1)) ≤ 40) → X d 25 0 [some (P 36), some (I v1), some (J v2), none, none] [] h (fun r h' => X (d + 1) 94 48 [some (P 0), some (I v1), some (J v2), none] [r] h' Q)) ∧ (¬ ((w32 ((h 36 1) + v1)) ≤ 40) → X (d + 1) 94 32 [some (P 0), some (I v1), some (J v2), none] [] h Q))))) ∧ (¬ (1 ≤ v1) → X d 121 0 [some (P 0), some (I (-4))] [] h (fun r h' => X (d + 1) 94 11 [some (P 0), some (I v1), some (J v2), none] [r] h' Q))) : X (d + 1) 94 0 [some (P 0), some (I v1), some (J v2), none] [] h Q :=
  s_iload_n c94_0 rfl (s_iconst c94_1 rfl (s_ifc 12 (1 ≤ v1) c94_2 (by decide) rfl ⟨fun q1 => s_iload_n c94_12 rfl (s_bipush c94_13 ⟨by decide, by decide⟩ (s_ifc 32 (8 < v1) c94_15 (by decide) rfl ⟨fun q2 => ((H.1 q1).1 q2), fun q2 => s_aload_n c94_18 rfl (s_getP 36 c94_19 f94_21 t11_1 sh_0 g_0_1 (by decide) (by decide) (s_getI c94_22 f94_166 t5_1 sh_36 (s_iload_n c94_25 rfl (s_iadd c94_26 (s_bipush c94_27 ⟨by decide, by decide⟩ (s_ifc 39 ((w32 ((h 36 1) + v1)) ≤ 40) c94_29 (by decide) rfl ⟨fun q3 => s_aload_n c94_39 rfl (s_getP 36 c94_40 f94_21 t11_1 sh_0 g_0_1 (by decide) (by decide) (s_iload_n c94_43 rfl (s_lload_n c94_44 rfl (s_cVi c94_45 m94_169 F25 K25 rfl (Nat.le_of_ble_eq_true rfl) rfl S25_36 rfl (((H.1 q1).2 q2).1 q3))))), fun q3 => (((H.1 q1).2 q2).2 q3)⟩))))))⟩)), fun q1 => s_aload_n c94_5 rfl (s_bipush c94_6 ⟨by decide, by decide⟩ (s_cVi c94_8 m94_71 F121 K121 rfl (Nat.le_of_ble_eq_true rfl) rfl S121_0 rfl (H.2 q1)))⟩))
theorem b94_11 {d : Nat} {h : HP} {Q : PV → HP → Prop} {v1 v2 s0 : Int} (H : Q (I s0) h) : X d 94 11 [some (P 0), some (I v1), some (J v2), none] [I s0] h Q :=
  s_retI c94_11 R94 H
theorem b94_32 {d : Nat} {h : HP} {Q : PV → HP → Prop} {v1 v2 : Int} (H : X d 121 0 [some (P 0), some (I (-6))] [] h (fun r h' => X (d + 1) 94 38 [some (P 0), some (I v1), some (J v2), none] [r] h' Q)) : X (d + 1) 94 32 [some (P 0), some (I v1), some (J v2), none] [] h Q :=
  s_aload_n c94_32 rfl (s_bipush c94_33 ⟨by decide, by decide⟩ (s_cVi c94_35 m94_71 F121 K121 rfl (Nat.le_of_ble_eq_true rfl) rfl S121_0 rfl H))
theorem b94_38 {d : Nat} {h : HP} {Q : PV → HP → Prop} {v1 v2 s0 : Int} (H : Q (I s0) h) : X d 94 38 [some (P 0), some (I v1), some (J v2), none] [I s0] h Q :=
  s_retI c94_38 R94 H
theorem b94_48 {d : Nat} {h : HP} {Q : PV → HP → Prop} {v1 v2 s0 : Int} (H : Q (I s0) h) : X d 94 48 [some (P 0), some (I v1), some (J v2), none] [I s0] h Q :=
  s_retI c94_48 R94 H
-- WarmSide.text()I
theorem c95_0 : cdA 95 0 = some (.aload_n 0) := by decide +kernel
theorem c95_1 : cdA 95 1 = some (.getfield 21) := by decide +kernel
theorem f95_21 : fldR (moN 95) 21 = some (11, 1) := by decide +kernel
theorem c95_4 : cdA 95 4 = some (.invokevirtual 173) := by decide +kernel
theorem m95_173 : mthR (moN 95) 173 = 29 := by decide +kernel
theorem F26 : mF 26 0 3 true := by unfold mF; decide +kernel
theorem K26 : ¬ mK 26 = 4 := by decide +kernel
theorem S26_36 : SH0[36]? = some (.inl (moN 26)) := by decide +kernel
theorem c95_7 : cdA 95 7 = some (.istore_n 1) := by decide +kernel
theorem c95_8 : cdA 95 8 = some (.iload_n 1) := by decide +kernel
theorem c95_9 : cdA 95 9 = some (.ifCond .ge 7) := by decide +kernel
theorem c95_16 : cdA 95 16 = some (.bipush (-20)) := by decide +kernel
theorem c95_18 : cdA 95 18 = some (.iload_n 1) := by decide +kernel
theorem c95_19 : cdA 95 19 = some (.isub) := by decide +kernel
theorem c95_20 : cdA 95 20 = some (.ireturn) := by decide +kernel
theorem R95 : mK 95 = 0 := by decide +kernel
theorem c95_12 : cdA 95 12 = some (.iconst 1) := by decide +kernel
theorem c95_13 : cdA 95 13 = some (.goto 7) := by decide +kernel
theorem b95_0 {d : Nat} {h : HP} {Q : PV → HP → Prop} (H : X d 26 0 [some (P 36), none, none] [] h (fun r h' => X (d + 1) 95 7 [some (P 0), none] [r] h' Q)) : X (d + 1) 95 0 [some (P 0), none] [] h Q :=
  s_aload_n c95_0 rfl (s_getP 36 c95_1 f95_21 t11_1 sh_0 g_0_1 (by decide) (by decide) (s_cVi c95_4 m95_173 F26 K26 rfl (Nat.le_of_ble_eq_true rfl) rfl S26_36 rfl H))
theorem b95_7 {d : Nat} {h : HP} {Q : PV → HP → Prop} {s0 : Int} (H : ((0 ≤ s0) → Q (I (w32 ((-20) - s0))) h) ∧ (¬ (0 ≤ s0) → Q (I 1) h)) : X d 95 7 [some (P 0), none] [I s0] h Q :=
  s_istore_n c95_7 rfl (s_iload_n c95_8 rfl (s_if 16 (0 ≤ s0) c95_9 (by decide) rfl ⟨fun q1 => s_bipush c95_16 ⟨by decide, by decide⟩ (s_iload_n c95_18 rfl (s_isub c95_19 (s_retI c95_20 R95 (H.1 q1)))), fun q1 => s_iconst c95_12 rfl (s_goto 20 c95_13 (by decide) (s_retI c95_20 R95 (H.2 q1)))⟩))
-- WarmSide.year(I)I
theorem c96_0 : cdA 96 0 = some (.iload_n 1) := by decide +kernel
theorem c96_1 : cdA 96 1 = some (.bipush 10) := by decide +kernel
theorem c96_3 : cdA 96 3 = some (.invokestatic 67) := by decide +kernel
theorem m96_67 : mthR (moN 96) 67 = 126 := by decide +kernel
theorem c96_14 : cdA 96 14 = some (.ireturn) := by decide +kernel
theorem R96 : mK 96 = 0 := by decide +kernel
theorem c96_6 : cdA 96 6 = some (.ifCond .eq 9) := by decide +kernel
theorem c96_15 : cdA 96 15 = some (.aload_n 0) := by decide +kernel
theorem c96_16 : cdA 96 16 = some (.getfield 10) := by decide +kernel
theorem f96_10 : fldR (moN 96) 10 = some (11, 0) := by decide +kernel
theorem c96_19 : cdA 96 19 = some (.getfield 100) := by decide +kernel
theorem f96_100 : fldR (moN 96) 100 = some (1, 5) := by decide +kernel
theorem c96_22 : cdA 96 22 = some (.getfield 177) := by decide +kernel
theorem f96_177 : fldR (moN 96) 177 = some (8, 5) := by decide +kernel
theorem c96_25 : cdA 96 25 = some (.istore_n 2) := by decide +kernel
theorem c96_26 : cdA 96 26 = some (.aload_n 0) := by decide +kernel
theorem c96_27 : cdA 96 27 = some (.getfield 10) := by decide +kernel
theorem c96_30 : cdA 96 30 = some (.getfield 100) := by decide +kernel
theorem c96_33 : cdA 96 33 = some (.iload_n 1) := by decide +kernel
theorem c96_34 : cdA 96 34 = some (.putfield 177) := by decide +kernel
theorem n8_5 : ffin 8 5 = false := by decide +kernel
theorem c96_37 : cdA 96 37 = some (.iload_n 2) := by decide +kernel
theorem c96_38 : cdA 96 38 = some (.ireturn) := by decide +kernel
theorem c96_9 : cdA 96 9 = some (.aload_n 0) := by decide +kernel
theorem c96_10 : cdA 96 10 = some (.iconst (-1)) := by decide +kernel
theorem c96_11 : cdA 96 11 = some (.invokevirtual 71) := by decide +kernel
theorem m96_71 : mthR (moN 96) 71 = 124 := by decide +kernel
theorem b96_0 {d : Nat} {h : HP} {Q : PV → HP → Prop} {v1 : Int} (H : X d 123 0 [some (I v1), some (I 10)] [] h (fun r h' => X (d + 1) 96 6 [some (P 0), some (I v1), none] [r] h' Q)) : X (d + 1) 96 0 [some (P 0), some (I v1), none] [] h Q :=
  s_iload_n c96_0 rfl (s_bipush c96_1 ⟨by decide, by decide⟩ (s_cSi c96_3 m96_67 F123 K123 rfl (Nat.le_of_ble_eq_true rfl) rfl rfl H))
theorem b96_14 {d : Nat} {h : HP} {Q : PV → HP → Prop} {v1 s0 : Int} (H : Q (I s0) h) : X d 96 14 [some (P 0), some (I v1), none] [I s0] h Q :=
  s_retI c96_14 R96 H
theorem b96_6 {d : Nat} {h : HP} {Q : PV → HP → Prop} {v1 s0 : Int} (H : ((s0 = 0) → Q (I (h 30 5)) (up2 h 30 5 v1)) ∧ (¬ (s0 = 0) → X d 121 0 [some (P 0), some (I (-1))] [] h (fun r h' => X (d + 1) 96 14 [some (P 0), some (I v1), none] [r] h' Q))) : X (d + 1) 96 6 [some (P 0), some (I v1), none] [I s0] h Q :=
  s_if 15 (s0 = 0) c96_6 (by decide) rfl ⟨fun q1 => s_aload_n c96_15 rfl (s_getP 1 c96_16 f96_10 t11_0 sh_0 g_0_0 (by decide) (by decide) (s_getP 30 c96_19 f96_100 t1_5 sh_1 g_1_5 (by decide) (by decide) (s_getI c96_22 f96_177 t8_5 sh_30 (s_istore_n c96_25 rfl (s_aload_n c96_26 rfl (s_getP 1 c96_27 f96_10 t11_0 sh_0 g_0_0 (by decide) (by decide) (s_getP 30 c96_30 f96_100 t1_5 sh_1 g_1_5 (by decide) (by decide) (s_iload_n c96_33 rfl (s_putI c96_34 f96_177 t8_5 n8_5 sh_30 (s_iload_n c96_37 rfl (s_retI c96_38 R96 (H.1 q1)))))))))))), fun q1 => s_aload_n c96_9 rfl (s_iconst c96_10 rfl (s_cVi c96_11 m96_71 F121 K121 rfl (Nat.le_of_ble_eq_true rfl) rfl S121_0 rfl (H.2 q1)))⟩
-- WarmSide.ticks(I)I
theorem c97_0 : cdA 97 0 = some (.iload_n 1) := by decide +kernel
theorem c97_1 : cdA 97 1 = some (.iconst 1) := by decide +kernel
theorem c97_2 : cdA 97 2 = some (.if_icmp .ge 10) := by decide +kernel
theorem c97_12 : cdA 97 12 = some (.iload_n 1) := by decide +kernel
theorem c97_13 : cdA 97 13 = some (.sipush 200) := by decide +kernel
theorem c97_16 : cdA 97 16 = some (.if_icmp .gt 15) := by decide +kernel
theorem c97_19 : cdA 97 19 = some (.aload_n 0) := by decide +kernel
theorem c97_20 : cdA 97 20 = some (.getfield 63) := by decide +kernel
theorem f97_63 : fldR (moN 97) 63 = some (11, 8) := by decide +kernel
theorem t11_8 : fcl 11 8 = 0 := by decide +kernel
theorem c97_23 : cdA 97 23 = some (.iload_n 1) := by decide +kernel
theorem c97_24 : cdA 97 24 = some (.iadd) := by decide +kernel
theorem c97_25 : cdA 97 25 = some (.sipush 9999) := by decide +kernel
theorem c97_28 : cdA 97 28 = some (.if_icmp .le 10) := by decide +kernel
theorem c97_38 : cdA 97 38 = some (.iconst 0) := by decide +kernel
theorem c97_39 : cdA 97 39 = some (.istore_n 2) := by decide +kernel
theorem c97_5 : cdA 97 5 = some (.aload_n 0) := by decide +kernel
theorem c97_6 : cdA 97 6 = some (.bipush (-4)) := by decide +kernel
theorem c97_8 : cdA 97 8 = some (.invokevirtual 71) := by decide +kernel
theorem m97_71 : mthR (moN 97) 71 = 124 := by decide +kernel
theorem c97_11 : cdA 97 11 = some (.ireturn) := by decide +kernel
theorem R97 : mK 97 = 0 := by decide +kernel
theorem c97_133 : cdA 97 133 = some (.aload_n 0) := by decide +kernel
theorem c97_134 : cdA 97 134 = some (.getfield 63) := by decide +kernel
theorem c97_137 : cdA 97 137 = some (.ireturn) := by decide +kernel
theorem c97_31 : cdA 97 31 = some (.aload_n 0) := by decide +kernel
theorem c97_32 : cdA 97 32 = some (.bipush (-6)) := by decide +kernel
theorem c97_34 : cdA 97 34 = some (.invokevirtual 71) := by decide +kernel
theorem c97_37 : cdA 97 37 = some (.ireturn) := by decide +kernel
theorem c97_40 : cdA 97 40 = some (.iload_n 2) := by decide +kernel
theorem c97_41 : cdA 97 41 = some (.iload_n 1) := by decide +kernel
theorem c97_42 : cdA 97 42 = some (.if_icmp .ge 84) := by decide +kernel
theorem c97_126 : cdA 97 126 = some (.aload_n 0) := by decide +kernel
theorem c97_127 : cdA 97 127 = some (.getfield 44) := by decide +kernel
theorem f97_44 : fldR (moN 97) 44 = some (11, 4) := by decide +kernel
theorem c97_130 : cdA 97 130 = some (.invokevirtual 193) := by decide +kernel
theorem m97_193 : mthR (moN 97) 193 = 4 := by decide +kernel
theorem F1 : mF 1 0 1 true := by unfold mF; decide +kernel
theorem K1 : mK 1 = 4 := by decide +kernel
theorem S1_57 : SH0[57]? = some (.inl (moN 1)) := by decide +kernel
theorem c97_45 : cdA 97 45 = some (.aload_n 0) := by decide +kernel
theorem c97_46 : cdA 97 46 = some (.getfield 37) := by decide +kernel
theorem f97_37 : fldR (moN 97) 37 = some (11, 3) := by decide +kernel
theorem t11_3 : fcl 11 3 = 2 := by decide +kernel
theorem c97_49 : cdA 97 49 = some (.aload_n 0) := by decide +kernel
theorem c97_50 : cdA 97 50 = some (.getfield 63) := by decide +kernel
theorem c97_53 : cdA 97 53 = some (.bipush 12) := by decide +kernel
theorem c97_55 : cdA 97 55 = some (.irem) := by decide +kernel
theorem c97_56 : cdA 97 56 = some (.invokevirtual 180) := by decide +kernel
theorem m97_180 : mthR (moN 97) 180 = 45 := by decide +kernel
theorem c97_59 : cdA 97 59 = some (.aload_n 0) := by decide +kernel
theorem c97_60 : cdA 97 60 = some (.getfield 55) := by decide +kernel
theorem f97_55 : fldR (moN 97) 55 = some (11, 6) := by decide +kernel
theorem t11_6 : fcl 11 6 = 2 := by decide +kernel
theorem c97_63 : cdA 97 63 = some (.iconst 0) := by decide +kernel
theorem c97_64 : cdA 97 64 = some (.dup2) := by decide +kernel
theorem c97_65 : cdA 97 65 = some (.laload) := by decide +kernel
theorem c97_66 : cdA 97 66 = some (.aload_n 0) := by decide +kernel
theorem c97_67 : cdA 97 67 = some (.getfield 37) := by decide +kernel
theorem c97_70 : cdA 97 70 = some (.getfield 184) := by decide +kernel
theorem f97_184 : fldR (moN 97) 184 = some (6, 2) := by decide +kernel
theorem c97_73 : cdA 97 73 = some (.i2l) := by decide +kernel
theorem c97_74 : cdA 97 74 = some (.ladd) := by decide +kernel
theorem c97_75 : cdA 97 75 = some (.lastore) := by decide +kernel
theorem c97_76 : cdA 97 76 = some (.aload_n 0) := by decide +kernel
theorem c97_77 : cdA 97 77 = some (.getfield 55) := by decide +kernel
theorem c97_80 : cdA 97 80 = some (.iconst 1) := by decide +kernel
theorem c97_81 : cdA 97 81 = some (.dup2) := by decide +kernel
theorem c97_82 : cdA 97 82 = some (.laload) := by decide +kernel
theorem c97_83 : cdA 97 83 = some (.aload_n 0) := by decide +kernel
theorem c97_84 : cdA 97 84 = some (.getfield 37) := by decide +kernel
theorem c97_87 : cdA 97 87 = some (.getfield 187) := by decide +kernel
theorem f97_187 : fldR (moN 97) 187 = some (6, 3) := by decide +kernel
theorem c97_90 : cdA 97 90 = some (.i2l) := by decide +kernel
theorem c97_91 : cdA 97 91 = some (.ladd) := by decide +kernel
theorem c97_92 : cdA 97 92 = some (.lastore) := by decide +kernel
theorem c97_93 : cdA 97 93 = some (.aload_n 0) := by decide +kernel
theorem c97_94 : cdA 97 94 = some (.getfield 55) := by decide +kernel
theorem c97_97 : cdA 97 97 = some (.iconst 2) := by decide +kernel
theorem c97_98 : cdA 97 98 = some (.dup2) := by decide +kernel
theorem c97_99 : cdA 97 99 = some (.laload) := by decide +kernel
theorem c97_100 : cdA 97 100 = some (.aload_n 0) := by decide +kernel
theorem c97_101 : cdA 97 101 = some (.getfield 37) := by decide +kernel
theorem c97_104 : cdA 97 104 = some (.getfield 190) := by decide +kernel
theorem f97_190 : fldR (moN 97) 190 = some (6, 4) := by decide +kernel
theorem c97_107 : cdA 97 107 = some (.i2l) := by decide +kernel
theorem c97_108 : cdA 97 108 = some (.ladd) := by decide +kernel
theorem c97_109 : cdA 97 109 = some (.lastore) := by decide +kernel
theorem c97_110 : cdA 97 110 = some (.aload_n 0) := by decide +kernel
theorem c97_111 : cdA 97 111 = some (.dup) := by decide +kernel
theorem c97_112 : cdA 97 112 = some (.getfield 63) := by decide +kernel
theorem c97_115 : cdA 97 115 = some (.iconst 1) := by decide +kernel
theorem c97_116 : cdA 97 116 = some (.iadd) := by decide +kernel
theorem c97_117 : cdA 97 117 = some (.putfield 63) := by decide +kernel
theorem n11_8 : ffin 11 8 = false := by decide +kernel
theorem c97_120 : cdA 97 120 = some (.iinc 2 1) := by decide +kernel
theorem c97_123 : cdA 97 123 = some (.goto (-83)) := by decide +kernel
theorem b97_0 {d : Nat} {h : HP} {Q : PV → HP → Prop} {v1 : Int} (H : ((1 ≤ v1) → (((200 < v1) → X (d + 1) 97 31 [some (P 0), some (I v1), none] [] h Q) ∧ (¬ (200 < v1) → ((((w32 ((h 0 8) + v1)) ≤ 9999) → X (d + 1) 97 40 [some (P 0), some (I v1), some (I 0)] [] h Q) ∧ (¬ ((w32 ((h 0 8) + v1)) ≤ 9999) → X (d + 1) 97 31 [some (P 0), some (I v1), none] [] h Q))))) ∧ (¬ (1 ≤ v1) → X d 121 0 [some (P 0), some (I (-4))] [] h (fun r h' => X (d + 1) 97 11 [some (P 0), some (I v1), none] [r] h' Q))) : X (d + 1) 97 0 [some (P 0), some (I v1), none] [] h Q :=
  s_iload_n c97_0 rfl (s_iconst c97_1 rfl (s_ifc 12 (1 ≤ v1) c97_2 (by decide) rfl ⟨fun q1 => s_iload_n c97_12 rfl (s_sipush c97_13 ⟨by decide, by decide⟩ (s_ifc 31 (200 < v1) c97_16 (by decide) rfl ⟨fun q2 => ((H.1 q1).1 q2), fun q2 => s_aload_n c97_19 rfl (s_getI c97_20 f97_63 t11_8 sh_0 (s_iload_n c97_23 rfl (s_iadd c97_24 (s_sipush c97_25 ⟨by decide, by decide⟩ (s_ifc 38 ((w32 ((h 0 8) + v1)) ≤ 9999) c97_28 (by decide) rfl ⟨fun q3 => s_iconst c97_38 rfl (s_istore_n c97_39 rfl ((((H.1 q1).2 q2).1 q3))), fun q3 => (((H.1 q1).2 q2).2 q3)⟩)))))⟩)), fun q1 => s_aload_n c97_5 rfl (s_bipush c97_6 ⟨by decide, by decide⟩ (s_cVi c97_8 m97_71 F121 K121 rfl (Nat.le_of_ble_eq_true rfl) rfl S121_0 rfl (H.2 q1)))⟩))
theorem b97_11 {d : Nat} {h : HP} {Q : PV → HP → Prop} {v1 s0 : Int} (H : Q (I s0) h) : X d 97 11 [some (P 0), some (I v1), none] [I s0] h Q :=
  s_retI c97_11 R97 H
theorem b97_133 {d : Nat} {h : HP} {Q : PV → HP → Prop} {v1 v2 : Int} (H : Q (I (h 0 8)) h) : X d 97 133 [some (P 0), some (I v1), some (I v2)] [] h Q :=
  s_aload_n c97_133 rfl (s_getI c97_134 f97_63 t11_8 sh_0 (s_retI c97_137 R97 H))
theorem b97_31 {d : Nat} {h : HP} {Q : PV → HP → Prop} {v1 : Int} (H : X d 121 0 [some (P 0), some (I (-6))] [] h (fun r h' => X (d + 1) 97 37 [some (P 0), some (I v1), none] [r] h' Q)) : X (d + 1) 97 31 [some (P 0), some (I v1), none] [] h Q :=
  s_aload_n c97_31 rfl (s_bipush c97_32 ⟨by decide, by decide⟩ (s_cVi c97_34 m97_71 F121 K121 rfl (Nat.le_of_ble_eq_true rfl) rfl S121_0 rfl H))
theorem b97_37 {d : Nat} {h : HP} {Q : PV → HP → Prop} {v1 s0 : Int} (H : Q (I s0) h) : X d 97 37 [some (P 0), some (I v1), none] [I s0] h Q :=
  s_retI c97_37 R97 H
theorem b97_40 {d : Nat} {h : HP} {Q : PV → HP → Prop} {v1 v2 : Int} (H : ((v1 ≤ v2) → X d 1 0 [some (P 57)] [] h (fun _ h' => X (d + 1) 97 133 [some (P 0), some (I v1), some (I v2)] [] h' Q)) ∧ (¬ (v1 ≤ v2) → X d 42 0 [some (P 52), some (I (Int.tmod (h 0 8) 12)), none] [] h (fun _ h' => X (d + 1) 97 59 [some (P 0), some (I v1), some (I v2)] [] h' Q))) : X (d + 1) 97 40 [some (P 0), some (I v1), some (I v2)] [] h Q :=
  s_iload_n c97_40 rfl (s_iload_n c97_41 rfl (s_ifc 126 (v1 ≤ v2) c97_42 (by decide) rfl ⟨fun q4 => s_aload_n c97_126 rfl (s_getP 57 c97_127 f97_44 t11_4 sh_0 g_0_4 (by decide) (by decide) (s_cVv c97_130 m97_193 F1 K1 rfl (Nat.le_of_ble_eq_true rfl) rfl S1_57 rfl (H.1 q4))), fun q4 => s_aload_n c97_45 rfl (s_getP 52 c97_46 f97_37 t11_3 sh_0 g_0_3 (by decide) (by decide) (s_aload_n c97_49 rfl (s_getI c97_50 f97_63 t11_8 sh_0 (s_bipush c97_53 ⟨by decide, by decide⟩ (s_irem c97_55 (by decide) (s_cVv c97_56 m97_180 F42 K42 rfl (Nat.le_of_ble_eq_true rfl) rfl S42_52 rfl (H.2 q4)))))))⟩))
theorem b97_59 {d : Nat} {h : HP} {Q : PV → HP → Prop} {v1 v2 : Int} (H : X d 97 40 [some (P 0), some (I v1), some (I (w32 (v2 + 1)))] [] (up2 (up2 (up2 (up2 h 67 0 (w64 ((h 67 0) + (h 52 2)))) 67 1 (w64 ((h 67 1) + (h 52 3)))) 67 2 (w64 ((h 67 2) + (h 52 4)))) 0 8 (w32 ((h 0 8) + 1))) Q) : X d 97 59 [some (P 0), some (I v1), some (I v2)] [] h Q :=
  s_aload_n c97_59 rfl (s_getP 67 c97_60 f97_55 t11_6 sh_0 g_0_6 (by decide) (by decide) (s_iconst c97_63 rfl (s_dup2 c97_64 (s_lald c97_65 sh_67 ⟨⟨by decide, by decide⟩, (s_aload_n c97_66 rfl (s_getP 52 c97_67 f97_37 t11_3 sh_0 g_0_3 (by decide) (by decide) (s_getI c97_70 f97_184 t6_2 sh_52 (s_i2l c97_73 (s_ladd c97_74 (s_last c97_75 sh_67 ⟨⟨by decide, by decide⟩, s_aload_n c97_76 rfl (s_getP 67 c97_77 f97_55 t11_6 sh_0 g_0_6 (by decide) (by decide) (s_iconst c97_80 rfl (s_dup2 c97_81 (s_lald c97_82 sh_67 ⟨⟨by decide, by decide⟩, (s_aload_n c97_83 rfl (s_getP 52 c97_84 f97_37 t11_3 sh_0 g_0_3 (by decide) (by decide) (s_getI c97_87 f97_187 t6_3 sh_52 (s_i2l c97_90 (s_ladd c97_91 (s_last c97_92 sh_67 ⟨⟨by decide, by decide⟩, s_aload_n c97_93 rfl (s_getP 67 c97_94 f97_55 t11_6 sh_0 g_0_6 (by decide) (by decide) (s_iconst c97_97 rfl (s_dup2 c97_98 (s_lald c97_99 sh_67 ⟨⟨by decide, by decide⟩, (s_aload_n c97_100 rfl (s_getP 52 c97_101 f97_37 t11_3 sh_0 g_0_3 (by decide) (by decide) (s_getI c97_104 f97_190 t6_4 sh_52 (s_i2l c97_107 (s_ladd c97_108 (s_last c97_109 sh_67 ⟨⟨by decide, by decide⟩, s_aload_n c97_110 rfl (s_dupP c97_111 (s_getI c97_112 f97_63 t11_8 sh_0 (s_iconst c97_115 rfl (s_iadd c97_116 (s_putI c97_117 f97_63 t11_8 n11_8 sh_0 (s_iinc c97_120 rfl rfl rfl (s_goto 40 c97_123 (by decide) (H))))))))⟩))))))⟩))))⟩))))))⟩))))⟩))))))⟩))))
-- WarmSide.of(II)I
theorem c98_0 : cdA 98 0 = some (.aload_n 0) := by decide +kernel
theorem c98_1 : cdA 98 1 = some (.iload_n 1) := by decide +kernel
theorem c98_2 : cdA 98 2 = some (.invokevirtual 88) := by decide +kernel
theorem m98_88 : mthR (moN 98) 88 = 127 := by decide +kernel
theorem c98_118 : cdA 98 118 = some (.ireturn) := by decide +kernel
theorem R98 : mK 98 = 0 := by decide +kernel
theorem c98_13 : cdA 98 13 = some (.ireturn) := by decide +kernel
theorem c98_5 : cdA 98 5 = some (.ifCond .eq 9) := by decide +kernel
theorem c98_14 : cdA 98 14 = some (.iload_n 2) := by decide +kernel
theorem c98_15 : cdA 98 15 = some (.tableswitch 97 0 4 #[33, 45, 58, 71, 84]) := by decide +kernel
theorem c98_112 : cdA 98 112 = some (.aload_n 0) := by decide +kernel
theorem c98_113 : cdA 98 113 = some (.bipush (-2)) := by decide +kernel
theorem c98_115 : cdA 98 115 = some (.invokevirtual 71) := by decide +kernel
theorem m98_71 : mthR (moN 98) 71 = 124 := by decide +kernel
theorem c98_48 : cdA 98 48 = some (.aload_n 0) := by decide +kernel
theorem c98_49 : cdA 98 49 = some (.getfield 10) := by decide +kernel
theorem f98_10 : fldR (moN 98) 10 = some (11, 0) := by decide +kernel
theorem c98_52 : cdA 98 52 = some (.getfield 75) := by decide +kernel
theorem f98_75 : fldR (moN 98) 75 = some (1, 0) := by decide +kernel
theorem c98_55 : cdA 98 55 = some (.iload_n 1) := by decide +kernel
theorem c98_56 : cdA 98 56 = some (.invokevirtual 196) := by decide +kernel
theorem m98_196 : mthR (moN 98) 196 = 24 := by decide +kernel
theorem c98_60 : cdA 98 60 = some (.aload_n 0) := by decide +kernel
theorem c98_61 : cdA 98 61 = some (.getfield 10) := by decide +kernel
theorem c98_64 : cdA 98 64 = some (.getfield 75) := by decide +kernel
theorem c98_67 : cdA 98 67 = some (.getfield 93) := by decide +kernel
theorem f98_93 : fldR (moN 98) 93 = some (4, 5) := by decide +kernel
theorem c98_70 : cdA 98 70 = some (.iload_n 1) := by decide +kernel
theorem c98_71 : cdA 98 71 = some (.iaload) := by decide +kernel
theorem c98_72 : cdA 98 72 = some (.ireturn) := by decide +kernel
theorem c98_73 : cdA 98 73 = some (.aload_n 0) := by decide +kernel
theorem c98_74 : cdA 98 74 = some (.getfield 10) := by decide +kernel
theorem c98_77 : cdA 98 77 = some (.getfield 75) := by decide +kernel
theorem c98_80 : cdA 98 80 = some (.getfield 156) := by decide +kernel
theorem f98_156 : fldR (moN 98) 156 = some (4, 6) := by decide +kernel
theorem c98_83 : cdA 98 83 = some (.iload_n 1) := by decide +kernel
theorem c98_84 : cdA 98 84 = some (.iaload) := by decide +kernel
theorem c98_85 : cdA 98 85 = some (.ireturn) := by decide +kernel
theorem c98_86 : cdA 98 86 = some (.aload_n 0) := by decide +kernel
theorem c98_87 : cdA 98 87 = some (.getfield 10) := by decide +kernel
theorem c98_90 : cdA 98 90 = some (.getfield 75) := by decide +kernel
theorem c98_93 : cdA 98 93 = some (.getfield 199) := by decide +kernel
theorem f98_199 : fldR (moN 98) 199 = some (4, 8) := by decide +kernel
theorem t4_8 : fcl 4 8 = 2 := by decide +kernel
theorem c98_96 : cdA 98 96 = some (.iload_n 1) := by decide +kernel
theorem c98_97 : cdA 98 97 = some (.iaload) := by decide +kernel
theorem c98_98 : cdA 98 98 = some (.ireturn) := by decide +kernel
theorem c98_99 : cdA 98 99 = some (.aload_n 0) := by decide +kernel
theorem c98_100 : cdA 98 100 = some (.getfield 10) := by decide +kernel
theorem c98_103 : cdA 98 103 = some (.getfield 75) := by decide +kernel
theorem c98_106 : cdA 98 106 = some (.getfield 202) := by decide +kernel
theorem f98_202 : fldR (moN 98) 202 = some (4, 9) := by decide +kernel
theorem c98_109 : cdA 98 109 = some (.iload_n 1) := by decide +kernel
theorem c98_110 : cdA 98 110 = some (.iaload) := by decide +kernel
theorem c98_111 : cdA 98 111 = some (.ireturn) := by decide +kernel
theorem c98_8 : cdA 98 8 = some (.aload_n 0) := by decide +kernel
theorem c98_9 : cdA 98 9 = some (.iconst (-1)) := by decide +kernel
theorem c98_10 : cdA 98 10 = some (.invokevirtual 71) := by decide +kernel
theorem c98_59 : cdA 98 59 = some (.ireturn) := by decide +kernel
theorem b98_0 {d : Nat} {h : HP} {Q : PV → HP → Prop} {v1 v2 : Int} (H : X d 124 0 [some (P 0), some (I v1)] [] h (fun r h' => X (d + 1) 98 5 [some (P 0), some (I v1), some (I v2)] [r] h' Q)) : X (d + 1) 98 0 [some (P 0), some (I v1), some (I v2)] [] h Q :=
  s_aload_n c98_0 rfl (s_iload_n c98_1 rfl (s_cVi c98_2 m98_88 F124 K124 rfl (Nat.le_of_ble_eq_true rfl) rfl S124_0 rfl H))
theorem b98_118 {d : Nat} {h : HP} {Q : PV → HP → Prop} {v1 v2 s0 : Int} (H : Q (I s0) h) : X d 98 118 [some (P 0), some (I v1), some (I v2)] [I s0] h Q :=
  s_retI c98_118 R98 H
theorem b98_13 {d : Nat} {h : HP} {Q : PV → HP → Prop} {v1 v2 s0 : Int} (H : Q (I s0) h) : X d 98 13 [some (P 0), some (I v1), some (I v2)] [I s0] h Q :=
  s_retI c98_13 R98 H
theorem b98_5 {d : Nat} {h : HP} {Q : PV → HP → Prop} {v1 v2 s0 : Int} (H : ((s0 = 0) → (((v2 < 0 ∨ 4 < v2) → X d 121 0 [some (P 0), some (I (-2))] [] h (fun r h' => X (d + 1) 98 118 [some (P 0), some (I v1), some (I v2)] [r] h' Q)) ∧ (v2 = 0 → X d 21 0 [some (P 2), some (I v1), none] [] h (fun r h' => X (d + 1) 98 59 [some (P 0), some (I v1), some (I v2)] [r] h' Q)) ∧ (v2 = 1 → ((0 ≤ v1 ∧ v1 < 8) ∧ Q (I (h 7 v1.toNat)) h)) ∧ (v2 = 2 → ((0 ≤ v1 ∧ v1 < 8) ∧ Q (I (h 8 v1.toNat)) h)) ∧ (v2 = 3 → ((0 ≤ v1 ∧ v1 < 8) ∧ Q (I (h 10 v1.toNat)) h)) ∧ (v2 = 4 → ((0 ≤ v1 ∧ v1 < 8) ∧ Q (I (h 11 v1.toNat)) h)))) ∧ (¬ (s0 = 0) → X d 121 0 [some (P 0), some (I (-1))] [] h (fun r h' => X (d + 1) 98 13 [some (P 0), some (I v1), some (I v2)] [r] h' Q))) : X (d + 1) 98 5 [some (P 0), some (I v1), some (I v2)] [I s0] h Q :=
  s_if 14 (s0 = 0) c98_5 (by decide) rfl ⟨fun q1 => s_iload_n c98_14 rfl (s_tsw (x := v2) 112 c98_15 (by decide) (fun q2 => s_aload_n c98_112 rfl (s_bipush c98_113 ⟨by decide, by decide⟩ (s_cVi c98_115 m98_71 F121 K121 rfl (Nat.le_of_ble_eq_true rfl) rfl S121_0 rfl ((H.1 q1).1 q2)))) (fun qn => by
    have qc : v2 = 0 ∨ v2 = 1 ∨ v2 = 2 ∨ v2 = 3 ∨ v2 = 4 := by omega
    rcases qc with q2 | q2 | q2 | q2 | q2
    · exact ⟨33, 48, by rw [q2]; rfl, by decide, s_aload_n c98_48 rfl (s_getP 1 c98_49 f98_10 t11_0 sh_0 g_0_0 (by decide) (by decide) (s_getP 2 c98_52 f98_75 t1_0 sh_1 g_1_0 (by decide) (by decide) (s_iload_n c98_55 rfl (s_cVi c98_56 m98_196 F21 K21 rfl (Nat.le_of_ble_eq_true rfl) rfl S21_2 rfl ((H.1 q1).2.1 q2)))))⟩
    · exact ⟨45, 60, by rw [q2]; rfl, by decide, s_aload_n c98_60 rfl (s_getP 1 c98_61 f98_10 t11_0 sh_0 g_0_0 (by decide) (by decide) (s_getP 2 c98_64 f98_75 t1_0 sh_1 g_1_0 (by decide) (by decide) (s_getP 7 c98_67 f98_93 t4_5 sh_2 g_2_5 (by decide) (by decide) (s_iload_n c98_70 rfl (s_iald c98_71 sh_7 ⟨((H.1 q1).2.2.1 q2).1, s_retI c98_72 R98 ((H.1 q1).2.2.1 q2).2⟩)))))⟩
    · exact ⟨58, 73, by rw [q2]; rfl, by decide, s_aload_n c98_73 rfl (s_getP 1 c98_74 f98_10 t11_0 sh_0 g_0_0 (by decide) (by decide) (s_getP 2 c98_77 f98_75 t1_0 sh_1 g_1_0 (by decide) (by decide) (s_getP 8 c98_80 f98_156 t4_6 sh_2 g_2_6 (by decide) (by decide) (s_iload_n c98_83 rfl (s_iald c98_84 sh_8 ⟨((H.1 q1).2.2.2.1 q2).1, s_retI c98_85 R98 ((H.1 q1).2.2.2.1 q2).2⟩)))))⟩
    · exact ⟨71, 86, by rw [q2]; rfl, by decide, s_aload_n c98_86 rfl (s_getP 1 c98_87 f98_10 t11_0 sh_0 g_0_0 (by decide) (by decide) (s_getP 2 c98_90 f98_75 t1_0 sh_1 g_1_0 (by decide) (by decide) (s_getP 10 c98_93 f98_199 t4_8 sh_2 g_2_8 (by decide) (by decide) (s_iload_n c98_96 rfl (s_iald c98_97 sh_10 ⟨((H.1 q1).2.2.2.2.1 q2).1, s_retI c98_98 R98 ((H.1 q1).2.2.2.2.1 q2).2⟩)))))⟩
    · exact ⟨84, 99, by rw [q2]; rfl, by decide, s_aload_n c98_99 rfl (s_getP 1 c98_100 f98_10 t11_0 sh_0 g_0_0 (by decide) (by decide) (s_getP 2 c98_103 f98_75 t1_0 sh_1 g_1_0 (by decide) (by decide) (s_getP 11 c98_106 f98_202 t4_9 sh_2 g_2_9 (by decide) (by decide) (s_iload_n c98_109 rfl (s_iald c98_110 sh_11 ⟨((H.1 q1).2.2.2.2.2 q2).1, s_retI c98_111 R98 ((H.1 q1).2.2.2.2.2 q2).2⟩)))))⟩
    )), fun q1 => s_aload_n c98_8 rfl (s_iconst c98_9 rfl (s_cVi c98_10 m98_71 F121 K121 rfl (Nat.le_of_ble_eq_true rfl) rfl S121_0 rfl (H.2 q1)))⟩
theorem b98_59 {d : Nat} {h : HP} {Q : PV → HP → Prop} {v1 v2 s0 : Int} (H : Q (I s0) h) : X d 98 59 [some (P 0), some (I v1), some (I v2)] [I s0] h Q :=
  s_retI c98_59 R98 H
-- WarmSide.sum(I)J
theorem c99_0 : cdA 99 0 = some (.iload_n 1) := by decide +kernel
theorem c99_1 : cdA 99 1 = some (.iconst 3) := by decide +kernel
theorem c99_2 : cdA 99 2 = some (.invokestatic 67) := by decide +kernel
theorem m99_67 : mthR (moN 99) 67 = 126 := by decide +kernel
theorem c99_14 : cdA 99 14 = some (.i2l) := by decide +kernel
theorem c99_15 : cdA 99 15 = some (.lreturn) := by decide +kernel
theorem R99 : mK 99 = 1 := by decide +kernel
theorem c99_5 : cdA 99 5 = some (.ifCond .eq 11) := by decide +kernel
theorem c99_16 : cdA 99 16 = some (.aload_n 0) := by decide +kernel
theorem c99_17 : cdA 99 17 = some (.getfield 55) := by decide +kernel
theorem f99_55 : fldR (moN 99) 55 = some (11, 6) := by decide +kernel
theorem c99_20 : cdA 99 20 = some (.iload_n 1) := by decide +kernel
theorem c99_21 : cdA 99 21 = some (.laload) := by decide +kernel
theorem c99_22 : cdA 99 22 = some (.lreturn) := by decide +kernel
theorem c99_8 : cdA 99 8 = some (.aload_n 0) := by decide +kernel
theorem c99_9 : cdA 99 9 = some (.bipush (-2)) := by decide +kernel
theorem c99_11 : cdA 99 11 = some (.invokevirtual 71) := by decide +kernel
theorem m99_71 : mthR (moN 99) 71 = 124 := by decide +kernel
theorem b99_0 {d : Nat} {h : HP} {Q : PV → HP → Prop} {v1 : Int} (H : X d 123 0 [some (I v1), some (I 3)] [] h (fun r h' => X (d + 1) 99 5 [some (P 0), some (I v1)] [r] h' Q)) : X (d + 1) 99 0 [some (P 0), some (I v1)] [] h Q :=
  s_iload_n c99_0 rfl (s_iconst c99_1 rfl (s_cSi c99_2 m99_67 F123 K123 rfl (Nat.le_of_ble_eq_true rfl) rfl rfl H))
theorem b99_14 {d : Nat} {h : HP} {Q : PV → HP → Prop} {v1 s0 : Int} (H : Q (J s0) h) : X d 99 14 [some (P 0), some (I v1)] [I s0] h Q :=
  s_i2l c99_14 (s_retJ c99_15 R99 H)
theorem b99_5 {d : Nat} {h : HP} {Q : PV → HP → Prop} {v1 s0 : Int} (H : ((s0 = 0) → ((0 ≤ v1 ∧ v1 < 3) ∧ Q (J (h 67 v1.toNat)) h)) ∧ (¬ (s0 = 0) → X d 121 0 [some (P 0), some (I (-2))] [] h (fun r h' => X (d + 1) 99 14 [some (P 0), some (I v1)] [r] h' Q))) : X (d + 1) 99 5 [some (P 0), some (I v1)] [I s0] h Q :=
  s_if 16 (s0 = 0) c99_5 (by decide) rfl ⟨fun q1 => s_aload_n c99_16 rfl (s_getP 67 c99_17 f99_55 t11_6 sh_0 g_0_6 (by decide) (by decide) (s_iload_n c99_20 rfl (s_lald c99_21 sh_67 ⟨(H.1 q1).1, s_retJ c99_22 R99 (H.1 q1).2⟩))), fun q1 => s_aload_n c99_8 rfl (s_bipush c99_9 ⟨by decide, by decide⟩ (s_cVi c99_11 m99_71 F121 K121 rfl (Nat.le_of_ble_eq_true rfl) rfl S121_0 rfl (H.2 q1)))⟩
-- WarmSide.rest(II)I
theorem c100_0 : cdA 100 0 = some (.aload_n 0) := by decide +kernel
theorem c100_1 : cdA 100 1 = some (.iload_n 1) := by decide +kernel
theorem c100_2 : cdA 100 2 = some (.invokevirtual 88) := by decide +kernel
theorem m100_88 : mthR (moN 100) 88 = 127 := by decide +kernel
theorem c100_14 : cdA 100 14 = some (.ifCond .eq 9) := by decide +kernel
theorem c100_23 : cdA 100 23 = some (.aload_n 0) := by decide +kernel
theorem c100_24 : cdA 100 24 = some (.getfield 28) := by decide +kernel
theorem f100_28 : fldR (moN 100) 28 = some (11, 2) := by decide +kernel
theorem t11_2 : fcl 11 2 = 2 := by decide +kernel
theorem c100_27 : cdA 100 27 = some (.iload_n 2) := by decide +kernel
theorem c100_28 : cdA 100 28 = some (.invokevirtual 205) := by decide +kernel
theorem m100_205 : mthR (moN 100) 205 = 60 := by decide +kernel
theorem c100_17 : cdA 100 17 = some (.aload_n 0) := by decide +kernel
theorem c100_18 : cdA 100 18 = some (.iconst (-1)) := by decide +kernel
theorem c100_19 : cdA 100 19 = some (.invokevirtual 71) := by decide +kernel
theorem m100_71 : mthR (moN 100) 71 = 124 := by decide +kernel
theorem c100_22 : cdA 100 22 = some (.ireturn) := by decide +kernel
theorem R100 : mK 100 = 0 := by decide +kernel
theorem c100_31 : cdA 100 31 = some (.aload_n 0) := by decide +kernel
theorem c100_32 : cdA 100 32 = some (.getfield 28) := by decide +kernel
theorem c100_35 : cdA 100 35 = some (.iload_n 1) := by decide +kernel
theorem c100_36 : cdA 100 36 = some (.invokevirtual 208) := by decide +kernel
theorem m100_208 : mthR (moN 100) 208 = 65 := by decide +kernel
theorem F62 : mF 62 1 2 true := by unfold mF; decide +kernel
theorem K62 : ¬ mK 62 = 4 := by decide +kernel
theorem S62_41 : SH0[41]? = some (.inl (moN 62)) := by decide +kernel
theorem c100_39 : cdA 100 39 = some (.ireturn) := by decide +kernel
theorem c100_5 : cdA 100 5 = some (.ifCond .ne 12) := by decide +kernel
theorem c100_8 : cdA 100 8 = some (.iload_n 2) := by decide +kernel
theorem c100_9 : cdA 100 9 = some (.bipush 12) := by decide +kernel
theorem c100_11 : cdA 100 11 = some (.invokestatic 67) := by decide +kernel
theorem m100_67 : mthR (moN 100) 67 = 126 := by decide +kernel
theorem b100_0 {d : Nat} {h : HP} {Q : PV → HP → Prop} {v1 v2 : Int} (H : X d 124 0 [some (P 0), some (I v1)] [] h (fun r h' => X (d + 1) 100 5 [some (P 0), some (I v1), some (I v2)] [r] h' Q)) : X (d + 1) 100 0 [some (P 0), some (I v1), some (I v2)] [] h Q :=
  s_aload_n c100_0 rfl (s_iload_n c100_1 rfl (s_cVi c100_2 m100_88 F124 K124 rfl (Nat.le_of_ble_eq_true rfl) rfl S124_0 rfl H))
theorem b100_14 {d : Nat} {h : HP} {Q : PV → HP → Prop} {v1 v2 s0 : Int} (H : ((s0 = 0) → X d 57 0 [some (P 41), some (I v2), none] [] h (fun _ h' => X (d + 1) 100 31 [some (P 0), some (I v1), some (I v2)] [] h' Q)) ∧ (¬ (s0 = 0) → X (d + 1) 100 17 [some (P 0), some (I v1), some (I v2)] [] h Q)) : X (d + 1) 100 14 [some (P 0), some (I v1), some (I v2)] [I s0] h Q :=
  s_if 23 (s0 = 0) c100_14 (by decide) rfl ⟨fun q1 => s_aload_n c100_23 rfl (s_getP 41 c100_24 f100_28 t11_2 sh_0 g_0_2 (by decide) (by decide) (s_iload_n c100_27 rfl (s_cVv c100_28 m100_205 F57 K57 rfl (Nat.le_of_ble_eq_true rfl) rfl S57_41 rfl (H.1 q1)))), fun q1 => (H.2 q1)⟩
theorem b100_17 {d : Nat} {h : HP} {Q : PV → HP → Prop} {v1 v2 : Int} (H : X d 121 0 [some (P 0), some (I (-1))] [] h (fun r h' => X (d + 1) 100 22 [some (P 0), some (I v1), some (I v2)] [r] h' Q)) : X (d + 1) 100 17 [some (P 0), some (I v1), some (I v2)] [] h Q :=
  s_aload_n c100_17 rfl (s_iconst c100_18 rfl (s_cVi c100_19 m100_71 F121 K121 rfl (Nat.le_of_ble_eq_true rfl) rfl S121_0 rfl H))
theorem b100_22 {d : Nat} {h : HP} {Q : PV → HP → Prop} {v1 v2 s0 : Int} (H : Q (I s0) h) : X d 100 22 [some (P 0), some (I v1), some (I v2)] [I s0] h Q :=
  s_retI c100_22 R100 H
theorem b100_31 {d : Nat} {h : HP} {Q : PV → HP → Prop} {v1 v2 : Int} (H : X d 62 0 [some (P 41), some (I v1)] [] h (fun r h' => X (d + 1) 100 39 [some (P 0), some (I v1), some (I v2)] [r] h' Q)) : X (d + 1) 100 31 [some (P 0), some (I v1), some (I v2)] [] h Q :=
  s_aload_n c100_31 rfl (s_getP 41 c100_32 f100_28 t11_2 sh_0 g_0_2 (by decide) (by decide) (s_iload_n c100_35 rfl (s_cVi c100_36 m100_208 F62 K62 rfl (Nat.le_of_ble_eq_true rfl) rfl S62_41 rfl H)))
theorem b100_39 {d : Nat} {h : HP} {Q : PV → HP → Prop} {v1 v2 s0 : Int} (H : Q (I s0) h) : X d 100 39 [some (P 0), some (I v1), some (I v2)] [I s0] h Q :=
  s_retI c100_39 R100 H
theorem b100_5 {d : Nat} {h : HP} {Q : PV → HP → Prop} {v1 v2 s0 : Int} (H : ((¬ s0 = 0) → X (d + 1) 100 17 [some (P 0), some (I v1), some (I v2)] [] h Q) ∧ (¬ (¬ s0 = 0) → X d 123 0 [some (I v2), some (I 12)] [] h (fun r h' => X (d + 1) 100 14 [some (P 0), some (I v1), some (I v2)] [r] h' Q))) : X (d + 1) 100 5 [some (P 0), some (I v1), some (I v2)] [I s0] h Q :=
  s_if 17 (¬ s0 = 0) c100_5 (by decide) rfl ⟨fun q2 => (H.1 q2), fun q2 => s_iload_n c100_8 rfl (s_bipush c100_9 ⟨by decide, by decide⟩ (s_cSi c100_11 m100_67 F123 K123 rfl (Nat.le_of_ble_eq_true rfl) rfl rfl (H.2 q2)))⟩
-- WarmSide.freeHeaters()I
theorem c129_0 : cdA 129 0 = some (.iconst 0) := by decide +kernel
theorem c129_1 : cdA 129 1 = some (.istore_n 1) := by decide +kernel
theorem c129_2 : cdA 129 2 = some (.iconst 0) := by decide +kernel
theorem c129_3 : cdA 129 3 = some (.istore_n 2) := by decide +kernel
theorem c129_4 : cdA 129 4 = some (.iload_n 2) := by decide +kernel
theorem c129_5 : cdA 129 5 = some (.aload_n 0) := by decide +kernel
theorem c129_6 : cdA 129 6 = some (.getfield 10) := by decide +kernel
theorem f129_10 : fldR (moN 129) 10 = some (11, 0) := by decide +kernel
theorem c129_9 : cdA 129 9 = some (.getfield 153) := by decide +kernel
theorem f129_153 : fldR (moN 129) 153 = some (1, 4) := by decide +kernel
theorem c129_12 : cdA 129 12 = some (.getfield 150) := by decide +kernel
theorem f129_150 : fldR (moN 129) 150 = some (3, 2) := by decide +kernel
theorem c129_15 : cdA 129 15 = some (.if_icmp .ge 42) := by decide +kernel
theorem c129_57 : cdA 129 57 = some (.iload_n 1) := by decide +kernel
theorem c129_58 : cdA 129 58 = some (.ireturn) := by decide +kernel
theorem R129 : mK 129 = 0 := by decide +kernel
theorem c129_18 : cdA 129 18 = some (.aload_n 0) := by decide +kernel
theorem c129_19 : cdA 129 19 = some (.getfield 10) := by decide +kernel
theorem c129_22 : cdA 129 22 = some (.getfield 153) := by decide +kernel
theorem c129_25 : cdA 129 25 = some (.getfield 159) := by decide +kernel
theorem f129_159 : fldR (moN 129) 159 = some (3, 5) := by decide +kernel
theorem c129_28 : cdA 129 28 = some (.iload_n 2) := by decide +kernel
theorem c129_29 : cdA 129 29 = some (.iaload) := by decide +kernel
theorem c129_30 : cdA 129 30 = some (.iconst 1) := by decide +kernel
theorem c129_31 : cdA 129 31 = some (.if_icmp .gt 20) := by decide +kernel
theorem c129_34 : cdA 129 34 = some (.aload_n 0) := by decide +kernel
theorem c129_35 : cdA 129 35 = some (.getfield 21) := by decide +kernel
theorem f129_21 : fldR (moN 129) 21 = some (11, 1) := by decide +kernel
theorem c129_38 : cdA 129 38 = some (.iload_n 2) := by decide +kernel
theorem c129_39 : cdA 129 39 = some (.invokevirtual 318) := by decide +kernel
theorem m129_318 : mthR (moN 129) 318 = 30 := by decide +kernel
theorem c129_42 : cdA 129 42 = some (.ifCond .eq 9) := by decide +kernel
theorem c129_45 : cdA 129 45 = some (.iload_n 1) := by decide +kernel
theorem c129_46 : cdA 129 46 = some (.iconst 1) := by decide +kernel
theorem c129_47 : cdA 129 47 = some (.iload_n 2) := by decide +kernel
theorem c129_48 : cdA 129 48 = some (.ishl) := by decide +kernel
theorem c129_49 : cdA 129 49 = some (.ior) := by decide +kernel
theorem c129_50 : cdA 129 50 = some (.istore_n 1) := by decide +kernel
theorem c129_51 : cdA 129 51 = some (.iinc 2 1) := by decide +kernel
theorem c129_54 : cdA 129 54 = some (.goto (-50)) := by decide +kernel
theorem b129_0 {d : Nat} {h : HP} {Q : PV → HP → Prop} (H : X d 129 4 [some (P 0), some (I 0), some (I 0)] [] h Q) : X d 129 0 [some (P 0), none, none] [] h Q :=
  s_iconst c129_0 rfl (s_istore_n c129_1 rfl (s_iconst c129_2 rfl (s_istore_n c129_3 rfl (H))))
theorem b129_4 {d : Nat} {h : HP} {Q : PV → HP → Prop} {v1 v2 : Int} (H : (((h 26 2) ≤ v2) → Q (I v1) h) ∧ (¬ ((h 26 2) ≤ v2) → ((0 ≤ v2 ∧ v2 < 4) ∧ (((1 < (h 29 v2.toNat)) → X (d + 1) 129 51 [some (P 0), some (I v1), some (I v2)] [] h Q) ∧ (¬ (1 < (h 29 v2.toNat)) → X d 27 0 [some (P 36), some (I v2)] [] h (fun r h' => X (d + 1) 129 42 [some (P 0), some (I v1), some (I v2)] [r] h' Q)))))) : X (d + 1) 129 4 [some (P 0), some (I v1), some (I v2)] [] h Q :=
  s_iload_n c129_4 rfl (s_aload_n c129_5 rfl (s_getP 1 c129_6 f129_10 t11_0 sh_0 g_0_0 (by decide) (by decide) (s_getP 26 c129_9 f129_153 t1_4 sh_1 g_1_4 (by decide) (by decide) (s_getI c129_12 f129_150 t3_2 sh_26 (s_ifc 57 ((h 26 2) ≤ v2) c129_15 (by decide) rfl ⟨fun q1 => s_iload_n c129_57 rfl (s_retI c129_58 R129 (H.1 q1)), fun q1 => s_aload_n c129_18 rfl (s_getP 1 c129_19 f129_10 t11_0 sh_0 g_0_0 (by decide) (by decide) (s_getP 26 c129_22 f129_153 t1_4 sh_1 g_1_4 (by decide) (by decide) (s_getP 29 c129_25 f129_159 t3_5 sh_26 g_26_5 (by decide) (by decide) (s_iload_n c129_28 rfl (s_iald c129_29 sh_29 ⟨(H.2 q1).1, s_iconst c129_30 rfl (s_ifc 51 (1 < (h 29 v2.toNat)) c129_31 (by decide) rfl ⟨fun q2 => ((H.2 q1).2.1 q2), fun q2 => s_aload_n c129_34 rfl (s_getP 36 c129_35 f129_21 t11_1 sh_0 g_0_1 (by decide) (by decide) (s_iload_n c129_38 rfl (s_cVi c129_39 m129_318 F27 K27 rfl (Nat.le_of_ble_eq_true rfl) rfl S27_36 rfl ((H.2 q1).2.2 q2))))⟩)⟩)))))⟩)))))
theorem b129_42 {d : Nat} {h : HP} {Q : PV → HP → Prop} {v1 v2 s0 : Int} (H : ((s0 = 0) → X d 129 51 [some (P 0), some (I v1), some (I v2)] [] h Q) ∧ (¬ (s0 = 0) → X d 129 51 [some (P 0), some (I (bOr v1 (bShl 1 v2))), some (I v2)] [] h Q)) : X d 129 42 [some (P 0), some (I v1), some (I v2)] [I s0] h Q :=
  s_if 51 (s0 = 0) c129_42 (by decide) rfl ⟨fun q3 => (H.1 q3), fun q3 => s_iload_n c129_45 rfl (s_iconst c129_46 rfl (s_iload_n c129_47 rfl (s_ishl c129_48 (s_ior c129_49 (s_istore_n c129_50 rfl ((H.2 q3)))))))⟩
theorem b129_51 {d : Nat} {h : HP} {Q : PV → HP → Prop} {v1 v2 : Int} (H : X d 129 4 [some (P 0), some (I v1), some (I (w32 (v2 + 1)))] [] h Q) : X d 129 51 [some (P 0), some (I v1), some (I v2)] [] h Q :=
  s_iinc c129_51 rfl rfl rfl (s_goto 4 c129_54 (by decide) (H))
-- WarmSide.toldAlike(III)Z
theorem c130_0 : cdA 130 0 = some (.iconst 0) := by decide +kernel
theorem c130_1 : cdA 130 1 = some (.istore 4) := by decide +kernel
theorem c130_3 : cdA 130 3 = some (.iload 4) := by decide +kernel
theorem c130_5 : cdA 130 5 = some (.aload_n 0) := by decide +kernel
theorem c130_6 : cdA 130 6 = some (.getfield 10) := by decide +kernel
theorem f130_10 : fldR (moN 130) 10 = some (11, 0) := by decide +kernel
theorem c130_9 : cdA 130 9 = some (.getfield 153) := by decide +kernel
theorem f130_153 : fldR (moN 130) 153 = some (1, 4) := by decide +kernel
theorem c130_12 : cdA 130 12 = some (.getfield 150) := by decide +kernel
theorem f130_150 : fldR (moN 130) 150 = some (3, 2) := by decide +kernel
theorem c130_15 : cdA 130 15 = some (.if_icmp .ge 61) := by decide +kernel
theorem c130_76 : cdA 130 76 = some (.iconst 1) := by decide +kernel
theorem c130_77 : cdA 130 77 = some (.ireturn) := by decide +kernel
theorem R130 : mK 130 = 3 := by decide +kernel
theorem c130_18 : cdA 130 18 = some (.iload_n 1) := by decide +kernel
theorem c130_19 : cdA 130 19 = some (.iload 4) := by decide +kernel
theorem c130_21 : cdA 130 21 = some (.ishr) := by decide +kernel
theorem c130_22 : cdA 130 22 = some (.iconst 1) := by decide +kernel
theorem c130_23 : cdA 130 23 = some (.iand) := by decide +kernel
theorem c130_24 : cdA 130 24 = some (.ifCond .ne 6) := by decide +kernel
theorem c130_30 : cdA 130 30 = some (.aload_n 0) := by decide +kernel
theorem c130_31 : cdA 130 31 = some (.getfield 21) := by decide +kernel
theorem f130_21 : fldR (moN 130) 21 = some (11, 1) := by decide +kernel
theorem c130_34 : cdA 130 34 = some (.iload 4) := by decide +kernel
theorem c130_36 : cdA 130 36 = some (.aload_n 0) := by decide +kernel
theorem c130_37 : cdA 130 37 = some (.getfield 28) := by decide +kernel
theorem f130_28 : fldR (moN 130) 28 = some (11, 2) := by decide +kernel
theorem c130_40 : cdA 130 40 = some (.getfield 276) := by decide +kernel
theorem f130_276 : fldR (moN 130) 276 = some (7, 1) := by decide +kernel
theorem c130_43 : cdA 130 43 = some (.getfield 280) := by decide +kernel
theorem f130_280 : fldR (moN 130) 280 = some (9, 5) := by decide +kernel
theorem c130_46 : cdA 130 46 = some (.iload_n 3) := by decide +kernel
theorem c130_47 : cdA 130 47 = some (.invokevirtual 320) := by decide +kernel
theorem m130_320 : mthR (moN 130) 320 = 31 := by decide +kernel
theorem c130_27 : cdA 130 27 = some (.goto 43) := by decide +kernel
theorem c130_50 : cdA 130 50 = some (.istore 5) := by decide +kernel
theorem c130_52 : cdA 130 52 = some (.iload 5) := by decide +kernel
theorem c130_54 : cdA 130 54 = some (.ifCond .lt 16) := by decide +kernel
theorem c130_57 : cdA 130 57 = some (.iload 5) := by decide +kernel
theorem c130_59 : cdA 130 59 = some (.iload_n 2) := by decide +kernel
theorem c130_60 : cdA 130 60 = some (.iload 4) := by decide +kernel
theorem c130_62 : cdA 130 62 = some (.ishr) := by decide +kernel
theorem c130_63 : cdA 130 63 = some (.iconst 1) := by decide +kernel
theorem c130_64 : cdA 130 64 = some (.iand) := by decide +kernel
theorem c130_65 : cdA 130 65 = some (.if_icmp .eq 5) := by decide +kernel
theorem c130_68 : cdA 130 68 = some (.iconst 0) := by decide +kernel
theorem c130_69 : cdA 130 69 = some (.ireturn) := by decide +kernel
theorem c130_70 : cdA 130 70 = some (.iinc 4 1) := by decide +kernel
theorem c130_73 : cdA 130 73 = some (.goto (-70)) := by decide +kernel
theorem b130_0 {d : Nat} {h : HP} {Q : PV → HP → Prop} {v1 v2 v3 : Int} (H : X d 130 3 [some (P 0), some (I v1), some (I v2), some (I v3), some (I 0), none] [] h Q) : X d 130 0 [some (P 0), some (I v1), some (I v2), some (I v3), none, none] [] h Q :=
  s_iconst c130_0 rfl (s_istore c130_1 rfl (H))
theorem b130_3 {d : Nat} {h : HP} {Q : PV → HP → Prop} {v1 v2 v3 v4 : Int} (H : (((h 26 2) ≤ v4) → Q (I 1) h) ∧ (¬ ((h 26 2) ≤ v4) → (((¬ (bAnd (bShr v1 v4) 1) = 0) → X d 28 0 [some (P 36), some (I v4), some (P 48), some (I v3), none, none, none] [] h (fun r h' => X (d + 1) 130 50 [some (P 0), some (I v1), some (I v2), some (I v3), some (I v4), none] [r] h' Q)) ∧ (¬ (¬ (bAnd (bShr v1 v4) 1) = 0) → X (d + 1) 130 70 [some (P 0), some (I v1), some (I v2), some (I v3), some (I v4), none] [] h Q)))) : X (d + 1) 130 3 [some (P 0), some (I v1), some (I v2), some (I v3), some (I v4), none] [] h Q :=
  s_iload c130_3 rfl (s_aload_n c130_5 rfl (s_getP 1 c130_6 f130_10 t11_0 sh_0 g_0_0 (by decide) (by decide) (s_getP 26 c130_9 f130_153 t1_4 sh_1 g_1_4 (by decide) (by decide) (s_getI c130_12 f130_150 t3_2 sh_26 (s_ifc 76 ((h 26 2) ≤ v4) c130_15 (by decide) rfl ⟨fun q1 => s_iconst c130_76 rfl (s_retZ c130_77 R130 ⟨by decide, (H.1 q1)⟩), fun q1 => s_iload_n c130_18 rfl (s_iload c130_19 rfl (s_ishr c130_21 (s_iconst c130_22 rfl (s_iand c130_23 (s_if 30 (¬ (bAnd (bShr v1 v4) 1) = 0) c130_24 (by decide) rfl ⟨fun q2 => s_aload_n c130_30 rfl (s_getP 36 c130_31 f130_21 t11_1 sh_0 g_0_1 (by decide) (by decide) (s_iload c130_34 rfl (s_aload_n c130_36 rfl (s_getP 41 c130_37 f130_28 t11_2 sh_0 g_0_2 (by decide) (by decide) (s_getP 44 c130_40 f130_276 t7_1 sh_41 g_41_1 (by decide) (by decide) (s_getP 48 c130_43 f130_280 t9_5 sh_44 g_44_5 (by decide) (by decide) (s_iload_n c130_46 rfl (s_cVi c130_47 m130_320 F28 K28 rfl (Nat.le_of_ble_eq_true rfl) rfl S28_36 rfl ((H.2 q1).1 q2))))))))), fun q2 => s_goto 70 c130_27 (by decide) (((H.2 q1).2 q2))⟩)))))⟩)))))
theorem b130_50 {d : Nat} {h : HP} {Q : PV → HP → Prop} {v1 v2 v3 v4 s0 : Int} (H : ((s0 < 0) → X d 130 70 [some (P 0), some (I v1), some (I v2), some (I v3), some (I v4), none] [] h Q) ∧ (¬ (s0 < 0) → (((s0 = (bAnd (bShr v2 v4) 1)) → X d 130 70 [some (P 0), some (I v1), some (I v2), some (I v3), some (I v4), none] [] h Q) ∧ (¬ (s0 = (bAnd (bShr v2 v4) 1)) → Q (I 0) h)))) : X d 130 50 [some (P 0), some (I v1), some (I v2), some (I v3), some (I v4), none] [I s0] h Q :=
  s_istore c130_50 rfl (s_iload c130_52 rfl (s_if 70 (s0 < 0) c130_54 (by decide) rfl ⟨fun q3 => X_weak (A := [some (P 0), some (I v1), some (I v2), some (I v3), some (I v4), none]) (B := [some (P 0), some (I v1), some (I v2), some (I v3), some (I v4), some (I s0)]) ⟨Or.inl rfl, Or.inl rfl, Or.inl rfl, Or.inl rfl, Or.inl rfl, Or.inr ⟨rfl, _, rfl, rfl⟩, trivial⟩ (H.1 q3), fun q3 => s_iload c130_57 rfl (s_iload_n c130_59 rfl (s_iload c130_60 rfl (s_ishr c130_62 (s_iconst c130_63 rfl (s_iand c130_64 (s_ifc 70 (s0 = (bAnd (bShr v2 v4) 1)) c130_65 (by decide) rfl ⟨fun q4 => X_weak (A := [some (P 0), some (I v1), some (I v2), some (I v3), some (I v4), none]) (B := [some (P 0), some (I v1), some (I v2), some (I v3), some (I v4), some (I s0)]) ⟨Or.inl rfl, Or.inl rfl, Or.inl rfl, Or.inl rfl, Or.inl rfl, Or.inr ⟨rfl, _, rfl, rfl⟩, trivial⟩ ((H.2 q3).1 q4), fun q4 => s_iconst c130_68 rfl (s_retZ c130_69 R130 ⟨by decide, ((H.2 q3).2 q4)⟩)⟩))))))⟩))
theorem b130_70 {d : Nat} {h : HP} {Q : PV → HP → Prop} {v1 v2 v3 v4 : Int} (H : X d 130 3 [some (P 0), some (I v1), some (I v2), some (I v3), some (I (w32 (v4 + 1))), none] [] h Q) : X d 130 70 [some (P 0), some (I v1), some (I v2), some (I v3), some (I v4), none] [] h Q :=
  s_iinc c130_70 rfl rfl rfl (s_goto 3 c130_73 (by decide) (H))
