/-! blocks of WarmSide$Rules, by program -/
-- WarmSide$Rules.append(IJ)I
theorem c25_0 : cdA 25 0 = some (.iconst 0) := by decide +kernel
theorem c25_1 : cdA 25 1 = some (.istore 4) := by decide +kernel
theorem c25_3 : cdA 25 3 = some (.iload 4) := by decide +kernel
theorem c25_5 : cdA 25 5 = some (.iload_n 1) := by decide +kernel
theorem c25_6 : cdA 25 6 = some (.if_icmp .ge 49) := by decide +kernel
theorem c25_55 : cdA 25 55 = some (.aload_n 0) := by decide +kernel
theorem c25_56 : cdA 25 56 = some (.getfield 28) := by decide +kernel
theorem f25_28 : fldR (moN 25) 28 = some (5, 1) := by decide +kernel
theorem t5_1 : fcl 5 1 = 0 := by decide +kernel
theorem c25_59 : cdA 25 59 = some (.ireturn) := by decide +kernel
theorem R25 : mK 25 = 0 := by decide +kernel
theorem c25_9 : cdA 25 9 = some (.aload_n 0) := by decide +kernel
theorem c25_10 : cdA 25 10 = some (.getfield 28) := by decide +kernel
theorem c25_13 : cdA 25 13 = some (.bipush 40) := by decide +kernel
theorem c25_15 : cdA 25 15 = some (.if_icmp .ge 40) := by decide +kernel
theorem c25_18 : cdA 25 18 = some (.aload_n 0) := by decide +kernel
theorem c25_19 : cdA 25 19 = some (.getfield 11) := by decide +kernel
theorem f25_11 : fldR (moN 25) 11 = some (5, 4) := by decide +kernel
theorem t5_4 : fcl 5 4 = 2 := by decide +kernel
theorem c25_22 : cdA 25 22 = some (.aload_n 0) := by decide +kernel
theorem c25_23 : cdA 25 23 = some (.getfield 28) := by decide +kernel
theorem c25_26 : cdA 25 26 = some (.lload_n 2) := by decide +kernel
theorem c25_27 : cdA 25 27 = some (.bipush 8) := by decide +kernel
theorem c25_29 : cdA 25 29 = some (.iload 4) := by decide +kernel
theorem c25_31 : cdA 25 31 = some (.imul) := by decide +kernel
theorem c25_32 : cdA 25 32 = some (.lshr) := by decide +kernel
theorem c25_33 : cdA 25 33 = some (.ldc2_w 32) := by decide +kernel
theorem k25_32 : lcsR (moN 25) 32 = some 255 := by decide +kernel
theorem c25_36 : cdA 25 36 = some (.land) := by decide +kernel
theorem c25_37 : cdA 25 37 = some (.l2i) := by decide +kernel
theorem c25_38 : cdA 25 38 = some (.iastore) := by decide +kernel
theorem c25_39 : cdA 25 39 = some (.aload_n 0) := by decide +kernel
theorem c25_40 : cdA 25 40 = some (.dup) := by decide +kernel
theorem c25_41 : cdA 25 41 = some (.getfield 28) := by decide +kernel
theorem c25_44 : cdA 25 44 = some (.iconst 1) := by decide +kernel
theorem c25_45 : cdA 25 45 = some (.iadd) := by decide +kernel
theorem c25_46 : cdA 25 46 = some (.putfield 28) := by decide +kernel
theorem n5_1 : ffin 5 1 = false := by decide +kernel
theorem c25_49 : cdA 25 49 = some (.iinc 4 1) := by decide +kernel
theorem c25_52 : cdA 25 52 = some (.goto (-49)) := by decide +kernel
theorem b25_0 {d : Nat} {h : HP} {Q : PV → HP → Prop} {v1 v2 : Int} (H : X d 25 3 [some (P 36), some (I v1), some (J v2), none, some (I 0)] [] h Q) : X d 25 0 [some (P 36), some (I v1), some (J v2), none, none] [] h Q :=
  s_iconst c25_0 rfl (s_istore c25_1 rfl (H))
theorem b25_3 {d : Nat} {h : HP} {Q : PV → HP → Prop} {v1 v2 v4 : Int} (H : ((v1 ≤ v4) → Q (I (h 36 1)) h) ∧ (¬ (v1 ≤ v4) → (((40 ≤ (h 36 1)) → Q (I (h 36 1)) h) ∧ (¬ (40 ≤ (h 36 1)) → ((0 ≤ (h 36 1) ∧ (h 36 1) < 40) ∧ X d 25 3 [some (P 36), some (I v1), some (J v2), none, some (I (w32 (v4 + 1)))] [] (up2 (up2 h 37 (h 36 1).toNat (w32 (lAnd (lShr v2 (w32 (8 * v4))) 255))) 36 1 (w32 ((h 36 1) + 1))) Q))))) : X d 25 3 [some (P 36), some (I v1), some (J v2), none, some (I v4)] [] h Q :=
  s_iload c25_3 rfl (s_iload_n c25_5 rfl (s_ifc 55 (v1 ≤ v4) c25_6 (by decide) rfl ⟨fun q1 => s_aload_n c25_55 rfl (s_getI c25_56 f25_28 t5_1 sh_36 (s_retI c25_59 R25 (H.1 q1))), fun q1 => s_aload_n c25_9 rfl (s_getI c25_10 f25_28 t5_1 sh_36 (s_bipush c25_13 ⟨by decide, by decide⟩ (s_ifc 55 (40 ≤ (h 36 1)) c25_15 (by decide) rfl ⟨fun q2 => s_aload_n c25_55 rfl (s_getI c25_56 f25_28 t5_1 sh_36 (s_retI c25_59 R25 ((H.2 q1).1 q2))), fun q2 => s_aload_n c25_18 rfl (s_getP 37 c25_19 f25_11 t5_4 sh_36 g_36_4 (by decide) (by decide) (s_aload_n c25_22 rfl (s_getI c25_23 f25_28 t5_1 sh_36 (s_lload_n c25_26 rfl (s_bipush c25_27 ⟨by decide, by decide⟩ (s_iload c25_29 rfl (s_imul c25_31 (s_lshr c25_32 (s_ldc2 c25_33 k25_32 rfl (s_land c25_36 (s_l2i c25_37 (s_iast c25_38 sh_37 ⟨((H.2 q1).2 q2).1, s_aload_n c25_39 rfl (s_dupP c25_40 (s_getI c25_41 f25_28 t5_1 sh_36 (s_iconst c25_44 rfl (s_iadd c25_45 (s_putI c25_46 f25_28 t5_1 n5_1 sh_36 (s_iinc c25_49 rfl rfl rfl (s_goto 3 c25_52 (by decide) (((H.2 q1).2 q2).2))))))))⟩))))))))))))⟩)))⟩))
-- WarmSide$Rules.next()I
theorem c30_0 : cdA 30 0 = some (.aload_n 0) := by decide +kernel
theorem c30_1 : cdA 30 1 = some (.getfield 34) := by decide +kernel
theorem f30_34 : fldR (moN 30) 34 = some (5, 2) := by decide +kernel
theorem t5_2 : fcl 5 2 = 0 := by decide +kernel
theorem c30_4 : cdA 30 4 = some (.aload_n 0) := by decide +kernel
theorem c30_5 : cdA 30 5 = some (.getfield 28) := by decide +kernel
theorem f30_28 : fldR (moN 30) 28 = some (5, 1) := by decide +kernel
theorem c30_8 : cdA 30 8 = some (.if_icmp .ge 15) := by decide +kernel
theorem c30_23 : cdA 30 23 = some (.iconst (-1)) := by decide +kernel
theorem c30_24 : cdA 30 24 = some (.ireturn) := by decide +kernel
theorem R30 : mK 30 = 0 := by decide +kernel
theorem c30_11 : cdA 30 11 = some (.aload_n 0) := by decide +kernel
theorem c30_12 : cdA 30 12 = some (.getfield 11) := by decide +kernel
theorem f30_11 : fldR (moN 30) 11 = some (5, 4) := by decide +kernel
theorem c30_15 : cdA 30 15 = some (.aload_n 0) := by decide +kernel
theorem c30_16 : cdA 30 16 = some (.getfield 34) := by decide +kernel
theorem c30_19 : cdA 30 19 = some (.iaload) := by decide +kernel
theorem c30_20 : cdA 30 20 = some (.goto 4) := by decide +kernel
theorem b30_0 {d : Nat} {h : HP} {Q : PV → HP → Prop} (H : (((h 36 1) ≤ (h 36 2)) → Q (I (-1)) h) ∧ (¬ ((h 36 1) ≤ (h 36 2)) → ((0 ≤ (h 36 2) ∧ (h 36 2) < 40) ∧ Q (I (h 37 (h 36 2).toNat)) h))) : X d 30 0 [some (P 36)] [] h Q :=
  s_aload_n c30_0 rfl (s_getI c30_1 f30_34 t5_2 sh_36 (s_aload_n c30_4 rfl (s_getI c30_5 f30_28 t5_1 sh_36 (s_ifc 23 ((h 36 1) ≤ (h 36 2)) c30_8 (by decide) rfl ⟨fun q1 => s_iconst c30_23 rfl (s_retI c30_24 R30 (H.1 q1)), fun q1 => s_aload_n c30_11 rfl (s_getP 37 c30_12 f30_11 t5_4 sh_36 g_36_4 (by decide) (by decide) (s_aload_n c30_15 rfl (s_getI c30_16 f30_34 t5_2 sh_36 (s_iald c30_19 sh_37 ⟨(H.2 q1).1, s_goto 24 c30_20 (by decide) (s_retI c30_24 R30 (H.2 q1).2)⟩))))⟩))))
-- WarmSide$Rules.take(I)Z
theorem c31_0 : cdA 31 0 = some (.aload_n 0) := by decide +kernel
theorem c31_1 : cdA 31 1 = some (.getfield 34) := by decide +kernel
theorem f31_34 : fldR (moN 31) 34 = some (5, 2) := by decide +kernel
theorem c31_4 : cdA 31 4 = some (.aload_n 0) := by decide +kernel
theorem c31_5 : cdA 31 5 = some (.getfield 28) := by decide +kernel
theorem f31_28 : fldR (moN 31) 28 = some (5, 1) := by decide +kernel
theorem c31_8 : cdA 31 8 = some (.if_icmp .ge 16) := by decide +kernel
theorem c31_24 : cdA 31 24 = some (.iconst 0) := by decide +kernel
theorem c31_25 : cdA 31 25 = some (.ireturn) := by decide +kernel
theorem R31 : mK 31 = 3 := by decide +kernel
theorem c31_11 : cdA 31 11 = some (.aload_n 0) := by decide +kernel
theorem c31_12 : cdA 31 12 = some (.getfield 11) := by decide +kernel
theorem f31_11 : fldR (moN 31) 11 = some (5, 4) := by decide +kernel
theorem c31_15 : cdA 31 15 = some (.aload_n 0) := by decide +kernel
theorem c31_16 : cdA 31 16 = some (.getfield 34) := by decide +kernel
theorem c31_19 : cdA 31 19 = some (.iaload) := by decide +kernel
theorem c31_20 : cdA 31 20 = some (.iload_n 1) := by decide +kernel
theorem c31_21 : cdA 31 21 = some (.if_icmp .eq 5) := by decide +kernel
theorem c31_26 : cdA 31 26 = some (.aload_n 0) := by decide +kernel
theorem c31_27 : cdA 31 27 = some (.dup) := by decide +kernel
theorem c31_28 : cdA 31 28 = some (.getfield 34) := by decide +kernel
theorem c31_31 : cdA 31 31 = some (.iconst 1) := by decide +kernel
theorem c31_32 : cdA 31 32 = some (.iadd) := by decide +kernel
theorem c31_33 : cdA 31 33 = some (.putfield 34) := by decide +kernel
theorem n5_2 : ffin 5 2 = false := by decide +kernel
theorem c31_36 : cdA 31 36 = some (.iconst 1) := by decide +kernel
theorem c31_37 : cdA 31 37 = some (.ireturn) := by decide +kernel
theorem b31_0 {d : Nat} {h : HP} {Q : PV → HP → Prop} {v1 : Int} (H : (((h 36 1) ≤ (h 36 2)) → Q (I 0) h) ∧ (¬ ((h 36 1) ≤ (h 36 2)) → ((0 ≤ (h 36 2) ∧ (h 36 2) < 40) ∧ ((((h 37 (h 36 2).toNat) = v1) → Q (I 1) (up2 h 36 2 (w32 ((h 36 2) + 1)))) ∧ (¬ ((h 37 (h 36 2).toNat) = v1) → Q (I 0) h))))) : X d 31 0 [some (P 36), some (I v1)] [] h Q :=
  s_aload_n c31_0 rfl (s_getI c31_1 f31_34 t5_2 sh_36 (s_aload_n c31_4 rfl (s_getI c31_5 f31_28 t5_1 sh_36 (s_ifc 24 ((h 36 1) ≤ (h 36 2)) c31_8 (by decide) rfl ⟨fun q1 => s_iconst c31_24 rfl (s_retZ c31_25 R31 ⟨by decide, (H.1 q1)⟩), fun q1 => s_aload_n c31_11 rfl (s_getP 37 c31_12 f31_11 t5_4 sh_36 g_36_4 (by decide) (by decide) (s_aload_n c31_15 rfl (s_getI c31_16 f31_34 t5_2 sh_36 (s_iald c31_19 sh_37 ⟨(H.2 q1).1, s_iload_n c31_20 rfl (s_ifc 26 ((h 37 (h 36 2).toNat) = v1) c31_21 (by decide) rfl ⟨fun q2 => s_aload_n c31_26 rfl (s_dupP c31_27 (s_getI c31_28 f31_34 t5_2 sh_36 (s_iconst c31_31 rfl (s_iadd c31_32 (s_putI c31_33 f31_34 t5_2 n5_2 sh_36 (s_iconst c31_36 rfl (s_retZ c31_37 R31 ⟨by decide, ((H.2 q1).2.1 q2)⟩))))))), fun q2 => s_iconst c31_24 rfl (s_retZ c31_25 R31 ⟨by decide, ((H.2 q1).2.2 q2)⟩)⟩)⟩))))⟩))))
-- WarmSide$Rules.hasFlap(I)Z
theorem c35_0 : cdA 35 0 = some (.iload_n 1) := by decide +kernel
theorem c35_1 : cdA 35 1 = some (.aload_n 0) := by decide +kernel
theorem c35_2 : cdA 35 2 = some (.getfield 24) := by decide +kernel
theorem f35_24 : fldR (moN 35) 24 = some (5, 0) := by decide +kernel
theorem t5_0 : fcl 5 0 = 2 := by decide +kernel
theorem c35_5 : cdA 35 5 = some (.getfield 69) := by decide +kernel
theorem f35_69 : fldR (moN 35) 69 = some (1, 0) := by decide +kernel
theorem c35_8 : cdA 35 8 = some (.getfield 73) := by decide +kernel
theorem f35_73 : fldR (moN 35) 73 = some (4, 0) := by decide +kernel
theorem c35_11 : cdA 35 11 = some (.invokestatic 94) := by decide +kernel
theorem m35_94 : mthR (moN 35) 94 = 126 := by decide +kernel
theorem F123 : mF 123 2 2 false := by unfold mF; decide +kernel
theorem K123 : ¬ mK 123 = 4 := by decide +kernel
theorem c35_14 : cdA 35 14 = some (.ifCond .ne 24) := by decide +kernel
theorem c35_38 : cdA 35 38 = some (.iconst 0) := by decide +kernel
theorem c35_39 : cdA 35 39 = some (.ireturn) := by decide +kernel
theorem R35 : mK 35 = 3 := by decide +kernel
theorem c35_17 : cdA 35 17 = some (.aload_n 0) := by decide +kernel
theorem c35_18 : cdA 35 18 = some (.getfield 24) := by decide +kernel
theorem c35_21 : cdA 35 21 = some (.getfield 69) := by decide +kernel
theorem c35_24 : cdA 35 24 = some (.getfield 104) := by decide +kernel
theorem f35_104 : fldR (moN 35) 104 = some (4, 6) := by decide +kernel
theorem c35_27 : cdA 35 27 = some (.iload_n 1) := by decide +kernel
theorem c35_28 : cdA 35 28 = some (.iaload) := by decide +kernel
theorem c35_29 : cdA 35 29 = some (.bipush (-9)) := by decide +kernel
theorem c35_31 : cdA 35 31 = some (.if_icmp .eq 7) := by decide +kernel
theorem c35_34 : cdA 35 34 = some (.iconst 1) := by decide +kernel
theorem c35_35 : cdA 35 35 = some (.goto 4) := by decide +kernel
theorem b35_0 {d : Nat} {h : HP} {Q : PV → HP → Prop} {v1 : Int} (H : X d 123 0 [some (I v1), some (I (h 2 0))] [] h (fun r h' => X (d + 1) 35 14 [some (P 36), some (I v1)] [r] h' Q)) : X (d + 1) 35 0 [some (P 36), some (I v1)] [] h Q :=
  s_iload_n c35_0 rfl (s_aload_n c35_1 rfl (s_getP 1 c35_2 f35_24 t5_0 sh_36 g_36_0 (by decide) (by decide) (s_getP 2 c35_5 f35_69 t1_0 sh_1 g_1_0 (by decide) (by decide) (s_getI c35_8 f35_73 t4_0 sh_2 (s_cSi c35_11 m35_94 F123 K123 rfl (Nat.le_of_ble_eq_true rfl) rfl rfl H)))))
theorem b35_14 {d : Nat} {h : HP} {Q : PV → HP → Prop} {v1 s0 : Int} (H : ((¬ s0 = 0) → Q (I 0) h) ∧ (¬ (¬ s0 = 0) → ((0 ≤ v1 ∧ v1 < 8) ∧ ((((h 8 v1.toNat) = (-9)) → Q (I 0) h) ∧ (¬ ((h 8 v1.toNat) = (-9)) → Q (I 1) h))))) : X d 35 14 [some (P 36), some (I v1)] [I s0] h Q :=
  s_if 38 (¬ s0 = 0) c35_14 (by decide) rfl ⟨fun q1 => s_iconst c35_38 rfl (s_retZ c35_39 R35 ⟨by decide, (H.1 q1)⟩), fun q1 => s_aload_n c35_17 rfl (s_getP 1 c35_18 f35_24 t5_0 sh_36 g_36_0 (by decide) (by decide) (s_getP 2 c35_21 f35_69 t1_0 sh_1 g_1_0 (by decide) (by decide) (s_getP 8 c35_24 f35_104 t4_6 sh_2 g_2_6 (by decide) (by decide) (s_iload_n c35_27 rfl (s_iald c35_28 sh_8 ⟨(H.2 q1).1, s_bipush c35_29 ⟨by decide, by decide⟩ (s_ifc 38 ((h 8 v1.toNat) = (-9)) c35_31 (by decide) rfl ⟨fun q2 => s_iconst c35_38 rfl (s_retZ c35_39 R35 ⟨by decide, ((H.2 q1).2.1 q2)⟩), fun q2 => s_iconst c35_34 rfl (s_goto 39 c35_35 (by decide) (s_retZ c35_39 R35 ⟨by decide, ((H.2 q1).2.2 q2)⟩))⟩)⟩)))))⟩
-- WarmSide$Rules.subject()I
theorem c34_0 : cdA 34 0 = some (.aload_n 0) := by decide +kernel
theorem c34_1 : cdA 34 1 = some (.invokevirtual 84) := by decide +kernel
theorem m34_84 : mthR (moN 34) 84 = 33 := by decide +kernel
theorem F30 : mF 30 0 1 true := by unfold mF; decide +kernel
theorem K30 : ¬ mK 30 = 4 := by decide +kernel
theorem S30_36 : SH0[36]? = some (.inl (moN 30)) := by decide +kernel
theorem c34_14 : cdA 34 14 = some (.istore_n 1) := by decide +kernel
theorem c34_15 : cdA 34 15 = some (.iload_n 1) := by decide +kernel
theorem c34_16 : cdA 34 16 = some (.ifCond .ne 14) := by decide +kernel
theorem c34_19 : cdA 34 19 = some (.aload_n 0) := by decide +kernel
theorem c34_20 : cdA 34 20 = some (.invokevirtual 84) := by decide +kernel
theorem c34_23 : cdA 34 23 = some (.bipush 70) := by decide +kernel
theorem c34_25 : cdA 34 25 = some (.if_icmp .eq 5) := by decide +kernel
theorem c34_28 : cdA 34 28 = some (.iconst (-1)) := by decide +kernel
theorem c34_29 : cdA 34 29 = some (.ireturn) := by decide +kernel
theorem R34 : mK 34 = 0 := by decide +kernel
theorem c34_30 : cdA 34 30 = some (.aload_n 0) := by decide +kernel
theorem c34_31 : cdA 34 31 = some (.dup) := by decide +kernel
theorem c34_32 : cdA 34 32 = some (.getfield 34) := by decide +kernel
theorem f34_34 : fldR (moN 34) 34 = some (5, 2) := by decide +kernel
theorem c34_35 : cdA 34 35 = some (.iconst 1) := by decide +kernel
theorem c34_36 : cdA 34 36 = some (.iadd) := by decide +kernel
theorem c34_37 : cdA 34 37 = some (.putfield 34) := by decide +kernel
theorem c34_40 : cdA 34 40 = some (.aload_n 0) := by decide +kernel
theorem c34_41 : cdA 34 41 = some (.invokevirtual 84) := by decide +kernel
theorem c34_4 : cdA 34 4 = some (.bipush 72) := by decide +kernel
theorem c34_6 : cdA 34 6 = some (.if_icmp .ne 7) := by decide +kernel
theorem c34_13 : cdA 34 13 = some (.iconst 0) := by decide +kernel
theorem c34_9 : cdA 34 9 = some (.iconst 1) := by decide +kernel
theorem c34_10 : cdA 34 10 = some (.goto 4) := by decide +kernel
theorem c34_44 : cdA 34 44 = some (.bipush 48) := by decide +kernel
theorem c34_46 : cdA 34 46 = some (.isub) := by decide +kernel
theorem c34_47 : cdA 34 47 = some (.istore_n 2) := by decide +kernel
theorem c34_48 : cdA 34 48 = some (.iload_n 1) := by decide +kernel
theorem c34_49 : cdA 34 49 = some (.ifCond .eq 23) := by decide +kernel
theorem c34_72 : cdA 34 72 = some (.aload_n 0) := by decide +kernel
theorem c34_73 : cdA 34 73 = some (.iload_n 2) := by decide +kernel
theorem c34_74 : cdA 34 74 = some (.invokevirtual 98) := by decide +kernel
theorem m34_98 : mthR (moN 34) 98 = 38 := by decide +kernel
theorem F35 : mF 35 1 2 true := by unfold mF; decide +kernel
theorem K35 : ¬ mK 35 = 4 := by decide +kernel
theorem S35_36 : SH0[36]? = some (.inl (moN 35)) := by decide +kernel
theorem c34_52 : cdA 34 52 = some (.iload_n 2) := by decide +kernel
theorem c34_53 : cdA 34 53 = some (.aload_n 0) := by decide +kernel
theorem c34_54 : cdA 34 54 = some (.getfield 24) := by decide +kernel
theorem f34_24 : fldR (moN 34) 24 = some (5, 0) := by decide +kernel
theorem c34_57 : cdA 34 57 = some (.getfield 87) := by decide +kernel
theorem f34_87 : fldR (moN 34) 87 = some (1, 4) := by decide +kernel
theorem c34_60 : cdA 34 60 = some (.getfield 91) := by decide +kernel
theorem f34_91 : fldR (moN 34) 91 = some (3, 2) := by decide +kernel
theorem c34_63 : cdA 34 63 = some (.invokestatic 94) := by decide +kernel
theorem m34_94 : mthR (moN 34) 94 = 126 := by decide +kernel
theorem c34_66 : cdA 34 66 = some (.ifCond .eq 16) := by decide +kernel
theorem c34_69 : cdA 34 69 = some (.goto 11) := by decide +kernel
theorem c34_80 : cdA 34 80 = some (.iconst (-1)) := by decide +kernel
theorem c34_81 : cdA 34 81 = some (.ireturn) := by decide +kernel
theorem c34_77 : cdA 34 77 = some (.ifCond .ne 5) := by decide +kernel
theorem c34_82 : cdA 34 82 = some (.aload_n 0) := by decide +kernel
theorem c34_83 : cdA 34 83 = some (.dup) := by decide +kernel
theorem c34_84 : cdA 34 84 = some (.getfield 34) := by decide +kernel
theorem c34_87 : cdA 34 87 = some (.iconst 1) := by decide +kernel
theorem c34_88 : cdA 34 88 = some (.iadd) := by decide +kernel
theorem c34_89 : cdA 34 89 = some (.putfield 34) := by decide +kernel
theorem c34_92 : cdA 34 92 = some (.aload_n 0) := by decide +kernel
theorem c34_93 : cdA 34 93 = some (.bipush 58) := by decide +kernel
theorem c34_95 : cdA 34 95 = some (.invokevirtual 101) := by decide +kernel
theorem m34_101 : mthR (moN 34) 101 = 34 := by decide +kernel
theorem F31 : mF 31 1 2 true := by unfold mF; decide +kernel
theorem K31 : ¬ mK 31 = 4 := by decide +kernel
theorem S31_36 : SH0[36]? = some (.inl (moN 31)) := by decide +kernel
theorem c34_98 : cdA 34 98 = some (.ifCond .ne 5) := by decide +kernel
theorem c34_103 : cdA 34 103 = some (.iload_n 1) := by decide +kernel
theorem c34_104 : cdA 34 104 = some (.ifCond .eq 7) := by decide +kernel
theorem c34_111 : cdA 34 111 = some (.iconst 4) := by decide +kernel
theorem c34_112 : cdA 34 112 = some (.iload_n 2) := by decide +kernel
theorem c34_113 : cdA 34 113 = some (.iadd) := by decide +kernel
theorem c34_114 : cdA 34 114 = some (.ireturn) := by decide +kernel
theorem c34_107 : cdA 34 107 = some (.iload_n 2) := by decide +kernel
theorem c34_108 : cdA 34 108 = some (.goto 6) := by decide +kernel
theorem c34_101 : cdA 34 101 = some (.iconst (-1)) := by decide +kernel
theorem c34_102 : cdA 34 102 = some (.ireturn) := by decide +kernel
theorem b34_0 {d : Nat} {h : HP} {Q : PV → HP → Prop} (H : X d 30 0 [some (P 36)] [] h (fun r h' => X (d + 1) 34 4 [some (P 36), none, none] [r] h' Q)) : X (d + 1) 34 0 [some (P 36), none, none] [] h Q :=
  s_aload_n c34_0 rfl (s_cVi c34_1 m34_84 F30 K30 rfl (Nat.le_of_ble_eq_true rfl) rfl S30_36 rfl H)
theorem b34_14 {d : Nat} {h : HP} {Q : PV → HP → Prop} {s0 : Int} (H : ((¬ s0 = 0) → X (d + 1) 34 30 [some (P 36), some (I s0), none] [] h Q) ∧ (¬ (¬ s0 = 0) → X d 30 0 [some (P 36)] [] h (fun r h' => X (d + 1) 34 23 [some (P 36), some (I s0), none] [r] h' Q))) : X (d + 1) 34 14 [some (P 36), none, none] [I s0] h Q :=
  s_istore_n c34_14 rfl (s_iload_n c34_15 rfl (s_if 30 (¬ s0 = 0) c34_16 (by decide) rfl ⟨fun q1 => (H.1 q1), fun q1 => s_aload_n c34_19 rfl (s_cVi c34_20 m34_84 F30 K30 rfl (Nat.le_of_ble_eq_true rfl) rfl S30_36 rfl (H.2 q1))⟩))
theorem b34_23 {d : Nat} {h : HP} {Q : PV → HP → Prop} {v1 s0 : Int} (H : ((s0 = 70) → X d 34 30 [some (P 36), some (I v1), none] [] h Q) ∧ (¬ (s0 = 70) → Q (I (-1)) h)) : X d 34 23 [some (P 36), some (I v1), none] [I s0] h Q :=
  s_bipush c34_23 ⟨by decide, by decide⟩ (s_ifc 30 (s0 = 70) c34_25 (by decide) rfl ⟨fun q2 => (H.1 q2), fun q2 => s_iconst c34_28 rfl (s_retI c34_29 R34 (H.2 q2))⟩)
theorem b34_30 {d : Nat} {h : HP} {Q : PV → HP → Prop} {v1 : Int} (H : X d 30 0 [some (P 36)] [] (up2 h 36 2 (w32 ((h 36 2) + 1))) (fun r h' => X (d + 1) 34 44 [some (P 36), some (I v1), none] [r] h' Q)) : X (d + 1) 34 30 [some (P 36), some (I v1), none] [] h Q :=
  s_aload_n c34_30 rfl (s_dupP c34_31 (s_getI c34_32 f34_34 t5_2 sh_36 (s_iconst c34_35 rfl (s_iadd c34_36 (s_putI c34_37 f34_34 t5_2 n5_2 sh_36 (s_aload_n c34_40 rfl (s_cVi c34_41 m34_84 F30 K30 rfl (Nat.le_of_ble_eq_true rfl) rfl S30_36 rfl H)))))))
theorem b34_4 {d : Nat} {h : HP} {Q : PV → HP → Prop} {s0 : Int} (H : ((¬ s0 = 72) → X d 34 14 [some (P 36), none, none] [I 0] h Q) ∧ (¬ (¬ s0 = 72) → X d 34 14 [some (P 36), none, none] [I 1] h Q)) : X d 34 4 [some (P 36), none, none] [I s0] h Q :=
  s_bipush c34_4 ⟨by decide, by decide⟩ (s_ifc 13 (¬ s0 = 72) c34_6 (by decide) rfl ⟨fun q3 => s_iconst c34_13 rfl ((H.1 q3)), fun q3 => s_iconst c34_9 rfl (s_goto 14 c34_10 (by decide) ((H.2 q3)))⟩)
theorem b34_44 {d : Nat} {h : HP} {Q : PV → HP → Prop} {v1 s0 : Int} (H : ((v1 = 0) → X d 35 0 [some (P 36), some (I (w32 (s0 - 48)))] [] h (fun r h' => X (d + 1) 34 77 [some (P 36), some (I v1), some (I (w32 (s0 - 48)))] [r] h' Q)) ∧ (¬ (v1 = 0) → X d 123 0 [some (I (w32 (s0 - 48))), some (I (h 26 2))] [] h (fun r h' => X (d + 1) 34 66 [some (P 36), some (I v1), some (I (w32 (s0 - 48)))] [r] h' Q))) : X (d + 1) 34 44 [some (P 36), some (I v1), none] [I s0] h Q :=
  s_bipush c34_44 ⟨by decide, by decide⟩ (s_isub c34_46 (s_istore_n c34_47 rfl (s_iload_n c34_48 rfl (s_if 72 (v1 = 0) c34_49 (by decide) rfl ⟨fun q4 => s_aload_n c34_72 rfl (s_iload_n c34_73 rfl (s_cVi c34_74 m34_98 F35 K35 rfl (Nat.le_of_ble_eq_true rfl) rfl S35_36 rfl (H.1 q4))), fun q4 => s_iload_n c34_52 rfl (s_aload_n c34_53 rfl (s_getP 1 c34_54 f34_24 t5_0 sh_36 g_36_0 (by decide) (by decide) (s_getP 26 c34_57 f34_87 t1_4 sh_1 g_1_4 (by decide) (by decide) (s_getI c34_60 f34_91 t3_2 sh_26 (s_cSi c34_63 m34_94 F123 K123 rfl (Nat.le_of_ble_eq_true rfl) rfl rfl (H.2 q4))))))⟩))))
theorem b34_66 {d : Nat} {h : HP} {Q : PV → HP → Prop} {v1 v2 s0 : Int} (H : ((s0 = 0) → X d 34 82 [some (P 36), some (I v1), some (I v2)] [] h Q) ∧ (¬ (s0 = 0) → Q (I (-1)) h)) : X d 34 66 [some (P 36), some (I v1), some (I v2)] [I s0] h Q :=
  s_if 82 (s0 = 0) c34_66 (by decide) rfl ⟨fun q5 => (H.1 q5), fun q5 => s_goto 80 c34_69 (by decide) (s_iconst c34_80 rfl (s_retI c34_81 R34 (H.2 q5)))⟩
theorem b34_77 {d : Nat} {h : HP} {Q : PV → HP → Prop} {v1 v2 s0 : Int} (H : ((¬ s0 = 0) → X d 34 82 [some (P 36), some (I v1), some (I v2)] [] h Q) ∧ (¬ (¬ s0 = 0) → Q (I (-1)) h)) : X d 34 77 [some (P 36), some (I v1), some (I v2)] [I s0] h Q :=
  s_if 82 (¬ s0 = 0) c34_77 (by decide) rfl ⟨fun q6 => (H.1 q6), fun q6 => s_iconst c34_80 rfl (s_retI c34_81 R34 (H.2 q6))⟩
theorem b34_82 {d : Nat} {h : HP} {Q : PV → HP → Prop} {v1 v2 : Int} (H : X d 31 0 [some (P 36), some (I 58)] [] (up2 h 36 2 (w32 ((h 36 2) + 1))) (fun r h' => X (d + 1) 34 98 [some (P 36), some (I v1), some (I v2)] [r] h' Q)) : X (d + 1) 34 82 [some (P 36), some (I v1), some (I v2)] [] h Q :=
  s_aload_n c34_82 rfl (s_dupP c34_83 (s_getI c34_84 f34_34 t5_2 sh_36 (s_iconst c34_87 rfl (s_iadd c34_88 (s_putI c34_89 f34_34 t5_2 n5_2 sh_36 (s_aload_n c34_92 rfl (s_bipush c34_93 ⟨by decide, by decide⟩ (s_cVi c34_95 m34_101 F31 K31 rfl (Nat.le_of_ble_eq_true rfl) rfl S31_36 rfl H))))))))
theorem b34_98 {d : Nat} {h : HP} {Q : PV → HP → Prop} {v1 v2 s0 : Int} (H : ((¬ s0 = 0) → (((v1 = 0) → Q (I (w32 (4 + v2))) h) ∧ (¬ (v1 = 0) → Q (I v2) h))) ∧ (¬ (¬ s0 = 0) → Q (I (-1)) h)) : X d 34 98 [some (P 36), some (I v1), some (I v2)] [I s0] h Q :=
  s_if 103 (¬ s0 = 0) c34_98 (by decide) rfl ⟨fun q7 => s_iload_n c34_103 rfl (s_if 111 (v1 = 0) c34_104 (by decide) rfl ⟨fun q8 => s_iconst c34_111 rfl (s_iload_n c34_112 rfl (s_iadd c34_113 (s_retI c34_114 R34 ((H.1 q7).1 q8)))), fun q8 => s_iload_n c34_107 rfl (s_goto 114 c34_108 (by decide) (s_retI c34_114 R34 ((H.1 q7).2 q8)))⟩), fun q7 => s_iconst c34_101 rfl (s_retI c34_102 R34 (H.2 q7))⟩
-- WarmSide$Rules.write(I)V
theorem c32_0 : cdA 32 0 = some (.aload_n 0) := by decide +kernel
theorem c32_1 : cdA 32 1 = some (.getfield 37) := by decide +kernel
theorem f32_37 : fldR (moN 32) 37 = some (5, 3) := by decide +kernel
theorem t5_3 : fcl 5 3 = 0 := by decide +kernel
theorem c32_4 : cdA 32 4 = some (.bipush 40) := by decide +kernel
theorem c32_6 : cdA 32 6 = some (.if_icmp .lt 4) := by decide +kernel
theorem c32_10 : cdA 32 10 = some (.aload_n 0) := by decide +kernel
theorem c32_11 : cdA 32 11 = some (.getfield 15) := by decide +kernel
theorem f32_15 : fldR (moN 32) 15 = some (5, 5) := by decide +kernel
theorem t5_5 : fcl 5 5 = 2 := by decide +kernel
theorem c32_14 : cdA 32 14 = some (.aload_n 0) := by decide +kernel
theorem c32_15 : cdA 32 15 = some (.getfield 37) := by decide +kernel
theorem c32_18 : cdA 32 18 = some (.iload_n 1) := by decide +kernel
theorem c32_19 : cdA 32 19 = some (.iastore) := by decide +kernel
theorem c32_20 : cdA 32 20 = some (.aload_n 0) := by decide +kernel
theorem c32_21 : cdA 32 21 = some (.dup) := by decide +kernel
theorem c32_22 : cdA 32 22 = some (.getfield 37) := by decide +kernel
theorem c32_25 : cdA 32 25 = some (.iconst 1) := by decide +kernel
theorem c32_26 : cdA 32 26 = some (.iadd) := by decide +kernel
theorem c32_27 : cdA 32 27 = some (.putfield 37) := by decide +kernel
theorem n5_3 : ffin 5 3 = false := by decide +kernel
theorem c32_30 : cdA 32 30 = some (.return_) := by decide +kernel
theorem R32 : mK 32 = 4 := by decide +kernel
theorem c32_9 : cdA 32 9 = some (.return_) := by decide +kernel
theorem b32_0 {d : Nat} {h : HP} {Q : PV → HP → Prop} {v1 : Int} (H : (((h 36 3) < 40) → ((0 ≤ (h 36 3) ∧ (h 36 3) < 40) ∧ Q (I 0) (up2 (up2 h 38 (h 36 3).toNat v1) 36 3 (w32 ((h 36 3) + 1))))) ∧ (¬ ((h 36 3) < 40) → Q (I 0) h)) : X d 32 0 [some (P 36), some (I v1)] [] h Q :=
  s_aload_n c32_0 rfl (s_getI c32_1 f32_37 t5_3 sh_36 (s_bipush c32_4 ⟨by decide, by decide⟩ (s_ifc 10 ((h 36 3) < 40) c32_6 (by decide) rfl ⟨fun q1 => s_aload_n c32_10 rfl (s_getP 38 c32_11 f32_15 t5_5 sh_36 g_36_5 (by decide) (by decide) (s_aload_n c32_14 rfl (s_getI c32_15 f32_37 t5_3 sh_36 (s_iload_n c32_18 rfl (s_iast c32_19 sh_38 ⟨(H.1 q1).1, s_aload_n c32_20 rfl (s_dupP c32_21 (s_getI c32_22 f32_37 t5_3 sh_36 (s_iconst c32_25 rfl (s_iadd c32_26 (s_putI c32_27 f32_37 t5_3 n5_3 sh_36 (s_retV c32_30 R32 (H.1 q1).2))))))⟩))))), fun q1 => s_retV c32_9 R32 (H.2 q1)⟩)))
-- WarmSide$Rules.digit(I)I
theorem c33_0 : cdA 33 0 = some (.aload_n 0) := by decide +kernel
theorem c33_1 : cdA 33 1 = some (.getfield 34) := by decide +kernel
theorem f33_34 : fldR (moN 33) 34 = some (5, 2) := by decide +kernel
theorem c33_4 : cdA 33 4 = some (.aload_n 0) := by decide +kernel
theorem c33_5 : cdA 33 5 = some (.getfield 28) := by decide +kernel
theorem f33_28 : fldR (moN 33) 28 = some (5, 1) := by decide +kernel
theorem c33_8 : cdA 33 8 = some (.if_icmp .ge 18) := by decide +kernel
theorem c33_26 : cdA 33 26 = some (.iconst (-1)) := by decide +kernel
theorem c33_11 : cdA 33 11 = some (.aload_n 0) := by decide +kernel
theorem c33_12 : cdA 33 12 = some (.getfield 11) := by decide +kernel
theorem f33_11 : fldR (moN 33) 11 = some (5, 4) := by decide +kernel
theorem c33_15 : cdA 33 15 = some (.aload_n 0) := by decide +kernel
theorem c33_16 : cdA 33 16 = some (.getfield 34) := by decide +kernel
theorem c33_19 : cdA 33 19 = some (.iaload) := by decide +kernel
theorem c33_20 : cdA 33 20 = some (.bipush 48) := by decide +kernel
theorem c33_22 : cdA 33 22 = some (.isub) := by decide +kernel
theorem c33_23 : cdA 33 23 = some (.goto 4) := by decide +kernel
theorem c33_27 : cdA 33 27 = some (.istore_n 2) := by decide +kernel
theorem c33_28 : cdA 33 28 = some (.iload_n 2) := by decide +kernel
theorem c33_29 : cdA 33 29 = some (.ifCond .lt 8) := by decide +kernel
theorem c33_37 : cdA 33 37 = some (.iconst (-1)) := by decide +kernel
theorem c33_38 : cdA 33 38 = some (.ireturn) := by decide +kernel
theorem R33 : mK 33 = 0 := by decide +kernel
theorem c33_32 : cdA 33 32 = some (.iload_n 2) := by decide +kernel
theorem c33_33 : cdA 33 33 = some (.iload_n 1) := by decide +kernel
theorem c33_34 : cdA 33 34 = some (.if_icmp .le 5) := by decide +kernel
theorem c33_39 : cdA 33 39 = some (.aload_n 0) := by decide +kernel
theorem c33_40 : cdA 33 40 = some (.dup) := by decide +kernel
theorem c33_41 : cdA 33 41 = some (.getfield 34) := by decide +kernel
theorem c33_44 : cdA 33 44 = some (.iconst 1) := by decide +kernel
theorem c33_45 : cdA 33 45 = some (.iadd) := by decide +kernel
theorem c33_46 : cdA 33 46 = some (.putfield 34) := by decide +kernel
theorem c33_49 : cdA 33 49 = some (.iload_n 2) := by decide +kernel
theorem c33_50 : cdA 33 50 = some (.ireturn) := by decide +kernel
theorem b33_0 {d : Nat} {h : HP} {Q : PV → HP → Prop} {v1 : Int} (H : (((h 36 1) ≤ (h 36 2)) → X d 33 27 [some (P 36), some (I v1), none] [I (-1)] h Q) ∧ (¬ ((h 36 1) ≤ (h 36 2)) → ((0 ≤ (h 36 2) ∧ (h 36 2) < 40) ∧ X d 33 27 [some (P 36), some (I v1), none] [I (w32 ((h 37 (h 36 2).toNat) - 48))] h Q))) : X d 33 0 [some (P 36), some (I v1), none] [] h Q :=
  s_aload_n c33_0 rfl (s_getI c33_1 f33_34 t5_2 sh_36 (s_aload_n c33_4 rfl (s_getI c33_5 f33_28 t5_1 sh_36 (s_ifc 26 ((h 36 1) ≤ (h 36 2)) c33_8 (by decide) rfl ⟨fun q1 => s_iconst c33_26 rfl ((H.1 q1)), fun q1 => s_aload_n c33_11 rfl (s_getP 37 c33_12 f33_11 t5_4 sh_36 g_36_4 (by decide) (by decide) (s_aload_n c33_15 rfl (s_getI c33_16 f33_34 t5_2 sh_36 (s_iald c33_19 sh_37 ⟨(H.2 q1).1, s_bipush c33_20 ⟨by decide, by decide⟩ (s_isub c33_22 (s_goto 27 c33_23 (by decide) ((H.2 q1).2)))⟩))))⟩))))
theorem b33_27 {d : Nat} {h : HP} {Q : PV → HP → Prop} {v1 s0 : Int} (H : ((s0 < 0) → Q (I (-1)) h) ∧ (¬ (s0 < 0) → (((s0 ≤ v1) → Q (I s0) (up2 h 36 2 (w32 ((h 36 2) + 1)))) ∧ (¬ (s0 ≤ v1) → Q (I (-1)) h)))) : X d 33 27 [some (P 36), some (I v1), none] [I s0] h Q :=
  s_istore_n c33_27 rfl (s_iload_n c33_28 rfl (s_if 37 (s0 < 0) c33_29 (by decide) rfl ⟨fun q2 => s_iconst c33_37 rfl (s_retI c33_38 R33 (H.1 q2)), fun q2 => s_iload_n c33_32 rfl (s_iload_n c33_33 rfl (s_ifc 39 (s0 ≤ v1) c33_34 (by decide) rfl ⟨fun q3 => s_aload_n c33_39 rfl (s_dupP c33_40 (s_getI c33_41 f33_34 t5_2 sh_36 (s_iconst c33_44 rfl (s_iadd c33_45 (s_putI c33_46 f33_34 t5_2 n5_2 sh_36 (s_iload_n c33_49 rfl (s_retI c33_50 R33 ((H.2 q2).1 q3)))))))), fun q3 => s_iconst c33_37 rfl (s_retI c33_38 R33 ((H.2 q2).2 q3))⟩))⟩))
-- WarmSide$Rules.fact()Z
theorem c40_0 : cdA 40 0 = some (.aload_n 0) := by decide +kernel
theorem c40_1 : cdA 40 1 = some (.bipush 115) := by decide +kernel
theorem c40_3 : cdA 40 3 = some (.invokevirtual 101) := by decide +kernel
theorem m40_101 : mthR (moN 40) 101 = 34 := by decide +kernel
theorem c40_110 : cdA 40 110 = some (.istore 5) := by decide +kernel
theorem c40_112 : cdA 40 112 = some (.iload 5) := by decide +kernel
theorem c40_114 : cdA 40 114 = some (.ifCond .ge 6) := by decide +kernel
theorem c40_120 : cdA 40 120 = some (.bipush 10) := by decide +kernel
theorem c40_122 : cdA 40 122 = some (.iload_n 3) := by decide +kernel
theorem c40_123 : cdA 40 123 = some (.imul) := by decide +kernel
theorem c40_124 : cdA 40 124 = some (.iload 5) := by decide +kernel
theorem c40_126 : cdA 40 126 = some (.iadd) := by decide +kernel
theorem c40_127 : cdA 40 127 = some (.istore_n 3) := by decide +kernel
theorem c40_128 : cdA 40 128 = some (.iinc 4 1) := by decide +kernel
theorem c40_131 : cdA 40 131 = some (.goto (-33)) := by decide +kernel
theorem c40_117 : cdA 40 117 = some (.goto 17) := by decide +kernel
theorem c40_134 : cdA 40 134 = some (.aload_n 0) := by decide +kernel
theorem c40_135 : cdA 40 135 = some (.ldc 132) := by decide +kernel
theorem k40_132 : cstR (moN 40) 132 = some 1048576 := by decide +kernel
theorem c40_137 : cdA 40 137 = some (.iload_n 1) := by decide +kernel
theorem c40_138 : cdA 40 138 = some (.bipush 12) := by decide +kernel
theorem c40_140 : cdA 40 140 = some (.ishl) := by decide +kernel
theorem c40_141 : cdA 40 141 = some (.ior) := by decide +kernel
theorem c40_142 : cdA 40 142 = some (.iload_n 2) := by decide +kernel
theorem c40_143 : cdA 40 143 = some (.bipush 10) := by decide +kernel
theorem c40_145 : cdA 40 145 = some (.ishl) := by decide +kernel
theorem c40_146 : cdA 40 146 = some (.ior) := by decide +kernel
theorem c40_147 : cdA 40 147 = some (.iload_n 3) := by decide +kernel
theorem c40_148 : cdA 40 148 = some (.ior) := by decide +kernel
theorem c40_149 : cdA 40 149 = some (.invokevirtual 115) := by decide +kernel
theorem m40_115 : mthR (moN 40) 115 = 35 := by decide +kernel
theorem F32 : mF 32 1 2 true := by unfold mF; decide +kernel
theorem K32 : mK 32 = 4 := by decide +kernel
theorem S32_36 : SH0[36]? = some (.inl (moN 32)) := by decide +kernel
theorem c40_152 : cdA 40 152 = some (.iconst 1) := by decide +kernel
theorem c40_153 : cdA 40 153 = some (.ireturn) := by decide +kernel
theorem R40 : mK 40 = 3 := by decide +kernel
theorem c40_20 : cdA 40 20 = some (.ifCond .eq 8) := by decide +kernel
theorem c40_28 : cdA 40 28 = some (.aload_n 0) := by decide +kernel
theorem c40_29 : cdA 40 29 = some (.bipush 119) := by decide +kernel
theorem c40_31 : cdA 40 31 = some (.invokevirtual 101) := by decide +kernel
theorem c40_23 : cdA 40 23 = some (.bipush 11) := by decide +kernel
theorem c40_25 : cdA 40 25 = some (.goto 22) := by decide +kernel
theorem c40_34 : cdA 40 34 = some (.ifCond .eq 12) := by decide +kernel
theorem c40_46 : cdA 40 46 = some (.iconst (-1)) := by decide +kernel
theorem c40_37 : cdA 40 37 = some (.aload_n 0) := by decide +kernel
theorem c40_38 : cdA 40 38 = some (.bipush 9) := by decide +kernel
theorem c40_40 : cdA 40 40 = some (.invokevirtual 110) := by decide +kernel
theorem m40_110 : mthR (moN 40) 110 = 36 := by decide +kernel
theorem F33 : mF 33 1 3 true := by unfold mF; decide +kernel
theorem K33 : ¬ mK 33 = 4 := by decide +kernel
theorem S33_36 : SH0[36]? = some (.inl (moN 33)) := by decide +kernel
theorem c40_43 : cdA 40 43 = some (.goto 4) := by decide +kernel
theorem c40_47 : cdA 40 47 = some (.istore_n 1) := by decide +kernel
theorem c40_48 : cdA 40 48 = some (.iload_n 1) := by decide +kernel
theorem c40_49 : cdA 40 49 = some (.ifCond .ge 5) := by decide +kernel
theorem c40_54 : cdA 40 54 = some (.aload_n 0) := by decide +kernel
theorem c40_55 : cdA 40 55 = some (.invokevirtual 84) := by decide +kernel
theorem m40_84 : mthR (moN 40) 84 = 33 := by decide +kernel
theorem c40_52 : cdA 40 52 = some (.iconst 0) := by decide +kernel
theorem c40_53 : cdA 40 53 = some (.ireturn) := by decide +kernel
theorem c40_58 : cdA 40 58 = some (.bipush 60) := by decide +kernel
theorem c40_60 : cdA 40 60 = some (.isub) := by decide +kernel
theorem c40_61 : cdA 40 61 = some (.istore_n 2) := by decide +kernel
theorem c40_62 : cdA 40 62 = some (.iload_n 2) := by decide +kernel
theorem c40_63 : cdA 40 63 = some (.iconst 3) := by decide +kernel
theorem c40_64 : cdA 40 64 = some (.invokestatic 94) := by decide +kernel
theorem m40_94 : mthR (moN 40) 94 = 126 := by decide +kernel
theorem c40_6 : cdA 40 6 = some (.ifCond .eq 8) := by decide +kernel
theorem c40_14 : cdA 40 14 = some (.aload_n 0) := by decide +kernel
theorem c40_15 : cdA 40 15 = some (.bipush 104) := by decide +kernel
theorem c40_17 : cdA 40 17 = some (.invokevirtual 101) := by decide +kernel
theorem c40_9 : cdA 40 9 = some (.bipush 10) := by decide +kernel
theorem c40_11 : cdA 40 11 = some (.goto 36) := by decide +kernel
theorem c40_67 : cdA 40 67 = some (.ifCond .eq 5) := by decide +kernel
theorem c40_72 : cdA 40 72 = some (.aload_n 0) := by decide +kernel
theorem c40_73 : cdA 40 73 = some (.dup) := by decide +kernel
theorem c40_74 : cdA 40 74 = some (.getfield 34) := by decide +kernel
theorem f40_34 : fldR (moN 40) 34 = some (5, 2) := by decide +kernel
theorem c40_77 : cdA 40 77 = some (.iconst 1) := by decide +kernel
theorem c40_78 : cdA 40 78 = some (.iadd) := by decide +kernel
theorem c40_79 : cdA 40 79 = some (.putfield 34) := by decide +kernel
theorem c40_82 : cdA 40 82 = some (.aload_n 0) := by decide +kernel
theorem c40_83 : cdA 40 83 = some (.bipush 9) := by decide +kernel
theorem c40_85 : cdA 40 85 = some (.invokevirtual 110) := by decide +kernel
theorem c40_70 : cdA 40 70 = some (.iconst 0) := by decide +kernel
theorem c40_71 : cdA 40 71 = some (.ireturn) := by decide +kernel
theorem c40_88 : cdA 40 88 = some (.istore_n 3) := by decide +kernel
theorem c40_89 : cdA 40 89 = some (.iload_n 3) := by decide +kernel
theorem c40_90 : cdA 40 90 = some (.ifCond .ge 5) := by decide +kernel
theorem c40_95 : cdA 40 95 = some (.iconst 0) := by decide +kernel
theorem c40_96 : cdA 40 96 = some (.istore 4) := by decide +kernel
theorem c40_93 : cdA 40 93 = some (.iconst 0) := by decide +kernel
theorem c40_94 : cdA 40 94 = some (.ireturn) := by decide +kernel
theorem c40_98 : cdA 40 98 = some (.iload 4) := by decide +kernel
theorem c40_100 : cdA 40 100 = some (.iconst 2) := by decide +kernel
theorem c40_101 : cdA 40 101 = some (.if_icmp .ge 33) := by decide +kernel
theorem c40_104 : cdA 40 104 = some (.aload_n 0) := by decide +kernel
theorem c40_105 : cdA 40 105 = some (.bipush 9) := by decide +kernel
theorem c40_107 : cdA 40 107 = some (.invokevirtual 110) := by decide +kernel
theorem b40_0 {d : Nat} {h : HP} {Q : PV → HP → Prop} (H : X d 31 0 [some (P 36), some (I 115)] [] h (fun r h' => X (d + 1) 40 6 [some (P 36), none, none, none, none, none] [r] h' Q)) : X (d + 1) 40 0 [some (P 36), none, none, none, none, none] [] h Q :=
  s_aload_n c40_0 rfl (s_bipush c40_1 ⟨by decide, by decide⟩ (s_cVi c40_3 m40_101 F31 K31 rfl (Nat.le_of_ble_eq_true rfl) rfl S31_36 rfl H))
theorem b40_110 {d : Nat} {h : HP} {Q : PV → HP → Prop} {v1 v2 v3 v4 s0 : Int} (H : ((0 ≤ s0) → X d 40 98 [some (P 36), some (I v1), some (I v2), some (I (w32 ((w32 (10 * v3)) + s0))), some (I (w32 (v4 + 1))), none] [] h Q) ∧ (¬ (0 ≤ s0) → X d 40 134 [some (P 36), some (I v1), some (I v2), some (I v3), some (I v4), none] [] h Q)) : X d 40 110 [some (P 36), some (I v1), some (I v2), some (I v3), some (I v4), none] [I s0] h Q :=
  s_istore c40_110 rfl (s_iload c40_112 rfl (s_if 120 (0 ≤ s0) c40_114 (by decide) rfl ⟨fun q1 => s_bipush c40_120 ⟨by decide, by decide⟩ (s_iload_n c40_122 rfl (s_imul c40_123 (s_iload c40_124 rfl (s_iadd c40_126 (s_istore_n c40_127 rfl (s_iinc c40_128 rfl rfl rfl (s_goto 98 c40_131 (by decide) (X_weak (A := [some (P 36), some (I v1), some (I v2), some (I (w32 ((w32 (10 * v3)) + s0))), some (I (w32 (v4 + 1))), none]) (B := [some (P 36), some (I v1), some (I v2), some (I (w32 ((w32 (10 * v3)) + s0))), some (I (w32 (v4 + 1))), some (I s0)]) ⟨Or.inl rfl, Or.inl rfl, Or.inl rfl, Or.inl rfl, Or.inl rfl, Or.inr ⟨rfl, _, rfl, rfl⟩, trivial⟩ (H.1 q1))))))))), fun q1 => s_goto 134 c40_117 (by decide) (X_weak (A := [some (P 36), some (I v1), some (I v2), some (I v3), some (I v4), none]) (B := [some (P 36), some (I v1), some (I v2), some (I v3), some (I v4), some (I s0)]) ⟨Or.inl rfl, Or.inl rfl, Or.inl rfl, Or.inl rfl, Or.inl rfl, Or.inr ⟨rfl, _, rfl, rfl⟩, trivial⟩ (H.2 q1))⟩))
theorem b40_134 {d : Nat} {h : HP} {Q : PV → HP → Prop} {v1 v2 v3 v4 : Int} (H : X d 32 0 [some (P 36), some (I (bOr (bOr (bOr 1048576 (bShl v1 12)) (bShl v2 10)) v3))] [] h (fun _ h' => X (d + 1) 40 152 [some (P 36), some (I v1), some (I v2), some (I v3), some (I v4), none] [] h' Q)) : X (d + 1) 40 134 [some (P 36), some (I v1), some (I v2), some (I v3), some (I v4), none] [] h Q :=
  s_aload_n c40_134 rfl (s_ldc c40_135 k40_132 rfl (s_iload_n c40_137 rfl (s_bipush c40_138 ⟨by decide, by decide⟩ (s_ishl c40_140 (s_ior c40_141 (s_iload_n c40_142 rfl (s_bipush c40_143 ⟨by decide, by decide⟩ (s_ishl c40_145 (s_ior c40_146 (s_iload_n c40_147 rfl (s_ior c40_148 (s_cVv c40_149 m40_115 F32 K32 rfl (Nat.le_of_ble_eq_true rfl) rfl S32_36 rfl H))))))))))))
theorem b40_152 {d : Nat} {h : HP} {Q : PV → HP → Prop} {v1 v2 v3 v4 : Int} (H : Q (I 1) h) : X d 40 152 [some (P 36), some (I v1), some (I v2), some (I v3), some (I v4), none] [] h Q :=
  s_iconst c40_152 rfl (s_retZ c40_153 R40 ⟨by decide, H⟩)
theorem b40_20 {d : Nat} {h : HP} {Q : PV → HP → Prop} {s0 : Int} (H : ((s0 = 0) → X d 31 0 [some (P 36), some (I 119)] [] h (fun r h' => X (d + 1) 40 34 [some (P 36), none, none, none, none, none] [r] h' Q)) ∧ (¬ (s0 = 0) → X (d + 1) 40 47 [some (P 36), none, none, none, none, none] [I 11] h Q)) : X (d + 1) 40 20 [some (P 36), none, none, none, none, none] [I s0] h Q :=
  s_if 28 (s0 = 0) c40_20 (by decide) rfl ⟨fun q2 => s_aload_n c40_28 rfl (s_bipush c40_29 ⟨by decide, by decide⟩ (s_cVi c40_31 m40_101 F31 K31 rfl (Nat.le_of_ble_eq_true rfl) rfl S31_36 rfl (H.1 q2))), fun q2 => s_bipush c40_23 ⟨by decide, by decide⟩ (s_goto 47 c40_25 (by decide) ((H.2 q2)))⟩
theorem b40_34 {d : Nat} {h : HP} {Q : PV → HP → Prop} {s0 : Int} (H : ((s0 = 0) → X (d + 1) 40 47 [some (P 36), none, none, none, none, none] [I (-1)] h Q) ∧ (¬ (s0 = 0) → X d 33 0 [some (P 36), some (I 9), none] [] h (fun r h' => X (d + 1) 40 43 [some (P 36), none, none, none, none, none] [r] h' Q))) : X (d + 1) 40 34 [some (P 36), none, none, none, none, none] [I s0] h Q :=
  s_if 46 (s0 = 0) c40_34 (by decide) rfl ⟨fun q3 => s_iconst c40_46 rfl ((H.1 q3)), fun q3 => s_aload_n c40_37 rfl (s_bipush c40_38 ⟨by decide, by decide⟩ (s_cVi c40_40 m40_110 F33 K33 rfl (Nat.le_of_ble_eq_true rfl) rfl S33_36 rfl (H.2 q3)))⟩
theorem b40_43 {d : Nat} {h : HP} {Q : PV → HP → Prop} {s0 : Int} (H : X d 40 47 [some (P 36), none, none, none, none, none] [I s0] h Q) : X d 40 43 [some (P 36), none, none, none, none, none] [I s0] h Q :=
  s_goto 47 c40_43 (by decide) (H)
theorem b40_47 {d : Nat} {h : HP} {Q : PV → HP → Prop} {s0 : Int} (H : ((0 ≤ s0) → X d 30 0 [some (P 36)] [] h (fun r h' => X (d + 1) 40 58 [some (P 36), some (I s0), none, none, none, none] [r] h' Q)) ∧ (¬ (0 ≤ s0) → Q (I 0) h)) : X (d + 1) 40 47 [some (P 36), none, none, none, none, none] [I s0] h Q :=
  s_istore_n c40_47 rfl (s_iload_n c40_48 rfl (s_if 54 (0 ≤ s0) c40_49 (by decide) rfl ⟨fun q4 => s_aload_n c40_54 rfl (s_cVi c40_55 m40_84 F30 K30 rfl (Nat.le_of_ble_eq_true rfl) rfl S30_36 rfl (H.1 q4)), fun q4 => s_iconst c40_52 rfl (s_retZ c40_53 R40 ⟨by decide, (H.2 q4)⟩)⟩))
theorem b40_58 {d : Nat} {h : HP} {Q : PV → HP → Prop} {v1 s0 : Int} (H : X d 123 0 [some (I (w32 (s0 - 60))), some (I 3)] [] h (fun r h' => X (d + 1) 40 67 [some (P 36), some (I v1), some (I (w32 (s0 - 60))), none, none, none] [r] h' Q)) : X (d + 1) 40 58 [some (P 36), some (I v1), none, none, none, none] [I s0] h Q :=
  s_bipush c40_58 ⟨by decide, by decide⟩ (s_isub c40_60 (s_istore_n c40_61 rfl (s_iload_n c40_62 rfl (s_iconst c40_63 rfl (s_cSi c40_64 m40_94 F123 K123 rfl (Nat.le_of_ble_eq_true rfl) rfl rfl H)))))
theorem b40_6 {d : Nat} {h : HP} {Q : PV → HP → Prop} {s0 : Int} (H : ((s0 = 0) → X d 31 0 [some (P 36), some (I 104)] [] h (fun r h' => X (d + 1) 40 20 [some (P 36), none, none, none, none, none] [r] h' Q)) ∧ (¬ (s0 = 0) → X (d + 1) 40 47 [some (P 36), none, none, none, none, none] [I 10] h Q)) : X (d + 1) 40 6 [some (P 36), none, none, none, none, none] [I s0] h Q :=
  s_if 14 (s0 = 0) c40_6 (by decide) rfl ⟨fun q5 => s_aload_n c40_14 rfl (s_bipush c40_15 ⟨by decide, by decide⟩ (s_cVi c40_17 m40_101 F31 K31 rfl (Nat.le_of_ble_eq_true rfl) rfl S31_36 rfl (H.1 q5))), fun q5 => s_bipush c40_9 ⟨by decide, by decide⟩ (s_goto 47 c40_11 (by decide) ((H.2 q5)))⟩
theorem b40_67 {d : Nat} {h : HP} {Q : PV → HP → Prop} {v1 v2 s0 : Int} (H : ((s0 = 0) → X d 33 0 [some (P 36), some (I 9), none] [] (up2 h 36 2 (w32 ((h 36 2) + 1))) (fun r h' => X (d + 1) 40 88 [some (P 36), some (I v1), some (I v2), none, none, none] [r] h' Q)) ∧ (¬ (s0 = 0) → Q (I 0) h)) : X (d + 1) 40 67 [some (P 36), some (I v1), some (I v2), none, none, none] [I s0] h Q :=
  s_if 72 (s0 = 0) c40_67 (by decide) rfl ⟨fun q6 => s_aload_n c40_72 rfl (s_dupP c40_73 (s_getI c40_74 f40_34 t5_2 sh_36 (s_iconst c40_77 rfl (s_iadd c40_78 (s_putI c40_79 f40_34 t5_2 n5_2 sh_36 (s_aload_n c40_82 rfl (s_bipush c40_83 ⟨by decide, by decide⟩ (s_cVi c40_85 m40_110 F33 K33 rfl (Nat.le_of_ble_eq_true rfl) rfl S33_36 rfl (H.1 q6))))))))), fun q6 => s_iconst c40_70 rfl (s_retZ c40_71 R40 ⟨by decide, (H.2 q6)⟩)⟩
theorem b40_88 {d : Nat} {h : HP} {Q : PV → HP → Prop} {v1 v2 s0 : Int} (H : ((0 ≤ s0) → X d 40 98 [some (P 36), some (I v1), some (I v2), some (I s0), some (I 0), none] [] h Q) ∧ (¬ (0 ≤ s0) → Q (I 0) h)) : X d 40 88 [some (P 36), some (I v1), some (I v2), none, none, none] [I s0] h Q :=
  s_istore_n c40_88 rfl (s_iload_n c40_89 rfl (s_if 95 (0 ≤ s0) c40_90 (by decide) rfl ⟨fun q7 => s_iconst c40_95 rfl (s_istore c40_96 rfl ((H.1 q7))), fun q7 => s_iconst c40_93 rfl (s_retZ c40_94 R40 ⟨by decide, (H.2 q7)⟩)⟩))
theorem b40_98 {d : Nat} {h : HP} {Q : PV → HP → Prop} {v1 v2 v3 v4 : Int} (H : ((2 ≤ v4) → X (d + 1) 40 134 [some (P 36), some (I v1), some (I v2), some (I v3), some (I v4), none] [] h Q) ∧ (¬ (2 ≤ v4) → X d 33 0 [some (P 36), some (I 9), none] [] h (fun r h' => X (d + 1) 40 110 [some (P 36), some (I v1), some (I v2), some (I v3), some (I v4), none] [r] h' Q))) : X (d + 1) 40 98 [some (P 36), some (I v1), some (I v2), some (I v3), some (I v4), none] [] h Q :=
  s_iload c40_98 rfl (s_iconst c40_100 rfl (s_ifc 134 (2 ≤ v4) c40_101 (by decide) rfl ⟨fun q8 => (H.1 q8), fun q8 => s_aload_n c40_104 rfl (s_bipush c40_105 ⟨by decide, by decide⟩ (s_cVi c40_107 m40_110 F33 K33 rfl (Nat.le_of_ble_eq_true rfl) rfl S33_36 rfl (H.2 q8)))⟩))
-- WarmSide$Rules.part(I)Z
theorem c39_0 : cdA 39 0 = some (.aload_n 0) := by decide +kernel
theorem c39_1 : cdA 39 1 = some (.invokevirtual 84) := by decide +kernel
theorem m39_84 : mthR (moN 39) 84 = 33 := by decide +kernel
theorem c39_14 : cdA 39 14 = some (.istore_n 2) := by decide +kernel
theorem c39_15 : cdA 39 15 = some (.iload_n 2) := by decide +kernel
theorem c39_16 : cdA 39 16 = some (.ifCond .ne 17) := by decide +kernel
theorem c39_19 : cdA 39 19 = some (.aload_n 0) := by decide +kernel
theorem c39_20 : cdA 39 20 = some (.invokevirtual 84) := by decide +kernel
theorem c39_23 : cdA 39 23 = some (.bipush 40) := by decide +kernel
theorem c39_25 : cdA 39 25 = some (.if_icmp .eq 8) := by decide +kernel
theorem c39_28 : cdA 39 28 = some (.aload_n 0) := by decide +kernel
theorem c39_29 : cdA 39 29 = some (.invokevirtual 127) := by decide +kernel
theorem m39_127 : mthR (moN 39) 127 = 43 := by decide +kernel
theorem F40 : mF 40 0 6 true := by unfold mF; decide +kernel
theorem K40 : ¬ mK 40 = 4 := by decide +kernel
theorem S40_36 : SH0[36]? = some (.inl (moN 40)) := by decide +kernel
theorem c39_32 : cdA 39 32 = some (.ireturn) := by decide +kernel
theorem R39 : mK 39 = 3 := by decide +kernel
theorem c39_33 : cdA 39 33 = some (.iload_n 1) := by decide +kernel
theorem c39_34 : cdA 39 34 = some (.iconst 4) := by decide +kernel
theorem c39_35 : cdA 39 35 = some (.if_icmp .lt 5) := by decide +kernel
theorem c39_40 : cdA 39 40 = some (.aload_n 0) := by decide +kernel
theorem c39_41 : cdA 39 41 = some (.dup) := by decide +kernel
theorem c39_42 : cdA 39 42 = some (.getfield 34) := by decide +kernel
theorem f39_34 : fldR (moN 39) 34 = some (5, 2) := by decide +kernel
theorem c39_45 : cdA 39 45 = some (.iconst 1) := by decide +kernel
theorem c39_46 : cdA 39 46 = some (.iadd) := by decide +kernel
theorem c39_47 : cdA 39 47 = some (.putfield 34) := by decide +kernel
theorem c39_50 : cdA 39 50 = some (.iload_n 2) := by decide +kernel
theorem c39_51 : cdA 39 51 = some (.ifCond .ne 28) := by decide +kernel
theorem c39_79 : cdA 39 79 = some (.aload_n 0) := by decide +kernel
theorem c39_80 : cdA 39 80 = some (.iload_n 1) := by decide +kernel
theorem c39_81 : cdA 39 81 = some (.iconst 1) := by decide +kernel
theorem c39_82 : cdA 39 82 = some (.iadd) := by decide +kernel
theorem c39_83 : cdA 39 83 = some (.invokevirtual 123) := by decide +kernel
theorem m39_123 : mthR (moN 39) 123 = 42 := by decide +kernel
theorem F39 : mF 39 1 3 true := by unfold mF; decide +kernel
theorem K39 : ¬ mK 39 = 4 := by decide +kernel
theorem S39_36 : SH0[36]? = some (.inl (moN 39)) := by decide +kernel
theorem c39_54 : cdA 39 54 = some (.aload_n 0) := by decide +kernel
theorem c39_55 : cdA 39 55 = some (.iload_n 1) := by decide +kernel
theorem c39_56 : cdA 39 56 = some (.iconst 1) := by decide +kernel
theorem c39_57 : cdA 39 57 = some (.iadd) := by decide +kernel
theorem c39_58 : cdA 39 58 = some (.invokevirtual 107) := by decide +kernel
theorem m39_107 : mthR (moN 39) 107 = 40 := by decide +kernel
theorem F37 : mF 37 1 3 true := by unfold mF; decide +kernel
theorem K37 : ¬ mK 37 = 4 := by decide +kernel
theorem S37_36 : SH0[36]? = some (.inl (moN 37)) := by decide +kernel
theorem c39_38 : cdA 39 38 = some (.iconst 0) := by decide +kernel
theorem c39_39 : cdA 39 39 = some (.ireturn) := by decide +kernel
theorem c39_4 : cdA 39 4 = some (.bipush 33) := by decide +kernel
theorem c39_6 : cdA 39 6 = some (.if_icmp .ne 7) := by decide +kernel
theorem c39_13 : cdA 39 13 = some (.iconst 0) := by decide +kernel
theorem c39_9 : cdA 39 9 = some (.iconst 1) := by decide +kernel
theorem c39_10 : cdA 39 10 = some (.goto 4) := by decide +kernel
theorem c39_61 : cdA 39 61 = some (.ifCond .eq 16) := by decide +kernel
theorem c39_77 : cdA 39 77 = some (.iconst 0) := by decide +kernel
theorem c39_78 : cdA 39 78 = some (.ireturn) := by decide +kernel
theorem c39_64 : cdA 39 64 = some (.aload_n 0) := by decide +kernel
theorem c39_65 : cdA 39 65 = some (.bipush 41) := by decide +kernel
theorem c39_67 : cdA 39 67 = some (.invokevirtual 101) := by decide +kernel
theorem m39_101 : mthR (moN 39) 101 = 34 := by decide +kernel
theorem c39_70 : cdA 39 70 = some (.ifCond .eq 7) := by decide +kernel
theorem c39_73 : cdA 39 73 = some (.iconst 1) := by decide +kernel
theorem c39_74 : cdA 39 74 = some (.goto 4) := by decide +kernel
theorem c39_86 : cdA 39 86 = some (.ifCond .ne 5) := by decide +kernel
theorem c39_91 : cdA 39 91 = some (.aload_n 0) := by decide +kernel
theorem c39_92 : cdA 39 92 = some (.ldc 131) := by decide +kernel
theorem k39_131 : cstR (moN 39) 131 = some 2097152 := by decide +kernel
theorem c39_94 : cdA 39 94 = some (.invokevirtual 115) := by decide +kernel
theorem m39_115 : mthR (moN 39) 115 = 35 := by decide +kernel
theorem c39_89 : cdA 39 89 = some (.iconst 0) := by decide +kernel
theorem c39_90 : cdA 39 90 = some (.ireturn) := by decide +kernel
theorem c39_97 : cdA 39 97 = some (.iconst 1) := by decide +kernel
theorem c39_98 : cdA 39 98 = some (.ireturn) := by decide +kernel
theorem b39_0 {d : Nat} {h : HP} {Q : PV → HP → Prop} {v1 : Int} (H : X d 30 0 [some (P 36)] [] h (fun r h' => X (d + 1) 39 4 [some (P 36), some (I v1), none] [r] h' Q)) : X (d + 1) 39 0 [some (P 36), some (I v1), none] [] h Q :=
  s_aload_n c39_0 rfl (s_cVi c39_1 m39_84 F30 K30 rfl (Nat.le_of_ble_eq_true rfl) rfl S30_36 rfl H)
theorem b39_14 {d : Nat} {h : HP} {Q : PV → HP → Prop} {v1 s0 : Int} (H : ((¬ s0 = 0) → X (d + 1) 39 33 [some (P 36), some (I v1), some (I s0)] [] h Q) ∧ (¬ (¬ s0 = 0) → X d 30 0 [some (P 36)] [] h (fun r h' => X (d + 1) 39 23 [some (P 36), some (I v1), some (I s0)] [r] h' Q))) : X (d + 1) 39 14 [some (P 36), some (I v1), none] [I s0] h Q :=
  s_istore_n c39_14 rfl (s_iload_n c39_15 rfl (s_if 33 (¬ s0 = 0) c39_16 (by decide) rfl ⟨fun q1 => (H.1 q1), fun q1 => s_aload_n c39_19 rfl (s_cVi c39_20 m39_84 F30 K30 rfl (Nat.le_of_ble_eq_true rfl) rfl S30_36 rfl (H.2 q1))⟩))
theorem b39_23 {d : Nat} {h : HP} {Q : PV → HP → Prop} {v1 v2 s0 : Int} (H : ((s0 = 40) → X (d + 1) 39 33 [some (P 36), some (I v1), some (I v2)] [] h Q) ∧ (¬ (s0 = 40) → X d 40 0 [some (P 36), none, none, none, none, none] [] h (fun r h' => X (d + 1) 39 32 [some (P 36), some (I v1), some (I v2)] [r] h' Q))) : X (d + 1) 39 23 [some (P 36), some (I v1), some (I v2)] [I s0] h Q :=
  s_bipush c39_23 ⟨by decide, by decide⟩ (s_ifc 33 (s0 = 40) c39_25 (by decide) rfl ⟨fun q2 => (H.1 q2), fun q2 => s_aload_n c39_28 rfl (s_cVi c39_29 m39_127 F40 K40 rfl (Nat.le_of_ble_eq_true rfl) rfl S40_36 rfl (H.2 q2))⟩)
theorem b39_32 {d : Nat} {h : HP} {Q : PV → HP → Prop} {v1 v2 s0 : Int} (H : (s0 = 0 ∨ s0 = 1) ∧ Q (I s0) h) : X d 39 32 [some (P 36), some (I v1), some (I v2)] [I s0] h Q :=
  s_retZ c39_32 R39 H
theorem b39_33 {d : Nat} {h : HP} {Q : PV → HP → Prop} {v1 v2 : Int} (H : ((v1 < 4) → (((¬ v2 = 0) → X d 39 0 [some (P 36), some (I (w32 (v1 + 1))), none] [] (up2 h 36 2 (w32 ((h 36 2) + 1))) (fun r h' => X (d + 1) 39 86 [some (P 36), some (I v1), some (I v2)] [r] h' Q)) ∧ (¬ (¬ v2 = 0) → X d 37 0 [some (P 36), some (I (w32 (v1 + 1))), none] [] (up2 h 36 2 (w32 ((h 36 2) + 1))) (fun r h' => X (d + 1) 39 61 [some (P 36), some (I v1), some (I v2)] [r] h' Q)))) ∧ (¬ (v1 < 4) → Q (I 0) h)) : X (d + 1) 39 33 [some (P 36), some (I v1), some (I v2)] [] h Q :=
  s_iload_n c39_33 rfl (s_iconst c39_34 rfl (s_ifc 40 (v1 < 4) c39_35 (by decide) rfl ⟨fun q3 => s_aload_n c39_40 rfl (s_dupP c39_41 (s_getI c39_42 f39_34 t5_2 sh_36 (s_iconst c39_45 rfl (s_iadd c39_46 (s_putI c39_47 f39_34 t5_2 n5_2 sh_36 (s_iload_n c39_50 rfl (s_if 79 (¬ v2 = 0) c39_51 (by decide) rfl ⟨fun q4 => s_aload_n c39_79 rfl (s_iload_n c39_80 rfl (s_iconst c39_81 rfl (s_iadd c39_82 (s_cVi c39_83 m39_123 F39 K39 rfl (Nat.le_of_ble_eq_true rfl) rfl S39_36 rfl ((H.1 q3).1 q4))))), fun q4 => s_aload_n c39_54 rfl (s_iload_n c39_55 rfl (s_iconst c39_56 rfl (s_iadd c39_57 (s_cVi c39_58 m39_107 F37 K37 rfl (Nat.le_of_ble_eq_true rfl) rfl S37_36 rfl ((H.1 q3).2 q4)))))⟩))))))), fun q3 => s_iconst c39_38 rfl (s_retZ c39_39 R39 ⟨by decide, (H.2 q3)⟩)⟩))
theorem b39_4 {d : Nat} {h : HP} {Q : PV → HP → Prop} {v1 s0 : Int} (H : ((¬ s0 = 33) → X d 39 14 [some (P 36), some (I v1), none] [I 0] h Q) ∧ (¬ (¬ s0 = 33) → X d 39 14 [some (P 36), some (I v1), none] [I 1] h Q)) : X d 39 4 [some (P 36), some (I v1), none] [I s0] h Q :=
  s_bipush c39_4 ⟨by decide, by decide⟩ (s_ifc 13 (¬ s0 = 33) c39_6 (by decide) rfl ⟨fun q5 => s_iconst c39_13 rfl ((H.1 q5)), fun q5 => s_iconst c39_9 rfl (s_goto 14 c39_10 (by decide) ((H.2 q5)))⟩)
theorem b39_61 {d : Nat} {h : HP} {Q : PV → HP → Prop} {v1 v2 s0 : Int} (H : ((s0 = 0) → Q (I 0) h) ∧ (¬ (s0 = 0) → X d 31 0 [some (P 36), some (I 41)] [] h (fun r h' => X (d + 1) 39 70 [some (P 36), some (I v1), some (I v2)] [r] h' Q))) : X (d + 1) 39 61 [some (P 36), some (I v1), some (I v2)] [I s0] h Q :=
  s_if 77 (s0 = 0) c39_61 (by decide) rfl ⟨fun q6 => s_iconst c39_77 rfl (s_retZ c39_78 R39 ⟨by decide, (H.1 q6)⟩), fun q6 => s_aload_n c39_64 rfl (s_bipush c39_65 ⟨by decide, by decide⟩ (s_cVi c39_67 m39_101 F31 K31 rfl (Nat.le_of_ble_eq_true rfl) rfl S31_36 rfl (H.2 q6)))⟩
theorem b39_70 {d : Nat} {h : HP} {Q : PV → HP → Prop} {v1 v2 s0 : Int} (H : ((s0 = 0) → Q (I 0) h) ∧ (¬ (s0 = 0) → Q (I 1) h)) : X d 39 70 [some (P 36), some (I v1), some (I v2)] [I s0] h Q :=
  s_if 77 (s0 = 0) c39_70 (by decide) rfl ⟨fun q7 => s_iconst c39_77 rfl (s_retZ c39_78 R39 ⟨by decide, (H.1 q7)⟩), fun q7 => s_iconst c39_73 rfl (s_goto 78 c39_74 (by decide) (s_retZ c39_78 R39 ⟨by decide, (H.2 q7)⟩))⟩
theorem b39_86 {d : Nat} {h : HP} {Q : PV → HP → Prop} {v1 v2 s0 : Int} (H : ((¬ s0 = 0) → X d 32 0 [some (P 36), some (I 2097152)] [] h (fun _ h' => X (d + 1) 39 97 [some (P 36), some (I v1), some (I v2)] [] h' Q)) ∧ (¬ (¬ s0 = 0) → Q (I 0) h)) : X (d + 1) 39 86 [some (P 36), some (I v1), some (I v2)] [I s0] h Q :=
  s_if 91 (¬ s0 = 0) c39_86 (by decide) rfl ⟨fun q8 => s_aload_n c39_91 rfl (s_ldc c39_92 k39_131 rfl (s_cVv c39_94 m39_115 F32 K32 rfl (Nat.le_of_ble_eq_true rfl) rfl S32_36 rfl (H.1 q8))), fun q8 => s_iconst c39_89 rfl (s_retZ c39_90 R39 ⟨by decide, (H.2 q8)⟩)⟩
theorem b39_97 {d : Nat} {h : HP} {Q : PV → HP → Prop} {v1 v2 : Int} (H : Q (I 1) h) : X d 39 97 [some (P 36), some (I v1), some (I v2)] [] h Q :=
  s_iconst c39_97 rfl (s_retZ c39_98 R39 ⟨by decide, H⟩)
-- WarmSide$Rules.parts(I)Z
theorem c38_0 : cdA 38 0 = some (.aload_n 0) := by decide +kernel
theorem c38_1 : cdA 38 1 = some (.iload_n 1) := by decide +kernel
theorem c38_2 : cdA 38 2 = some (.invokevirtual 123) := by decide +kernel
theorem m38_123 : mthR (moN 38) 123 = 42 := by decide +kernel
theorem c38_12 : cdA 38 12 = some (.iload_n 2) := by decide +kernel
theorem c38_13 : cdA 38 13 = some (.bipush 40) := by decide +kernel
theorem c38_15 : cdA 38 15 = some (.if_icmp .ge 34) := by decide +kernel
theorem c38_49 : cdA 38 49 = some (.iconst 1) := by decide +kernel
theorem c38_50 : cdA 38 50 = some (.ireturn) := by decide +kernel
theorem R38 : mK 38 = 3 := by decide +kernel
theorem c38_18 : cdA 38 18 = some (.aload_n 0) := by decide +kernel
theorem c38_19 : cdA 38 19 = some (.bipush 38) := by decide +kernel
theorem c38_21 : cdA 38 21 = some (.invokevirtual 101) := by decide +kernel
theorem m38_101 : mthR (moN 38) 101 = 34 := by decide +kernel
theorem c38_24 : cdA 38 24 = some (.ifCond .eq 25) := by decide +kernel
theorem c38_27 : cdA 38 27 = some (.aload_n 0) := by decide +kernel
theorem c38_28 : cdA 38 28 = some (.iload_n 1) := by decide +kernel
theorem c38_29 : cdA 38 29 = some (.invokevirtual 123) := by decide +kernel
theorem c38_32 : cdA 38 32 = some (.ifCond .ne 5) := by decide +kernel
theorem c38_37 : cdA 38 37 = some (.aload_n 0) := by decide +kernel
theorem c38_38 : cdA 38 38 = some (.ldc 126) := by decide +kernel
theorem k38_126 : cstR (moN 38) 126 = some 3145728 := by decide +kernel
theorem c38_40 : cdA 38 40 = some (.invokevirtual 115) := by decide +kernel
theorem m38_115 : mthR (moN 38) 115 = 35 := by decide +kernel
theorem c38_35 : cdA 38 35 = some (.iconst 0) := by decide +kernel
theorem c38_36 : cdA 38 36 = some (.ireturn) := by decide +kernel
theorem c38_43 : cdA 38 43 = some (.iinc 2 1) := by decide +kernel
theorem c38_46 : cdA 38 46 = some (.goto (-34)) := by decide +kernel
theorem c38_5 : cdA 38 5 = some (.ifCond .ne 5) := by decide +kernel
theorem c38_10 : cdA 38 10 = some (.iconst 0) := by decide +kernel
theorem c38_11 : cdA 38 11 = some (.istore_n 2) := by decide +kernel
theorem c38_8 : cdA 38 8 = some (.iconst 0) := by decide +kernel
theorem c38_9 : cdA 38 9 = some (.ireturn) := by decide +kernel
theorem b38_0 {d : Nat} {h : HP} {Q : PV → HP → Prop} {v1 : Int} (H : X d 39 0 [some (P 36), some (I v1), none] [] h (fun r h' => X (d + 1) 38 5 [some (P 36), some (I v1), none] [r] h' Q)) : X (d + 1) 38 0 [some (P 36), some (I v1), none] [] h Q :=
  s_aload_n c38_0 rfl (s_iload_n c38_1 rfl (s_cVi c38_2 m38_123 F39 K39 rfl (Nat.le_of_ble_eq_true rfl) rfl S39_36 rfl H))
theorem b38_12 {d : Nat} {h : HP} {Q : PV → HP → Prop} {v1 v2 : Int} (H : ((40 ≤ v2) → Q (I 1) h) ∧ (¬ (40 ≤ v2) → X d 31 0 [some (P 36), some (I 38)] [] h (fun r h' => X (d + 1) 38 24 [some (P 36), some (I v1), some (I v2)] [r] h' Q))) : X (d + 1) 38 12 [some (P 36), some (I v1), some (I v2)] [] h Q :=
  s_iload_n c38_12 rfl (s_bipush c38_13 ⟨by decide, by decide⟩ (s_ifc 49 (40 ≤ v2) c38_15 (by decide) rfl ⟨fun q1 => s_iconst c38_49 rfl (s_retZ c38_50 R38 ⟨by decide, (H.1 q1)⟩), fun q1 => s_aload_n c38_18 rfl (s_bipush c38_19 ⟨by decide, by decide⟩ (s_cVi c38_21 m38_101 F31 K31 rfl (Nat.le_of_ble_eq_true rfl) rfl S31_36 rfl (H.2 q1)))⟩))
theorem b38_24 {d : Nat} {h : HP} {Q : PV → HP → Prop} {v1 v2 s0 : Int} (H : ((s0 = 0) → Q (I 1) h) ∧ (¬ (s0 = 0) → X d 39 0 [some (P 36), some (I v1), none] [] h (fun r h' => X (d + 1) 38 32 [some (P 36), some (I v1), some (I v2)] [r] h' Q))) : X (d + 1) 38 24 [some (P 36), some (I v1), some (I v2)] [I s0] h Q :=
  s_if 49 (s0 = 0) c38_24 (by decide) rfl ⟨fun q2 => s_iconst c38_49 rfl (s_retZ c38_50 R38 ⟨by decide, (H.1 q2)⟩), fun q2 => s_aload_n c38_27 rfl (s_iload_n c38_28 rfl (s_cVi c38_29 m38_123 F39 K39 rfl (Nat.le_of_ble_eq_true rfl) rfl S39_36 rfl (H.2 q2)))⟩
theorem b38_32 {d : Nat} {h : HP} {Q : PV → HP → Prop} {v1 v2 s0 : Int} (H : ((¬ s0 = 0) → X d 32 0 [some (P 36), some (I 3145728)] [] h (fun _ h' => X (d + 1) 38 43 [some (P 36), some (I v1), some (I v2)] [] h' Q)) ∧ (¬ (¬ s0 = 0) → Q (I 0) h)) : X (d + 1) 38 32 [some (P 36), some (I v1), some (I v2)] [I s0] h Q :=
  s_if 37 (¬ s0 = 0) c38_32 (by decide) rfl ⟨fun q3 => s_aload_n c38_37 rfl (s_ldc c38_38 k38_126 rfl (s_cVv c38_40 m38_115 F32 K32 rfl (Nat.le_of_ble_eq_true rfl) rfl S32_36 rfl (H.1 q3))), fun q3 => s_iconst c38_35 rfl (s_retZ c38_36 R38 ⟨by decide, (H.2 q3)⟩)⟩
theorem b38_43 {d : Nat} {h : HP} {Q : PV → HP → Prop} {v1 v2 : Int} (H : X d 38 12 [some (P 36), some (I v1), some (I (w32 (v2 + 1)))] [] h Q) : X d 38 43 [some (P 36), some (I v1), some (I v2)] [] h Q :=
  s_iinc c38_43 rfl rfl rfl (s_goto 12 c38_46 (by decide) (H))
theorem b38_5 {d : Nat} {h : HP} {Q : PV → HP → Prop} {v1 s0 : Int} (H : ((¬ s0 = 0) → X d 38 12 [some (P 36), some (I v1), some (I 0)] [] h Q) ∧ (¬ (¬ s0 = 0) → Q (I 0) h)) : X d 38 5 [some (P 36), some (I v1), none] [I s0] h Q :=
  s_if 10 (¬ s0 = 0) c38_5 (by decide) rfl ⟨fun q4 => s_iconst c38_10 rfl (s_istore_n c38_11 rfl ((H.1 q4))), fun q4 => s_iconst c38_8 rfl (s_retZ c38_9 R38 ⟨by decide, (H.2 q4)⟩)⟩
-- WarmSide$Rules.terms(I)Z
theorem c37_0 : cdA 37 0 = some (.aload_n 0) := by decide +kernel
theorem c37_1 : cdA 37 1 = some (.iload_n 1) := by decide +kernel
theorem c37_2 : cdA 37 2 = some (.invokevirtual 119) := by decide +kernel
theorem m37_119 : mthR (moN 37) 119 = 41 := by decide +kernel
theorem F38 : mF 38 1 3 true := by unfold mF; decide +kernel
theorem K38 : ¬ mK 38 = 4 := by decide +kernel
theorem S38_36 : SH0[36]? = some (.inl (moN 38)) := by decide +kernel
theorem c37_12 : cdA 37 12 = some (.iload_n 2) := by decide +kernel
theorem c37_13 : cdA 37 13 = some (.bipush 40) := by decide +kernel
theorem c37_15 : cdA 37 15 = some (.if_icmp .ge 34) := by decide +kernel
theorem c37_49 : cdA 37 49 = some (.iconst 1) := by decide +kernel
theorem c37_50 : cdA 37 50 = some (.ireturn) := by decide +kernel
theorem R37 : mK 37 = 3 := by decide +kernel
theorem c37_18 : cdA 37 18 = some (.aload_n 0) := by decide +kernel
theorem c37_19 : cdA 37 19 = some (.bipush 124) := by decide +kernel
theorem c37_21 : cdA 37 21 = some (.invokevirtual 101) := by decide +kernel
theorem m37_101 : mthR (moN 37) 101 = 34 := by decide +kernel
theorem c37_24 : cdA 37 24 = some (.ifCond .eq 25) := by decide +kernel
theorem c37_27 : cdA 37 27 = some (.aload_n 0) := by decide +kernel
theorem c37_28 : cdA 37 28 = some (.iload_n 1) := by decide +kernel
theorem c37_29 : cdA 37 29 = some (.invokevirtual 119) := by decide +kernel
theorem c37_32 : cdA 37 32 = some (.ifCond .ne 5) := by decide +kernel
theorem c37_37 : cdA 37 37 = some (.aload_n 0) := by decide +kernel
theorem c37_38 : cdA 37 38 = some (.ldc 122) := by decide +kernel
theorem k37_122 : cstR (moN 37) 122 = some 4194304 := by decide +kernel
theorem c37_40 : cdA 37 40 = some (.invokevirtual 115) := by decide +kernel
theorem m37_115 : mthR (moN 37) 115 = 35 := by decide +kernel
theorem c37_35 : cdA 37 35 = some (.iconst 0) := by decide +kernel
theorem c37_36 : cdA 37 36 = some (.ireturn) := by decide +kernel
theorem c37_43 : cdA 37 43 = some (.iinc 2 1) := by decide +kernel
theorem c37_46 : cdA 37 46 = some (.goto (-34)) := by decide +kernel
theorem c37_5 : cdA 37 5 = some (.ifCond .ne 5) := by decide +kernel
theorem c37_10 : cdA 37 10 = some (.iconst 0) := by decide +kernel
theorem c37_11 : cdA 37 11 = some (.istore_n 2) := by decide +kernel
theorem c37_8 : cdA 37 8 = some (.iconst 0) := by decide +kernel
theorem c37_9 : cdA 37 9 = some (.ireturn) := by decide +kernel
theorem b37_0 {d : Nat} {h : HP} {Q : PV → HP → Prop} {v1 : Int} (H : X d 38 0 [some (P 36), some (I v1), none] [] h (fun r h' => X (d + 1) 37 5 [some (P 36), some (I v1), none] [r] h' Q)) : X (d + 1) 37 0 [some (P 36), some (I v1), none] [] h Q :=
  s_aload_n c37_0 rfl (s_iload_n c37_1 rfl (s_cVi c37_2 m37_119 F38 K38 rfl (Nat.le_of_ble_eq_true rfl) rfl S38_36 rfl H))
theorem b37_12 {d : Nat} {h : HP} {Q : PV → HP → Prop} {v1 v2 : Int} (H : ((40 ≤ v2) → Q (I 1) h) ∧ (¬ (40 ≤ v2) → X d 31 0 [some (P 36), some (I 124)] [] h (fun r h' => X (d + 1) 37 24 [some (P 36), some (I v1), some (I v2)] [r] h' Q))) : X (d + 1) 37 12 [some (P 36), some (I v1), some (I v2)] [] h Q :=
  s_iload_n c37_12 rfl (s_bipush c37_13 ⟨by decide, by decide⟩ (s_ifc 49 (40 ≤ v2) c37_15 (by decide) rfl ⟨fun q1 => s_iconst c37_49 rfl (s_retZ c37_50 R37 ⟨by decide, (H.1 q1)⟩), fun q1 => s_aload_n c37_18 rfl (s_bipush c37_19 ⟨by decide, by decide⟩ (s_cVi c37_21 m37_101 F31 K31 rfl (Nat.le_of_ble_eq_true rfl) rfl S31_36 rfl (H.2 q1)))⟩))
theorem b37_24 {d : Nat} {h : HP} {Q : PV → HP → Prop} {v1 v2 s0 : Int} (H : ((s0 = 0) → Q (I 1) h) ∧ (¬ (s0 = 0) → X d 38 0 [some (P 36), some (I v1), none] [] h (fun r h' => X (d + 1) 37 32 [some (P 36), some (I v1), some (I v2)] [r] h' Q))) : X (d + 1) 37 24 [some (P 36), some (I v1), some (I v2)] [I s0] h Q :=
  s_if 49 (s0 = 0) c37_24 (by decide) rfl ⟨fun q2 => s_iconst c37_49 rfl (s_retZ c37_50 R37 ⟨by decide, (H.1 q2)⟩), fun q2 => s_aload_n c37_27 rfl (s_iload_n c37_28 rfl (s_cVi c37_29 m37_119 F38 K38 rfl (Nat.le_of_ble_eq_true rfl) rfl S38_36 rfl (H.2 q2)))⟩
theorem b37_32 {d : Nat} {h : HP} {Q : PV → HP → Prop} {v1 v2 s0 : Int} (H : ((¬ s0 = 0) → X d 32 0 [some (P 36), some (I 4194304)] [] h (fun _ h' => X (d + 1) 37 43 [some (P 36), some (I v1), some (I v2)] [] h' Q)) ∧ (¬ (¬ s0 = 0) → Q (I 0) h)) : X (d + 1) 37 32 [some (P 36), some (I v1), some (I v2)] [I s0] h Q :=
  s_if 37 (¬ s0 = 0) c37_32 (by decide) rfl ⟨fun q3 => s_aload_n c37_37 rfl (s_ldc c37_38 k37_122 rfl (s_cVv c37_40 m37_115 F32 K32 rfl (Nat.le_of_ble_eq_true rfl) rfl S32_36 rfl (H.1 q3))), fun q3 => s_iconst c37_35 rfl (s_retZ c37_36 R37 ⟨by decide, (H.2 q3)⟩)⟩
theorem b37_43 {d : Nat} {h : HP} {Q : PV → HP → Prop} {v1 v2 : Int} (H : X d 37 12 [some (P 36), some (I v1), some (I (w32 (v2 + 1)))] [] h Q) : X d 37 43 [some (P 36), some (I v1), some (I v2)] [] h Q :=
  s_iinc c37_43 rfl rfl rfl (s_goto 12 c37_46 (by decide) (H))
theorem b37_5 {d : Nat} {h : HP} {Q : PV → HP → Prop} {v1 s0 : Int} (H : ((¬ s0 = 0) → X d 37 12 [some (P 36), some (I v1), some (I 0)] [] h Q) ∧ (¬ (¬ s0 = 0) → Q (I 0) h)) : X d 37 5 [some (P 36), some (I v1), none] [I s0] h Q :=
  s_if 10 (¬ s0 = 0) c37_5 (by decide) rfl ⟨fun q4 => s_iconst c37_10 rfl (s_istore_n c37_11 rfl ((H.1 q4))), fun q4 => s_iconst c37_8 rfl (s_retZ c37_9 R37 ⟨by decide, (H.2 q4)⟩)⟩
-- WarmSide$Rules.cases(I)Z
theorem c36_0 : cdA 36 0 = some (.iconst 0) := by decide +kernel
theorem c36_1 : cdA 36 1 = some (.istore_n 2) := by decide +kernel
theorem c36_13 : cdA 36 13 = some (.ifCond .eq 12) := by decide +kernel
theorem c36_25 : cdA 36 25 = some (.iconst 0) := by decide +kernel
theorem c36_26 : cdA 36 26 = some (.ireturn) := by decide +kernel
theorem R36 : mK 36 = 3 := by decide +kernel
theorem c36_16 : cdA 36 16 = some (.aload_n 0) := by decide +kernel
theorem c36_17 : cdA 36 17 = some (.bipush 63) := by decide +kernel
theorem c36_19 : cdA 36 19 = some (.invokevirtual 101) := by decide +kernel
theorem m36_101 : mthR (moN 36) 101 = 34 := by decide +kernel
theorem c36_2 : cdA 36 2 = some (.iload_n 2) := by decide +kernel
theorem c36_3 : cdA 36 3 = some (.bipush 40) := by decide +kernel
theorem c36_5 : cdA 36 5 = some (.if_icmp .ge 72) := by decide +kernel
theorem c36_77 : cdA 36 77 = some (.iconst 0) := by decide +kernel
theorem c36_78 : cdA 36 78 = some (.ireturn) := by decide +kernel
theorem c36_8 : cdA 36 8 = some (.aload_n 0) := by decide +kernel
theorem c36_9 : cdA 36 9 = some (.iconst 0) := by decide +kernel
theorem c36_10 : cdA 36 10 = some (.invokevirtual 107) := by decide +kernel
theorem m36_107 : mthR (moN 36) 107 = 40 := by decide +kernel
theorem c36_22 : cdA 36 22 = some (.ifCond .ne 5) := by decide +kernel
theorem c36_27 : cdA 36 27 = some (.aload_n 0) := by decide +kernel
theorem c36_28 : cdA 36 28 = some (.iload_n 1) := by decide +kernel
theorem c36_29 : cdA 36 29 = some (.invokevirtual 110) := by decide +kernel
theorem m36_110 : mthR (moN 36) 110 = 36 := by decide +kernel
theorem c36_32 : cdA 36 32 = some (.istore_n 3) := by decide +kernel
theorem c36_33 : cdA 36 33 = some (.iload_n 3) := by decide +kernel
theorem c36_34 : cdA 36 34 = some (.ifCond .ge 5) := by decide +kernel
theorem c36_39 : cdA 36 39 = some (.aload_n 0) := by decide +kernel
theorem c36_40 : cdA 36 40 = some (.ldc 114) := by decide +kernel
theorem k36_114 : cstR (moN 36) 114 = some 5242880 := by decide +kernel
theorem c36_42 : cdA 36 42 = some (.iload_n 3) := by decide +kernel
theorem c36_43 : cdA 36 43 = some (.ior) := by decide +kernel
theorem c36_44 : cdA 36 44 = some (.invokevirtual 115) := by decide +kernel
theorem m36_115 : mthR (moN 36) 115 = 35 := by decide +kernel
theorem c36_37 : cdA 36 37 = some (.iconst 0) := by decide +kernel
theorem c36_38 : cdA 36 38 = some (.ireturn) := by decide +kernel
theorem c36_47 : cdA 36 47 = some (.aload_n 0) := by decide +kernel
theorem c36_48 : cdA 36 48 = some (.getfield 34) := by decide +kernel
theorem f36_34 : fldR (moN 36) 34 = some (5, 2) := by decide +kernel
theorem c36_51 : cdA 36 51 = some (.aload_n 0) := by decide +kernel
theorem c36_52 : cdA 36 52 = some (.getfield 28) := by decide +kernel
theorem f36_28 : fldR (moN 36) 28 = some (5, 1) := by decide +kernel
theorem c36_55 : cdA 36 55 = some (.if_icmp .lt 5) := by decide +kernel
theorem c36_60 : cdA 36 60 = some (.aload_n 0) := by decide +kernel
theorem c36_61 : cdA 36 61 = some (.bipush 59) := by decide +kernel
theorem c36_63 : cdA 36 63 = some (.invokevirtual 101) := by decide +kernel
theorem c36_58 : cdA 36 58 = some (.iconst 1) := by decide +kernel
theorem c36_59 : cdA 36 59 = some (.ireturn) := by decide +kernel
theorem c36_66 : cdA 36 66 = some (.ifCond .ne 5) := by decide +kernel
theorem c36_71 : cdA 36 71 = some (.iinc 2 1) := by decide +kernel
theorem c36_74 : cdA 36 74 = some (.goto (-72)) := by decide +kernel
theorem c36_69 : cdA 36 69 = some (.iconst 0) := by decide +kernel
theorem c36_70 : cdA 36 70 = some (.ireturn) := by decide +kernel
theorem b36_0 {d : Nat} {h : HP} {Q : PV → HP → Prop} {v1 : Int} (H : X d 36 2 [some (P 36), some (I v1), some (I 0), none] [] h Q) : X d 36 0 [some (P 36), some (I v1), none, none] [] h Q :=
  s_iconst c36_0 rfl (s_istore_n c36_1 rfl (H))
theorem b36_13 {d : Nat} {h : HP} {Q : PV → HP → Prop} {v1 v2 s0 : Int} (H : ((s0 = 0) → Q (I 0) h) ∧ (¬ (s0 = 0) → X d 31 0 [some (P 36), some (I 63)] [] h (fun r h' => X (d + 1) 36 22 [some (P 36), some (I v1), some (I v2), none] [r] h' Q))) : X (d + 1) 36 13 [some (P 36), some (I v1), some (I v2), none] [I s0] h Q :=
  s_if 25 (s0 = 0) c36_13 (by decide) rfl ⟨fun q1 => s_iconst c36_25 rfl (s_retZ c36_26 R36 ⟨by decide, (H.1 q1)⟩), fun q1 => s_aload_n c36_16 rfl (s_bipush c36_17 ⟨by decide, by decide⟩ (s_cVi c36_19 m36_101 F31 K31 rfl (Nat.le_of_ble_eq_true rfl) rfl S31_36 rfl (H.2 q1)))⟩
theorem b36_2 {d : Nat} {h : HP} {Q : PV → HP → Prop} {v1 v2 : Int} (H : ((40 ≤ v2) → Q (I 0) h) ∧ (¬ (40 ≤ v2) → X d 37 0 [some (P 36), some (I 0), none] [] h (fun r h' => X (d + 1) 36 13 [some (P 36), some (I v1), some (I v2), none] [r] h' Q))) : X (d + 1) 36 2 [some (P 36), some (I v1), some (I v2), none] [] h Q :=
  s_iload_n c36_2 rfl (s_bipush c36_3 ⟨by decide, by decide⟩ (s_ifc 77 (40 ≤ v2) c36_5 (by decide) rfl ⟨fun q2 => s_iconst c36_77 rfl (s_retZ c36_78 R36 ⟨by decide, (H.1 q2)⟩), fun q2 => s_aload_n c36_8 rfl (s_iconst c36_9 rfl (s_cVi c36_10 m36_107 F37 K37 rfl (Nat.le_of_ble_eq_true rfl) rfl S37_36 rfl (H.2 q2)))⟩))
theorem b36_22 {d : Nat} {h : HP} {Q : PV → HP → Prop} {v1 v2 s0 : Int} (H : ((¬ s0 = 0) → X d 33 0 [some (P 36), some (I v1), none] [] h (fun r h' => X (d + 1) 36 32 [some (P 36), some (I v1), some (I v2), none] [r] h' Q)) ∧ (¬ (¬ s0 = 0) → Q (I 0) h)) : X (d + 1) 36 22 [some (P 36), some (I v1), some (I v2), none] [I s0] h Q :=
  s_if 27 (¬ s0 = 0) c36_22 (by decide) rfl ⟨fun q3 => s_aload_n c36_27 rfl (s_iload_n c36_28 rfl (s_cVi c36_29 m36_110 F33 K33 rfl (Nat.le_of_ble_eq_true rfl) rfl S33_36 rfl (H.1 q3))), fun q3 => s_iconst c36_25 rfl (s_retZ c36_26 R36 ⟨by decide, (H.2 q3)⟩)⟩
theorem b36_32 {d : Nat} {h : HP} {Q : PV → HP → Prop} {v1 v2 s0 : Int} (H : ((0 ≤ s0) → X d 32 0 [some (P 36), some (I (bOr 5242880 s0))] [] h (fun _ h' => X (d + 1) 36 47 [some (P 36), some (I v1), some (I v2), some (I s0)] [] h' Q)) ∧ (¬ (0 ≤ s0) → Q (I 0) h)) : X (d + 1) 36 32 [some (P 36), some (I v1), some (I v2), none] [I s0] h Q :=
  s_istore_n c36_32 rfl (s_iload_n c36_33 rfl (s_if 39 (0 ≤ s0) c36_34 (by decide) rfl ⟨fun q4 => s_aload_n c36_39 rfl (s_ldc c36_40 k36_114 rfl (s_iload_n c36_42 rfl (s_ior c36_43 (s_cVv c36_44 m36_115 F32 K32 rfl (Nat.le_of_ble_eq_true rfl) rfl S32_36 rfl (H.1 q4))))), fun q4 => s_iconst c36_37 rfl (s_retZ c36_38 R36 ⟨by decide, (H.2 q4)⟩)⟩))
theorem b36_47 {d : Nat} {h : HP} {Q : PV → HP → Prop} {v1 v2 v3 : Int} (H : (((h 36 2) < (h 36 1)) → X d 31 0 [some (P 36), some (I 59)] [] h (fun r h' => X (d + 1) 36 66 [some (P 36), some (I v1), some (I v2), some (I v3)] [r] h' Q)) ∧ (¬ ((h 36 2) < (h 36 1)) → Q (I 1) h)) : X (d + 1) 36 47 [some (P 36), some (I v1), some (I v2), some (I v3)] [] h Q :=
  s_aload_n c36_47 rfl (s_getI c36_48 f36_34 t5_2 sh_36 (s_aload_n c36_51 rfl (s_getI c36_52 f36_28 t5_1 sh_36 (s_ifc 60 ((h 36 2) < (h 36 1)) c36_55 (by decide) rfl ⟨fun q5 => s_aload_n c36_60 rfl (s_bipush c36_61 ⟨by decide, by decide⟩ (s_cVi c36_63 m36_101 F31 K31 rfl (Nat.le_of_ble_eq_true rfl) rfl S31_36 rfl (H.1 q5))), fun q5 => s_iconst c36_58 rfl (s_retZ c36_59 R36 ⟨by decide, (H.2 q5)⟩)⟩))))
theorem b36_66 {d : Nat} {h : HP} {Q : PV → HP → Prop} {v1 v2 v3 s0 : Int} (H : ((¬ s0 = 0) → X d 36 2 [some (P 36), some (I v1), some (I (w32 (v2 + 1))), none] [] h Q) ∧ (¬ (¬ s0 = 0) → Q (I 0) h)) : X d 36 66 [some (P 36), some (I v1), some (I v2), some (I v3)] [I s0] h Q :=
  s_if 71 (¬ s0 = 0) c36_66 (by decide) rfl ⟨fun q6 => s_iinc c36_71 rfl rfl rfl (s_goto 2 c36_74 (by decide) (X_weak (A := [some (P 36), some (I v1), some (I (w32 (v2 + 1))), none]) (B := [some (P 36), some (I v1), some (I (w32 (v2 + 1))), some (I v3)]) ⟨Or.inl rfl, Or.inl rfl, Or.inl rfl, Or.inr ⟨rfl, _, rfl, rfl⟩, trivial⟩ (H.1 q6))), fun q6 => s_iconst c36_69 rfl (s_retZ c36_70 R36 ⟨by decide, (H.2 q6)⟩)⟩
-- WarmSide$Rules.accept()I
theorem c26_0 : cdA 26 0 = some (.aload_n 0) := by decide +kernel
theorem c26_1 : cdA 26 1 = some (.iconst 0) := by decide +kernel
theorem c26_2 : cdA 26 2 = some (.putfield 34) := by decide +kernel
theorem f26_34 : fldR (moN 26) 34 = some (5, 2) := by decide +kernel
theorem c26_5 : cdA 26 5 = some (.aload_n 0) := by decide +kernel
theorem c26_6 : cdA 26 6 = some (.iconst 0) := by decide +kernel
theorem c26_7 : cdA 26 7 = some (.putfield 37) := by decide +kernel
theorem f26_37 : fldR (moN 26) 37 = some (5, 3) := by decide +kernel
theorem c26_10 : cdA 26 10 = some (.aload_n 0) := by decide +kernel
theorem c26_11 : cdA 26 11 = some (.invokevirtual 40) := by decide +kernel
theorem m26_40 : mthR (moN 26) 40 = 37 := by decide +kernel
theorem F34 : mF 34 0 3 true := by unfold mF; decide +kernel
theorem K34 : ¬ mK 34 = 4 := by decide +kernel
theorem S34_36 : SH0[36]? = some (.inl (moN 34)) := by decide +kernel
theorem c26_14 : cdA 26 14 = some (.istore_n 1) := by decide +kernel
theorem c26_15 : cdA 26 15 = some (.iload_n 1) := by decide +kernel
theorem c26_16 : cdA 26 16 = some (.ifCond .lt 24) := by decide +kernel
theorem c26_19 : cdA 26 19 = some (.aload_n 0) := by decide +kernel
theorem c26_20 : cdA 26 20 = some (.iload_n 1) := by decide +kernel
theorem c26_21 : cdA 26 21 = some (.iconst 4) := by decide +kernel
theorem c26_22 : cdA 26 22 = some (.if_icmp .ge 7) := by decide +kernel
theorem c26_29 : cdA 26 29 = some (.iconst 2) := by decide +kernel
theorem c26_25 : cdA 26 25 = some (.iconst 1) := by decide +kernel
theorem c26_26 : cdA 26 26 = some (.goto 4) := by decide +kernel
theorem c26_30 : cdA 26 30 = some (.invokevirtual 44) := by decide +kernel
theorem m26_44 : mthR (moN 26) 44 = 39 := by decide +kernel
theorem F36 : mF 36 1 4 true := by unfold mF; decide +kernel
theorem K36 : ¬ mK 36 = 4 := by decide +kernel
theorem S36_36 : SH0[36]? = some (.inl (moN 36)) := by decide +kernel
theorem c26_33 : cdA 26 33 = some (.ifCond .eq 7) := by decide +kernel
theorem c26_36 : cdA 26 36 = some (.iconst 1) := by decide +kernel
theorem c26_37 : cdA 26 37 = some (.goto 4) := by decide +kernel
theorem c26_40 : cdA 26 40 = some (.iconst 0) := by decide +kernel
theorem c26_41 : cdA 26 41 = some (.istore_n 2) := by decide +kernel
theorem c26_42 : cdA 26 42 = some (.aload_n 0) := by decide +kernel
theorem c26_43 : cdA 26 43 = some (.iconst 0) := by decide +kernel
theorem c26_44 : cdA 26 44 = some (.putfield 28) := by decide +kernel
theorem f26_28 : fldR (moN 26) 28 = some (5, 1) := by decide +kernel
theorem c26_47 : cdA 26 47 = some (.iload_n 2) := by decide +kernel
theorem c26_48 : cdA 26 48 = some (.ifCond .ne 8) := by decide +kernel
theorem c26_56 : cdA 26 56 = some (.aload_n 0) := by decide +kernel
theorem c26_57 : cdA 26 57 = some (.getfield 15) := by decide +kernel
theorem f26_15 : fldR (moN 26) 15 = some (5, 5) := by decide +kernel
theorem c26_60 : cdA 26 60 = some (.iconst 0) := by decide +kernel
theorem c26_61 : cdA 26 61 = some (.aload_n 0) := by decide +kernel
theorem c26_62 : cdA 26 62 = some (.getfield 18) := by decide +kernel
theorem f26_18 : fldR (moN 26) 18 = some (5, 6) := by decide +kernel
theorem t5_6 : fcl 5 6 = 2 := by decide +kernel
theorem c26_65 : cdA 26 65 = some (.iload_n 1) := by decide +kernel
theorem c26_66 : cdA 26 66 = some (.bipush 40) := by decide +kernel
theorem c26_68 : cdA 26 68 = some (.imul) := by decide +kernel
theorem c26_69 : cdA 26 69 = some (.aload_n 0) := by decide +kernel
theorem c26_70 : cdA 26 70 = some (.getfield 37) := by decide +kernel
theorem c26_73 : cdA 26 73 = some (.invokestatic 48) := by decide +kernel
theorem m26_48 : mthR (moN 26) 48 = 2 := by decide +kernel
theorem c26_76 : cdA 26 76 = some (.aload_n 0) := by decide +kernel
theorem c26_77 : cdA 26 77 = some (.getfield 21) := by decide +kernel
theorem f26_21 : fldR (moN 26) 21 = some (5, 7) := by decide +kernel
theorem t5_7 : fcl 5 7 = 2 := by decide +kernel
theorem c26_80 : cdA 26 80 = some (.iload_n 1) := by decide +kernel
theorem c26_81 : cdA 26 81 = some (.aload_n 0) := by decide +kernel
theorem c26_82 : cdA 26 82 = some (.getfield 37) := by decide +kernel
theorem c26_85 : cdA 26 85 = some (.iastore) := by decide +kernel
theorem c26_86 : cdA 26 86 = some (.iconst (-1)) := by decide +kernel
theorem c26_87 : cdA 26 87 = some (.ireturn) := by decide +kernel
theorem R26 : mK 26 = 0 := by decide +kernel
theorem c26_51 : cdA 26 51 = some (.aload_n 0) := by decide +kernel
theorem c26_52 : cdA 26 52 = some (.getfield 34) := by decide +kernel
theorem c26_55 : cdA 26 55 = some (.ireturn) := by decide +kernel
theorem b26_0 {d : Nat} {h : HP} {Q : PV → HP → Prop} (H : X d 34 0 [some (P 36), none, none] [] (up2 (up2 h 36 2 0) 36 3 0) (fun r h' => X (d + 1) 26 14 [some (P 36), none, none] [r] h' Q)) : X (d + 1) 26 0 [some (P 36), none, none] [] h Q :=
  s_aload_n c26_0 rfl (s_iconst c26_1 rfl (s_putI c26_2 f26_34 t5_2 n5_2 sh_36 (s_aload_n c26_5 rfl (s_iconst c26_6 rfl (s_putI c26_7 f26_37 t5_3 n5_3 sh_36 (s_aload_n c26_10 rfl (s_cVi c26_11 m26_40 F34 K34 rfl (Nat.le_of_ble_eq_true rfl) rfl S34_36 rfl H)))))))
theorem b26_14 {d : Nat} {h : HP} {Q : PV → HP → Prop} {s0 : Int} (H : ((s0 < 0) → X d 26 40 [some (P 36), some (I s0), none] [] h Q) ∧ (¬ (s0 < 0) → (((4 ≤ s0) → X d 26 30 [some (P 36), some (I s0), none] [I 2, P 36] h Q) ∧ (¬ (4 ≤ s0) → X d 26 30 [some (P 36), some (I s0), none] [I 1, P 36] h Q)))) : X d 26 14 [some (P 36), none, none] [I s0] h Q :=
  s_istore_n c26_14 rfl (s_iload_n c26_15 rfl (s_if 40 (s0 < 0) c26_16 (by decide) rfl ⟨fun q1 => (H.1 q1), fun q1 => s_aload_n c26_19 rfl (s_iload_n c26_20 rfl (s_iconst c26_21 rfl (s_ifc 29 (4 ≤ s0) c26_22 (by decide) rfl ⟨fun q2 => s_iconst c26_29 rfl (((H.2 q1).1 q2)), fun q2 => s_iconst c26_25 rfl (s_goto 30 c26_26 (by decide) (((H.2 q1).2 q2)))⟩)))⟩))
theorem b26_30 {d : Nat} {h : HP} {Q : PV → HP → Prop} {v1 s1 : Int} (H : X d 36 0 [some (P 36), some (I s1), none, none] [] h (fun r h' => X (d + 1) 26 33 [some (P 36), some (I v1), none] [r] h' Q)) : X (d + 1) 26 30 [some (P 36), some (I v1), none] [I s1, P 36] h Q :=
  s_cVi c26_30 m26_44 F36 K36 rfl (Nat.le_of_ble_eq_true rfl) rfl S36_36 rfl H
theorem b26_33 {d : Nat} {h : HP} {Q : PV → HP → Prop} {v1 s0 : Int} (H : ((s0 = 0) → X d 26 40 [some (P 36), some (I v1), none] [] h Q) ∧ (¬ (s0 = 0) → X d 26 41 [some (P 36), some (I v1), none] [I 1] h Q)) : X d 26 33 [some (P 36), some (I v1), none] [I s0] h Q :=
  s_if 40 (s0 = 0) c26_33 (by decide) rfl ⟨fun q3 => (H.1 q3), fun q3 => s_iconst c26_36 rfl (s_goto 41 c26_37 (by decide) ((H.2 q3)))⟩
theorem b26_40 {d : Nat} {h : HP} {Q : PV → HP → Prop} {v1 : Int} (H : X d 26 41 [some (P 36), some (I v1), none] [I 0] h Q) : X d 26 40 [some (P 36), some (I v1), none] [] h Q :=
  s_iconst c26_40 rfl (H)
theorem b26_41 {d : Nat} {h : HP} {Q : PV → HP → Prop} {v1 s0 : Int} (H : ((¬ s0 = 0) → (((0 : Int) ≤ 0 ∧ (0 : Int) ≤ (w32 (v1 * 40)) ∧ (0 : Int) ≤ (h 36 3) ∧ 0 + (h 36 3) ≤ (40 : Int) ∧ (w32 (v1 * 40)) + (h 36 3) ≤ (480 : Int)) ∧ ((0 ≤ v1 ∧ v1 < 12) ∧ Q (I (-1)) (up2 (cpy (up2 h 36 1 0) 38 39 0 (w32 (v1 * 40)).toNat (h 36 3).toNat) 40 v1.toNat (h 36 3))))) ∧ (¬ (¬ s0 = 0) → Q (I (h 36 2)) (up2 h 36 1 0))) : X d 26 41 [some (P 36), some (I v1), none] [I s0] h Q :=
  s_istore_n c26_41 rfl (s_aload_n c26_42 rfl (s_iconst c26_43 rfl (s_putI c26_44 f26_28 t5_1 n5_1 sh_36 (s_iload_n c26_47 rfl (s_if 56 (¬ s0 = 0) c26_48 (by decide) rfl ⟨fun q4 => s_aload_n c26_56 rfl (s_getP 38 c26_57 f26_15 t5_5 sh_36 g_36_5 (by decide) (by decide) (s_iconst c26_60 rfl (s_aload_n c26_61 rfl (s_getP 39 c26_62 f26_18 t5_6 sh_36 g_36_6 (by decide) (by decide) (s_iload_n c26_65 rfl (s_bipush c26_66 ⟨by decide, by decide⟩ (s_imul c26_68 (s_aload_n c26_69 rfl (s_getI c26_70 f26_37 t5_3 sh_36 (s_acp c26_73 m26_48 sh_38 sh_39 rfl ⟨(H.1 q4).1, s_aload_n c26_76 rfl (s_getP 40 c26_77 f26_21 t5_7 sh_36 g_36_7 (by decide) (by decide) (s_iload_n c26_80 rfl (s_aload_n c26_81 rfl (s_getI c26_82 f26_37 t5_3 sh_36 (s_iast c26_85 sh_40 ⟨(H.1 q4).2.1, s_iconst c26_86 rfl (s_retI c26_87 R26 (H.1 q4).2.2)⟩)))))⟩)))))))))), fun q4 => s_aload_n c26_51 rfl (s_getI c26_52 f26_34 t5_2 sh_36 (s_retI c26_55 R26 (H.2 q4)))⟩)))))
-- WarmSide$Rules.rules(I)Z
theorem c27_0 : cdA 27 0 = some (.aload_n 0) := by decide +kernel
theorem c27_1 : cdA 27 1 = some (.getfield 21) := by decide +kernel
theorem f27_21 : fldR (moN 27) 21 = some (5, 7) := by decide +kernel
theorem c27_4 : cdA 27 4 = some (.iload_n 1) := by decide +kernel
theorem c27_5 : cdA 27 5 = some (.iaload) := by decide +kernel
theorem c27_6 : cdA 27 6 = some (.ifCond .le 7) := by decide +kernel
theorem c27_13 : cdA 27 13 = some (.iconst 0) := by decide +kernel
theorem c27_14 : cdA 27 14 = some (.ireturn) := by decide +kernel
theorem R27 : mK 27 = 3 := by decide +kernel
theorem c27_9 : cdA 27 9 = some (.iconst 1) := by decide +kernel
theorem c27_10 : cdA 27 10 = some (.goto 4) := by decide +kernel
theorem b27_0 {d : Nat} {h : HP} {Q : PV → HP → Prop} {v1 : Int} (H : (0 ≤ v1 ∧ v1 < 12) ∧ ((((h 40 v1.toNat) ≤ 0) → Q (I 0) h) ∧ (¬ ((h 40 v1.toNat) ≤ 0) → Q (I 1) h))) : X d 27 0 [some (P 36), some (I v1)] [] h Q :=
  s_aload_n c27_0 rfl (s_getP 40 c27_1 f27_21 t5_7 sh_36 g_36_7 (by decide) (by decide) (s_iload_n c27_4 rfl (s_iald c27_5 sh_40 ⟨H.1, s_if 13 ((h 40 v1.toNat) ≤ 0) c27_6 (by decide) rfl ⟨fun q1 => s_iconst c27_13 rfl (s_retZ c27_14 R27 ⟨by decide, (H.2.1 q1)⟩), fun q1 => s_iconst c27_9 rfl (s_goto 14 c27_10 (by decide) (s_retZ c27_14 R27 ⟨by decide, (H.2.2 q1)⟩))⟩⟩)))
-- WarmSide$Rules.holds(I[II)Z
theorem c29_0 : cdA 29 0 = some (.iload_n 1) := by decide +kernel
theorem c29_1 : cdA 29 1 = some (.bipush 12) := by decide +kernel
theorem c29_3 : cdA 29 3 = some (.ishr) := by decide +kernel
theorem c29_4 : cdA 29 4 = some (.bipush 15) := by decide +kernel
theorem c29_6 : cdA 29 6 = some (.iand) := by decide +kernel
theorem c29_7 : cdA 29 7 = some (.istore 4) := by decide +kernel
theorem c29_9 : cdA 29 9 = some (.iconst 0) := by decide +kernel
theorem c29_10 : cdA 29 10 = some (.istore 5) := by decide +kernel
theorem c29_12 : cdA 29 12 = some (.iload 4) := by decide +kernel
theorem c29_14 : cdA 29 14 = some (.bipush 10) := by decide +kernel
theorem c29_16 : cdA 29 16 = some (.if_icmp .ne 20) := by decide +kernel
theorem c29_36 : cdA 29 36 = some (.iload 4) := by decide +kernel
theorem c29_38 : cdA 29 38 = some (.bipush 11) := by decide +kernel
theorem c29_40 : cdA 29 40 = some (.if_icmp .ne 9) := by decide +kernel
theorem c29_49 : cdA 29 49 = some (.iload 4) := by decide +kernel
theorem c29_51 : cdA 29 51 = some (.aload_n 0) := by decide +kernel
theorem c29_52 : cdA 29 52 = some (.getfield 24) := by decide +kernel
theorem f29_24 : fldR (moN 29) 24 = some (5, 0) := by decide +kernel
theorem c29_55 : cdA 29 55 = some (.getfield 69) := by decide +kernel
theorem f29_69 : fldR (moN 29) 69 = some (1, 0) := by decide +kernel
theorem c29_58 : cdA 29 58 = some (.getfield 73) := by decide +kernel
theorem f29_73 : fldR (moN 29) 73 = some (4, 0) := by decide +kernel
theorem c29_61 : cdA 29 61 = some (.if_icmp .ge 9) := by decide +kernel
theorem c29_64 : cdA 29 64 = some (.aload_n 2) := by decide +kernel
theorem c29_65 : cdA 29 65 = some (.iload 4) := by decide +kernel
theorem c29_67 : cdA 29 67 = some (.iaload) := by decide +kernel
theorem c29_68 : cdA 29 68 = some (.istore 5) := by decide +kernel
theorem c29_43 : cdA 29 43 = some (.iload_n 3) := by decide +kernel
theorem c29_44 : cdA 29 44 = some (.istore 5) := by decide +kernel
theorem c29_46 : cdA 29 46 = some (.goto 24) := by decide +kernel
theorem c29_19 : cdA 29 19 = some (.aload_n 0) := by decide +kernel
theorem c29_20 : cdA 29 20 = some (.getfield 24) := by decide +kernel
theorem c29_23 : cdA 29 23 = some (.getfield 58) := by decide +kernel
theorem f29_58 : fldR (moN 29) 58 = some (1, 5) := by decide +kernel
theorem c29_26 : cdA 29 26 = some (.getfield 64) := by decide +kernel
theorem f29_64 : fldR (moN 29) 64 = some (8, 3) := by decide +kernel
theorem c29_29 : cdA 29 29 = some (.iload_n 3) := by decide +kernel
theorem c29_30 : cdA 29 30 = some (.iaload) := by decide +kernel
theorem c29_31 : cdA 29 31 = some (.istore 5) := by decide +kernel
theorem c29_33 : cdA 29 33 = some (.goto 37) := by decide +kernel
theorem c29_70 : cdA 29 70 = some (.iload_n 1) := by decide +kernel
theorem c29_71 : cdA 29 71 = some (.bipush 10) := by decide +kernel
theorem c29_73 : cdA 29 73 = some (.ishr) := by decide +kernel
theorem c29_74 : cdA 29 74 = some (.iconst 3) := by decide +kernel
theorem c29_75 : cdA 29 75 = some (.iand) := by decide +kernel
theorem c29_76 : cdA 29 76 = some (.istore 6) := by decide +kernel
theorem c29_78 : cdA 29 78 = some (.iload 5) := by decide +kernel
theorem c29_80 : cdA 29 80 = some (.iload_n 1) := by decide +kernel
theorem c29_81 : cdA 29 81 = some (.sipush 1023) := by decide +kernel
theorem c29_84 : cdA 29 84 = some (.iand) := by decide +kernel
theorem c29_85 : cdA 29 85 = some (.invokestatic 78) := by decide +kernel
theorem m29_78 : mthR (moN 29) 78 = 224 := by decide +kernel
theorem F221 : mF 221 2 2 false := by unfold mF; decide +kernel
theorem K221 : ¬ mK 221 = 4 := by decide +kernel
theorem c29_88 : cdA 29 88 = some (.iload 6) := by decide +kernel
theorem c29_90 : cdA 29 90 = some (.iconst 1) := by decide +kernel
theorem c29_91 : cdA 29 91 = some (.isub) := by decide +kernel
theorem c29_92 : cdA 29 92 = some (.if_icmp .ne 7) := by decide +kernel
theorem c29_99 : cdA 29 99 = some (.iconst 0) := by decide +kernel
theorem c29_100 : cdA 29 100 = some (.ireturn) := by decide +kernel
theorem R29 : mK 29 = 3 := by decide +kernel
theorem c29_95 : cdA 29 95 = some (.iconst 1) := by decide +kernel
theorem c29_96 : cdA 29 96 = some (.goto 4) := by decide +kernel
theorem b29a_0 {d : Nat} {h : HP} {Q : PV → HP → Prop} {v1 v3 : Int} (H : ((¬ (bAnd (bShr v1 12) 15) = 10) → (((¬ (bAnd (bShr v1 12) 15) = 11) → ((((h 2 0) ≤ (bAnd (bShr v1 12) 15)) → X d 29 70 [some (P 36), some (I v1), some (P 53), some (I v3), some (I (bAnd (bShr v1 12) 15)), some (I 0), none] [] h Q) ∧ (¬ ((h 2 0) ≤ (bAnd (bShr v1 12) 15)) → ((0 ≤ (bAnd (bShr v1 12) 15) ∧ (bAnd (bShr v1 12) 15) < 8) ∧ X d 29 70 [some (P 36), some (I v1), some (P 53), some (I v3), some (I (bAnd (bShr v1 12) 15)), some (I (h 53 (bAnd (bShr v1 12) 15).toNat)), none] [] h Q)))) ∧ (¬ (¬ (bAnd (bShr v1 12) 15) = 11) → X d 29 70 [some (P 36), some (I v1), some (P 53), some (I v3), some (I (bAnd (bShr v1 12) 15)), some (I v3), none] [] h Q))) ∧ (¬ (¬ (bAnd (bShr v1 12) 15) = 10) → ((0 ≤ v3 ∧ v3 < 12) ∧ X d 29 70 [some (P 36), some (I v1), some (P 53), some (I v3), some (I (bAnd (bShr v1 12) 15)), some (I (h 34 v3.toNat)), none] [] h Q))) : X d 29 0 [some (P 36), some (I v1), some (P 53), some (I v3), none, none, none] [] h Q :=
  s_iload_n c29_0 rfl (s_bipush c29_1 ⟨by decide, by decide⟩ (s_ishr c29_3 (s_bipush c29_4 ⟨by decide, by decide⟩ (s_iand c29_6 (s_istore c29_7 rfl (s_iconst c29_9 rfl (s_istore c29_10 rfl (s_iload c29_12 rfl (s_bipush c29_14 ⟨by decide, by decide⟩ (s_ifc 36 (¬ (bAnd (bShr v1 12) 15) = 10) c29_16 (by decide) rfl ⟨fun q1 => s_iload c29_36 rfl (s_bipush c29_38 ⟨by decide, by decide⟩ (s_ifc 49 (¬ (bAnd (bShr v1 12) 15) = 11) c29_40 (by decide) rfl ⟨fun q2 => s_iload c29_49 rfl (s_aload_n c29_51 rfl (s_getP 1 c29_52 f29_24 t5_0 sh_36 g_36_0 (by decide) (by decide) (s_getP 2 c29_55 f29_69 t1_0 sh_1 g_1_0 (by decide) (by decide) (s_getI c29_58 f29_73 t4_0 sh_2 (s_ifc 70 ((h 2 0) ≤ (bAnd (bShr v1 12) 15)) c29_61 (by decide) rfl ⟨fun q3 => (((H.1 q1).1 q2).1 q3), fun q3 => s_aload_n c29_64 rfl (s_iload c29_65 rfl (s_iald c29_67 sh_53 ⟨(((H.1 q1).1 q2).2 q3).1, s_istore c29_68 rfl ((((H.1 q1).1 q2).2 q3).2)⟩))⟩))))), fun q2 => s_iload_n c29_43 rfl (s_istore c29_44 rfl (s_goto 70 c29_46 (by decide) (((H.1 q1).2 q2))))⟩)), fun q1 => s_aload_n c29_19 rfl (s_getP 1 c29_20 f29_24 t5_0 sh_36 g_36_0 (by decide) (by decide) (s_getP 30 c29_23 f29_58 t1_5 sh_1 g_1_5 (by decide) (by decide) (s_getP 34 c29_26 f29_64 t8_3 sh_30 g_30_3 (by decide) (by decide) (s_iload_n c29_29 rfl (s_iald c29_30 sh_34 ⟨(H.2 q1).1, s_istore c29_31 rfl (s_goto 70 c29_33 (by decide) ((H.2 q1).2))⟩)))))⟩))))))))))
theorem b29a_70 {d : Nat} {h : HP} {Q : PV → HP → Prop} {v1 v3 v4 v5 : Int} (H : X d 221 0 [some (I v5), some (I (bAnd v1 1023))] [] h (fun r h' => X (d + 1) 29 88 [some (P 36), some (I v1), some (P 53), some (I v3), some (I v4), some (I v5), some (I (bAnd (bShr v1 10) 3))] [r] h' Q)) : X (d + 1) 29 70 [some (P 36), some (I v1), some (P 53), some (I v3), some (I v4), some (I v5), none] [] h Q :=
  s_iload_n c29_70 rfl (s_bipush c29_71 ⟨by decide, by decide⟩ (s_ishr c29_73 (s_iconst c29_74 rfl (s_iand c29_75 (s_istore c29_76 rfl (s_iload c29_78 rfl (s_iload_n c29_80 rfl (s_sipush c29_81 ⟨by decide, by decide⟩ (s_iand c29_84 (s_cSi c29_85 m29_78 F221 K221 rfl (Nat.le_of_ble_eq_true rfl) rfl rfl H))))))))))
theorem b29a_88 {d : Nat} {h : HP} {Q : PV → HP → Prop} {v1 v3 v4 v5 v6 s0 : Int} (H : ((¬ s0 = (w32 (v6 - 1))) → Q (I 0) h) ∧ (¬ (¬ s0 = (w32 (v6 - 1))) → Q (I 1) h)) : X d 29 88 [some (P 36), some (I v1), some (P 53), some (I v3), some (I v4), some (I v5), some (I v6)] [I s0] h Q :=
  s_iload c29_88 rfl (s_iconst c29_90 rfl (s_isub c29_91 (s_ifc 99 (¬ s0 = (w32 (v6 - 1))) c29_92 (by decide) rfl ⟨fun q4 => s_iconst c29_99 rfl (s_retZ c29_100 R29 ⟨by decide, (H.1 q4)⟩), fun q4 => s_iconst c29_95 rfl (s_goto 100 c29_96 (by decide) (s_retZ c29_100 R29 ⟨by decide, (H.2 q4)⟩))⟩)))
-- WarmSide$Rules.told(I[II)I
theorem c28_0 : cdA 28 0 = some (.iconst 0) := by decide +kernel
theorem c28_1 : cdA 28 1 = some (.istore 4) := by decide +kernel
theorem c28_3 : cdA 28 3 = some (.iload_n 1) := by decide +kernel
theorem c28_4 : cdA 28 4 = some (.bipush 40) := by decide +kernel
theorem c28_6 : cdA 28 6 = some (.imul) := by decide +kernel
theorem c28_7 : cdA 28 7 = some (.istore 5) := by decide +kernel
theorem c28_124 : cdA 28 124 = some (.istore 4) := by decide +kernel
theorem c28_126 : cdA 28 126 = some (.goto 34) := by decide +kernel
theorem c28_160 : cdA 28 160 = some (.iinc 5 1) := by decide +kernel
theorem c28_163 : cdA 28 163 = some (.goto (-154)) := by decide +kernel
theorem c28_80 : cdA 28 80 = some (.ifCond .eq 7) := by decide +kernel
theorem c28_87 : cdA 28 87 = some (.iconst 0) := by decide +kernel
theorem c28_83 : cdA 28 83 = some (.iconst 1) := by decide +kernel
theorem c28_84 : cdA 28 84 = some (.goto 4) := by decide +kernel
theorem c28_88 : cdA 28 88 = some (.ior) := by decide +kernel
theorem c28_89 : cdA 28 89 = some (.istore 4) := by decide +kernel
theorem c28_91 : cdA 28 91 = some (.goto 69) := by decide +kernel
theorem c28_9 : cdA 28 9 = some (.iload 5) := by decide +kernel
theorem c28_11 : cdA 28 11 = some (.iload_n 1) := by decide +kernel
theorem c28_12 : cdA 28 12 = some (.bipush 40) := by decide +kernel
theorem c28_14 : cdA 28 14 = some (.imul) := by decide +kernel
theorem c28_15 : cdA 28 15 = some (.aload_n 0) := by decide +kernel
theorem c28_16 : cdA 28 16 = some (.getfield 21) := by decide +kernel
theorem f28_21 : fldR (moN 28) 21 = some (5, 7) := by decide +kernel
theorem c28_19 : cdA 28 19 = some (.iload_n 1) := by decide +kernel
theorem c28_20 : cdA 28 20 = some (.iaload) := by decide +kernel
theorem c28_21 : cdA 28 21 = some (.iadd) := by decide +kernel
theorem c28_22 : cdA 28 22 = some (.if_icmp .ge 144) := by decide +kernel
theorem c28_166 : cdA 28 166 = some (.iconst (-1)) := by decide +kernel
theorem c28_167 : cdA 28 167 = some (.ireturn) := by decide +kernel
theorem R28 : mK 28 = 0 := by decide +kernel
theorem c28_25 : cdA 28 25 = some (.aload_n 0) := by decide +kernel
theorem c28_26 : cdA 28 26 = some (.getfield 18) := by decide +kernel
theorem f28_18 : fldR (moN 28) 18 = some (5, 6) := by decide +kernel
theorem c28_29 : cdA 28 29 = some (.iload 5) := by decide +kernel
theorem c28_31 : cdA 28 31 = some (.iaload) := by decide +kernel
theorem c28_32 : cdA 28 32 = some (.istore 6) := by decide +kernel
theorem c28_34 : cdA 28 34 = some (.iload 6) := by decide +kernel
theorem c28_36 : cdA 28 36 = some (.bipush 20) := by decide +kernel
theorem c28_38 : cdA 28 38 = some (.ishr) := by decide +kernel
theorem c28_39 : cdA 28 39 = some (.tableswitch 104 1 4 #[29, 55, 64, 90]) := by decide +kernel
theorem c28_143 : cdA 28 143 = some (.iload 4) := by decide +kernel
theorem c28_145 : cdA 28 145 = some (.iconst 1) := by decide +kernel
theorem c28_146 : cdA 28 146 = some (.iand) := by decide +kernel
theorem c28_147 : cdA 28 147 = some (.ifCond .eq 10) := by decide +kernel
theorem c28_157 : cdA 28 157 = some (.iconst 0) := by decide +kernel
theorem c28_158 : cdA 28 158 = some (.istore 4) := by decide +kernel
theorem c28_150 : cdA 28 150 = some (.iload 6) := by decide +kernel
theorem c28_152 : cdA 28 152 = some (.sipush 1023) := by decide +kernel
theorem c28_155 : cdA 28 155 = some (.iand) := by decide +kernel
theorem c28_156 : cdA 28 156 = some (.ireturn) := by decide +kernel
theorem c28_68 : cdA 28 68 = some (.iload 4) := by decide +kernel
theorem c28_70 : cdA 28 70 = some (.iconst 1) := by decide +kernel
theorem c28_71 : cdA 28 71 = some (.ishl) := by decide +kernel
theorem c28_72 : cdA 28 72 = some (.aload_n 0) := by decide +kernel
theorem c28_73 : cdA 28 73 = some (.iload 6) := by decide +kernel
theorem c28_75 : cdA 28 75 = some (.aload_n 2) := by decide +kernel
theorem c28_76 : cdA 28 76 = some (.iload_n 3) := by decide +kernel
theorem c28_77 : cdA 28 77 = some (.invokevirtual 54) := by decide +kernel
theorem m28_54 : mthR (moN 28) 54 = 32 := by decide +kernel
theorem F29 : mF 29 3 7 true := by unfold mF; decide +kernel
theorem K29 : ¬ mK 29 = 4 := by decide +kernel
theorem S29_36 : SH0[36]? = some (.inl (moN 29)) := by decide +kernel
theorem c28_94 : cdA 28 94 = some (.iload 4) := by decide +kernel
theorem c28_96 : cdA 28 96 = some (.iconst 1) := by decide +kernel
theorem c28_97 : cdA 28 97 = some (.ixor) := by decide +kernel
theorem c28_98 : cdA 28 98 = some (.istore 4) := by decide +kernel
theorem c28_100 : cdA 28 100 = some (.goto 60) := by decide +kernel
theorem c28_103 : cdA 28 103 = some (.iload 4) := by decide +kernel
theorem c28_105 : cdA 28 105 = some (.iconst 1) := by decide +kernel
theorem c28_106 : cdA 28 106 = some (.iand) := by decide +kernel
theorem c28_107 : cdA 28 107 = some (.ifCond .ne 13) := by decide +kernel
theorem c28_120 : cdA 28 120 = some (.iload 4) := by decide +kernel
theorem c28_122 : cdA 28 122 = some (.iconst 1) := by decide +kernel
theorem c28_123 : cdA 28 123 = some (.ishr) := by decide +kernel
theorem c28_110 : cdA 28 110 = some (.iload 4) := by decide +kernel
theorem c28_112 : cdA 28 112 = some (.iconst 1) := by decide +kernel
theorem c28_113 : cdA 28 113 = some (.ishr) := by decide +kernel
theorem c28_114 : cdA 28 114 = some (.bipush (-2)) := by decide +kernel
theorem c28_116 : cdA 28 116 = some (.iand) := by decide +kernel
theorem c28_117 : cdA 28 117 = some (.goto 7) := by decide +kernel
theorem c28_129 : cdA 28 129 = some (.iload 4) := by decide +kernel
theorem c28_131 : cdA 28 131 = some (.iconst 1) := by decide +kernel
theorem c28_132 : cdA 28 132 = some (.ishr) := by decide +kernel
theorem c28_133 : cdA 28 133 = some (.iload 4) := by decide +kernel
theorem c28_135 : cdA 28 135 = some (.iconst 1) := by decide +kernel
theorem c28_136 : cdA 28 136 = some (.iand) := by decide +kernel
theorem c28_137 : cdA 28 137 = some (.ior) := by decide +kernel
theorem c28_138 : cdA 28 138 = some (.istore 4) := by decide +kernel
theorem c28_140 : cdA 28 140 = some (.goto 20) := by decide +kernel
theorem b28a_0 {d : Nat} {h : HP} {Q : PV → HP → Prop} {v1 v3 : Int} (H : X d 28 9 [some (P 36), some (I v1), some (P 53), some (I v3), some (I 0), some (I (w32 (v1 * 40))), none] [] h Q) : X d 28 0 [some (P 36), some (I v1), some (P 53), some (I v3), none, none, none] [] h Q :=
  s_iconst c28_0 rfl (s_istore c28_1 rfl (s_iload_n c28_3 rfl (s_bipush c28_4 ⟨by decide, by decide⟩ (s_imul c28_6 (s_istore c28_7 rfl (H))))))
theorem b28a_124 {d : Nat} {h : HP} {Q : PV → HP → Prop} {v1 v3 v4 v5 v6 s0 : Int} (H : X d 28 160 [some (P 36), some (I v1), some (P 53), some (I v3), some (I s0), some (I v5), some (I v6)] [] h Q) : X d 28 124 [some (P 36), some (I v1), some (P 53), some (I v3), some (I v4), some (I v5), some (I v6)] [I s0] h Q :=
  s_istore c28_124 rfl (s_goto 160 c28_126 (by decide) (H))
theorem b28a_160 {d : Nat} {h : HP} {Q : PV → HP → Prop} {v1 v3 v4 v5 v6 : Int} (H : X d 28 9 [some (P 36), some (I v1), some (P 53), some (I v3), some (I v4), some (I (w32 (v5 + 1))), none] [] h Q) : X d 28 160 [some (P 36), some (I v1), some (P 53), some (I v3), some (I v4), some (I v5), some (I v6)] [] h Q :=
  s_iinc c28_160 rfl rfl rfl (s_goto 9 c28_163 (by decide) (X_weak (A := [some (P 36), some (I v1), some (P 53), some (I v3), some (I v4), some (I (w32 (v5 + 1))), none]) (B := [some (P 36), some (I v1), some (P 53), some (I v3), some (I v4), some (I (w32 (v5 + 1))), some (I v6)]) ⟨Or.inl rfl, Or.inl rfl, Or.inl rfl, Or.inl rfl, Or.inl rfl, Or.inl rfl, Or.inr ⟨rfl, _, rfl, rfl⟩, trivial⟩ H))
theorem b28a_80 {d : Nat} {h : HP} {Q : PV → HP → Prop} {v1 v3 v4 v5 v6 s0 s1 : Int} (H : ((s1 = 0) → X d 28 88 [some (P 36), some (I v1), some (P 53), some (I v3), some (I v4), some (I v5), some (I v6)] [I 0, I s0] h Q) ∧ (¬ (s1 = 0) → X d 28 88 [some (P 36), some (I v1), some (P 53), some (I v3), some (I v4), some (I v5), some (I v6)] [I 1, I s0] h Q)) : X d 28 80 [some (P 36), some (I v1), some (P 53), some (I v3), some (I v4), some (I v5), some (I v6)] [I s1, I s0] h Q :=
  s_if 87 (s1 = 0) c28_80 (by decide) rfl ⟨fun q1 => s_iconst c28_87 rfl ((H.1 q1)), fun q1 => s_iconst c28_83 rfl (s_goto 88 c28_84 (by decide) ((H.2 q1)))⟩
theorem b28a_88 {d : Nat} {h : HP} {Q : PV → HP → Prop} {v1 v3 v4 v5 v6 s0 s1 : Int} (H : X d 28 160 [some (P 36), some (I v1), some (P 53), some (I v3), some (I (bOr s0 s1)), some (I v5), some (I v6)] [] h Q) : X d 28 88 [some (P 36), some (I v1), some (P 53), some (I v3), some (I v4), some (I v5), some (I v6)] [I s1, I s0] h Q :=
  s_ior c28_88 (s_istore c28_89 rfl (s_goto 160 c28_91 (by decide) (H)))
theorem b28a_9 {d : Nat} {h : HP} {Q : PV → HP → Prop} {v1 v3 v4 v5 : Int} (H : (0 ≤ v1 ∧ v1 < 12) ∧ ((((w32 ((w32 (v1 * 40)) + (h 40 v1.toNat))) ≤ v5) → Q (I (-1)) h) ∧ (¬ ((w32 ((w32 (v1 * 40)) + (h 40 v1.toNat))) ≤ v5) → ((0 ≤ v5 ∧ v5 < 480) ∧ ((((bShr (h 39 v5.toNat) 20) < 1 ∨ 4 < (bShr (h 39 v5.toNat) 20)) → ((((bAnd v4 1) = 0) → X (d + 1) 28 160 [some (P 36), some (I v1), some (P 53), some (I v3), some (I 0), some (I v5), some (I (h 39 v5.toNat))] [] h Q) ∧ (¬ ((bAnd v4 1) = 0) → Q (I (bAnd (h 39 v5.toNat) 1023)) h))) ∧ ((bShr (h 39 v5.toNat) 20) = 1 → X d 29 0 [some (P 36), some (I (h 39 v5.toNat)), some (P 53), some (I v3), none, none, none] [] h (fun r h' => X (d + 1) 28 80 [some (P 36), some (I v1), some (P 53), some (I v3), some (I v4), some (I v5), some (I (h 39 v5.toNat))] [r, I (bShl v4 1)] h' Q)) ∧ ((bShr (h 39 v5.toNat) 20) = 2 → X (d + 1) 28 160 [some (P 36), some (I v1), some (P 53), some (I v3), some (I (bXor v4 1)), some (I v5), some (I (h 39 v5.toNat))] [] h Q) ∧ ((bShr (h 39 v5.toNat) 20) = 3 → (((¬ (bAnd v4 1) = 0) → X (d + 1) 28 124 [some (P 36), some (I v1), some (P 53), some (I v3), some (I v4), some (I v5), some (I (h 39 v5.toNat))] [I (bShr v4 1)] h Q) ∧ (¬ (¬ (bAnd v4 1) = 0) → X (d + 1) 28 124 [some (P 36), some (I v1), some (P 53), some (I v3), some (I v4), some (I v5), some (I (h 39 v5.toNat))] [I (bAnd (bShr v4 1) (-2))] h Q))) ∧ ((bShr (h 39 v5.toNat) 20) = 4 → X (d + 1) 28 160 [some (P 36), some (I v1), some (P 53), some (I v3), some (I (bOr (bShr v4 1) (bAnd v4 1))), some (I v5), some (I (h 39 v5.toNat))] [] h Q)))))) : X (d + 1) 28 9 [some (P 36), some (I v1), some (P 53), some (I v3), some (I v4), some (I v5), none] [] h Q :=
  s_iload c28_9 rfl (s_iload_n c28_11 rfl (s_bipush c28_12 ⟨by decide, by decide⟩ (s_imul c28_14 (s_aload_n c28_15 rfl (s_getP 40 c28_16 f28_21 t5_7 sh_36 g_36_7 (by decide) (by decide) (s_iload_n c28_19 rfl (s_iald c28_20 sh_40 ⟨H.1, s_iadd c28_21 (s_ifc 166 ((w32 ((w32 (v1 * 40)) + (h 40 v1.toNat))) ≤ v5) c28_22 (by decide) rfl ⟨fun q2 => s_iconst c28_166 rfl (s_retI c28_167 R28 (H.2.1 q2)), fun q2 => s_aload_n c28_25 rfl (s_getP 39 c28_26 f28_18 t5_6 sh_36 g_36_6 (by decide) (by decide) (s_iload c28_29 rfl (s_iald c28_31 sh_39 ⟨(H.2.2 q2).1, s_istore c28_32 rfl (s_iload c28_34 rfl (s_bipush c28_36 ⟨by decide, by decide⟩ (s_ishr c28_38 (s_tsw (x := (bShr (h 39 v5.toNat) 20)) 143 c28_39 (by decide) (fun q3 => s_iload c28_143 rfl (s_iconst c28_145 rfl (s_iand c28_146 (s_if 157 ((bAnd v4 1) = 0) c28_147 (by decide) rfl ⟨fun q4 => s_iconst c28_157 rfl (s_istore c28_158 rfl ((((H.2.2 q2).2.1 q3).1 q4))), fun q4 => s_iload c28_150 rfl (s_sipush c28_152 ⟨by decide, by decide⟩ (s_iand c28_155 (s_retI c28_156 R28 (((H.2.2 q2).2.1 q3).2 q4))))⟩)))) (fun qn => by
    have qc : (bShr (h 39 v5.toNat) 20) = 1 ∨ (bShr (h 39 v5.toNat) 20) = 2 ∨ (bShr (h 39 v5.toNat) 20) = 3 ∨ (bShr (h 39 v5.toNat) 20) = 4 := by omega
    rcases qc with q3 | q3 | q3 | q3
    · exact ⟨29, 68, by rw [q3]; rfl, by decide, s_iload c28_68 rfl (s_iconst c28_70 rfl (s_ishl c28_71 (s_aload_n c28_72 rfl (s_iload c28_73 rfl (s_aload_n c28_75 rfl (s_iload_n c28_76 rfl (s_cVi c28_77 m28_54 F29 K29 rfl (Nat.le_of_ble_eq_true rfl) rfl S29_36 rfl ((H.2.2 q2).2.2.1 q3))))))))⟩
    · exact ⟨55, 94, by rw [q3]; rfl, by decide, s_iload c28_94 rfl (s_iconst c28_96 rfl (s_ixor c28_97 (s_istore c28_98 rfl (s_goto 160 c28_100 (by decide) (((H.2.2 q2).2.2.2.1 q3))))))⟩
    · exact ⟨64, 103, by rw [q3]; rfl, by decide, s_iload c28_103 rfl (s_iconst c28_105 rfl (s_iand c28_106 (s_if 120 (¬ (bAnd v4 1) = 0) c28_107 (by decide) rfl ⟨fun q5 => s_iload c28_120 rfl (s_iconst c28_122 rfl (s_ishr c28_123 ((((H.2.2 q2).2.2.2.2.1 q3).1 q5)))), fun q5 => s_iload c28_110 rfl (s_iconst c28_112 rfl (s_ishr c28_113 (s_bipush c28_114 ⟨by decide, by decide⟩ (s_iand c28_116 (s_goto 124 c28_117 (by decide) ((((H.2.2 q2).2.2.2.2.1 q3).2 q5)))))))⟩)))⟩
    · exact ⟨90, 129, by rw [q3]; rfl, by decide, s_iload c28_129 rfl (s_iconst c28_131 rfl (s_ishr c28_132 (s_iload c28_133 rfl (s_iconst c28_135 rfl (s_iand c28_136 (s_ior c28_137 (s_istore c28_138 rfl (s_goto 160 c28_140 (by decide) (((H.2.2 q2).2.2.2.2.2 q3))))))))))⟩
    )))))⟩)))⟩)⟩)))))))
-- WarmSide$Rules.holds(I[II)Z
theorem b29b_0 {d : Nat} {h : HP} {Q : PV → HP → Prop} {v1 v3 : Int} (H : ((¬ (bAnd (bShr v1 12) 15) = 10) → (((¬ (bAnd (bShr v1 12) 15) = 11) → ((((h 2 0) ≤ (bAnd (bShr v1 12) 15)) → X d 29 70 [some (P 36), some (I v1), some (P 48), some (I v3), some (I (bAnd (bShr v1 12) 15)), some (I 0), none] [] h Q) ∧ (¬ ((h 2 0) ≤ (bAnd (bShr v1 12) 15)) → ((0 ≤ (bAnd (bShr v1 12) 15) ∧ (bAnd (bShr v1 12) 15) < 8) ∧ X d 29 70 [some (P 36), some (I v1), some (P 48), some (I v3), some (I (bAnd (bShr v1 12) 15)), some (I (h 48 (bAnd (bShr v1 12) 15).toNat)), none] [] h Q)))) ∧ (¬ (¬ (bAnd (bShr v1 12) 15) = 11) → X d 29 70 [some (P 36), some (I v1), some (P 48), some (I v3), some (I (bAnd (bShr v1 12) 15)), some (I v3), none] [] h Q))) ∧ (¬ (¬ (bAnd (bShr v1 12) 15) = 10) → ((0 ≤ v3 ∧ v3 < 12) ∧ X d 29 70 [some (P 36), some (I v1), some (P 48), some (I v3), some (I (bAnd (bShr v1 12) 15)), some (I (h 34 v3.toNat)), none] [] h Q))) : X d 29 0 [some (P 36), some (I v1), some (P 48), some (I v3), none, none, none] [] h Q :=
  s_iload_n c29_0 rfl (s_bipush c29_1 ⟨by decide, by decide⟩ (s_ishr c29_3 (s_bipush c29_4 ⟨by decide, by decide⟩ (s_iand c29_6 (s_istore c29_7 rfl (s_iconst c29_9 rfl (s_istore c29_10 rfl (s_iload c29_12 rfl (s_bipush c29_14 ⟨by decide, by decide⟩ (s_ifc 36 (¬ (bAnd (bShr v1 12) 15) = 10) c29_16 (by decide) rfl ⟨fun q1 => s_iload c29_36 rfl (s_bipush c29_38 ⟨by decide, by decide⟩ (s_ifc 49 (¬ (bAnd (bShr v1 12) 15) = 11) c29_40 (by decide) rfl ⟨fun q2 => s_iload c29_49 rfl (s_aload_n c29_51 rfl (s_getP 1 c29_52 f29_24 t5_0 sh_36 g_36_0 (by decide) (by decide) (s_getP 2 c29_55 f29_69 t1_0 sh_1 g_1_0 (by decide) (by decide) (s_getI c29_58 f29_73 t4_0 sh_2 (s_ifc 70 ((h 2 0) ≤ (bAnd (bShr v1 12) 15)) c29_61 (by decide) rfl ⟨fun q3 => (((H.1 q1).1 q2).1 q3), fun q3 => s_aload_n c29_64 rfl (s_iload c29_65 rfl (s_iald c29_67 sh_48 ⟨(((H.1 q1).1 q2).2 q3).1, s_istore c29_68 rfl ((((H.1 q1).1 q2).2 q3).2)⟩))⟩))))), fun q2 => s_iload_n c29_43 rfl (s_istore c29_44 rfl (s_goto 70 c29_46 (by decide) (((H.1 q1).2 q2))))⟩)), fun q1 => s_aload_n c29_19 rfl (s_getP 1 c29_20 f29_24 t5_0 sh_36 g_36_0 (by decide) (by decide) (s_getP 30 c29_23 f29_58 t1_5 sh_1 g_1_5 (by decide) (by decide) (s_getP 34 c29_26 f29_64 t8_3 sh_30 g_30_3 (by decide) (by decide) (s_iload_n c29_29 rfl (s_iald c29_30 sh_34 ⟨(H.2 q1).1, s_istore c29_31 rfl (s_goto 70 c29_33 (by decide) ((H.2 q1).2))⟩)))))⟩))))))))))
theorem b29b_70 {d : Nat} {h : HP} {Q : PV → HP → Prop} {v1 v3 v4 v5 : Int} (H : X d 221 0 [some (I v5), some (I (bAnd v1 1023))] [] h (fun r h' => X (d + 1) 29 88 [some (P 36), some (I v1), some (P 48), some (I v3), some (I v4), some (I v5), some (I (bAnd (bShr v1 10) 3))] [r] h' Q)) : X (d + 1) 29 70 [some (P 36), some (I v1), some (P 48), some (I v3), some (I v4), some (I v5), none] [] h Q :=
  s_iload_n c29_70 rfl (s_bipush c29_71 ⟨by decide, by decide⟩ (s_ishr c29_73 (s_iconst c29_74 rfl (s_iand c29_75 (s_istore c29_76 rfl (s_iload c29_78 rfl (s_iload_n c29_80 rfl (s_sipush c29_81 ⟨by decide, by decide⟩ (s_iand c29_84 (s_cSi c29_85 m29_78 F221 K221 rfl (Nat.le_of_ble_eq_true rfl) rfl rfl H))))))))))
theorem b29b_88 {d : Nat} {h : HP} {Q : PV → HP → Prop} {v1 v3 v4 v5 v6 s0 : Int} (H : ((¬ s0 = (w32 (v6 - 1))) → Q (I 0) h) ∧ (¬ (¬ s0 = (w32 (v6 - 1))) → Q (I 1) h)) : X d 29 88 [some (P 36), some (I v1), some (P 48), some (I v3), some (I v4), some (I v5), some (I v6)] [I s0] h Q :=
  s_iload c29_88 rfl (s_iconst c29_90 rfl (s_isub c29_91 (s_ifc 99 (¬ s0 = (w32 (v6 - 1))) c29_92 (by decide) rfl ⟨fun q4 => s_iconst c29_99 rfl (s_retZ c29_100 R29 ⟨by decide, (H.1 q4)⟩), fun q4 => s_iconst c29_95 rfl (s_goto 100 c29_96 (by decide) (s_retZ c29_100 R29 ⟨by decide, (H.2 q4)⟩))⟩)))
-- WarmSide$Rules.told(I[II)I
theorem b28b_0 {d : Nat} {h : HP} {Q : PV → HP → Prop} {v1 v3 : Int} (H : X d 28 9 [some (P 36), some (I v1), some (P 48), some (I v3), some (I 0), some (I (w32 (v1 * 40))), none] [] h Q) : X d 28 0 [some (P 36), some (I v1), some (P 48), some (I v3), none, none, none] [] h Q :=
  s_iconst c28_0 rfl (s_istore c28_1 rfl (s_iload_n c28_3 rfl (s_bipush c28_4 ⟨by decide, by decide⟩ (s_imul c28_6 (s_istore c28_7 rfl (H))))))
theorem b28b_124 {d : Nat} {h : HP} {Q : PV → HP → Prop} {v1 v3 v4 v5 v6 s0 : Int} (H : X d 28 160 [some (P 36), some (I v1), some (P 48), some (I v3), some (I s0), some (I v5), some (I v6)] [] h Q) : X d 28 124 [some (P 36), some (I v1), some (P 48), some (I v3), some (I v4), some (I v5), some (I v6)] [I s0] h Q :=
  s_istore c28_124 rfl (s_goto 160 c28_126 (by decide) (H))
theorem b28b_160 {d : Nat} {h : HP} {Q : PV → HP → Prop} {v1 v3 v4 v5 v6 : Int} (H : X d 28 9 [some (P 36), some (I v1), some (P 48), some (I v3), some (I v4), some (I (w32 (v5 + 1))), none] [] h Q) : X d 28 160 [some (P 36), some (I v1), some (P 48), some (I v3), some (I v4), some (I v5), some (I v6)] [] h Q :=
  s_iinc c28_160 rfl rfl rfl (s_goto 9 c28_163 (by decide) (X_weak (A := [some (P 36), some (I v1), some (P 48), some (I v3), some (I v4), some (I (w32 (v5 + 1))), none]) (B := [some (P 36), some (I v1), some (P 48), some (I v3), some (I v4), some (I (w32 (v5 + 1))), some (I v6)]) ⟨Or.inl rfl, Or.inl rfl, Or.inl rfl, Or.inl rfl, Or.inl rfl, Or.inl rfl, Or.inr ⟨rfl, _, rfl, rfl⟩, trivial⟩ H))
theorem b28b_80 {d : Nat} {h : HP} {Q : PV → HP → Prop} {v1 v3 v4 v5 v6 s0 s1 : Int} (H : ((s1 = 0) → X d 28 88 [some (P 36), some (I v1), some (P 48), some (I v3), some (I v4), some (I v5), some (I v6)] [I 0, I s0] h Q) ∧ (¬ (s1 = 0) → X d 28 88 [some (P 36), some (I v1), some (P 48), some (I v3), some (I v4), some (I v5), some (I v6)] [I 1, I s0] h Q)) : X d 28 80 [some (P 36), some (I v1), some (P 48), some (I v3), some (I v4), some (I v5), some (I v6)] [I s1, I s0] h Q :=
  s_if 87 (s1 = 0) c28_80 (by decide) rfl ⟨fun q1 => s_iconst c28_87 rfl ((H.1 q1)), fun q1 => s_iconst c28_83 rfl (s_goto 88 c28_84 (by decide) ((H.2 q1)))⟩
theorem b28b_88 {d : Nat} {h : HP} {Q : PV → HP → Prop} {v1 v3 v4 v5 v6 s0 s1 : Int} (H : X d 28 160 [some (P 36), some (I v1), some (P 48), some (I v3), some (I (bOr s0 s1)), some (I v5), some (I v6)] [] h Q) : X d 28 88 [some (P 36), some (I v1), some (P 48), some (I v3), some (I v4), some (I v5), some (I v6)] [I s1, I s0] h Q :=
  s_ior c28_88 (s_istore c28_89 rfl (s_goto 160 c28_91 (by decide) (H)))
theorem b28b_9 {d : Nat} {h : HP} {Q : PV → HP → Prop} {v1 v3 v4 v5 : Int} (H : (0 ≤ v1 ∧ v1 < 12) ∧ ((((w32 ((w32 (v1 * 40)) + (h 40 v1.toNat))) ≤ v5) → Q (I (-1)) h) ∧ (¬ ((w32 ((w32 (v1 * 40)) + (h 40 v1.toNat))) ≤ v5) → ((0 ≤ v5 ∧ v5 < 480) ∧ ((((bShr (h 39 v5.toNat) 20) < 1 ∨ 4 < (bShr (h 39 v5.toNat) 20)) → ((((bAnd v4 1) = 0) → X (d + 1) 28 160 [some (P 36), some (I v1), some (P 48), some (I v3), some (I 0), some (I v5), some (I (h 39 v5.toNat))] [] h Q) ∧ (¬ ((bAnd v4 1) = 0) → Q (I (bAnd (h 39 v5.toNat) 1023)) h))) ∧ ((bShr (h 39 v5.toNat) 20) = 1 → X d 29 0 [some (P 36), some (I (h 39 v5.toNat)), some (P 48), some (I v3), none, none, none] [] h (fun r h' => X (d + 1) 28 80 [some (P 36), some (I v1), some (P 48), some (I v3), some (I v4), some (I v5), some (I (h 39 v5.toNat))] [r, I (bShl v4 1)] h' Q)) ∧ ((bShr (h 39 v5.toNat) 20) = 2 → X (d + 1) 28 160 [some (P 36), some (I v1), some (P 48), some (I v3), some (I (bXor v4 1)), some (I v5), some (I (h 39 v5.toNat))] [] h Q) ∧ ((bShr (h 39 v5.toNat) 20) = 3 → (((¬ (bAnd v4 1) = 0) → X (d + 1) 28 124 [some (P 36), some (I v1), some (P 48), some (I v3), some (I v4), some (I v5), some (I (h 39 v5.toNat))] [I (bShr v4 1)] h Q) ∧ (¬ (¬ (bAnd v4 1) = 0) → X (d + 1) 28 124 [some (P 36), some (I v1), some (P 48), some (I v3), some (I v4), some (I v5), some (I (h 39 v5.toNat))] [I (bAnd (bShr v4 1) (-2))] h Q))) ∧ ((bShr (h 39 v5.toNat) 20) = 4 → X (d + 1) 28 160 [some (P 36), some (I v1), some (P 48), some (I v3), some (I (bOr (bShr v4 1) (bAnd v4 1))), some (I v5), some (I (h 39 v5.toNat))] [] h Q)))))) : X (d + 1) 28 9 [some (P 36), some (I v1), some (P 48), some (I v3), some (I v4), some (I v5), none] [] h Q :=
  s_iload c28_9 rfl (s_iload_n c28_11 rfl (s_bipush c28_12 ⟨by decide, by decide⟩ (s_imul c28_14 (s_aload_n c28_15 rfl (s_getP 40 c28_16 f28_21 t5_7 sh_36 g_36_7 (by decide) (by decide) (s_iload_n c28_19 rfl (s_iald c28_20 sh_40 ⟨H.1, s_iadd c28_21 (s_ifc 166 ((w32 ((w32 (v1 * 40)) + (h 40 v1.toNat))) ≤ v5) c28_22 (by decide) rfl ⟨fun q2 => s_iconst c28_166 rfl (s_retI c28_167 R28 (H.2.1 q2)), fun q2 => s_aload_n c28_25 rfl (s_getP 39 c28_26 f28_18 t5_6 sh_36 g_36_6 (by decide) (by decide) (s_iload c28_29 rfl (s_iald c28_31 sh_39 ⟨(H.2.2 q2).1, s_istore c28_32 rfl (s_iload c28_34 rfl (s_bipush c28_36 ⟨by decide, by decide⟩ (s_ishr c28_38 (s_tsw (x := (bShr (h 39 v5.toNat) 20)) 143 c28_39 (by decide) (fun q3 => s_iload c28_143 rfl (s_iconst c28_145 rfl (s_iand c28_146 (s_if 157 ((bAnd v4 1) = 0) c28_147 (by decide) rfl ⟨fun q4 => s_iconst c28_157 rfl (s_istore c28_158 rfl ((((H.2.2 q2).2.1 q3).1 q4))), fun q4 => s_iload c28_150 rfl (s_sipush c28_152 ⟨by decide, by decide⟩ (s_iand c28_155 (s_retI c28_156 R28 (((H.2.2 q2).2.1 q3).2 q4))))⟩)))) (fun qn => by
    have qc : (bShr (h 39 v5.toNat) 20) = 1 ∨ (bShr (h 39 v5.toNat) 20) = 2 ∨ (bShr (h 39 v5.toNat) 20) = 3 ∨ (bShr (h 39 v5.toNat) 20) = 4 := by omega
    rcases qc with q3 | q3 | q3 | q3
    · exact ⟨29, 68, by rw [q3]; rfl, by decide, s_iload c28_68 rfl (s_iconst c28_70 rfl (s_ishl c28_71 (s_aload_n c28_72 rfl (s_iload c28_73 rfl (s_aload_n c28_75 rfl (s_iload_n c28_76 rfl (s_cVi c28_77 m28_54 F29 K29 rfl (Nat.le_of_ble_eq_true rfl) rfl S29_36 rfl ((H.2.2 q2).2.2.1 q3))))))))⟩
    · exact ⟨55, 94, by rw [q3]; rfl, by decide, s_iload c28_94 rfl (s_iconst c28_96 rfl (s_ixor c28_97 (s_istore c28_98 rfl (s_goto 160 c28_100 (by decide) (((H.2.2 q2).2.2.2.1 q3))))))⟩
    · exact ⟨64, 103, by rw [q3]; rfl, by decide, s_iload c28_103 rfl (s_iconst c28_105 rfl (s_iand c28_106 (s_if 120 (¬ (bAnd v4 1) = 0) c28_107 (by decide) rfl ⟨fun q5 => s_iload c28_120 rfl (s_iconst c28_122 rfl (s_ishr c28_123 ((((H.2.2 q2).2.2.2.2.1 q3).1 q5)))), fun q5 => s_iload c28_110 rfl (s_iconst c28_112 rfl (s_ishr c28_113 (s_bipush c28_114 ⟨by decide, by decide⟩ (s_iand c28_116 (s_goto 124 c28_117 (by decide) ((((H.2.2 q2).2.2.2.2.1 q3).2 q5)))))))⟩)))⟩
    · exact ⟨90, 129, by rw [q3]; rfl, by decide, s_iload c28_129 rfl (s_iconst c28_131 rfl (s_ishr c28_132 (s_iload c28_133 rfl (s_iconst c28_135 rfl (s_iand c28_136 (s_ior c28_137 (s_istore c28_138 rfl (s_goto 160 c28_140 (by decide) (((H.2.2 q2).2.2.2.2.2 q3))))))))))⟩
    )))))⟩)))⟩)⟩)))))))
