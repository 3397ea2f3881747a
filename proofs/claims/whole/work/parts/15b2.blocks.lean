/-! blocks of WarmSide$Plates, by program -/
-- WarmSide$Plates.add(III)I
theorem c20_0 : cdA 20 0 = some (.aload_n 0) := by decide +kernel
theorem c20_1 : cdA 20 1 = some (.getfield 39) := by decide +kernel
theorem f20_39 : fldR (moN 20) 39 = some (4, 0) := by decide +kernel
theorem t4_0 : fcl 4 0 = 0 := by decide +kernel
theorem c20_4 : cdA 20 4 = some (.istore 4) := by decide +kernel
theorem c20_6 : cdA 20 6 = some (.aload_n 0) := by decide +kernel
theorem c20_7 : cdA 20 7 = some (.getfield 9) := by decide +kernel
theorem f20_9 : fldR (moN 20) 9 = some (4, 1) := by decide +kernel
theorem t4_1 : fcl 4 1 = 2 := by decide +kernel
theorem c20_10 : cdA 20 10 = some (.iload 4) := by decide +kernel
theorem c20_12 : cdA 20 12 = some (.iload_n 1) := by decide +kernel
theorem c20_13 : cdA 20 13 = some (.iastore) := by decide +kernel
theorem c20_14 : cdA 20 14 = some (.aload_n 0) := by decide +kernel
theorem c20_15 : cdA 20 15 = some (.getfield 15) := by decide +kernel
theorem f20_15 : fldR (moN 20) 15 = some (4, 2) := by decide +kernel
theorem t4_2 : fcl 4 2 = 2 := by decide +kernel
theorem c20_18 : cdA 20 18 = some (.iload 4) := by decide +kernel
theorem c20_20 : cdA 20 20 = some (.iload_n 2) := by decide +kernel
theorem c20_21 : cdA 20 21 = some (.iastore) := by decide +kernel
theorem c20_22 : cdA 20 22 = some (.aload_n 0) := by decide +kernel
theorem c20_23 : cdA 20 23 = some (.getfield 18) := by decide +kernel
theorem f20_18 : fldR (moN 20) 18 = some (4, 3) := by decide +kernel
theorem t4_3 : fcl 4 3 = 2 := by decide +kernel
theorem c20_26 : cdA 20 26 = some (.iload 4) := by decide +kernel
theorem c20_28 : cdA 20 28 = some (.iload_n 3) := by decide +kernel
theorem c20_29 : cdA 20 29 = some (.iastore) := by decide +kernel
theorem c20_30 : cdA 20 30 = some (.aload_n 0) := by decide +kernel
theorem c20_31 : cdA 20 31 = some (.getfield 21) := by decide +kernel
theorem f20_21 : fldR (moN 20) 21 = some (4, 4) := by decide +kernel
theorem t4_4 : fcl 4 4 = 2 := by decide +kernel
theorem c20_34 : cdA 20 34 = some (.iload 4) := by decide +kernel
theorem c20_36 : cdA 20 36 = some (.iconst 2) := by decide +kernel
theorem c20_37 : cdA 20 37 = some (.iastore) := by decide +kernel
theorem c20_38 : cdA 20 38 = some (.aload_n 0) := by decide +kernel
theorem c20_39 : cdA 20 39 = some (.getfield 27) := by decide +kernel
theorem f20_27 : fldR (moN 20) 27 = some (4, 6) := by decide +kernel
theorem t4_6 : fcl 4 6 = 2 := by decide +kernel
theorem c20_42 : cdA 20 42 = some (.iload 4) := by decide +kernel
theorem c20_44 : cdA 20 44 = some (.bipush (-9)) := by decide +kernel
theorem c20_46 : cdA 20 46 = some (.iastore) := by decide +kernel
theorem c20_47 : cdA 20 47 = some (.aload_n 0) := by decide +kernel
theorem c20_48 : cdA 20 48 = some (.getfield 30) := by decide +kernel
theorem f20_30 : fldR (moN 20) 30 = some (4, 7) := by decide +kernel
theorem t4_7 : fcl 4 7 = 2 := by decide +kernel
theorem c20_51 : cdA 20 51 = some (.iload 4) := by decide +kernel
theorem c20_53 : cdA 20 53 = some (.iconst 2) := by decide +kernel
theorem c20_54 : cdA 20 54 = some (.iastore) := by decide +kernel
theorem c20_55 : cdA 20 55 = some (.aload_n 0) := by decide +kernel
theorem c20_56 : cdA 20 56 = some (.getfield 36) := by decide +kernel
theorem f20_36 : fldR (moN 20) 36 = some (4, 9) := by decide +kernel
theorem t4_9 : fcl 4 9 = 2 := by decide +kernel
theorem c20_59 : cdA 20 59 = some (.iload 4) := by decide +kernel
theorem c20_61 : cdA 20 61 = some (.sipush 600) := by decide +kernel
theorem c20_64 : cdA 20 64 = some (.iastore) := by decide +kernel
theorem c20_65 : cdA 20 65 = some (.aload_n 0) := by decide +kernel
theorem c20_66 : cdA 20 66 = some (.dup) := by decide +kernel
theorem c20_67 : cdA 20 67 = some (.getfield 39) := by decide +kernel
theorem c20_70 : cdA 20 70 = some (.iconst 1) := by decide +kernel
theorem c20_71 : cdA 20 71 = some (.iadd) := by decide +kernel
theorem c20_72 : cdA 20 72 = some (.putfield 39) := by decide +kernel
theorem n4_0 : ffin 4 0 = false := by decide +kernel
theorem c20_75 : cdA 20 75 = some (.iload 4) := by decide +kernel
theorem c20_77 : cdA 20 77 = some (.ireturn) := by decide +kernel
theorem R20 : mK 20 = 0 := by decide +kernel
theorem b20_0 {d : Nat} {h : HP} {Q : PV → HP → Prop} {v1 v2 v3 : Int} (H : (0 ≤ (h 2 0) ∧ (h 2 0) < 8) ∧ ((0 ≤ (h 2 0) ∧ (h 2 0) < 8) ∧ ((0 ≤ (h 2 0) ∧ (h 2 0) < 8) ∧ ((0 ≤ (h 2 0) ∧ (h 2 0) < 8) ∧ ((0 ≤ (h 2 0) ∧ (h 2 0) < 8) ∧ ((0 ≤ (h 2 0) ∧ (h 2 0) < 8) ∧ ((0 ≤ (h 2 0) ∧ (h 2 0) < 8) ∧ Q (I (h 2 0)) (up2 (up2 (up2 (up2 (up2 (up2 (up2 (up2 h 3 (h 2 0).toNat v1) 4 (h 2 0).toNat v2) 5 (h 2 0).toNat v3) 6 (h 2 0).toNat 2) 8 (h 2 0).toNat (-9)) 9 (h 2 0).toNat 2) 11 (h 2 0).toNat 600) 2 0 (w32 ((h 2 0) + 1)))))))))) : X d 20 0 [some (P 2), some (I v1), some (I v2), some (I v3), none] [] h Q :=
  s_aload_n c20_0 rfl (s_getI c20_1 f20_39 t4_0 sh_2 (s_istore c20_4 rfl (s_aload_n c20_6 rfl (s_getP 3 c20_7 f20_9 t4_1 sh_2 g_2_1 (by decide) (by decide) (s_iload c20_10 rfl (s_iload_n c20_12 rfl (s_iast c20_13 sh_3 ⟨H.1, s_aload_n c20_14 rfl (s_getP 4 c20_15 f20_15 t4_2 sh_2 g_2_2 (by decide) (by decide) (s_iload c20_18 rfl (s_iload_n c20_20 rfl (s_iast c20_21 sh_4 ⟨H.2.1, s_aload_n c20_22 rfl (s_getP 5 c20_23 f20_18 t4_3 sh_2 g_2_3 (by decide) (by decide) (s_iload c20_26 rfl (s_iload_n c20_28 rfl (s_iast c20_29 sh_5 ⟨H.2.2.1, s_aload_n c20_30 rfl (s_getP 6 c20_31 f20_21 t4_4 sh_2 g_2_4 (by decide) (by decide) (s_iload c20_34 rfl (s_iconst c20_36 rfl (s_iast c20_37 sh_6 ⟨H.2.2.2.1, s_aload_n c20_38 rfl (s_getP 8 c20_39 f20_27 t4_6 sh_2 g_2_6 (by decide) (by decide) (s_iload c20_42 rfl (s_bipush c20_44 ⟨by decide, by decide⟩ (s_iast c20_46 sh_8 ⟨H.2.2.2.2.1, s_aload_n c20_47 rfl (s_getP 9 c20_48 f20_30 t4_7 sh_2 g_2_7 (by decide) (by decide) (s_iload c20_51 rfl (s_iconst c20_53 rfl (s_iast c20_54 sh_9 ⟨H.2.2.2.2.2.1, s_aload_n c20_55 rfl (s_getP 11 c20_56 f20_36 t4_9 sh_2 g_2_9 (by decide) (by decide) (s_iload c20_59 rfl (s_sipush c20_61 ⟨by decide, by decide⟩ (s_iast c20_64 sh_11 ⟨H.2.2.2.2.2.2.1, s_aload_n c20_65 rfl (s_dupP c20_66 (s_getI c20_67 f20_39 t4_0 sh_2 (s_iconst c20_70 rfl (s_iadd c20_71 (s_putI c20_72 f20_39 t4_0 n4_0 sh_2 (s_iload c20_75 rfl (s_retI c20_77 R20 H.2.2.2.2.2.2.2)))))))⟩))))⟩))))⟩))))⟩))))⟩))))⟩))))⟩)))))))
-- WarmSide$Plates.flapCode(II)I
theorem c22_0 : cdA 22 0 = some (.iload_n 2) := by decide +kernel
theorem c22_1 : cdA 22 1 = some (.iload_n 2) := by decide +kernel
theorem c22_2 : cdA 22 2 = some (.iconst 3) := by decide +kernel
theorem c22_3 : cdA 22 3 = some (.if_icmp .ne 12) := by decide +kernel
theorem c22_15 : cdA 22 15 = some (.iload_n 2) := by decide +kernel
theorem c22_16 : cdA 22 16 = some (.iconst 2) := by decide +kernel
theorem c22_17 : cdA 22 17 = some (.ishl) := by decide +kernel
theorem c22_18 : cdA 22 18 = some (.ior) := by decide +kernel
theorem c22_19 : cdA 22 19 = some (.ireturn) := by decide +kernel
theorem R22 : mK 22 = 0 := by decide +kernel
theorem c22_6 : cdA 22 6 = some (.aload_n 0) := by decide +kernel
theorem c22_7 : cdA 22 7 = some (.getfield 30) := by decide +kernel
theorem f22_30 : fldR (moN 22) 30 = some (4, 7) := by decide +kernel
theorem c22_10 : cdA 22 10 = some (.iload_n 1) := by decide +kernel
theorem c22_11 : cdA 22 11 = some (.iaload) := by decide +kernel
theorem c22_12 : cdA 22 12 = some (.goto 4) := by decide +kernel
theorem b22_0 {d : Nat} {h : HP} {Q : PV → HP → Prop} {v1 v2 : Int} (H : ((¬ v2 = 3) → Q (I (bOr v2 (bShl v2 2))) h) ∧ (¬ (¬ v2 = 3) → ((0 ≤ v1 ∧ v1 < 8) ∧ Q (I (bOr v2 (bShl (h 9 v1.toNat) 2))) h))) : X d 22 0 [some (P 2), some (I v1), some (I v2)] [] h Q :=
  s_iload_n c22_0 rfl (s_iload_n c22_1 rfl (s_iconst c22_2 rfl (s_ifc 15 (¬ v2 = 3) c22_3 (by decide) rfl ⟨fun q1 => s_iload_n c22_15 rfl (s_iconst c22_16 rfl (s_ishl c22_17 (s_ior c22_18 (s_retI c22_19 R22 (H.1 q1))))), fun q1 => s_aload_n c22_6 rfl (s_getP 9 c22_7 f22_30 t4_7 sh_2 g_2_7 (by decide) (by decide) (s_iload_n c22_10 rfl (s_iald c22_11 sh_9 ⟨(H.2 q1).1, s_goto 16 c22_12 (by decide) (s_iconst c22_16 rfl (s_ishl c22_17 (s_ior c22_18 (s_retI c22_19 R22 (H.2 q1).2))))⟩)))⟩)))
-- WarmSide$Plates.setFlap(II)V
theorem c23_0 : cdA 23 0 = some (.aload_n 0) := by decide +kernel
theorem c23_1 : cdA 23 1 = some (.getfield 27) := by decide +kernel
theorem f23_27 : fldR (moN 23) 27 = some (4, 6) := by decide +kernel
theorem c23_4 : cdA 23 4 = some (.iload_n 1) := by decide +kernel
theorem c23_5 : cdA 23 5 = some (.iload_n 2) := by decide +kernel
theorem c23_6 : cdA 23 6 = some (.iconst 3) := by decide +kernel
theorem c23_7 : cdA 23 7 = some (.iand) := by decide +kernel
theorem c23_8 : cdA 23 8 = some (.iastore) := by decide +kernel
theorem c23_9 : cdA 23 9 = some (.aload_n 0) := by decide +kernel
theorem c23_10 : cdA 23 10 = some (.getfield 30) := by decide +kernel
theorem f23_30 : fldR (moN 23) 30 = some (4, 7) := by decide +kernel
theorem c23_13 : cdA 23 13 = some (.iload_n 1) := by decide +kernel
theorem c23_14 : cdA 23 14 = some (.iload_n 2) := by decide +kernel
theorem c23_15 : cdA 23 15 = some (.iconst 2) := by decide +kernel
theorem c23_16 : cdA 23 16 = some (.ishr) := by decide +kernel
theorem c23_17 : cdA 23 17 = some (.iconst 3) := by decide +kernel
theorem c23_18 : cdA 23 18 = some (.iand) := by decide +kernel
theorem c23_19 : cdA 23 19 = some (.iastore) := by decide +kernel
theorem c23_20 : cdA 23 20 = some (.return_) := by decide +kernel
theorem R23 : mK 23 = 4 := by decide +kernel
theorem b23_0 {d : Nat} {h : HP} {Q : PV → HP → Prop} {v1 v2 : Int} (H : (0 ≤ v1 ∧ v1 < 8) ∧ ((0 ≤ v1 ∧ v1 < 8) ∧ Q (I 0) (up2 (up2 h 8 v1.toNat (bAnd v2 3)) 9 v1.toNat (bAnd (bShr v2 2) 3)))) : X d 23 0 [some (P 2), some (I v1), some (I v2)] [] h Q :=
  s_aload_n c23_0 rfl (s_getP 8 c23_1 f23_27 t4_6 sh_2 g_2_6 (by decide) (by decide) (s_iload_n c23_4 rfl (s_iload_n c23_5 rfl (s_iconst c23_6 rfl (s_iand c23_7 (s_iast c23_8 sh_8 ⟨H.1, s_aload_n c23_9 rfl (s_getP 9 c23_10 f23_30 t4_7 sh_2 g_2_7 (by decide) (by decide) (s_iload_n c23_13 rfl (s_iload_n c23_14 rfl (s_iconst c23_15 rfl (s_ishr c23_16 (s_iconst c23_17 rfl (s_iand c23_18 (s_iast c23_19 sh_9 ⟨H.2.1, s_retV c23_20 R23 H.2.2⟩))))))))⟩))))))
-- WarmSide$Plates.warmth(I)I
theorem c21_0 : cdA 21 0 = some (.aload_n 0) := by decide +kernel
theorem c21_1 : cdA 21 1 = some (.getfield 9) := by decide +kernel
theorem f21_9 : fldR (moN 21) 9 = some (4, 1) := by decide +kernel
theorem c21_4 : cdA 21 4 = some (.iload_n 1) := by decide +kernel
theorem c21_5 : cdA 21 5 = some (.iaload) := by decide +kernel
theorem c21_6 : cdA 21 6 = some (.istore_n 2) := by decide +kernel
theorem c21_7 : cdA 21 7 = some (.iload_n 2) := by decide +kernel
theorem c21_8 : cdA 21 8 = some (.iconst 1) := by decide +kernel
theorem c21_9 : cdA 21 9 = some (.if_icmp .ge 7) := by decide +kernel
theorem c21_16 : cdA 21 16 = some (.sipush 600) := by decide +kernel
theorem c21_19 : cdA 21 19 = some (.aload_n 0) := by decide +kernel
theorem c21_20 : cdA 21 20 = some (.getfield 24) := by decide +kernel
theorem f21_24 : fldR (moN 21) 24 = some (4, 5) := by decide +kernel
theorem t4_5 : fcl 4 5 = 2 := by decide +kernel
theorem c21_23 : cdA 21 23 = some (.iload_n 1) := by decide +kernel
theorem c21_24 : cdA 21 24 = some (.iaload) := by decide +kernel
theorem c21_25 : cdA 21 25 = some (.iload_n 2) := by decide +kernel
theorem c21_26 : cdA 21 26 = some (.idiv) := by decide +kernel
theorem c21_27 : cdA 21 27 = some (.invokestatic 43) := by decide +kernel
theorem m21_43 : mthR (moN 21) 43 = 228 := by decide +kernel
theorem F225 : mF 225 2 2 false := by unfold mF; decide +kernel
theorem K225 : ¬ mK 225 = 4 := by decide +kernel
theorem c21_12 : cdA 21 12 = some (.iconst 0) := by decide +kernel
theorem c21_13 : cdA 21 13 = some (.goto 17) := by decide +kernel
theorem c21_30 : cdA 21 30 = some (.ireturn) := by decide +kernel
theorem R21 : mK 21 = 0 := by decide +kernel
theorem b21_0 {d : Nat} {h : HP} {Q : PV → HP → Prop} {v1 : Int} (H : (0 ≤ v1 ∧ v1 < 8) ∧ (((1 ≤ (h 3 v1.toNat)) → ((0 ≤ v1 ∧ v1 < 8) ∧ (¬ (h 3 v1.toNat) = 0 ∧ X d 225 0 [some (I 600), some (I (w32 (Int.tdiv (h 7 v1.toNat) (h 3 v1.toNat))))] [] h (fun r h' => X (d + 1) 21 30 [some (P 2), some (I v1), some (I (h 3 v1.toNat))] [r] h' Q)))) ∧ (¬ (1 ≤ (h 3 v1.toNat)) → X (d + 1) 21 30 [some (P 2), some (I v1), some (I (h 3 v1.toNat))] [I 0] h Q))) : X (d + 1) 21 0 [some (P 2), some (I v1), none] [] h Q :=
  s_aload_n c21_0 rfl (s_getP 3 c21_1 f21_9 t4_1 sh_2 g_2_1 (by decide) (by decide) (s_iload_n c21_4 rfl (s_iald c21_5 sh_3 ⟨H.1, s_istore_n c21_6 rfl (s_iload_n c21_7 rfl (s_iconst c21_8 rfl (s_ifc 16 (1 ≤ (h 3 v1.toNat)) c21_9 (by decide) rfl ⟨fun q1 => s_sipush c21_16 ⟨by decide, by decide⟩ (s_aload_n c21_19 rfl (s_getP 7 c21_20 f21_24 t4_5 sh_2 g_2_5 (by decide) (by decide) (s_iload_n c21_23 rfl (s_iald c21_24 sh_7 ⟨(H.2.1 q1).1, s_iload_n c21_25 rfl (s_idiv c21_26 (H.2.1 q1).2.1 (s_cSi c21_27 m21_43 F225 K225 rfl (Nat.le_of_ble_eq_true rfl) rfl rfl (H.2.1 q1).2.2))⟩)))), fun q1 => s_iconst c21_12 rfl (s_goto 30 c21_13 (by decide) ((H.2.2 q1)))⟩)))⟩)))
theorem b21_30 {d : Nat} {h : HP} {Q : PV → HP → Prop} {v1 v2 s0 : Int} (H : Q (I s0) h) : X d 21 30 [some (P 2), some (I v1), some (I v2)] [I s0] h Q :=
  s_retI c21_30 R21 H
