/-! blocks of WarmSide$Solver, by program -/
-- WarmSide$Solver.clear(I)V
theorem c70_0 : cdA 70 0 = some (.aload_n 0) := by decide +kernel
theorem c70_1 : cdA 70 1 = some (.iload_n 1) := by decide +kernel
theorem c70_2 : cdA 70 2 = some (.putfield 37) := by decide +kernel
theorem f70_37 : fldR (moN 70) 37 = some (9, 1) := by decide +kernel
theorem t9_1 : fcl 9 1 = 0 := by decide +kernel
theorem n9_1 : ffin 9 1 = false := by decide +kernel
theorem c70_5 : cdA 70 5 = some (.aload_n 0) := by decide +kernel
theorem c70_6 : cdA 70 6 = some (.getfield 24) := by decide +kernel
theorem f70_24 : fldR (moN 70) 24 = some (9, 6) := by decide +kernel
theorem t9_6 : fcl 9 6 = 2 := by decide +kernel
theorem c70_9 : cdA 70 9 = some (.iconst 0) := by decide +kernel
theorem c70_10 : cdA 70 10 = some (.invokestatic 41) := by decide +kernel
theorem m70_41 : mthR (moN 70) 41 = 229 := by decide +kernel
theorem F226 : mF 226 2 4 false := by unfold mF; decide +kernel
theorem K226 : mK 226 = 4 := by decide +kernel
theorem c70_13 : cdA 70 13 = some (.aload_n 0) := by decide +kernel
theorem c70_14 : cdA 70 14 = some (.getfield 9) := by decide +kernel
theorem f70_9 : fldR (moN 70) 9 = some (9, 2) := by decide +kernel
theorem t9_2 : fcl 9 2 = 2 := by decide +kernel
theorem c70_17 : cdA 70 17 = some (.iconst 0) := by decide +kernel
theorem c70_18 : cdA 70 18 = some (.invokestatic 41) := by decide +kernel
theorem c70_21 : cdA 70 21 = some (.aload_n 0) := by decide +kernel
theorem c70_22 : cdA 70 22 = some (.getfield 27) := by decide +kernel
theorem f70_27 : fldR (moN 70) 27 = some (9, 7) := by decide +kernel
theorem t9_7 : fcl 9 7 = 2 := by decide +kernel
theorem c70_25 : cdA 70 25 = some (.iconst 0) := by decide +kernel
theorem c70_26 : cdA 70 26 = some (.invokestatic 41) := by decide +kernel
theorem c70_29 : cdA 70 29 = some (.aload_n 0) := by decide +kernel
theorem c70_30 : cdA 70 30 = some (.getfield 30) := by decide +kernel
theorem f70_30 : fldR (moN 70) 30 = some (9, 8) := by decide +kernel
theorem t9_8 : fcl 9 8 = 2 := by decide +kernel
theorem c70_33 : cdA 70 33 = some (.iconst 0) := by decide +kernel
theorem c70_34 : cdA 70 34 = some (.invokestatic 41) := by decide +kernel
theorem c70_37 : cdA 70 37 = some (.return_) := by decide +kernel
theorem R70 : mK 70 = 4 := by decide +kernel
theorem b70_0 {d : Nat} {h : HP} {Q : PV → HP → Prop} {v1 : Int} (H : X d 226 0 [some (P 49), some (I 0), none, none] [] (up2 h 44 1 v1) (fun _ h' => X (d + 1) 70 13 [some (P 44), some (I v1)] [] h' Q)) : X (d + 1) 70 0 [some (P 44), some (I v1)] [] h Q :=
  s_aload_n c70_0 rfl (s_iload_n c70_1 rfl (s_putI c70_2 f70_37 t9_1 n9_1 sh_44 (s_aload_n c70_5 rfl (s_getP 49 c70_6 f70_24 t9_6 sh_44 g_44_6 (by decide) (by decide) (s_iconst c70_9 rfl (s_cSv c70_10 m70_41 F226 K226 rfl (Nat.le_of_ble_eq_true rfl) rfl rfl H))))))
theorem b70_13 {d : Nat} {h : HP} {Q : PV → HP → Prop} {v1 : Int} (H : X d 226 0 [some (P 45), some (I 0), none, none] [] h (fun _ h' => X (d + 1) 70 21 [some (P 44), some (I v1)] [] h' Q)) : X (d + 1) 70 13 [some (P 44), some (I v1)] [] h Q :=
  s_aload_n c70_13 rfl (s_getP 45 c70_14 f70_9 t9_2 sh_44 g_44_2 (by decide) (by decide) (s_iconst c70_17 rfl (s_cSv c70_18 m70_41 F226 K226 rfl (Nat.le_of_ble_eq_true rfl) rfl rfl H)))
theorem b70_21 {d : Nat} {h : HP} {Q : PV → HP → Prop} {v1 : Int} (H : X d 226 0 [some (P 50), some (I 0), none, none] [] h (fun _ h' => X (d + 1) 70 29 [some (P 44), some (I v1)] [] h' Q)) : X (d + 1) 70 21 [some (P 44), some (I v1)] [] h Q :=
  s_aload_n c70_21 rfl (s_getP 50 c70_22 f70_27 t9_7 sh_44 g_44_7 (by decide) (by decide) (s_iconst c70_25 rfl (s_cSv c70_26 m70_41 F226 K226 rfl (Nat.le_of_ble_eq_true rfl) rfl rfl H)))
theorem b70_29 {d : Nat} {h : HP} {Q : PV → HP → Prop} {v1 : Int} (H : X d 226 0 [some (P 51), some (I 0), none, none] [] h (fun _ h' => X (d + 1) 70 37 [some (P 44), some (I v1)] [] h' Q)) : X (d + 1) 70 29 [some (P 44), some (I v1)] [] h Q :=
  s_aload_n c70_29 rfl (s_getP 51 c70_30 f70_30 t9_8 sh_44 g_44_8 (by decide) (by decide) (s_iconst c70_33 rfl (s_cSv c70_34 m70_41 F226 K226 rfl (Nat.le_of_ble_eq_true rfl) rfl rfl H)))
theorem b70_37 {d : Nat} {h : HP} {Q : PV → HP → Prop} {v1 : Int} (H : Q (I 0) h) : X d 70 37 [some (P 44), some (I v1)] [] h Q :=
  s_retV c70_37 R70 H
-- WarmSide$Solver.addJoint(III)V
theorem c71_0 : cdA 71 0 = some (.iload_n 3) := by decide +kernel
theorem c71_1 : cdA 71 1 = some (.ifCond .ne 4) := by decide +kernel
theorem c71_5 : cdA 71 5 = some (.aload_n 0) := by decide +kernel
theorem c71_6 : cdA 71 6 = some (.getfield 27) := by decide +kernel
theorem f71_27 : fldR (moN 71) 27 = some (9, 7) := by decide +kernel
theorem c71_9 : cdA 71 9 = some (.iload_n 1) := by decide +kernel
theorem c71_10 : cdA 71 10 = some (.bipush 8) := by decide +kernel
theorem c71_12 : cdA 71 12 = some (.imul) := by decide +kernel
theorem c71_13 : cdA 71 13 = some (.iload_n 2) := by decide +kernel
theorem c71_14 : cdA 71 14 = some (.iadd) := by decide +kernel
theorem c71_15 : cdA 71 15 = some (.dup2) := by decide +kernel
theorem c71_16 : cdA 71 16 = some (.iaload) := by decide +kernel
theorem c71_17 : cdA 71 17 = some (.iload_n 3) := by decide +kernel
theorem c71_18 : cdA 71 18 = some (.iadd) := by decide +kernel
theorem c71_19 : cdA 71 19 = some (.iastore) := by decide +kernel
theorem c71_20 : cdA 71 20 = some (.aload_n 0) := by decide +kernel
theorem c71_21 : cdA 71 21 = some (.getfield 27) := by decide +kernel
theorem c71_24 : cdA 71 24 = some (.iload_n 2) := by decide +kernel
theorem c71_25 : cdA 71 25 = some (.bipush 8) := by decide +kernel
theorem c71_27 : cdA 71 27 = some (.imul) := by decide +kernel
theorem c71_28 : cdA 71 28 = some (.iload_n 1) := by decide +kernel
theorem c71_29 : cdA 71 29 = some (.iadd) := by decide +kernel
theorem c71_30 : cdA 71 30 = some (.dup2) := by decide +kernel
theorem c71_31 : cdA 71 31 = some (.iaload) := by decide +kernel
theorem c71_32 : cdA 71 32 = some (.iload_n 3) := by decide +kernel
theorem c71_33 : cdA 71 33 = some (.iadd) := by decide +kernel
theorem c71_34 : cdA 71 34 = some (.iastore) := by decide +kernel
theorem c71_35 : cdA 71 35 = some (.aload_n 0) := by decide +kernel
theorem c71_36 : cdA 71 36 = some (.getfield 24) := by decide +kernel
theorem f71_24 : fldR (moN 71) 24 = some (9, 6) := by decide +kernel
theorem c71_39 : cdA 71 39 = some (.iload_n 1) := by decide +kernel
theorem c71_40 : cdA 71 40 = some (.dup2) := by decide +kernel
theorem c71_41 : cdA 71 41 = some (.iaload) := by decide +kernel
theorem c71_42 : cdA 71 42 = some (.iconst 1) := by decide +kernel
theorem c71_43 : cdA 71 43 = some (.iload_n 2) := by decide +kernel
theorem c71_44 : cdA 71 44 = some (.ishl) := by decide +kernel
theorem c71_45 : cdA 71 45 = some (.ior) := by decide +kernel
theorem c71_46 : cdA 71 46 = some (.iastore) := by decide +kernel
theorem c71_47 : cdA 71 47 = some (.aload_n 0) := by decide +kernel
theorem c71_48 : cdA 71 48 = some (.getfield 24) := by decide +kernel
theorem c71_51 : cdA 71 51 = some (.iload_n 2) := by decide +kernel
theorem c71_52 : cdA 71 52 = some (.dup2) := by decide +kernel
theorem c71_53 : cdA 71 53 = some (.iaload) := by decide +kernel
theorem c71_54 : cdA 71 54 = some (.iconst 1) := by decide +kernel
theorem c71_55 : cdA 71 55 = some (.iload_n 1) := by decide +kernel
theorem c71_56 : cdA 71 56 = some (.ishl) := by decide +kernel
theorem c71_57 : cdA 71 57 = some (.ior) := by decide +kernel
theorem c71_58 : cdA 71 58 = some (.iastore) := by decide +kernel
theorem c71_59 : cdA 71 59 = some (.return_) := by decide +kernel
theorem R71 : mK 71 = 4 := by decide +kernel
theorem c71_4 : cdA 71 4 = some (.return_) := by decide +kernel
theorem b71_0 {d : Nat} {h : HP} {Q : PV → HP → Prop} {v1 v2 v3 : Int} (H : ((¬ v3 = 0) → ((0 ≤ (w32 ((w32 (v1 * 8)) + v2)) ∧ (w32 ((w32 (v1 * 8)) + v2)) < 64) ∧ ((0 ≤ (w32 ((w32 (v1 * 8)) + v2)) ∧ (w32 ((w32 (v1 * 8)) + v2)) < 64) ∧ ((0 ≤ (w32 ((w32 (v2 * 8)) + v1)) ∧ (w32 ((w32 (v2 * 8)) + v1)) < 64) ∧ ((0 ≤ (w32 ((w32 (v2 * 8)) + v1)) ∧ (w32 ((w32 (v2 * 8)) + v1)) < 64) ∧ ((0 ≤ v1 ∧ v1 < 8) ∧ ((0 ≤ v1 ∧ v1 < 8) ∧ ((0 ≤ v2 ∧ v2 < 8) ∧ ((0 ≤ v2 ∧ v2 < 8) ∧ Q (I 0) (up2 (up2 (up2 (up2 h 50 (w32 ((w32 (v1 * 8)) + v2)).toNat (w32 ((h 50 (w32 ((w32 (v1 * 8)) + v2)).toNat) + v3))) 50 (w32 ((w32 (v2 * 8)) + v1)).toNat (w32 (((up2 h 50 (w32 ((w32 (v1 * 8)) + v2)).toNat (w32 ((h 50 (w32 ((w32 (v1 * 8)) + v2)).toNat) + v3))) 50 (w32 ((w32 (v2 * 8)) + v1)).toNat) + v3))) 49 v1.toNat (bOr (h 49 v1.toNat) (bShl 1 v2))) 49 v2.toNat (bOr ((up2 (up2 (up2 h 50 (w32 ((w32 (v1 * 8)) + v2)).toNat (w32 ((h 50 (w32 ((w32 (v1 * 8)) + v2)).toNat) + v3))) 50 (w32 ((w32 (v2 * 8)) + v1)).toNat (w32 (((up2 h 50 (w32 ((w32 (v1 * 8)) + v2)).toNat (w32 ((h 50 (w32 ((w32 (v1 * 8)) + v2)).toNat) + v3))) 50 (w32 ((w32 (v2 * 8)) + v1)).toNat) + v3))) 49 v1.toNat (bOr (h 49 v1.toNat) (bShl 1 v2))) 49 v2.toNat) (bShl 1 v1)))))))))))) ∧ (¬ (¬ v3 = 0) → Q (I 0) h)) : X d 71 0 [some (P 44), some (I v1), some (I v2), some (I v3)] [] h Q :=
  s_iload_n c71_0 rfl (s_if 5 (¬ v3 = 0) c71_1 (by decide) rfl ⟨fun q1 => s_aload_n c71_5 rfl (s_getP 50 c71_6 f71_27 t9_7 sh_44 g_44_7 (by decide) (by decide) (s_iload_n c71_9 rfl (s_bipush c71_10 ⟨by decide, by decide⟩ (s_imul c71_12 (s_iload_n c71_13 rfl (s_iadd c71_14 (s_dup2 c71_15 (s_iald c71_16 sh_50 ⟨(H.1 q1).1, s_iload_n c71_17 rfl (s_iadd c71_18 (s_iast c71_19 sh_50 ⟨(H.1 q1).2.1, s_aload_n c71_20 rfl (s_getP 50 c71_21 f71_27 t9_7 sh_44 g_44_7 (by decide) (by decide) (s_iload_n c71_24 rfl (s_bipush c71_25 ⟨by decide, by decide⟩ (s_imul c71_27 (s_iload_n c71_28 rfl (s_iadd c71_29 (s_dup2 c71_30 (s_iald c71_31 sh_50 ⟨(H.1 q1).2.2.1, s_iload_n c71_32 rfl (s_iadd c71_33 (s_iast c71_34 sh_50 ⟨(H.1 q1).2.2.2.1, s_aload_n c71_35 rfl (s_getP 49 c71_36 f71_24 t9_6 sh_44 g_44_6 (by decide) (by decide) (s_iload_n c71_39 rfl (s_dup2 c71_40 (s_iald c71_41 sh_49 ⟨(H.1 q1).2.2.2.2.1, s_iconst c71_42 rfl (s_iload_n c71_43 rfl (s_ishl c71_44 (s_ior c71_45 (s_iast c71_46 sh_49 ⟨(H.1 q1).2.2.2.2.2.1, s_aload_n c71_47 rfl (s_getP 49 c71_48 f71_24 t9_6 sh_44 g_44_6 (by decide) (by decide) (s_iload_n c71_51 rfl (s_dup2 c71_52 (s_iald c71_53 sh_49 ⟨(H.1 q1).2.2.2.2.2.2.1, s_iconst c71_54 rfl (s_iload_n c71_55 rfl (s_ishl c71_56 (s_ior c71_57 (s_iast c71_58 sh_49 ⟨(H.1 q1).2.2.2.2.2.2.2.1, s_retV c71_59 R71 (H.1 q1).2.2.2.2.2.2.2.2⟩))))⟩))))⟩))))⟩))))⟩))⟩))))))))⟩))⟩)))))))), fun q1 => s_retV c71_4 R71 (H.2 q1)⟩)
-- WarmSide$Solver.addPipe(III)V
theorem c72_0 : cdA 72 0 = some (.aload_n 0) := by decide +kernel
theorem c72_1 : cdA 72 1 = some (.getfield 30) := by decide +kernel
theorem f72_30 : fldR (moN 72) 30 = some (9, 8) := by decide +kernel
theorem c72_4 : cdA 72 4 = some (.iload_n 1) := by decide +kernel
theorem c72_5 : cdA 72 5 = some (.bipush 8) := by decide +kernel
theorem c72_7 : cdA 72 7 = some (.imul) := by decide +kernel
theorem c72_8 : cdA 72 8 = some (.iload_n 2) := by decide +kernel
theorem c72_9 : cdA 72 9 = some (.iadd) := by decide +kernel
theorem c72_10 : cdA 72 10 = some (.dup2) := by decide +kernel
theorem c72_11 : cdA 72 11 = some (.iaload) := by decide +kernel
theorem c72_12 : cdA 72 12 = some (.iload_n 3) := by decide +kernel
theorem c72_13 : cdA 72 13 = some (.iadd) := by decide +kernel
theorem c72_14 : cdA 72 14 = some (.iastore) := by decide +kernel
theorem c72_15 : cdA 72 15 = some (.aload_n 0) := by decide +kernel
theorem c72_16 : cdA 72 16 = some (.getfield 24) := by decide +kernel
theorem f72_24 : fldR (moN 72) 24 = some (9, 6) := by decide +kernel
theorem c72_19 : cdA 72 19 = some (.iload_n 1) := by decide +kernel
theorem c72_20 : cdA 72 20 = some (.dup2) := by decide +kernel
theorem c72_21 : cdA 72 21 = some (.iaload) := by decide +kernel
theorem c72_22 : cdA 72 22 = some (.iconst 1) := by decide +kernel
theorem c72_23 : cdA 72 23 = some (.iload_n 2) := by decide +kernel
theorem c72_24 : cdA 72 24 = some (.ishl) := by decide +kernel
theorem c72_25 : cdA 72 25 = some (.ior) := by decide +kernel
theorem c72_26 : cdA 72 26 = some (.iastore) := by decide +kernel
theorem c72_27 : cdA 72 27 = some (.aload_n 0) := by decide +kernel
theorem c72_28 : cdA 72 28 = some (.getfield 24) := by decide +kernel
theorem c72_31 : cdA 72 31 = some (.iload_n 2) := by decide +kernel
theorem c72_32 : cdA 72 32 = some (.dup2) := by decide +kernel
theorem c72_33 : cdA 72 33 = some (.iaload) := by decide +kernel
theorem c72_34 : cdA 72 34 = some (.iconst 1) := by decide +kernel
theorem c72_35 : cdA 72 35 = some (.iload_n 1) := by decide +kernel
theorem c72_36 : cdA 72 36 = some (.ishl) := by decide +kernel
theorem c72_37 : cdA 72 37 = some (.ior) := by decide +kernel
theorem c72_38 : cdA 72 38 = some (.iastore) := by decide +kernel
theorem c72_39 : cdA 72 39 = some (.return_) := by decide +kernel
theorem R72 : mK 72 = 4 := by decide +kernel
theorem b72_0 {d : Nat} {h : HP} {Q : PV → HP → Prop} {v1 v2 v3 : Int} (H : (0 ≤ (w32 ((w32 (v1 * 8)) + v2)) ∧ (w32 ((w32 (v1 * 8)) + v2)) < 64) ∧ ((0 ≤ (w32 ((w32 (v1 * 8)) + v2)) ∧ (w32 ((w32 (v1 * 8)) + v2)) < 64) ∧ ((0 ≤ v1 ∧ v1 < 8) ∧ ((0 ≤ v1 ∧ v1 < 8) ∧ ((0 ≤ v2 ∧ v2 < 8) ∧ ((0 ≤ v2 ∧ v2 < 8) ∧ Q (I 0) (up2 (up2 (up2 h 51 (w32 ((w32 (v1 * 8)) + v2)).toNat (w32 ((h 51 (w32 ((w32 (v1 * 8)) + v2)).toNat) + v3))) 49 v1.toNat (bOr (h 49 v1.toNat) (bShl 1 v2))) 49 v2.toNat (bOr ((up2 (up2 h 51 (w32 ((w32 (v1 * 8)) + v2)).toNat (w32 ((h 51 (w32 ((w32 (v1 * 8)) + v2)).toNat) + v3))) 49 v1.toNat (bOr (h 49 v1.toNat) (bShl 1 v2))) 49 v2.toNat) (bShl 1 v1))))))))) : X d 72 0 [some (P 44), some (I v1), some (I v2), some (I v3)] [] h Q :=
  s_aload_n c72_0 rfl (s_getP 51 c72_1 f72_30 t9_8 sh_44 g_44_8 (by decide) (by decide) (s_iload_n c72_4 rfl (s_bipush c72_5 ⟨by decide, by decide⟩ (s_imul c72_7 (s_iload_n c72_8 rfl (s_iadd c72_9 (s_dup2 c72_10 (s_iald c72_11 sh_51 ⟨H.1, s_iload_n c72_12 rfl (s_iadd c72_13 (s_iast c72_14 sh_51 ⟨H.2.1, s_aload_n c72_15 rfl (s_getP 49 c72_16 f72_24 t9_6 sh_44 g_44_6 (by decide) (by decide) (s_iload_n c72_19 rfl (s_dup2 c72_20 (s_iald c72_21 sh_49 ⟨H.2.2.1, s_iconst c72_22 rfl (s_iload_n c72_23 rfl (s_ishl c72_24 (s_ior c72_25 (s_iast c72_26 sh_49 ⟨H.2.2.2.1, s_aload_n c72_27 rfl (s_getP 49 c72_28 f72_24 t9_6 sh_44 g_44_6 (by decide) (by decide) (s_iload_n c72_31 rfl (s_dup2 c72_32 (s_iald c72_33 sh_49 ⟨H.2.2.2.2.1, s_iconst c72_34 rfl (s_iload_n c72_35 rfl (s_ishl c72_36 (s_ior c72_37 (s_iast c72_38 sh_49 ⟨H.2.2.2.2.2.1, s_retV c72_39 R72 H.2.2.2.2.2.2⟩))))⟩))))⟩))))⟩))))⟩))⟩))))))))
-- WarmSide$Solver.restAlone(II)I
theorem c74_0 : cdA 74 0 = some (.iload_n 2) := by decide +kernel
theorem c74_1 : cdA 74 1 = some (.istore_n 3) := by decide +kernel
theorem c74_2 : cdA 74 2 = some (.sipush 601) := by decide +kernel
theorem c74_5 : cdA 74 5 = some (.istore 4) := by decide +kernel
theorem c74_7 : cdA 74 7 = some (.iconst 0) := by decide +kernel
theorem c74_8 : cdA 74 8 = some (.istore 5) := by decide +kernel
theorem c74_10 : cdA 74 10 = some (.iload 5) := by decide +kernel
theorem c74_12 : cdA 74 12 = some (.bipush 32) := by decide +kernel
theorem c74_14 : cdA 74 14 = some (.if_icmp .ge 66) := by decide +kernel
theorem c74_80 : cdA 74 80 = some (.iload_n 3) := by decide +kernel
theorem c74_81 : cdA 74 81 = some (.ireturn) := by decide +kernel
theorem R74 : mK 74 = 0 := by decide +kernel
theorem c74_17 : cdA 74 17 = some (.iload 4) := by decide +kernel
theorem c74_19 : cdA 74 19 = some (.iload_n 3) := by decide +kernel
theorem c74_20 : cdA 74 20 = some (.isub) := by decide +kernel
theorem c74_21 : cdA 74 21 = some (.iconst 1) := by decide +kernel
theorem c74_22 : cdA 74 22 = some (.if_icmp .le 58) := by decide +kernel
theorem c74_25 : cdA 74 25 = some (.iload_n 3) := by decide +kernel
theorem c74_26 : cdA 74 26 = some (.iload 4) := by decide +kernel
theorem c74_28 : cdA 74 28 = some (.iadd) := by decide +kernel
theorem c74_29 : cdA 74 29 = some (.iconst 2) := by decide +kernel
theorem c74_30 : cdA 74 30 = some (.idiv) := by decide +kernel
theorem c74_31 : cdA 74 31 = some (.istore 6) := by decide +kernel
theorem c74_33 : cdA 74 33 = some (.aload_n 0) := by decide +kernel
theorem c74_34 : cdA 74 34 = some (.getfield 33) := by decide +kernel
theorem f74_33 : fldR (moN 74) 33 = some (9, 0) := by decide +kernel
theorem t9_0 : fcl 9 0 = 2 := by decide +kernel
theorem c74_37 : cdA 74 37 = some (.iload_n 1) := by decide +kernel
theorem c74_38 : cdA 74 38 = some (.iload 6) := by decide +kernel
theorem c74_40 : cdA 74 40 = some (.aload_n 0) := by decide +kernel
theorem c74_41 : cdA 74 41 = some (.getfield 18) := by decide +kernel
theorem f74_18 : fldR (moN 74) 18 = some (9, 4) := by decide +kernel
theorem t9_4 : fcl 9 4 = 2 := by decide +kernel
theorem c74_44 : cdA 74 44 = some (.iload_n 1) := by decide +kernel
theorem c74_45 : cdA 74 45 = some (.iaload) := by decide +kernel
theorem c74_46 : cdA 74 46 = some (.aload_n 0) := by decide +kernel
theorem c74_47 : cdA 74 47 = some (.getfield 15) := by decide +kernel
theorem f74_15 : fldR (moN 74) 15 = some (9, 3) := by decide +kernel
theorem t9_3 : fcl 9 3 = 2 := by decide +kernel
theorem c74_50 : cdA 74 50 = some (.iload_n 1) := by decide +kernel
theorem c74_51 : cdA 74 51 = some (.iaload) := by decide +kernel
theorem c74_52 : cdA 74 52 = some (.invokevirtual 60) := by decide +kernel
theorem m74_60 : mthR (moN 74) 60 = 14 := by decide +kernel
theorem F11 : mF 11 4 8 true := by unfold mF; decide +kernel
theorem K11 : ¬ mK 11 = 4 := by decide +kernel
theorem S11_1 : SH0[1]? = some (.inl (moN 11)) := by decide +kernel
theorem c74_55 : cdA 74 55 = some (.aload_n 0) := by decide +kernel
theorem c74_56 : cdA 74 56 = some (.getfield 9) := by decide +kernel
theorem f74_9 : fldR (moN 74) 9 = some (9, 2) := by decide +kernel
theorem c74_59 : cdA 74 59 = some (.iload_n 1) := by decide +kernel
theorem c74_60 : cdA 74 60 = some (.iaload) := by decide +kernel
theorem c74_61 : cdA 74 61 = some (.if_icmp .gt 9) := by decide +kernel
theorem c74_70 : cdA 74 70 = some (.iload 6) := by decide +kernel
theorem c74_72 : cdA 74 72 = some (.istore 4) := by decide +kernel
theorem c74_64 : cdA 74 64 = some (.iload 6) := by decide +kernel
theorem c74_66 : cdA 74 66 = some (.istore_n 3) := by decide +kernel
theorem c74_67 : cdA 74 67 = some (.goto 7) := by decide +kernel
theorem c74_74 : cdA 74 74 = some (.iinc 5 1) := by decide +kernel
theorem c74_77 : cdA 74 77 = some (.goto (-67)) := by decide +kernel
theorem b74_0 {d : Nat} {h : HP} {Q : PV → HP → Prop} {v1 v2 : Int} (H : X d 74 10 [some (P 44), some (I v1), some (I v2), some (I v2), some (I 601), some (I 0), none] [] h Q) : X d 74 0 [some (P 44), some (I v1), some (I v2), none, none, none, none] [] h Q :=
  s_iload_n c74_0 rfl (s_istore_n c74_1 rfl (s_sipush c74_2 ⟨by decide, by decide⟩ (s_istore c74_5 rfl (s_iconst c74_7 rfl (s_istore c74_8 rfl (H))))))
theorem b74_10 {d : Nat} {h : HP} {Q : PV → HP → Prop} {v1 v2 v3 v4 v5 : Int} (H : ((32 ≤ v5) → Q (I v3) h) ∧ (¬ (32 ≤ v5) → ((((w32 (v4 - v3)) ≤ 1) → Q (I v3) h) ∧ (¬ ((w32 (v4 - v3)) ≤ 1) → ((0 ≤ v1 ∧ v1 < 8) ∧ ((0 ≤ v1 ∧ v1 < 8) ∧ X d 11 0 [some (P 1), some (I v1), some (I (w32 (Int.tdiv (w32 (v3 + v4)) 2))), some (I (h 47 v1.toNat)), some (I (h 46 v1.toNat)), none, none, none] [] h (fun r h' => X (d + 1) 74 55 [some (P 44), some (I v1), some (I v2), some (I v3), some (I v4), some (I v5), some (I (w32 (Int.tdiv (w32 (v3 + v4)) 2)))] [r] h' Q))))))) : X (d + 1) 74 10 [some (P 44), some (I v1), some (I v2), some (I v3), some (I v4), some (I v5), none] [] h Q :=
  s_iload c74_10 rfl (s_bipush c74_12 ⟨by decide, by decide⟩ (s_ifc 80 (32 ≤ v5) c74_14 (by decide) rfl ⟨fun q1 => s_iload_n c74_80 rfl (s_retI c74_81 R74 (H.1 q1)), fun q1 => s_iload c74_17 rfl (s_iload_n c74_19 rfl (s_isub c74_20 (s_iconst c74_21 rfl (s_ifc 80 ((w32 (v4 - v3)) ≤ 1) c74_22 (by decide) rfl ⟨fun q2 => s_iload_n c74_80 rfl (s_retI c74_81 R74 ((H.2 q1).1 q2)), fun q2 => s_iload_n c74_25 rfl (s_iload c74_26 rfl (s_iadd c74_28 (s_iconst c74_29 rfl (s_idiv c74_30 (by decide) (s_istore c74_31 rfl (s_aload_n c74_33 rfl (s_getP 1 c74_34 f74_33 t9_0 sh_44 g_44_0 (by decide) (by decide) (s_iload_n c74_37 rfl (s_iload c74_38 rfl (s_aload_n c74_40 rfl (s_getP 47 c74_41 f74_18 t9_4 sh_44 g_44_4 (by decide) (by decide) (s_iload_n c74_44 rfl (s_iald c74_45 sh_47 ⟨((H.2 q1).2 q2).1, s_aload_n c74_46 rfl (s_getP 46 c74_47 f74_15 t9_3 sh_44 g_44_3 (by decide) (by decide) (s_iload_n c74_50 rfl (s_iald c74_51 sh_46 ⟨((H.2 q1).2 q2).2.1, s_cVi c74_52 m74_60 F11 K11 rfl (Nat.le_of_ble_eq_true rfl) rfl S11_1 rfl ((H.2 q1).2 q2).2.2⟩)))⟩)))))))))))))⟩))))⟩))
theorem b74_55 {d : Nat} {h : HP} {Q : PV → HP → Prop} {v1 v2 v3 v4 v5 v6 s0 : Int} (H : (0 ≤ v1 ∧ v1 < 8) ∧ ((((h 45 v1.toNat) < s0) → X d 74 74 [some (P 44), some (I v1), some (I v2), some (I v3), some (I v6), some (I v5), some (I v6)] [] h Q) ∧ (¬ ((h 45 v1.toNat) < s0) → X d 74 74 [some (P 44), some (I v1), some (I v2), some (I v6), some (I v4), some (I v5), some (I v6)] [] h Q))) : X d 74 55 [some (P 44), some (I v1), some (I v2), some (I v3), some (I v4), some (I v5), some (I v6)] [I s0] h Q :=
  s_aload_n c74_55 rfl (s_getP 45 c74_56 f74_9 t9_2 sh_44 g_44_2 (by decide) (by decide) (s_iload_n c74_59 rfl (s_iald c74_60 sh_45 ⟨H.1, s_ifc 70 ((h 45 v1.toNat) < s0) c74_61 (by decide) rfl ⟨fun q3 => s_iload c74_70 rfl (s_istore c74_72 rfl ((H.2.1 q3))), fun q3 => s_iload c74_64 rfl (s_istore_n c74_66 rfl (s_goto 74 c74_67 (by decide) ((H.2.2 q3))))⟩⟩)))
theorem b74_74 {d : Nat} {h : HP} {Q : PV → HP → Prop} {v1 v2 v3 v4 v5 v6 : Int} (H : X d 74 10 [some (P 44), some (I v1), some (I v2), some (I v3), some (I v4), some (I (w32 (v5 + 1))), none] [] h Q) : X d 74 74 [some (P 44), some (I v1), some (I v2), some (I v3), some (I v4), some (I v5), some (I v6)] [] h Q :=
  s_iinc c74_74 rfl rfl rfl (s_goto 10 c74_77 (by decide) (X_weak (A := [some (P 44), some (I v1), some (I v2), some (I v3), some (I v4), some (I (w32 (v5 + 1))), none]) (B := [some (P 44), some (I v1), some (I v2), some (I v3), some (I v4), some (I (w32 (v5 + 1))), some (I v6)]) ⟨Or.inl rfl, Or.inl rfl, Or.inl rfl, Or.inl rfl, Or.inl rfl, Or.inl rfl, Or.inr ⟨rfl, _, rfl, rfl⟩, trivial⟩ H))
-- WarmSide$Solver.net(II)I
theorem c76_0 : cdA 76 0 = some (.aload_n 0) := by decide +kernel
theorem c76_1 : cdA 76 1 = some (.getfield 9) := by decide +kernel
theorem f76_9 : fldR (moN 76) 9 = some (9, 2) := by decide +kernel
theorem c76_4 : cdA 76 4 = some (.iload_n 1) := by decide +kernel
theorem c76_5 : cdA 76 5 = some (.iaload) := by decide +kernel
theorem c76_6 : cdA 76 6 = some (.aload_n 0) := by decide +kernel
theorem c76_7 : cdA 76 7 = some (.getfield 33) := by decide +kernel
theorem f76_33 : fldR (moN 76) 33 = some (9, 0) := by decide +kernel
theorem c76_10 : cdA 76 10 = some (.iload_n 1) := by decide +kernel
theorem c76_11 : cdA 76 11 = some (.iload_n 2) := by decide +kernel
theorem c76_12 : cdA 76 12 = some (.aload_n 0) := by decide +kernel
theorem c76_13 : cdA 76 13 = some (.getfield 18) := by decide +kernel
theorem f76_18 : fldR (moN 76) 18 = some (9, 4) := by decide +kernel
theorem c76_16 : cdA 76 16 = some (.iload_n 1) := by decide +kernel
theorem c76_17 : cdA 76 17 = some (.iaload) := by decide +kernel
theorem c76_18 : cdA 76 18 = some (.aload_n 0) := by decide +kernel
theorem c76_19 : cdA 76 19 = some (.getfield 15) := by decide +kernel
theorem f76_15 : fldR (moN 76) 15 = some (9, 3) := by decide +kernel
theorem c76_22 : cdA 76 22 = some (.iload_n 1) := by decide +kernel
theorem c76_23 : cdA 76 23 = some (.iaload) := by decide +kernel
theorem c76_24 : cdA 76 24 = some (.invokevirtual 60) := by decide +kernel
theorem m76_60 : mthR (moN 76) 60 = 14 := by decide +kernel
theorem c76_101 : cdA 76 101 = some (.istore 6) := by decide +kernel
theorem c76_103 : cdA 76 103 = some (.iload_n 3) := by decide +kernel
theorem c76_104 : cdA 76 104 = some (.aload_n 0) := by decide +kernel
theorem c76_105 : cdA 76 105 = some (.getfield 27) := by decide +kernel
theorem f76_27 : fldR (moN 76) 27 = some (9, 7) := by decide +kernel
theorem c76_108 : cdA 76 108 = some (.iload_n 1) := by decide +kernel
theorem c76_109 : cdA 76 109 = some (.bipush 8) := by decide +kernel
theorem c76_111 : cdA 76 111 = some (.imul) := by decide +kernel
theorem c76_112 : cdA 76 112 = some (.iload 4) := by decide +kernel
theorem c76_114 : cdA 76 114 = some (.iadd) := by decide +kernel
theorem c76_115 : cdA 76 115 = some (.iaload) := by decide +kernel
theorem c76_116 : cdA 76 116 = some (.iload 6) := by decide +kernel
theorem c76_118 : cdA 76 118 = some (.iadd) := by decide +kernel
theorem c76_119 : cdA 76 119 = some (.iload 5) := by decide +kernel
theorem c76_121 : cdA 76 121 = some (.imul) := by decide +kernel
theorem c76_122 : cdA 76 122 = some (.iadd) := by decide +kernel
theorem c76_123 : cdA 76 123 = some (.istore_n 3) := by decide +kernel
theorem c76_124 : cdA 76 124 = some (.iinc 4 1) := by decide +kernel
theorem c76_127 : cdA 76 127 = some (.goto (-95)) := by decide +kernel
theorem c76_27 : cdA 76 27 = some (.isub) := by decide +kernel
theorem c76_28 : cdA 76 28 = some (.istore_n 3) := by decide +kernel
theorem c76_29 : cdA 76 29 = some (.iconst 0) := by decide +kernel
theorem c76_30 : cdA 76 30 = some (.istore 4) := by decide +kernel
theorem c76_32 : cdA 76 32 = some (.iload 4) := by decide +kernel
theorem c76_34 : cdA 76 34 = some (.aload_n 0) := by decide +kernel
theorem c76_35 : cdA 76 35 = some (.getfield 37) := by decide +kernel
theorem f76_37 : fldR (moN 76) 37 = some (9, 1) := by decide +kernel
theorem c76_38 : cdA 76 38 = some (.if_icmp .ge 92) := by decide +kernel
theorem c76_130 : cdA 76 130 = some (.iload_n 3) := by decide +kernel
theorem c76_131 : cdA 76 131 = some (.ireturn) := by decide +kernel
theorem R76 : mK 76 = 0 := by decide +kernel
theorem c76_41 : cdA 76 41 = some (.aload_n 0) := by decide +kernel
theorem c76_42 : cdA 76 42 = some (.getfield 24) := by decide +kernel
theorem f76_24 : fldR (moN 76) 24 = some (9, 6) := by decide +kernel
theorem c76_45 : cdA 76 45 = some (.iload_n 1) := by decide +kernel
theorem c76_46 : cdA 76 46 = some (.iaload) := by decide +kernel
theorem c76_47 : cdA 76 47 = some (.iload 4) := by decide +kernel
theorem c76_49 : cdA 76 49 = some (.ishr) := by decide +kernel
theorem c76_50 : cdA 76 50 = some (.iconst 1) := by decide +kernel
theorem c76_51 : cdA 76 51 = some (.iand) := by decide +kernel
theorem c76_52 : cdA 76 52 = some (.ifCond .ne 6) := by decide +kernel
theorem c76_58 : cdA 76 58 = some (.aload_n 0) := by decide +kernel
theorem c76_59 : cdA 76 59 = some (.getfield 21) := by decide +kernel
theorem f76_21 : fldR (moN 76) 21 = some (9, 5) := by decide +kernel
theorem t9_5 : fcl 9 5 = 2 := by decide +kernel
theorem c76_62 : cdA 76 62 = some (.iload 4) := by decide +kernel
theorem c76_64 : cdA 76 64 = some (.iaload) := by decide +kernel
theorem c76_65 : cdA 76 65 = some (.iload_n 2) := by decide +kernel
theorem c76_66 : cdA 76 66 = some (.isub) := by decide +kernel
theorem c76_67 : cdA 76 67 = some (.istore 5) := by decide +kernel
theorem c76_69 : cdA 76 69 = some (.iload 5) := by decide +kernel
theorem c76_71 : cdA 76 71 = some (.ifCond .le 18) := by decide +kernel
theorem c76_89 : cdA 76 89 = some (.aload_n 0) := by decide +kernel
theorem c76_90 : cdA 76 90 = some (.getfield 30) := by decide +kernel
theorem f76_30 : fldR (moN 76) 30 = some (9, 8) := by decide +kernel
theorem c76_93 : cdA 76 93 = some (.iload_n 1) := by decide +kernel
theorem c76_94 : cdA 76 94 = some (.bipush 8) := by decide +kernel
theorem c76_96 : cdA 76 96 = some (.imul) := by decide +kernel
theorem c76_97 : cdA 76 97 = some (.iload 4) := by decide +kernel
theorem c76_99 : cdA 76 99 = some (.iadd) := by decide +kernel
theorem c76_100 : cdA 76 100 = some (.iaload) := by decide +kernel
theorem c76_74 : cdA 76 74 = some (.aload_n 0) := by decide +kernel
theorem c76_75 : cdA 76 75 = some (.getfield 30) := by decide +kernel
theorem c76_78 : cdA 76 78 = some (.iload 4) := by decide +kernel
theorem c76_80 : cdA 76 80 = some (.bipush 8) := by decide +kernel
theorem c76_82 : cdA 76 82 = some (.imul) := by decide +kernel
theorem c76_83 : cdA 76 83 = some (.iload_n 1) := by decide +kernel
theorem c76_84 : cdA 76 84 = some (.iadd) := by decide +kernel
theorem c76_85 : cdA 76 85 = some (.iaload) := by decide +kernel
theorem c76_86 : cdA 76 86 = some (.goto 15) := by decide +kernel
theorem c76_55 : cdA 76 55 = some (.goto 69) := by decide +kernel
theorem b76_0 {d : Nat} {h : HP} {Q : PV → HP → Prop} {v1 v2 : Int} (H : (0 ≤ v1 ∧ v1 < 8) ∧ ((0 ≤ v1 ∧ v1 < 8) ∧ ((0 ≤ v1 ∧ v1 < 8) ∧ X d 11 0 [some (P 1), some (I v1), some (I v2), some (I (h 47 v1.toNat)), some (I (h 46 v1.toNat)), none, none, none] [] h (fun r h' => X (d + 1) 76 27 [some (P 44), some (I v1), some (I v2), none, none, none, none] [r, I (h 45 v1.toNat)] h' Q)))) : X (d + 1) 76 0 [some (P 44), some (I v1), some (I v2), none, none, none, none] [] h Q :=
  s_aload_n c76_0 rfl (s_getP 45 c76_1 f76_9 t9_2 sh_44 g_44_2 (by decide) (by decide) (s_iload_n c76_4 rfl (s_iald c76_5 sh_45 ⟨H.1, s_aload_n c76_6 rfl (s_getP 1 c76_7 f76_33 t9_0 sh_44 g_44_0 (by decide) (by decide) (s_iload_n c76_10 rfl (s_iload_n c76_11 rfl (s_aload_n c76_12 rfl (s_getP 47 c76_13 f76_18 t9_4 sh_44 g_44_4 (by decide) (by decide) (s_iload_n c76_16 rfl (s_iald c76_17 sh_47 ⟨H.2.1, s_aload_n c76_18 rfl (s_getP 46 c76_19 f76_15 t9_3 sh_44 g_44_3 (by decide) (by decide) (s_iload_n c76_22 rfl (s_iald c76_23 sh_46 ⟨H.2.2.1, s_cVi c76_24 m76_60 F11 K11 rfl (Nat.le_of_ble_eq_true rfl) rfl S11_1 rfl H.2.2.2⟩)))⟩)))))))⟩)))
theorem b76_101 {d : Nat} {h : HP} {Q : PV → HP → Prop} {v1 v2 v3 v4 v5 s0 : Int} (H : (0 ≤ (w32 ((w32 (v1 * 8)) + v4)) ∧ (w32 ((w32 (v1 * 8)) + v4)) < 64) ∧ X d 76 124 [some (P 44), some (I v1), some (I v2), some (I (w32 (v3 + (w32 ((w32 ((h 50 (w32 ((w32 (v1 * 8)) + v4)).toNat) + s0)) * v5))))), some (I v4), none, none] [] h Q) : X d 76 101 [some (P 44), some (I v1), some (I v2), some (I v3), some (I v4), some (I v5), none] [I s0] h Q :=
  s_istore c76_101 rfl (s_iload_n c76_103 rfl (s_aload_n c76_104 rfl (s_getP 50 c76_105 f76_27 t9_7 sh_44 g_44_7 (by decide) (by decide) (s_iload_n c76_108 rfl (s_bipush c76_109 ⟨by decide, by decide⟩ (s_imul c76_111 (s_iload c76_112 rfl (s_iadd c76_114 (s_iald c76_115 sh_50 ⟨H.1, s_iload c76_116 rfl (s_iadd c76_118 (s_iload c76_119 rfl (s_imul c76_121 (s_iadd c76_122 (s_istore_n c76_123 rfl (X_weak (A := [some (P 44), some (I v1), some (I v2), some (I (w32 (v3 + (w32 ((w32 ((h 50 (w32 ((w32 (v1 * 8)) + v4)).toNat) + s0)) * v5))))), some (I v4), none, none]) (B := [some (P 44), some (I v1), some (I v2), some (I (w32 (v3 + (w32 ((w32 ((h 50 (w32 ((w32 (v1 * 8)) + v4)).toNat) + s0)) * v5))))), some (I v4), some (I v5), some (I s0)]) ⟨Or.inl rfl, Or.inl rfl, Or.inl rfl, Or.inl rfl, Or.inl rfl, Or.inr ⟨rfl, _, rfl, rfl⟩, Or.inr ⟨rfl, _, rfl, rfl⟩, trivial⟩ H.2))))))⟩)))))))))
theorem b76_124 {d : Nat} {h : HP} {Q : PV → HP → Prop} {v1 v2 v3 v4 : Int} (H : X d 76 32 [some (P 44), some (I v1), some (I v2), some (I v3), some (I (w32 (v4 + 1))), none, none] [] h Q) : X d 76 124 [some (P 44), some (I v1), some (I v2), some (I v3), some (I v4), none, none] [] h Q :=
  s_iinc c76_124 rfl rfl rfl (s_goto 32 c76_127 (by decide) (H))
theorem b76_27 {d : Nat} {h : HP} {Q : PV → HP → Prop} {v1 v2 s0 s1 : Int} (H : X d 76 32 [some (P 44), some (I v1), some (I v2), some (I (w32 (s0 - s1))), some (I 0), none, none] [] h Q) : X d 76 27 [some (P 44), some (I v1), some (I v2), none, none, none, none] [I s1, I s0] h Q :=
  s_isub c76_27 (s_istore_n c76_28 rfl (s_iconst c76_29 rfl (s_istore c76_30 rfl (H))))
theorem b76_32 {d : Nat} {h : HP} {Q : PV → HP → Prop} {v1 v2 v3 v4 : Int} (H : (((h 44 1) ≤ v4) → Q (I v3) h) ∧ (¬ ((h 44 1) ≤ v4) → ((0 ≤ v1 ∧ v1 < 8) ∧ (((¬ (bAnd (bShr (h 49 v1.toNat) v4) 1) = 0) → ((0 ≤ v4 ∧ v4 < 8) ∧ ((((w32 ((h 48 v4.toNat) - v2)) ≤ 0) → ((0 ≤ (w32 ((w32 (v1 * 8)) + v4)) ∧ (w32 ((w32 (v1 * 8)) + v4)) < 64) ∧ X d 76 101 [some (P 44), some (I v1), some (I v2), some (I v3), some (I v4), some (I (w32 ((h 48 v4.toNat) - v2))), none] [I (h 51 (w32 ((w32 (v1 * 8)) + v4)).toNat)] h Q)) ∧ (¬ ((w32 ((h 48 v4.toNat) - v2)) ≤ 0) → ((0 ≤ (w32 ((w32 (v4 * 8)) + v1)) ∧ (w32 ((w32 (v4 * 8)) + v1)) < 64) ∧ X d 76 101 [some (P 44), some (I v1), some (I v2), some (I v3), some (I v4), some (I (w32 ((h 48 v4.toNat) - v2))), none] [I (h 51 (w32 ((w32 (v4 * 8)) + v1)).toNat)] h Q))))) ∧ (¬ (¬ (bAnd (bShr (h 49 v1.toNat) v4) 1) = 0) → X d 76 124 [some (P 44), some (I v1), some (I v2), some (I v3), some (I v4), none, none] [] h Q))))) : X d 76 32 [some (P 44), some (I v1), some (I v2), some (I v3), some (I v4), none, none] [] h Q :=
  s_iload c76_32 rfl (s_aload_n c76_34 rfl (s_getI c76_35 f76_37 t9_1 sh_44 (s_ifc 130 ((h 44 1) ≤ v4) c76_38 (by decide) rfl ⟨fun q1 => s_iload_n c76_130 rfl (s_retI c76_131 R76 (H.1 q1)), fun q1 => s_aload_n c76_41 rfl (s_getP 49 c76_42 f76_24 t9_6 sh_44 g_44_6 (by decide) (by decide) (s_iload_n c76_45 rfl (s_iald c76_46 sh_49 ⟨(H.2 q1).1, s_iload c76_47 rfl (s_ishr c76_49 (s_iconst c76_50 rfl (s_iand c76_51 (s_if 58 (¬ (bAnd (bShr (h 49 v1.toNat) v4) 1) = 0) c76_52 (by decide) rfl ⟨fun q2 => s_aload_n c76_58 rfl (s_getP 48 c76_59 f76_21 t9_5 sh_44 g_44_5 (by decide) (by decide) (s_iload c76_62 rfl (s_iald c76_64 sh_48 ⟨((H.2 q1).2.1 q2).1, s_iload_n c76_65 rfl (s_isub c76_66 (s_istore c76_67 rfl (s_iload c76_69 rfl (s_if 89 ((w32 ((h 48 v4.toNat) - v2)) ≤ 0) c76_71 (by decide) rfl ⟨fun q3 => s_aload_n c76_89 rfl (s_getP 51 c76_90 f76_30 t9_8 sh_44 g_44_8 (by decide) (by decide) (s_iload_n c76_93 rfl (s_bipush c76_94 ⟨by decide, by decide⟩ (s_imul c76_96 (s_iload c76_97 rfl (s_iadd c76_99 (s_iald c76_100 sh_51 ⟨(((H.2 q1).2.1 q2).2.1 q3).1, (((H.2 q1).2.1 q2).2.1 q3).2⟩))))))), fun q3 => s_aload_n c76_74 rfl (s_getP 51 c76_75 f76_30 t9_8 sh_44 g_44_8 (by decide) (by decide) (s_iload c76_78 rfl (s_bipush c76_80 ⟨by decide, by decide⟩ (s_imul c76_82 (s_iload_n c76_83 rfl (s_iadd c76_84 (s_iald c76_85 sh_51 ⟨(((H.2 q1).2.1 q2).2.2 q3).1, s_goto 101 c76_86 (by decide) ((((H.2 q1).2.1 q2).2.2 q3).2)⟩)))))))⟩))))⟩))), fun q2 => s_goto 124 c76_55 (by decide) (((H.2 q1).2.2 q2))⟩))))⟩)))⟩)))
-- WarmSide$Solver.lower(I)Z
theorem c75_0 : cdA 75 0 = some (.aload_n 0) := by decide +kernel
theorem c75_1 : cdA 75 1 = some (.getfield 21) := by decide +kernel
theorem f75_21 : fldR (moN 75) 21 = some (9, 5) := by decide +kernel
theorem c75_4 : cdA 75 4 = some (.iload_n 1) := by decide +kernel
theorem c75_5 : cdA 75 5 = some (.iaload) := by decide +kernel
theorem c75_6 : cdA 75 6 = some (.istore_n 2) := by decide +kernel
theorem c75_7 : cdA 75 7 = some (.iload_n 2) := by decide +kernel
theorem c75_8 : cdA 75 8 = some (.ifCond .eq 12) := by decide +kernel
theorem c75_20 : cdA 75 20 = some (.iconst 0) := by decide +kernel
theorem c75_21 : cdA 75 21 = some (.ireturn) := by decide +kernel
theorem R75 : mK 75 = 3 := by decide +kernel
theorem c75_11 : cdA 75 11 = some (.aload_n 0) := by decide +kernel
theorem c75_12 : cdA 75 12 = some (.iload_n 1) := by decide +kernel
theorem c75_13 : cdA 75 13 = some (.iload_n 2) := by decide +kernel
theorem c75_14 : cdA 75 14 = some (.invokevirtual 66) := by decide +kernel
theorem m75_66 : mthR (moN 75) 66 = 79 := by decide +kernel
theorem F76 : mF 76 2 7 true := by unfold mF; decide +kernel
theorem K76 : ¬ mK 76 = 4 := by decide +kernel
theorem S76_44 : SH0[44]? = some (.inl (moN 76)) := by decide +kernel
theorem c75_110 : cdA 75 110 = some (.ifCond .lt 10) := by decide +kernel
theorem c75_120 : cdA 75 120 = some (.iload 6) := by decide +kernel
theorem c75_122 : cdA 75 122 = some (.istore_n 2) := by decide +kernel
theorem c75_113 : cdA 75 113 = some (.iload 6) := by decide +kernel
theorem c75_115 : cdA 75 115 = some (.istore 4) := by decide +kernel
theorem c75_117 : cdA 75 117 = some (.goto 6) := by decide +kernel
theorem c75_123 : cdA 75 123 = some (.iinc 5 1) := by decide +kernel
theorem c75_126 : cdA 75 126 = some (.goto (-46)) := by decide +kernel
theorem c75_129 : cdA 75 129 = some (.aload_n 0) := by decide +kernel
theorem c75_130 : cdA 75 130 = some (.getfield 21) := by decide +kernel
theorem c75_133 : cdA 75 133 = some (.iload_n 1) := by decide +kernel
theorem c75_134 : cdA 75 134 = some (.iload 4) := by decide +kernel
theorem c75_136 : cdA 75 136 = some (.iastore) := by decide +kernel
theorem c75_137 : cdA 75 137 = some (.iconst 1) := by decide +kernel
theorem c75_138 : cdA 75 138 = some (.ireturn) := by decide +kernel
theorem c75_17 : cdA 75 17 = some (.ifCond .lt 5) := by decide +kernel
theorem c75_22 : cdA 75 22 = some (.iconst 1) := by decide +kernel
theorem c75_23 : cdA 75 23 = some (.istore_n 3) := by decide +kernel
theorem c75_24 : cdA 75 24 = some (.iload_n 2) := by decide +kernel
theorem c75_25 : cdA 75 25 = some (.iconst 1) := by decide +kernel
theorem c75_26 : cdA 75 26 = some (.isub) := by decide +kernel
theorem c75_27 : cdA 75 27 = some (.istore 4) := by decide +kernel
theorem c75_29 : cdA 75 29 = some (.iconst 0) := by decide +kernel
theorem c75_30 : cdA 75 30 = some (.istore 5) := by decide +kernel
theorem c75_32 : cdA 75 32 = some (.iload 5) := by decide +kernel
theorem c75_34 : cdA 75 34 = some (.bipush 32) := by decide +kernel
theorem c75_36 : cdA 75 36 = some (.if_icmp .ge 41) := by decide +kernel
theorem c75_39 : cdA 75 39 = some (.iload 4) := by decide +kernel
theorem c75_41 : cdA 75 41 = some (.ifCond .le 36) := by decide +kernel
theorem c75_44 : cdA 75 44 = some (.aload_n 0) := by decide +kernel
theorem c75_45 : cdA 75 45 = some (.iload_n 1) := by decide +kernel
theorem c75_46 : cdA 75 46 = some (.iload 4) := by decide +kernel
theorem c75_48 : cdA 75 48 = some (.invokevirtual 66) := by decide +kernel
theorem c75_51 : cdA 75 51 = some (.ifCond .ge 26) := by decide +kernel
theorem c75_54 : cdA 75 54 = some (.iload 4) := by decide +kernel
theorem c75_56 : cdA 75 56 = some (.istore_n 2) := by decide +kernel
theorem c75_57 : cdA 75 57 = some (.iload_n 3) := by decide +kernel
theorem c75_58 : cdA 75 58 = some (.iconst 2) := by decide +kernel
theorem c75_59 : cdA 75 59 = some (.imul) := by decide +kernel
theorem c75_60 : cdA 75 60 = some (.istore_n 3) := by decide +kernel
theorem c75_61 : cdA 75 61 = some (.iconst 0) := by decide +kernel
theorem c75_62 : cdA 75 62 = some (.iload 4) := by decide +kernel
theorem c75_64 : cdA 75 64 = some (.iload_n 3) := by decide +kernel
theorem c75_65 : cdA 75 65 = some (.isub) := by decide +kernel
theorem c75_66 : cdA 75 66 = some (.invokestatic 51) := by decide +kernel
theorem m75_51 : mthR (moN 75) 51 = 227 := by decide +kernel
theorem F224 : mF 224 2 2 false := by unfold mF; decide +kernel
theorem K224 : ¬ mK 224 = 4 := by decide +kernel
theorem c75_69 : cdA 75 69 = some (.istore 4) := by decide +kernel
theorem c75_71 : cdA 75 71 = some (.iinc 5 1) := by decide +kernel
theorem c75_74 : cdA 75 74 = some (.goto (-42)) := by decide +kernel
theorem c75_77 : cdA 75 77 = some (.iconst 0) := by decide +kernel
theorem c75_78 : cdA 75 78 = some (.istore 5) := by decide +kernel
theorem c75_80 : cdA 75 80 = some (.iload 5) := by decide +kernel
theorem c75_82 : cdA 75 82 = some (.bipush 32) := by decide +kernel
theorem c75_84 : cdA 75 84 = some (.if_icmp .ge 45) := by decide +kernel
theorem c75_87 : cdA 75 87 = some (.iload_n 2) := by decide +kernel
theorem c75_88 : cdA 75 88 = some (.iload 4) := by decide +kernel
theorem c75_90 : cdA 75 90 = some (.isub) := by decide +kernel
theorem c75_91 : cdA 75 91 = some (.iconst 1) := by decide +kernel
theorem c75_92 : cdA 75 92 = some (.if_icmp .le 37) := by decide +kernel
theorem c75_95 : cdA 75 95 = some (.iload 4) := by decide +kernel
theorem c75_97 : cdA 75 97 = some (.iload_n 2) := by decide +kernel
theorem c75_98 : cdA 75 98 = some (.iadd) := by decide +kernel
theorem c75_99 : cdA 75 99 = some (.iconst 2) := by decide +kernel
theorem c75_100 : cdA 75 100 = some (.idiv) := by decide +kernel
theorem c75_101 : cdA 75 101 = some (.istore 6) := by decide +kernel
theorem c75_103 : cdA 75 103 = some (.aload_n 0) := by decide +kernel
theorem c75_104 : cdA 75 104 = some (.iload_n 1) := by decide +kernel
theorem c75_105 : cdA 75 105 = some (.iload 6) := by decide +kernel
theorem c75_107 : cdA 75 107 = some (.invokevirtual 66) := by decide +kernel
theorem b75_0 {d : Nat} {h : HP} {Q : PV → HP → Prop} {v1 : Int} (H : (0 ≤ v1 ∧ v1 < 8) ∧ ((((h 48 v1.toNat) = 0) → Q (I 0) h) ∧ (¬ ((h 48 v1.toNat) = 0) → X d 76 0 [some (P 44), some (I v1), some (I (h 48 v1.toNat)), none, none, none, none] [] h (fun r h' => X (d + 1) 75 17 [some (P 44), some (I v1), some (I (h 48 v1.toNat)), none, none, none, none] [r] h' Q)))) : X (d + 1) 75 0 [some (P 44), some (I v1), none, none, none, none, none] [] h Q :=
  s_aload_n c75_0 rfl (s_getP 48 c75_1 f75_21 t9_5 sh_44 g_44_5 (by decide) (by decide) (s_iload_n c75_4 rfl (s_iald c75_5 sh_48 ⟨H.1, s_istore_n c75_6 rfl (s_iload_n c75_7 rfl (s_if 20 ((h 48 v1.toNat) = 0) c75_8 (by decide) rfl ⟨fun q1 => s_iconst c75_20 rfl (s_retZ c75_21 R75 ⟨by decide, (H.2.1 q1)⟩), fun q1 => s_aload_n c75_11 rfl (s_iload_n c75_12 rfl (s_iload_n c75_13 rfl (s_cVi c75_14 m75_66 F76 K76 rfl (Nat.le_of_ble_eq_true rfl) rfl S76_44 rfl (H.2.2 q1))))⟩))⟩)))
theorem b75_110 {d : Nat} {h : HP} {Q : PV → HP → Prop} {v1 v2 v3 v4 v5 v6 s0 : Int} (H : ((s0 < 0) → X d 75 123 [some (P 44), some (I v1), some (I v6), some (I v3), some (I v4), some (I v5), some (I v6)] [] h Q) ∧ (¬ (s0 < 0) → X d 75 123 [some (P 44), some (I v1), some (I v2), some (I v3), some (I v6), some (I v5), some (I v6)] [] h Q)) : X d 75 110 [some (P 44), some (I v1), some (I v2), some (I v3), some (I v4), some (I v5), some (I v6)] [I s0] h Q :=
  s_if 120 (s0 < 0) c75_110 (by decide) rfl ⟨fun q2 => s_iload c75_120 rfl (s_istore_n c75_122 rfl ((H.1 q2))), fun q2 => s_iload c75_113 rfl (s_istore c75_115 rfl (s_goto 123 c75_117 (by decide) ((H.2 q2))))⟩
theorem b75_123 {d : Nat} {h : HP} {Q : PV → HP → Prop} {v1 v2 v3 v4 v5 v6 : Int} (H : X d 75 80 [some (P 44), some (I v1), some (I v2), some (I v3), some (I v4), some (I (w32 (v5 + 1))), none] [] h Q) : X d 75 123 [some (P 44), some (I v1), some (I v2), some (I v3), some (I v4), some (I v5), some (I v6)] [] h Q :=
  s_iinc c75_123 rfl rfl rfl (s_goto 80 c75_126 (by decide) (X_weak (A := [some (P 44), some (I v1), some (I v2), some (I v3), some (I v4), some (I (w32 (v5 + 1))), none]) (B := [some (P 44), some (I v1), some (I v2), some (I v3), some (I v4), some (I (w32 (v5 + 1))), some (I v6)]) ⟨Or.inl rfl, Or.inl rfl, Or.inl rfl, Or.inl rfl, Or.inl rfl, Or.inl rfl, Or.inr ⟨rfl, _, rfl, rfl⟩, trivial⟩ H))
theorem b75_129 {d : Nat} {h : HP} {Q : PV → HP → Prop} {v1 v2 v3 v4 v5 : Int} (H : (0 ≤ v1 ∧ v1 < 8) ∧ Q (I 1) (up2 h 48 v1.toNat v4)) : X d 75 129 [some (P 44), some (I v1), some (I v2), some (I v3), some (I v4), some (I v5), none] [] h Q :=
  s_aload_n c75_129 rfl (s_getP 48 c75_130 f75_21 t9_5 sh_44 g_44_5 (by decide) (by decide) (s_iload_n c75_133 rfl (s_iload c75_134 rfl (s_iast c75_136 sh_48 ⟨H.1, s_iconst c75_137 rfl (s_retZ c75_138 R75 ⟨by decide, H.2⟩)⟩))))
theorem b75_17 {d : Nat} {h : HP} {Q : PV → HP → Prop} {v1 v2 s0 : Int} (H : ((s0 < 0) → X d 75 32 [some (P 44), some (I v1), some (I v2), some (I 1), some (I (w32 (v2 - 1))), some (I 0), none] [] h Q) ∧ (¬ (s0 < 0) → Q (I 0) h)) : X d 75 17 [some (P 44), some (I v1), some (I v2), none, none, none, none] [I s0] h Q :=
  s_if 22 (s0 < 0) c75_17 (by decide) rfl ⟨fun q3 => s_iconst c75_22 rfl (s_istore_n c75_23 rfl (s_iload_n c75_24 rfl (s_iconst c75_25 rfl (s_isub c75_26 (s_istore c75_27 rfl (s_iconst c75_29 rfl (s_istore c75_30 rfl ((H.1 q3))))))))), fun q3 => s_iconst c75_20 rfl (s_retZ c75_21 R75 ⟨by decide, (H.2 q3)⟩)⟩
theorem b75_32 {d : Nat} {h : HP} {Q : PV → HP → Prop} {v1 v2 v3 v4 v5 : Int} (H : ((32 ≤ v5) → X (d + 1) 75 77 [some (P 44), some (I v1), some (I v2), some (I v3), some (I v4), some (I v5), none] [] h Q) ∧ (¬ (32 ≤ v5) → (((v4 ≤ 0) → X (d + 1) 75 77 [some (P 44), some (I v1), some (I v2), some (I v3), some (I v4), some (I v5), none] [] h Q) ∧ (¬ (v4 ≤ 0) → X d 76 0 [some (P 44), some (I v1), some (I v4), none, none, none, none] [] h (fun r h' => X (d + 1) 75 51 [some (P 44), some (I v1), some (I v2), some (I v3), some (I v4), some (I v5), none] [r] h' Q))))) : X (d + 1) 75 32 [some (P 44), some (I v1), some (I v2), some (I v3), some (I v4), some (I v5), none] [] h Q :=
  s_iload c75_32 rfl (s_bipush c75_34 ⟨by decide, by decide⟩ (s_ifc 77 (32 ≤ v5) c75_36 (by decide) rfl ⟨fun q4 => (H.1 q4), fun q4 => s_iload c75_39 rfl (s_if 77 (v4 ≤ 0) c75_41 (by decide) rfl ⟨fun q5 => ((H.2 q4).1 q5), fun q5 => s_aload_n c75_44 rfl (s_iload_n c75_45 rfl (s_iload c75_46 rfl (s_cVi c75_48 m75_66 F76 K76 rfl (Nat.le_of_ble_eq_true rfl) rfl S76_44 rfl ((H.2 q4).2 q5))))⟩)⟩))
theorem b75_51 {d : Nat} {h : HP} {Q : PV → HP → Prop} {v1 v2 v3 v4 v5 s0 : Int} (H : ((0 ≤ s0) → X (d + 1) 75 77 [some (P 44), some (I v1), some (I v2), some (I v3), some (I v4), some (I v5), none] [] h Q) ∧ (¬ (0 ≤ s0) → X d 224 0 [some (I 0), some (I (w32 (v4 - (w32 (v3 * 2)))))] [] h (fun r h' => X (d + 1) 75 69 [some (P 44), some (I v1), some (I v4), some (I (w32 (v3 * 2))), some (I v4), some (I v5), none] [r] h' Q))) : X (d + 1) 75 51 [some (P 44), some (I v1), some (I v2), some (I v3), some (I v4), some (I v5), none] [I s0] h Q :=
  s_if 77 (0 ≤ s0) c75_51 (by decide) rfl ⟨fun q6 => (H.1 q6), fun q6 => s_iload c75_54 rfl (s_istore_n c75_56 rfl (s_iload_n c75_57 rfl (s_iconst c75_58 rfl (s_imul c75_59 (s_istore_n c75_60 rfl (s_iconst c75_61 rfl (s_iload c75_62 rfl (s_iload_n c75_64 rfl (s_isub c75_65 (s_cSi c75_66 m75_51 F224 K224 rfl (Nat.le_of_ble_eq_true rfl) rfl rfl (H.2 q6)))))))))))⟩
theorem b75_69 {d : Nat} {h : HP} {Q : PV → HP → Prop} {v1 v2 v3 v4 v5 s0 : Int} (H : X d 75 32 [some (P 44), some (I v1), some (I v2), some (I v3), some (I s0), some (I (w32 (v5 + 1))), none] [] h Q) : X d 75 69 [some (P 44), some (I v1), some (I v2), some (I v3), some (I v4), some (I v5), none] [I s0] h Q :=
  s_istore c75_69 rfl (s_iinc c75_71 rfl rfl rfl (s_goto 32 c75_74 (by decide) (H)))
theorem b75_77 {d : Nat} {h : HP} {Q : PV → HP → Prop} {v1 v2 v3 v4 v5 : Int} (H : X d 75 80 [some (P 44), some (I v1), some (I v2), some (I v3), some (I v4), some (I 0), none] [] h Q) : X d 75 77 [some (P 44), some (I v1), some (I v2), some (I v3), some (I v4), some (I v5), none] [] h Q :=
  s_iconst c75_77 rfl (s_istore c75_78 rfl (H))
theorem b75_80 {d : Nat} {h : HP} {Q : PV → HP → Prop} {v1 v2 v3 v4 v5 : Int} (H : ((32 ≤ v5) → X (d + 1) 75 129 [some (P 44), some (I v1), some (I v2), some (I v3), some (I v4), some (I v5), none] [] h Q) ∧ (¬ (32 ≤ v5) → ((((w32 (v2 - v4)) ≤ 1) → X (d + 1) 75 129 [some (P 44), some (I v1), some (I v2), some (I v3), some (I v4), some (I v5), none] [] h Q) ∧ (¬ ((w32 (v2 - v4)) ≤ 1) → X d 76 0 [some (P 44), some (I v1), some (I (w32 (Int.tdiv (w32 (v4 + v2)) 2))), none, none, none, none] [] h (fun r h' => X (d + 1) 75 110 [some (P 44), some (I v1), some (I v2), some (I v3), some (I v4), some (I v5), some (I (w32 (Int.tdiv (w32 (v4 + v2)) 2)))] [r] h' Q))))) : X (d + 1) 75 80 [some (P 44), some (I v1), some (I v2), some (I v3), some (I v4), some (I v5), none] [] h Q :=
  s_iload c75_80 rfl (s_bipush c75_82 ⟨by decide, by decide⟩ (s_ifc 129 (32 ≤ v5) c75_84 (by decide) rfl ⟨fun q7 => (H.1 q7), fun q7 => s_iload_n c75_87 rfl (s_iload c75_88 rfl (s_isub c75_90 (s_iconst c75_91 rfl (s_ifc 129 ((w32 (v2 - v4)) ≤ 1) c75_92 (by decide) rfl ⟨fun q8 => ((H.2 q7).1 q8), fun q8 => s_iload c75_95 rfl (s_iload_n c75_97 rfl (s_iadd c75_98 (s_iconst c75_99 rfl (s_idiv c75_100 (by decide) (s_istore c75_101 rfl (s_aload_n c75_103 rfl (s_iload_n c75_104 rfl (s_iload c75_105 rfl (s_cVi c75_107 m75_66 F76 K76 rfl (Nat.le_of_ble_eq_true rfl) rfl S76_44 rfl ((H.2 q7).2 q8))))))))))⟩))))⟩))
-- WarmSide$Solver.solve()V
theorem c73_0 : cdA 73 0 = some (.iconst 0) := by decide +kernel
theorem c73_1 : cdA 73 1 = some (.istore_n 1) := by decide +kernel
theorem c73_2 : cdA 73 2 = some (.iconst 0) := by decide +kernel
theorem c73_3 : cdA 73 3 = some (.istore_n 2) := by decide +kernel
theorem c73_111 : cdA 73 111 = some (.iinc 4 1) := by decide +kernel
theorem c73_114 : cdA 73 114 = some (.goto (-52)) := by decide +kernel
theorem c73_19 : cdA 73 19 = some (.invokestatic 51) := by decide +kernel
theorem m73_51 : mthR (moN 73) 51 = 227 := by decide +kernel
theorem c73_22 : cdA 73 22 = some (.istore_n 1) := by decide +kernel
theorem c73_23 : cdA 73 23 = some (.iinc 2 1) := by decide +kernel
theorem c73_26 : cdA 73 26 = some (.goto (-22)) := by decide +kernel
theorem c73_37 : cdA 73 37 = some (.iconst 1) := by decide +kernel
theorem c73_38 : cdA 73 38 = some (.aload_n 0) := by decide +kernel
theorem c73_39 : cdA 73 39 = some (.getfield 37) := by decide +kernel
theorem f73_37 : fldR (moN 73) 37 = some (9, 1) := by decide +kernel
theorem c73_42 : cdA 73 42 = some (.ishl) := by decide +kernel
theorem c73_43 : cdA 73 43 = some (.iconst 1) := by decide +kernel
theorem c73_44 : cdA 73 44 = some (.isub) := by decide +kernel
theorem c73_45 : cdA 73 45 = some (.istore_n 2) := by decide +kernel
theorem c73_46 : cdA 73 46 = some (.iconst 0) := by decide +kernel
theorem c73_47 : cdA 73 47 = some (.istore_n 3) := by decide +kernel
theorem c73_4 : cdA 73 4 = some (.iload_n 2) := by decide +kernel
theorem c73_5 : cdA 73 5 = some (.aload_n 0) := by decide +kernel
theorem c73_6 : cdA 73 6 = some (.getfield 37) := by decide +kernel
theorem c73_9 : cdA 73 9 = some (.if_icmp .ge 20) := by decide +kernel
theorem c73_29 : cdA 73 29 = some (.aload_n 0) := by decide +kernel
theorem c73_30 : cdA 73 30 = some (.getfield 21) := by decide +kernel
theorem f73_21 : fldR (moN 73) 21 = some (9, 5) := by decide +kernel
theorem c73_33 : cdA 73 33 = some (.iload_n 1) := by decide +kernel
theorem c73_34 : cdA 73 34 = some (.invokestatic 41) := by decide +kernel
theorem m73_41 : mthR (moN 73) 41 = 229 := by decide +kernel
theorem c73_12 : cdA 73 12 = some (.iload_n 1) := by decide +kernel
theorem c73_13 : cdA 73 13 = some (.aload_n 0) := by decide +kernel
theorem c73_14 : cdA 73 14 = some (.iload_n 2) := by decide +kernel
theorem c73_15 : cdA 73 15 = some (.iload_n 1) := by decide +kernel
theorem c73_16 : cdA 73 16 = some (.invokevirtual 47) := by decide +kernel
theorem m73_47 : mthR (moN 73) 47 = 77 := by decide +kernel
theorem F74 : mF 74 2 7 true := by unfold mF; decide +kernel
theorem K74 : ¬ mK 74 = 4 := by decide +kernel
theorem S74_44 : SH0[44]? = some (.inl (moN 74)) := by decide +kernel
theorem c73_48 : cdA 73 48 = some (.iload_n 3) := by decide +kernel
theorem c73_49 : cdA 73 49 = some (.sipush 10000) := by decide +kernel
theorem c73_52 : cdA 73 52 = some (.if_icmp .ge 71) := by decide +kernel
theorem c73_123 : cdA 73 123 = some (.return_) := by decide +kernel
theorem R73 : mK 73 = 4 := by decide +kernel
theorem c73_55 : cdA 73 55 = some (.iload_n 2) := by decide +kernel
theorem c73_56 : cdA 73 56 = some (.ifCond .eq 67) := by decide +kernel
theorem c73_59 : cdA 73 59 = some (.iconst 0) := by decide +kernel
theorem c73_60 : cdA 73 60 = some (.istore 4) := by decide +kernel
theorem c73_62 : cdA 73 62 = some (.iload 4) := by decide +kernel
theorem c73_64 : cdA 73 64 = some (.aload_n 0) := by decide +kernel
theorem c73_65 : cdA 73 65 = some (.getfield 37) := by decide +kernel
theorem c73_68 : cdA 73 68 = some (.if_icmp .ge 49) := by decide +kernel
theorem c73_117 : cdA 73 117 = some (.iinc 3 1) := by decide +kernel
theorem c73_120 : cdA 73 120 = some (.goto (-72)) := by decide +kernel
theorem c73_71 : cdA 73 71 = some (.iload_n 2) := by decide +kernel
theorem c73_72 : cdA 73 72 = some (.iload 4) := by decide +kernel
theorem c73_74 : cdA 73 74 = some (.ishr) := by decide +kernel
theorem c73_75 : cdA 73 75 = some (.iconst 1) := by decide +kernel
theorem c73_76 : cdA 73 76 = some (.iand) := by decide +kernel
theorem c73_77 : cdA 73 77 = some (.ifCond .ne 6) := by decide +kernel
theorem c73_83 : cdA 73 83 = some (.iload_n 2) := by decide +kernel
theorem c73_84 : cdA 73 84 = some (.iconst 1) := by decide +kernel
theorem c73_85 : cdA 73 85 = some (.iload 4) := by decide +kernel
theorem c73_87 : cdA 73 87 = some (.ishl) := by decide +kernel
theorem c73_88 : cdA 73 88 = some (.iconst (-1)) := by decide +kernel
theorem c73_89 : cdA 73 89 = some (.ixor) := by decide +kernel
theorem c73_90 : cdA 73 90 = some (.iand) := by decide +kernel
theorem c73_91 : cdA 73 91 = some (.istore_n 2) := by decide +kernel
theorem c73_92 : cdA 73 92 = some (.aload_n 0) := by decide +kernel
theorem c73_93 : cdA 73 93 = some (.iload 4) := by decide +kernel
theorem c73_95 : cdA 73 95 = some (.invokevirtual 56) := by decide +kernel
theorem m73_56 : mthR (moN 73) 56 = 78 := by decide +kernel
theorem F75 : mF 75 1 7 true := by unfold mF; decide +kernel
theorem K75 : ¬ mK 75 = 4 := by decide +kernel
theorem S75_44 : SH0[44]? = some (.inl (moN 75)) := by decide +kernel
theorem c73_80 : cdA 73 80 = some (.goto 31) := by decide +kernel
theorem c73_98 : cdA 73 98 = some (.ifCond .eq 13) := by decide +kernel
theorem c73_101 : cdA 73 101 = some (.iload_n 2) := by decide +kernel
theorem c73_102 : cdA 73 102 = some (.aload_n 0) := by decide +kernel
theorem c73_103 : cdA 73 103 = some (.getfield 24) := by decide +kernel
theorem f73_24 : fldR (moN 73) 24 = some (9, 6) := by decide +kernel
theorem c73_106 : cdA 73 106 = some (.iload 4) := by decide +kernel
theorem c73_108 : cdA 73 108 = some (.iaload) := by decide +kernel
theorem c73_109 : cdA 73 109 = some (.ior) := by decide +kernel
theorem c73_110 : cdA 73 110 = some (.istore_n 2) := by decide +kernel
theorem b73_0 {d : Nat} {h : HP} {Q : PV → HP → Prop} (H : X d 73 4 [some (P 44), some (I 0), some (I 0), none, none] [] h Q) : X d 73 0 [some (P 44), none, none, none, none] [] h Q :=
  s_iconst c73_0 rfl (s_istore_n c73_1 rfl (s_iconst c73_2 rfl (s_istore_n c73_3 rfl (H))))
theorem b73_111 {d : Nat} {h : HP} {Q : PV → HP → Prop} {v1 v2 v3 v4 : Int} (H : X d 73 62 [some (P 44), some (I v1), some (I v2), some (I v3), some (I (w32 (v4 + 1)))] [] h Q) : X d 73 111 [some (P 44), some (I v1), some (I v2), some (I v3), some (I v4)] [] h Q :=
  s_iinc c73_111 rfl rfl rfl (s_goto 62 c73_114 (by decide) (H))
theorem b73_19 {d : Nat} {h : HP} {Q : PV → HP → Prop} {v1 v2 s0 s1 : Int} (H : X d 224 0 [some (I s0), some (I s1)] [] h (fun r h' => X (d + 1) 73 22 [some (P 44), some (I v1), some (I v2), none, none] [r] h' Q)) : X (d + 1) 73 19 [some (P 44), some (I v1), some (I v2), none, none] [I s1, I s0] h Q :=
  s_cSi c73_19 m73_51 F224 K224 rfl (Nat.le_of_ble_eq_true rfl) rfl rfl H
theorem b73_22 {d : Nat} {h : HP} {Q : PV → HP → Prop} {v1 v2 s0 : Int} (H : X d 73 4 [some (P 44), some (I s0), some (I (w32 (v2 + 1))), none, none] [] h Q) : X d 73 22 [some (P 44), some (I v1), some (I v2), none, none] [I s0] h Q :=
  s_istore_n c73_22 rfl (s_iinc c73_23 rfl rfl rfl (s_goto 4 c73_26 (by decide) (H)))
theorem b73_37 {d : Nat} {h : HP} {Q : PV → HP → Prop} {v1 v2 : Int} (H : X d 73 48 [some (P 44), some (I v1), some (I (w32 ((bShl 1 (h 44 1)) - 1))), some (I 0), none] [] h Q) : X d 73 37 [some (P 44), some (I v1), some (I v2), none, none] [] h Q :=
  s_iconst c73_37 rfl (s_aload_n c73_38 rfl (s_getI c73_39 f73_37 t9_1 sh_44 (s_ishl c73_42 (s_iconst c73_43 rfl (s_isub c73_44 (s_istore_n c73_45 rfl (s_iconst c73_46 rfl (s_istore_n c73_47 rfl (H)))))))))
theorem b73_4 {d : Nat} {h : HP} {Q : PV → HP → Prop} {v1 v2 : Int} (H : (((h 44 1) ≤ v2) → X d 226 0 [some (P 48), some (I v1), none, none] [] h (fun _ h' => X (d + 1) 73 37 [some (P 44), some (I v1), some (I v2), none, none] [] h' Q)) ∧ (¬ ((h 44 1) ≤ v2) → X d 74 0 [some (P 44), some (I v2), some (I v1), none, none, none, none] [] h (fun r h' => X (d + 1) 73 19 [some (P 44), some (I v1), some (I v2), none, none] [r, I v1] h' Q))) : X (d + 1) 73 4 [some (P 44), some (I v1), some (I v2), none, none] [] h Q :=
  s_iload_n c73_4 rfl (s_aload_n c73_5 rfl (s_getI c73_6 f73_37 t9_1 sh_44 (s_ifc 29 ((h 44 1) ≤ v2) c73_9 (by decide) rfl ⟨fun q1 => s_aload_n c73_29 rfl (s_getP 48 c73_30 f73_21 t9_5 sh_44 g_44_5 (by decide) (by decide) (s_iload_n c73_33 rfl (s_cSv c73_34 m73_41 F226 K226 rfl (Nat.le_of_ble_eq_true rfl) rfl rfl (H.1 q1)))), fun q1 => s_iload_n c73_12 rfl (s_aload_n c73_13 rfl (s_iload_n c73_14 rfl (s_iload_n c73_15 rfl (s_cVi c73_16 m73_47 F74 K74 rfl (Nat.le_of_ble_eq_true rfl) rfl S74_44 rfl (H.2 q1)))))⟩)))
theorem b73_48 {d : Nat} {h : HP} {Q : PV → HP → Prop} {v1 v2 v3 : Int} (H : ((10000 ≤ v3) → Q (I 0) h) ∧ (¬ (10000 ≤ v3) → (((v2 = 0) → Q (I 0) h) ∧ (¬ (v2 = 0) → X d 73 62 [some (P 44), some (I v1), some (I v2), some (I v3), some (I 0)] [] h Q)))) : X d 73 48 [some (P 44), some (I v1), some (I v2), some (I v3), none] [] h Q :=
  s_iload_n c73_48 rfl (s_sipush c73_49 ⟨by decide, by decide⟩ (s_ifc 123 (10000 ≤ v3) c73_52 (by decide) rfl ⟨fun q2 => s_retV c73_123 R73 (H.1 q2), fun q2 => s_iload_n c73_55 rfl (s_if 123 (v2 = 0) c73_56 (by decide) rfl ⟨fun q3 => s_retV c73_123 R73 ((H.2 q2).1 q3), fun q3 => s_iconst c73_59 rfl (s_istore c73_60 rfl (((H.2 q2).2 q3)))⟩)⟩))
theorem b73_62 {d : Nat} {h : HP} {Q : PV → HP → Prop} {v1 v2 v3 v4 : Int} (H : (((h 44 1) ≤ v4) → X (d + 1) 73 48 [some (P 44), some (I v1), some (I v2), some (I (w32 (v3 + 1))), none] [] h Q) ∧ (¬ ((h 44 1) ≤ v4) → (((¬ (bAnd (bShr v2 v4) 1) = 0) → X d 75 0 [some (P 44), some (I v4), none, none, none, none, none] [] h (fun r h' => X (d + 1) 73 98 [some (P 44), some (I v1), some (I (bAnd v2 (bXor (bShl 1 v4) (-1)))), some (I v3), some (I v4)] [r] h' Q)) ∧ (¬ (¬ (bAnd (bShr v2 v4) 1) = 0) → X (d + 1) 73 111 [some (P 44), some (I v1), some (I v2), some (I v3), some (I v4)] [] h Q)))) : X (d + 1) 73 62 [some (P 44), some (I v1), some (I v2), some (I v3), some (I v4)] [] h Q :=
  s_iload c73_62 rfl (s_aload_n c73_64 rfl (s_getI c73_65 f73_37 t9_1 sh_44 (s_ifc 117 ((h 44 1) ≤ v4) c73_68 (by decide) rfl ⟨fun q4 => s_iinc c73_117 rfl rfl rfl (s_goto 48 c73_120 (by decide) (X_weak (A := [some (P 44), some (I v1), some (I v2), some (I (w32 (v3 + 1))), none]) (B := [some (P 44), some (I v1), some (I v2), some (I (w32 (v3 + 1))), some (I v4)]) ⟨Or.inl rfl, Or.inl rfl, Or.inl rfl, Or.inl rfl, Or.inr ⟨rfl, _, rfl, rfl⟩, trivial⟩ (H.1 q4))), fun q4 => s_iload_n c73_71 rfl (s_iload c73_72 rfl (s_ishr c73_74 (s_iconst c73_75 rfl (s_iand c73_76 (s_if 83 (¬ (bAnd (bShr v2 v4) 1) = 0) c73_77 (by decide) rfl ⟨fun q5 => s_iload_n c73_83 rfl (s_iconst c73_84 rfl (s_iload c73_85 rfl (s_ishl c73_87 (s_iconst c73_88 rfl (s_ixor c73_89 (s_iand c73_90 (s_istore_n c73_91 rfl (s_aload_n c73_92 rfl (s_iload c73_93 rfl (s_cVi c73_95 m73_56 F75 K75 rfl (Nat.le_of_ble_eq_true rfl) rfl S75_44 rfl ((H.2 q4).1 q5))))))))))), fun q5 => s_goto 111 c73_80 (by decide) (((H.2 q4).2 q5))⟩)))))⟩)))
theorem b73_98 {d : Nat} {h : HP} {Q : PV → HP → Prop} {v1 v2 v3 v4 s0 : Int} (H : ((s0 = 0) → X d 73 111 [some (P 44), some (I v1), some (I v2), some (I v3), some (I v4)] [] h Q) ∧ (¬ (s0 = 0) → ((0 ≤ v4 ∧ v4 < 8) ∧ X d 73 111 [some (P 44), some (I v1), some (I (bOr v2 (h 49 v4.toNat))), some (I v3), some (I v4)] [] h Q))) : X d 73 98 [some (P 44), some (I v1), some (I v2), some (I v3), some (I v4)] [I s0] h Q :=
  s_if 111 (s0 = 0) c73_98 (by decide) rfl ⟨fun q6 => (H.1 q6), fun q6 => s_iload_n c73_101 rfl (s_aload_n c73_102 rfl (s_getP 49 c73_103 f73_24 t9_6 sh_44 g_44_6 (by decide) (by decide) (s_iload c73_106 rfl (s_iald c73_108 sh_49 ⟨(H.2 q6).1, s_ior c73_109 (s_istore_n c73_110 rfl ((H.2 q6).2))⟩))))⟩
