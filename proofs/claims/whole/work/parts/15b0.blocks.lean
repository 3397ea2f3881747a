/-! blocks of WarmSide$Links, by program -/
-- WarmSide$Links.full()Z
theorem c13_0 : cdA 13 0 = some (.aload_n 0) := by decide +kernel
theorem c13_1 : cdA 13 1 = some (.getfield 26) := by decide +kernel
theorem f13_26 : fldR (moN 13) 26 = some (2, 1) := by decide +kernel
theorem t2_1 : fcl 2 1 = 0 := by decide +kernel
theorem c13_4 : cdA 13 4 = some (.aload_n 0) := by decide +kernel
theorem c13_5 : cdA 13 5 = some (.getfield 7) := by decide +kernel
theorem f13_7 : fldR (moN 13) 7 = some (2, 0) := by decide +kernel
theorem t2_0 : fcl 2 0 = 0 := by decide +kernel
theorem c13_8 : cdA 13 8 = some (.if_icmp .lt 7) := by decide +kernel
theorem c13_15 : cdA 13 15 = some (.iconst 0) := by decide +kernel
theorem c13_16 : cdA 13 16 = some (.ireturn) := by decide +kernel
theorem R13 : mK 13 = 3 := by decide +kernel
theorem c13_11 : cdA 13 11 = some (.iconst 1) := by decide +kernel
theorem c13_12 : cdA 13 12 = some (.goto 4) := by decide +kernel
theorem b13a_0 {d : Nat} {h : HP} {Q : PV → HP → Prop} (H : (((h 12 1) < (h 12 0)) → Q (I 0) h) ∧ (¬ ((h 12 1) < (h 12 0)) → Q (I 1) h)) : X d 13 0 [some (P 12)] [] h Q :=
  s_aload_n c13_0 rfl (s_getI c13_1 f13_26 t2_1 sh_12 (s_aload_n c13_4 rfl (s_getI c13_5 f13_7 t2_0 sh_12 (s_ifc 15 ((h 12 1) < (h 12 0)) c13_8 (by decide) rfl ⟨fun q1 => s_iconst c13_15 rfl (s_retZ c13_16 R13 ⟨by decide, (H.1 q1)⟩), fun q1 => s_iconst c13_11 rfl (s_goto 16 c13_12 (by decide) (s_retZ c13_16 R13 ⟨by decide, (H.2 q1)⟩))⟩))))
-- WarmSide$Links.add(III)I
theorem c14_0 : cdA 14 0 = some (.aload_n 0) := by decide +kernel
theorem c14_1 : cdA 14 1 = some (.getfield 26) := by decide +kernel
theorem f14_26 : fldR (moN 14) 26 = some (2, 1) := by decide +kernel
theorem c14_4 : cdA 14 4 = some (.istore 4) := by decide +kernel
theorem c14_6 : cdA 14 6 = some (.aload_n 0) := by decide +kernel
theorem c14_7 : cdA 14 7 = some (.getfield 13) := by decide +kernel
theorem f14_13 : fldR (moN 14) 13 = some (2, 2) := by decide +kernel
theorem t2_2 : fcl 2 2 = 2 := by decide +kernel
theorem c14_10 : cdA 14 10 = some (.iload 4) := by decide +kernel
theorem c14_12 : cdA 14 12 = some (.iload_n 1) := by decide +kernel
theorem c14_13 : cdA 14 13 = some (.iastore) := by decide +kernel
theorem c14_14 : cdA 14 14 = some (.aload_n 0) := by decide +kernel
theorem c14_15 : cdA 14 15 = some (.getfield 17) := by decide +kernel
theorem f14_17 : fldR (moN 14) 17 = some (2, 3) := by decide +kernel
theorem t2_3 : fcl 2 3 = 2 := by decide +kernel
theorem c14_18 : cdA 14 18 = some (.iload 4) := by decide +kernel
theorem c14_20 : cdA 14 20 = some (.iload_n 2) := by decide +kernel
theorem c14_21 : cdA 14 21 = some (.iastore) := by decide +kernel
theorem c14_22 : cdA 14 22 = some (.aload_n 0) := by decide +kernel
theorem c14_23 : cdA 14 23 = some (.getfield 20) := by decide +kernel
theorem f14_20 : fldR (moN 14) 20 = some (2, 4) := by decide +kernel
theorem t2_4 : fcl 2 4 = 2 := by decide +kernel
theorem c14_26 : cdA 14 26 = some (.iload 4) := by decide +kernel
theorem c14_28 : cdA 14 28 = some (.iload_n 3) := by decide +kernel
theorem c14_29 : cdA 14 29 = some (.iastore) := by decide +kernel
theorem c14_30 : cdA 14 30 = some (.aload_n 0) := by decide +kernel
theorem c14_31 : cdA 14 31 = some (.dup) := by decide +kernel
theorem c14_32 : cdA 14 32 = some (.getfield 26) := by decide +kernel
theorem c14_35 : cdA 14 35 = some (.iconst 1) := by decide +kernel
theorem c14_36 : cdA 14 36 = some (.iadd) := by decide +kernel
theorem c14_37 : cdA 14 37 = some (.putfield 26) := by decide +kernel
theorem n2_1 : ffin 2 1 = false := by decide +kernel
theorem c14_40 : cdA 14 40 = some (.iload 4) := by decide +kernel
theorem c14_42 : cdA 14 42 = some (.ireturn) := by decide +kernel
theorem R14 : mK 14 = 0 := by decide +kernel
theorem b14a_0 {d : Nat} {h : HP} {Q : PV → HP → Prop} {v1 v2 v3 : Int} (H : (0 ≤ (h 12 1) ∧ (h 12 1) < 20) ∧ ((0 ≤ (h 12 1) ∧ (h 12 1) < 20) ∧ ((0 ≤ (h 12 1) ∧ (h 12 1) < 20) ∧ Q (I (h 12 1)) (up2 (up2 (up2 (up2 h 13 (h 12 1).toNat v1) 14 (h 12 1).toNat v2) 15 (h 12 1).toNat v3) 12 1 (w32 ((h 12 1) + 1)))))) : X d 14 0 [some (P 12), some (I v1), some (I v2), some (I v3), none] [] h Q :=
  s_aload_n c14_0 rfl (s_getI c14_1 f14_26 t2_1 sh_12 (s_istore c14_4 rfl (s_aload_n c14_6 rfl (s_getP 13 c14_7 f14_13 t2_2 sh_12 g_12_2 (by decide) (by decide) (s_iload c14_10 rfl (s_iload_n c14_12 rfl (s_iast c14_13 sh_13 ⟨H.1, s_aload_n c14_14 rfl (s_getP 14 c14_15 f14_17 t2_3 sh_12 g_12_3 (by decide) (by decide) (s_iload c14_18 rfl (s_iload_n c14_20 rfl (s_iast c14_21 sh_14 ⟨H.2.1, s_aload_n c14_22 rfl (s_getP 15 c14_23 f14_20 t2_4 sh_12 g_12_4 (by decide) (by decide) (s_iload c14_26 rfl (s_iload_n c14_28 rfl (s_iast c14_29 sh_15 ⟨H.2.2.1, s_aload_n c14_30 rfl (s_dupP c14_31 (s_getI c14_32 f14_26 t2_1 sh_12 (s_iconst c14_35 rfl (s_iadd c14_36 (s_putI c14_37 f14_26 t2_1 n2_1 sh_12 (s_iload c14_40 rfl (s_retI c14_42 R14 H.2.2.2)))))))⟩))))⟩))))⟩)))))))
-- WarmSide$Links.full()Z
theorem b13b_0 {d : Nat} {h : HP} {Q : PV → HP → Prop} (H : (((h 17 1) < (h 17 0)) → Q (I 0) h) ∧ (¬ ((h 17 1) < (h 17 0)) → Q (I 1) h)) : X d 13 0 [some (P 17)] [] h Q :=
  s_aload_n c13_0 rfl (s_getI c13_1 f13_26 t2_1 sh_17 (s_aload_n c13_4 rfl (s_getI c13_5 f13_7 t2_0 sh_17 (s_ifc 15 ((h 17 1) < (h 17 0)) c13_8 (by decide) rfl ⟨fun q1 => s_iconst c13_15 rfl (s_retZ c13_16 R13 ⟨by decide, (H.1 q1)⟩), fun q1 => s_iconst c13_11 rfl (s_goto 16 c13_12 (by decide) (s_retZ c13_16 R13 ⟨by decide, (H.2 q1)⟩))⟩))))
-- WarmSide$Links.add(III)I
theorem b14b_0 {d : Nat} {h : HP} {Q : PV → HP → Prop} {v1 v2 v3 : Int} (H : (0 ≤ (h 17 1) ∧ (h 17 1) < 8) ∧ ((0 ≤ (h 17 1) ∧ (h 17 1) < 8) ∧ ((0 ≤ (h 17 1) ∧ (h 17 1) < 8) ∧ Q (I (h 17 1)) (up2 (up2 (up2 (up2 h 18 (h 17 1).toNat v1) 19 (h 17 1).toNat v2) 20 (h 17 1).toNat v3) 17 1 (w32 ((h 17 1) + 1)))))) : X d 14 0 [some (P 17), some (I v1), some (I v2), some (I v3), none] [] h Q :=
  s_aload_n c14_0 rfl (s_getI c14_1 f14_26 t2_1 sh_17 (s_istore c14_4 rfl (s_aload_n c14_6 rfl (s_getP 18 c14_7 f14_13 t2_2 sh_17 g_17_2 (by decide) (by decide) (s_iload c14_10 rfl (s_iload_n c14_12 rfl (s_iast c14_13 sh_18 ⟨H.1, s_aload_n c14_14 rfl (s_getP 19 c14_15 f14_17 t2_3 sh_17 g_17_3 (by decide) (by decide) (s_iload c14_18 rfl (s_iload_n c14_20 rfl (s_iast c14_21 sh_19 ⟨H.2.1, s_aload_n c14_22 rfl (s_getP 20 c14_23 f14_20 t2_4 sh_17 g_17_4 (by decide) (by decide) (s_iload c14_26 rfl (s_iload_n c14_28 rfl (s_iast c14_29 sh_20 ⟨H.2.2.1, s_aload_n c14_30 rfl (s_dupP c14_31 (s_getI c14_32 f14_26 t2_1 sh_17 (s_iconst c14_35 rfl (s_iadd c14_36 (s_putI c14_37 f14_26 t2_1 n2_1 sh_17 (s_iload c14_40 rfl (s_retI c14_42 R14 H.2.2.2)))))))⟩))))⟩))))⟩)))))))
