/-! blocks of WarmSide$Trials, by program -/
-- WarmSide$Trials.add(IIIII)I
theorem c78_0 : cdA 78 0 = some (.aload_n 0) := by decide +kernel
theorem c78_1 : cdA 78 1 = some (.getfield 27) := by decide +kernel
theorem f78_27 : fldR (moN 78) 27 = some (10, 0) := by decide +kernel
theorem t10_0 : fcl 10 0 = 0 := by decide +kernel
theorem c78_4 : cdA 78 4 = some (.istore 6) := by decide +kernel
theorem c78_6 : cdA 78 6 = some (.aload_n 0) := by decide +kernel
theorem c78_7 : cdA 78 7 = some (.getfield 9) := by decide +kernel
theorem f78_9 : fldR (moN 78) 9 = some (10, 1) := by decide +kernel
theorem t10_1 : fcl 10 1 = 2 := by decide +kernel
theorem c78_10 : cdA 78 10 = some (.iload 6) := by decide +kernel
theorem c78_12 : cdA 78 12 = some (.iload_n 1) := by decide +kernel
theorem c78_13 : cdA 78 13 = some (.iastore) := by decide +kernel
theorem c78_14 : cdA 78 14 = some (.aload_n 0) := by decide +kernel
theorem c78_15 : cdA 78 15 = some (.getfield 15) := by decide +kernel
theorem f78_15 : fldR (moN 78) 15 = some (10, 2) := by decide +kernel
theorem t10_2 : fcl 10 2 = 2 := by decide +kernel
theorem c78_18 : cdA 78 18 = some (.iload 6) := by decide +kernel
theorem c78_20 : cdA 78 20 = some (.iload_n 2) := by decide +kernel
theorem c78_21 : cdA 78 21 = some (.iastore) := by decide +kernel
theorem c78_22 : cdA 78 22 = some (.aload_n 0) := by decide +kernel
theorem c78_23 : cdA 78 23 = some (.getfield 18) := by decide +kernel
theorem f78_18 : fldR (moN 78) 18 = some (10, 3) := by decide +kernel
theorem t10_3 : fcl 10 3 = 2 := by decide +kernel
theorem c78_26 : cdA 78 26 = some (.iload 6) := by decide +kernel
theorem c78_28 : cdA 78 28 = some (.iload_n 3) := by decide +kernel
theorem c78_29 : cdA 78 29 = some (.iastore) := by decide +kernel
theorem c78_30 : cdA 78 30 = some (.aload_n 0) := by decide +kernel
theorem c78_31 : cdA 78 31 = some (.getfield 21) := by decide +kernel
theorem f78_21 : fldR (moN 78) 21 = some (10, 4) := by decide +kernel
theorem t10_4 : fcl 10 4 = 2 := by decide +kernel
theorem c78_34 : cdA 78 34 = some (.iload 6) := by decide +kernel
theorem c78_36 : cdA 78 36 = some (.iload 4) := by decide +kernel
theorem c78_38 : cdA 78 38 = some (.iastore) := by decide +kernel
theorem c78_39 : cdA 78 39 = some (.aload_n 0) := by decide +kernel
theorem c78_40 : cdA 78 40 = some (.getfield 24) := by decide +kernel
theorem f78_24 : fldR (moN 78) 24 = some (10, 5) := by decide +kernel
theorem t10_5 : fcl 10 5 = 2 := by decide +kernel
theorem c78_43 : cdA 78 43 = some (.iload 6) := by decide +kernel
theorem c78_45 : cdA 78 45 = some (.iload 5) := by decide +kernel
theorem c78_47 : cdA 78 47 = some (.iastore) := by decide +kernel
theorem c78_48 : cdA 78 48 = some (.aload_n 0) := by decide +kernel
theorem c78_49 : cdA 78 49 = some (.dup) := by decide +kernel
theorem c78_50 : cdA 78 50 = some (.getfield 27) := by decide +kernel
theorem c78_53 : cdA 78 53 = some (.iconst 1) := by decide +kernel
theorem c78_54 : cdA 78 54 = some (.iadd) := by decide +kernel
theorem c78_55 : cdA 78 55 = some (.putfield 27) := by decide +kernel
theorem n10_0 : ffin 10 0 = false := by decide +kernel
theorem c78_58 : cdA 78 58 = some (.aload_n 0) := by decide +kernel
theorem c78_59 : cdA 78 59 = some (.getfield 27) := by decide +kernel
theorem c78_62 : cdA 78 62 = some (.ireturn) := by decide +kernel
theorem R78 : mK 78 = 0 := by decide +kernel
theorem b78_0 {d : Nat} {h : HP} {Q : PV → HP → Prop} {v1 v2 v3 v4 v5 : Int} (H : (0 ≤ (h 61 0) ∧ (h 61 0) < 10) ∧ ((0 ≤ (h 61 0) ∧ (h 61 0) < 10) ∧ ((0 ≤ (h 61 0) ∧ (h 61 0) < 10) ∧ ((0 ≤ (h 61 0) ∧ (h 61 0) < 10) ∧ ((0 ≤ (h 61 0) ∧ (h 61 0) < 10) ∧ Q (I (w32 ((h 61 0) + 1))) (up2 (up2 (up2 (up2 (up2 (up2 h 62 (h 61 0).toNat v1) 63 (h 61 0).toNat v2) 64 (h 61 0).toNat v3) 65 (h 61 0).toNat v4) 66 (h 61 0).toNat v5) 61 0 (w32 ((h 61 0) + 1)))))))) : X d 78 0 [some (P 61), some (I v1), some (I v2), some (I v3), some (I v4), some (I v5), none] [] h Q :=
  s_aload_n c78_0 rfl (s_getI c78_1 f78_27 t10_0 sh_61 (s_istore c78_4 rfl (s_aload_n c78_6 rfl (s_getP 62 c78_7 f78_9 t10_1 sh_61 g_61_1 (by decide) (by decide) (s_iload c78_10 rfl (s_iload_n c78_12 rfl (s_iast c78_13 sh_62 ⟨H.1, s_aload_n c78_14 rfl (s_getP 63 c78_15 f78_15 t10_2 sh_61 g_61_2 (by decide) (by decide) (s_iload c78_18 rfl (s_iload_n c78_20 rfl (s_iast c78_21 sh_63 ⟨H.2.1, s_aload_n c78_22 rfl (s_getP 64 c78_23 f78_18 t10_3 sh_61 g_61_3 (by decide) (by decide) (s_iload c78_26 rfl (s_iload_n c78_28 rfl (s_iast c78_29 sh_64 ⟨H.2.2.1, s_aload_n c78_30 rfl (s_getP 65 c78_31 f78_21 t10_4 sh_61 g_61_4 (by decide) (by decide) (s_iload c78_34 rfl (s_iload c78_36 rfl (s_iast c78_38 sh_65 ⟨H.2.2.2.1, s_aload_n c78_39 rfl (s_getP 66 c78_40 f78_24 t10_5 sh_61 g_61_5 (by decide) (by decide) (s_iload c78_43 rfl (s_iload c78_45 rfl (s_iast c78_47 sh_66 ⟨H.2.2.2.2.1, s_aload_n c78_48 rfl (s_dupP c78_49 (s_getI c78_50 f78_27 t10_0 sh_61 (s_iconst c78_53 rfl (s_iadd c78_54 (s_putI c78_55 f78_27 t10_0 n10_0 sh_61 (s_aload_n c78_58 rfl (s_getI c78_59 f78_27 t10_0 sh_61 (s_retI c78_62 R78 H.2.2.2.2.2))))))))⟩))))⟩))))⟩))))⟩))))⟩)))))))
