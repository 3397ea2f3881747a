/-! blocks of WarmSide$Sky, by program -/
-- WarmSide$Sky.rises(II)Z
theorem c68_0 : cdA 68 0 = some (.iload_n 1) := by decide +kernel
theorem c68_1 : cdA 68 1 = some (.ifCond .le 17) := by decide +kernel
theorem c68_4 : cdA 68 4 = some (.iload_n 2) := by decide +kernel
theorem c68_5 : cdA 68 5 = some (.aload_n 0) := by decide +kernel
theorem c68_6 : cdA 68 6 = some (.getfield 9) := by decide +kernel
theorem f68_9 : fldR (moN 68) 9 = some (8, 0) := by decide +kernel
theorem t8_0 : fcl 8 0 = 2 := by decide +kernel
theorem c68_9 : cdA 68 9 = some (.iload_n 1) := by decide +kernel
theorem c68_10 : cdA 68 10 = some (.iconst 1) := by decide +kernel
theorem c68_11 : cdA 68 11 = some (.isub) := by decide +kernel
theorem c68_12 : cdA 68 12 = some (.iaload) := by decide +kernel
theorem c68_13 : cdA 68 13 = some (.if_icmp .ge 5) := by decide +kernel
theorem c68_16 : cdA 68 16 = some (.iconst 0) := by decide +kernel
theorem c68_17 : cdA 68 17 = some (.ireturn) := by decide +kernel
theorem R68 : mK 68 = 3 := by decide +kernel
theorem c68_18 : cdA 68 18 = some (.iload_n 1) := by decide +kernel
theorem c68_19 : cdA 68 19 = some (.iconst 1) := by decide +kernel
theorem c68_20 : cdA 68 20 = some (.iadd) := by decide +kernel
theorem c68_21 : cdA 68 21 = some (.bipush 7) := by decide +kernel
theorem c68_23 : cdA 68 23 = some (.if_icmp .ge 15) := by decide +kernel
theorem c68_38 : cdA 68 38 = some (.iconst 1) := by decide +kernel
theorem c68_39 : cdA 68 39 = some (.goto 4) := by decide +kernel
theorem c68_43 : cdA 68 43 = some (.ireturn) := by decide +kernel
theorem c68_26 : cdA 68 26 = some (.iload_n 2) := by decide +kernel
theorem c68_27 : cdA 68 27 = some (.aload_n 0) := by decide +kernel
theorem c68_28 : cdA 68 28 = some (.getfield 9) := by decide +kernel
theorem c68_31 : cdA 68 31 = some (.iload_n 1) := by decide +kernel
theorem c68_32 : cdA 68 32 = some (.iconst 1) := by decide +kernel
theorem c68_33 : cdA 68 33 = some (.iadd) := by decide +kernel
theorem c68_34 : cdA 68 34 = some (.iaload) := by decide +kernel
theorem c68_35 : cdA 68 35 = some (.if_icmp .gt 7) := by decide +kernel
theorem c68_42 : cdA 68 42 = some (.iconst 0) := by decide +kernel
theorem b68_0 {d : Nat} {h : HP} {Q : PV → HP → Prop} {v1 v2 : Int} (H : ((v1 ≤ 0) → X d 68 18 [some (P 30), some (I v1), some (I v2)] [] h Q) ∧ (¬ (v1 ≤ 0) → ((0 ≤ (w32 (v1 - 1)) ∧ (w32 (v1 - 1)) < 7) ∧ ((((h 31 (w32 (v1 - 1)).toNat) ≤ v2) → X d 68 18 [some (P 30), some (I v1), some (I v2)] [] h Q) ∧ (¬ ((h 31 (w32 (v1 - 1)).toNat) ≤ v2) → Q (I 0) h))))) : X d 68 0 [some (P 30), some (I v1), some (I v2)] [] h Q :=
  s_iload_n c68_0 rfl (s_if 18 (v1 ≤ 0) c68_1 (by decide) rfl ⟨fun q1 => (H.1 q1), fun q1 => s_iload_n c68_4 rfl (s_aload_n c68_5 rfl (s_getP 31 c68_6 f68_9 t8_0 sh_30 g_30_0 (by decide) (by decide) (s_iload_n c68_9 rfl (s_iconst c68_10 rfl (s_isub c68_11 (s_iald c68_12 sh_31 ⟨(H.2 q1).1, s_ifc 18 ((h 31 (w32 (v1 - 1)).toNat) ≤ v2) c68_13 (by decide) rfl ⟨fun q2 => ((H.2 q1).2.1 q2), fun q2 => s_iconst c68_16 rfl (s_retZ c68_17 R68 ⟨by decide, ((H.2 q1).2.2 q2)⟩)⟩⟩))))))⟩)
theorem b68_18 {d : Nat} {h : HP} {Q : PV → HP → Prop} {v1 v2 : Int} (H : ((7 ≤ (w32 (v1 + 1))) → Q (I 1) h) ∧ (¬ (7 ≤ (w32 (v1 + 1))) → ((0 ≤ (w32 (v1 + 1)) ∧ (w32 (v1 + 1)) < 7) ∧ ((((h 31 (w32 (v1 + 1)).toNat) < v2) → Q (I 0) h) ∧ (¬ ((h 31 (w32 (v1 + 1)).toNat) < v2) → Q (I 1) h))))) : X d 68 18 [some (P 30), some (I v1), some (I v2)] [] h Q :=
  s_iload_n c68_18 rfl (s_iconst c68_19 rfl (s_iadd c68_20 (s_bipush c68_21 ⟨by decide, by decide⟩ (s_ifc 38 (7 ≤ (w32 (v1 + 1))) c68_23 (by decide) rfl ⟨fun q3 => s_iconst c68_38 rfl (s_goto 43 c68_39 (by decide) (s_retZ c68_43 R68 ⟨by decide, (H.1 q3)⟩)), fun q3 => s_iload_n c68_26 rfl (s_aload_n c68_27 rfl (s_getP 31 c68_28 f68_9 t8_0 sh_30 g_30_0 (by decide) (by decide) (s_iload_n c68_31 rfl (s_iconst c68_32 rfl (s_iadd c68_33 (s_iald c68_34 sh_31 ⟨(H.2 q3).1, s_ifc 42 ((h 31 (w32 (v1 + 1)).toNat) < v2) c68_35 (by decide) rfl ⟨fun q4 => s_iconst c68_42 rfl (s_retZ c68_43 R68 ⟨by decide, ((H.2 q3).2.1 q4)⟩), fun q4 => s_iconst c68_38 rfl (s_goto 43 c68_39 (by decide) (s_retZ c68_43 R68 ⟨by decide, ((H.2 q3).2.2 q4)⟩))⟩⟩))))))⟩))))
