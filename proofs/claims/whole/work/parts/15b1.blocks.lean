/-! blocks of WarmSide$Makers, by program -/
-- WarmSide$Makers.full()Z
theorem c16_0 : cdA 16 0 = some (.aload_n 0) := by decide +kernel
theorem c16_1 : cdA 16 1 = some (.getfield 28) := by decide +kernel
theorem f16_28 : fldR (moN 16) 28 = some (3, 2) := by decide +kernel
theorem t3_2 : fcl 3 2 = 0 := by decide +kernel
theorem c16_4 : cdA 16 4 = some (.aload_n 0) := by decide +kernel
theorem c16_5 : cdA 16 5 = some (.getfield 9) := by decide +kernel
theorem f16_9 : fldR (moN 16) 9 = some (3, 0) := by decide +kernel
theorem t3_0 : fcl 3 0 = 0 := by decide +kernel
theorem c16_8 : cdA 16 8 = some (.if_icmp .lt 7) := by decide +kernel
theorem c16_15 : cdA 16 15 = some (.iconst 0) := by decide +kernel
theorem c16_16 : cdA 16 16 = some (.ireturn) := by decide +kernel
theorem R16 : mK 16 = 3 := by decide +kernel
theorem c16_11 : cdA 16 11 = some (.iconst 1) := by decide +kernel
theorem c16_12 : cdA 16 12 = some (.goto 4) := by decide +kernel
theorem b16a_0 {d : Nat} {h : HP} {Q : PV → HP → Prop} (H : (((h 22 2) < (h 22 0)) → Q (I 0) h) ∧ (¬ ((h 22 2) < (h 22 0)) → Q (I 1) h)) : X d 16 0 [some (P 22)] [] h Q :=
  s_aload_n c16_0 rfl (s_getI c16_1 f16_28 t3_2 sh_22 (s_aload_n c16_4 rfl (s_getI c16_5 f16_9 t3_0 sh_22 (s_ifc 15 ((h 22 2) < (h 22 0)) c16_8 (by decide) rfl ⟨fun q1 => s_iconst c16_15 rfl (s_retZ c16_16 R16 ⟨by decide, (H.1 q1)⟩), fun q1 => s_iconst c16_11 rfl (s_goto 16 c16_12 (by decide) (s_retZ c16_16 R16 ⟨by decide, (H.2 q1)⟩))⟩))))
-- WarmSide$Makers.add(II)I
theorem c17_0 : cdA 17 0 = some (.aload_n 0) := by decide +kernel
theorem c17_1 : cdA 17 1 = some (.getfield 28) := by decide +kernel
theorem f17_28 : fldR (moN 17) 28 = some (3, 2) := by decide +kernel
theorem c17_4 : cdA 17 4 = some (.istore_n 3) := by decide +kernel
theorem c17_5 : cdA 17 5 = some (.aload_n 0) := by decide +kernel
theorem c17_6 : cdA 17 6 = some (.getfield 18) := by decide +kernel
theorem f17_18 : fldR (moN 17) 18 = some (3, 3) := by decide +kernel
theorem t3_3 : fcl 3 3 = 2 := by decide +kernel
theorem c17_9 : cdA 17 9 = some (.iload_n 3) := by decide +kernel
theorem c17_10 : cdA 17 10 = some (.iload_n 1) := by decide +kernel
theorem c17_11 : cdA 17 11 = some (.iastore) := by decide +kernel
theorem c17_12 : cdA 17 12 = some (.aload_n 0) := by decide +kernel
theorem c17_13 : cdA 17 13 = some (.getfield 22) := by decide +kernel
theorem f17_22 : fldR (moN 17) 22 = some (3, 4) := by decide +kernel
theorem t3_4 : fcl 3 4 = 2 := by decide +kernel
theorem c17_16 : cdA 17 16 = some (.iload_n 3) := by decide +kernel
theorem c17_17 : cdA 17 17 = some (.iload_n 2) := by decide +kernel
theorem c17_18 : cdA 17 18 = some (.iastore) := by decide +kernel
theorem c17_19 : cdA 17 19 = some (.aload_n 0) := by decide +kernel
theorem c17_20 : cdA 17 20 = some (.getfield 25) := by decide +kernel
theorem f17_25 : fldR (moN 17) 25 = some (3, 5) := by decide +kernel
theorem t3_5 : fcl 3 5 = 2 := by decide +kernel
theorem c17_23 : cdA 17 23 = some (.iload_n 3) := by decide +kernel
theorem c17_24 : cdA 17 24 = some (.aload_n 0) := by decide +kernel
theorem c17_25 : cdA 17 25 = some (.getfield 15) := by decide +kernel
theorem f17_15 : fldR (moN 17) 15 = some (3, 1) := by decide +kernel
theorem t3_1 : fcl 3 1 = 0 := by decide +kernel
theorem c17_28 : cdA 17 28 = some (.iastore) := by decide +kernel
theorem c17_29 : cdA 17 29 = some (.aload_n 0) := by decide +kernel
theorem c17_30 : cdA 17 30 = some (.dup) := by decide +kernel
theorem c17_31 : cdA 17 31 = some (.getfield 28) := by decide +kernel
theorem c17_34 : cdA 17 34 = some (.iconst 1) := by decide +kernel
theorem c17_35 : cdA 17 35 = some (.iadd) := by decide +kernel
theorem c17_36 : cdA 17 36 = some (.putfield 28) := by decide +kernel
theorem n3_2 : ffin 3 2 = false := by decide +kernel
theorem c17_39 : cdA 17 39 = some (.iload_n 3) := by decide +kernel
theorem c17_40 : cdA 17 40 = some (.ireturn) := by decide +kernel
theorem R17 : mK 17 = 0 := by decide +kernel
theorem b17a_0 {d : Nat} {h : HP} {Q : PV → HP → Prop} {v1 v2 : Int} (H : (0 ≤ (h 22 2) ∧ (h 22 2) < 8) ∧ ((0 ≤ (h 22 2) ∧ (h 22 2) < 8) ∧ ((0 ≤ (h 22 2) ∧ (h 22 2) < 8) ∧ Q (I (h 22 2)) (up2 (up2 (up2 (up2 h 23 (h 22 2).toNat v1) 24 (h 22 2).toNat v2) 25 (h 22 2).toNat (h 22 1)) 22 2 (w32 ((h 22 2) + 1)))))) : X d 17 0 [some (P 22), some (I v1), some (I v2), none] [] h Q :=
  s_aload_n c17_0 rfl (s_getI c17_1 f17_28 t3_2 sh_22 (s_istore_n c17_4 rfl (s_aload_n c17_5 rfl (s_getP 23 c17_6 f17_18 t3_3 sh_22 g_22_3 (by decide) (by decide) (s_iload_n c17_9 rfl (s_iload_n c17_10 rfl (s_iast c17_11 sh_23 ⟨H.1, s_aload_n c17_12 rfl (s_getP 24 c17_13 f17_22 t3_4 sh_22 g_22_4 (by decide) (by decide) (s_iload_n c17_16 rfl (s_iload_n c17_17 rfl (s_iast c17_18 sh_24 ⟨H.2.1, s_aload_n c17_19 rfl (s_getP 25 c17_20 f17_25 t3_5 sh_22 g_22_5 (by decide) (by decide) (s_iload_n c17_23 rfl (s_aload_n c17_24 rfl (s_getI c17_25 f17_15 t3_1 sh_22 (s_iast c17_28 sh_25 ⟨H.2.2.1, s_aload_n c17_29 rfl (s_dupP c17_30 (s_getI c17_31 f17_28 t3_2 sh_22 (s_iconst c17_34 rfl (s_iadd c17_35 (s_putI c17_36 f17_28 t3_2 n3_2 sh_22 (s_iload_n c17_39 rfl (s_retI c17_40 R17 H.2.2.2)))))))⟩)))))⟩))))⟩)))))))
-- WarmSide$Makers.full()Z
theorem b16b_0 {d : Nat} {h : HP} {Q : PV → HP → Prop} (H : (((h 26 2) < (h 26 0)) → Q (I 0) h) ∧ (¬ ((h 26 2) < (h 26 0)) → Q (I 1) h)) : X d 16 0 [some (P 26)] [] h Q :=
  s_aload_n c16_0 rfl (s_getI c16_1 f16_28 t3_2 sh_26 (s_aload_n c16_4 rfl (s_getI c16_5 f16_9 t3_0 sh_26 (s_ifc 15 ((h 26 2) < (h 26 0)) c16_8 (by decide) rfl ⟨fun q1 => s_iconst c16_15 rfl (s_retZ c16_16 R16 ⟨by decide, (H.1 q1)⟩), fun q1 => s_iconst c16_11 rfl (s_goto 16 c16_12 (by decide) (s_retZ c16_16 R16 ⟨by decide, (H.2 q1)⟩))⟩))))
-- WarmSide$Makers.add(II)I
theorem b17b_0 {d : Nat} {h : HP} {Q : PV → HP → Prop} {v1 v2 : Int} (H : (0 ≤ (h 26 2) ∧ (h 26 2) < 4) ∧ ((0 ≤ (h 26 2) ∧ (h 26 2) < 4) ∧ ((0 ≤ (h 26 2) ∧ (h 26 2) < 4) ∧ Q (I (h 26 2)) (up2 (up2 (up2 (up2 h 27 (h 26 2).toNat v1) 28 (h 26 2).toNat v2) 29 (h 26 2).toNat (h 26 1)) 26 2 (w32 ((h 26 2) + 1)))))) : X d 17 0 [some (P 26), some (I v1), some (I v2), none] [] h Q :=
  s_aload_n c17_0 rfl (s_getI c17_1 f17_28 t3_2 sh_26 (s_istore_n c17_4 rfl (s_aload_n c17_5 rfl (s_getP 27 c17_6 f17_18 t3_3 sh_26 g_26_3 (by decide) (by decide) (s_iload_n c17_9 rfl (s_iload_n c17_10 rfl (s_iast c17_11 sh_27 ⟨H.1, s_aload_n c17_12 rfl (s_getP 28 c17_13 f17_22 t3_4 sh_26 g_26_4 (by decide) (by decide) (s_iload_n c17_16 rfl (s_iload_n c17_17 rfl (s_iast c17_18 sh_28 ⟨H.2.1, s_aload_n c17_19 rfl (s_getP 29 c17_20 f17_25 t3_5 sh_26 g_26_5 (by decide) (by decide) (s_iload_n c17_23 rfl (s_aload_n c17_24 rfl (s_getI c17_25 f17_15 t3_1 sh_26 (s_iast c17_28 sh_29 ⟨H.2.2.1, s_aload_n c17_29 rfl (s_dupP c17_30 (s_getI c17_31 f17_28 t3_2 sh_26 (s_iconst c17_34 rfl (s_iadd c17_35 (s_putI c17_36 f17_28 t3_2 n3_2 sh_26 (s_iload_n c17_39 rfl (s_retI c17_40 R17 H.2.2.2)))))))⟩)))))⟩))))⟩)))))))
-- WarmSide$Makers.making()I
theorem c18_0 : cdA 18 0 = some (.iconst 0) := by decide +kernel
theorem c18_1 : cdA 18 1 = some (.istore_n 1) := by decide +kernel
theorem c18_2 : cdA 18 2 = some (.iconst 0) := by decide +kernel
theorem c18_3 : cdA 18 3 = some (.istore_n 2) := by decide +kernel
theorem c18_32 : cdA 18 32 = some (.iload_n 1) := by decide +kernel
theorem c18_33 : cdA 18 33 = some (.iconst 1) := by decide +kernel
theorem c18_34 : cdA 18 34 = some (.iload_n 2) := by decide +kernel
theorem c18_35 : cdA 18 35 = some (.ishl) := by decide +kernel
theorem c18_36 : cdA 18 36 = some (.ior) := by decide +kernel
theorem c18_37 : cdA 18 37 = some (.istore_n 1) := by decide +kernel
theorem c18_38 : cdA 18 38 = some (.iinc 2 1) := by decide +kernel
theorem c18_41 : cdA 18 41 = some (.goto (-37)) := by decide +kernel
theorem c18_4 : cdA 18 4 = some (.iload_n 2) := by decide +kernel
theorem c18_5 : cdA 18 5 = some (.aload_n 0) := by decide +kernel
theorem c18_6 : cdA 18 6 = some (.getfield 28) := by decide +kernel
theorem f18_28 : fldR (moN 18) 28 = some (3, 2) := by decide +kernel
theorem c18_9 : cdA 18 9 = some (.if_icmp .ge 35) := by decide +kernel
theorem c18_44 : cdA 18 44 = some (.iload_n 1) := by decide +kernel
theorem c18_45 : cdA 18 45 = some (.ireturn) := by decide +kernel
theorem R18 : mK 18 = 0 := by decide +kernel
theorem c18_12 : cdA 18 12 = some (.aload_n 0) := by decide +kernel
theorem c18_13 : cdA 18 13 = some (.getfield 25) := by decide +kernel
theorem f18_25 : fldR (moN 18) 25 = some (3, 5) := by decide +kernel
theorem c18_16 : cdA 18 16 = some (.iload_n 2) := by decide +kernel
theorem c18_17 : cdA 18 17 = some (.iaload) := by decide +kernel
theorem c18_18 : cdA 18 18 = some (.iconst 1) := by decide +kernel
theorem c18_19 : cdA 18 19 = some (.if_icmp .eq 13) := by decide +kernel
theorem c18_22 : cdA 18 22 = some (.aload_n 0) := by decide +kernel
theorem c18_23 : cdA 18 23 = some (.getfield 25) := by decide +kernel
theorem c18_26 : cdA 18 26 = some (.iload_n 2) := by decide +kernel
theorem c18_27 : cdA 18 27 = some (.iaload) := by decide +kernel
theorem c18_28 : cdA 18 28 = some (.iconst 3) := by decide +kernel
theorem c18_29 : cdA 18 29 = some (.if_icmp .ne 9) := by decide +kernel
theorem b18a_0 {d : Nat} {h : HP} {Q : PV → HP → Prop} (H : X d 18 4 [some (P 22), some (I 0), some (I 0)] [] h Q) : X d 18 0 [some (P 22), none, none] [] h Q :=
  s_iconst c18_0 rfl (s_istore_n c18_1 rfl (s_iconst c18_2 rfl (s_istore_n c18_3 rfl (H))))
theorem b18a_32 {d : Nat} {h : HP} {Q : PV → HP → Prop} {v1 v2 : Int} (H : X d 18 38 [some (P 22), some (I (bOr v1 (bShl 1 v2))), some (I v2)] [] h Q) : X d 18 32 [some (P 22), some (I v1), some (I v2)] [] h Q :=
  s_iload_n c18_32 rfl (s_iconst c18_33 rfl (s_iload_n c18_34 rfl (s_ishl c18_35 (s_ior c18_36 (s_istore_n c18_37 rfl (H))))))
theorem b18a_38 {d : Nat} {h : HP} {Q : PV → HP → Prop} {v1 v2 : Int} (H : X d 18 4 [some (P 22), some (I v1), some (I (w32 (v2 + 1)))] [] h Q) : X d 18 38 [some (P 22), some (I v1), some (I v2)] [] h Q :=
  s_iinc c18_38 rfl rfl rfl (s_goto 4 c18_41 (by decide) (H))
theorem b18a_4 {d : Nat} {h : HP} {Q : PV → HP → Prop} {v1 v2 : Int} (H : (((h 22 2) ≤ v2) → Q (I v1) h) ∧ (¬ ((h 22 2) ≤ v2) → ((0 ≤ v2 ∧ v2 < 8) ∧ ((((h 25 v2.toNat) = 1) → X d 18 32 [some (P 22), some (I v1), some (I v2)] [] h Q) ∧ (¬ ((h 25 v2.toNat) = 1) → ((0 ≤ v2 ∧ v2 < 8) ∧ (((¬ (h 25 v2.toNat) = 3) → X d 18 38 [some (P 22), some (I v1), some (I v2)] [] h Q) ∧ (¬ (¬ (h 25 v2.toNat) = 3) → X d 18 32 [some (P 22), some (I v1), some (I v2)] [] h Q)))))))) : X d 18 4 [some (P 22), some (I v1), some (I v2)] [] h Q :=
  s_iload_n c18_4 rfl (s_aload_n c18_5 rfl (s_getI c18_6 f18_28 t3_2 sh_22 (s_ifc 44 ((h 22 2) ≤ v2) c18_9 (by decide) rfl ⟨fun q1 => s_iload_n c18_44 rfl (s_retI c18_45 R18 (H.1 q1)), fun q1 => s_aload_n c18_12 rfl (s_getP 25 c18_13 f18_25 t3_5 sh_22 g_22_5 (by decide) (by decide) (s_iload_n c18_16 rfl (s_iald c18_17 sh_25 ⟨(H.2 q1).1, s_iconst c18_18 rfl (s_ifc 32 ((h 25 v2.toNat) = 1) c18_19 (by decide) rfl ⟨fun q2 => ((H.2 q1).2.1 q2), fun q2 => s_aload_n c18_22 rfl (s_getP 25 c18_23 f18_25 t3_5 sh_22 g_22_5 (by decide) (by decide) (s_iload_n c18_26 rfl (s_iald c18_27 sh_25 ⟨((H.2 q1).2.2 q2).1, s_iconst c18_28 rfl (s_ifc 38 (¬ (h 25 v2.toNat) = 3) c18_29 (by decide) rfl ⟨fun q3 => (((H.2 q1).2.2 q2).2.1 q3), fun q3 => (((H.2 q1).2.2 q2).2.2 q3)⟩)⟩)))⟩)⟩)))⟩)))
-- WarmSide$Makers.making()I
theorem b18b_0 {d : Nat} {h : HP} {Q : PV → HP → Prop} (H : X d 18 4 [some (P 26), some (I 0), some (I 0)] [] h Q) : X d 18 0 [some (P 26), none, none] [] h Q :=
  s_iconst c18_0 rfl (s_istore_n c18_1 rfl (s_iconst c18_2 rfl (s_istore_n c18_3 rfl (H))))
theorem b18b_32 {d : Nat} {h : HP} {Q : PV → HP → Prop} {v1 v2 : Int} (H : X d 18 38 [some (P 26), some (I (bOr v1 (bShl 1 v2))), some (I v2)] [] h Q) : X d 18 32 [some (P 26), some (I v1), some (I v2)] [] h Q :=
  s_iload_n c18_32 rfl (s_iconst c18_33 rfl (s_iload_n c18_34 rfl (s_ishl c18_35 (s_ior c18_36 (s_istore_n c18_37 rfl (H))))))
theorem b18b_38 {d : Nat} {h : HP} {Q : PV → HP → Prop} {v1 v2 : Int} (H : X d 18 4 [some (P 26), some (I v1), some (I (w32 (v2 + 1)))] [] h Q) : X d 18 38 [some (P 26), some (I v1), some (I v2)] [] h Q :=
  s_iinc c18_38 rfl rfl rfl (s_goto 4 c18_41 (by decide) (H))
theorem b18b_4 {d : Nat} {h : HP} {Q : PV → HP → Prop} {v1 v2 : Int} (H : (((h 26 2) ≤ v2) → Q (I v1) h) ∧ (¬ ((h 26 2) ≤ v2) → ((0 ≤ v2 ∧ v2 < 4) ∧ ((((h 29 v2.toNat) = 1) → X d 18 32 [some (P 26), some (I v1), some (I v2)] [] h Q) ∧ (¬ ((h 29 v2.toNat) = 1) → ((0 ≤ v2 ∧ v2 < 4) ∧ (((¬ (h 29 v2.toNat) = 3) → X d 18 38 [some (P 26), some (I v1), some (I v2)] [] h Q) ∧ (¬ (¬ (h 29 v2.toNat) = 3) → X d 18 32 [some (P 26), some (I v1), some (I v2)] [] h Q)))))))) : X d 18 4 [some (P 26), some (I v1), some (I v2)] [] h Q :=
  s_iload_n c18_4 rfl (s_aload_n c18_5 rfl (s_getI c18_6 f18_28 t3_2 sh_26 (s_ifc 44 ((h 26 2) ≤ v2) c18_9 (by decide) rfl ⟨fun q1 => s_iload_n c18_44 rfl (s_retI c18_45 R18 (H.1 q1)), fun q1 => s_aload_n c18_12 rfl (s_getP 29 c18_13 f18_25 t3_5 sh_26 g_26_5 (by decide) (by decide) (s_iload_n c18_16 rfl (s_iald c18_17 sh_29 ⟨(H.2 q1).1, s_iconst c18_18 rfl (s_ifc 32 ((h 29 v2.toNat) = 1) c18_19 (by decide) rfl ⟨fun q2 => ((H.2 q1).2.1 q2), fun q2 => s_aload_n c18_22 rfl (s_getP 29 c18_23 f18_25 t3_5 sh_26 g_26_5 (by decide) (by decide) (s_iload_n c18_26 rfl (s_iald c18_27 sh_29 ⟨((H.2 q1).2.2 q2).1, s_iconst c18_28 rfl (s_ifc 38 (¬ (h 29 v2.toNat) = 3) c18_29 (by decide) rfl ⟨fun q3 => (((H.2 q1).2.2 q2).2.1 q3), fun q3 => (((H.2 q1).2.2 q2).2.2 q3)⟩)⟩)))⟩)⟩)))⟩)))
