/-! blocks of WarmSide$Craft, by program -/
-- WarmSide$Craft.sendsOf(II)I
theorem c10_0 : cdA 10 0 = some (.aload_n 0) := by decide +kernel
theorem c10_1 : cdA 10 1 = some (.getfield 45) := by decide +kernel
theorem f10_45 : fldR (moN 10) 45 = some (1, 5) := by decide +kernel
theorem t1_5 : fcl 1 5 = 2 := by decide +kernel
theorem c10_4 : cdA 10 4 = some (.getfield 62) := by decide +kernel
theorem f10_62 : fldR (moN 10) 62 = some (8, 2) := by decide +kernel
theorem t8_2 : fcl 8 2 = 2 := by decide +kernel
theorem c10_7 : cdA 10 7 = some (.aload_n 0) := by decide +kernel
theorem c10_8 : cdA 10 8 = some (.getfield 12) := by decide +kernel
theorem f10_12 : fldR (moN 10) 12 = some (1, 0) := by decide +kernel
theorem t1_0 : fcl 1 0 = 2 := by decide +kernel
theorem c10_11 : cdA 10 11 = some (.getfield 53) := by decide +kernel
theorem f10_53 : fldR (moN 10) 53 = some (4, 3) := by decide +kernel
theorem c10_14 : cdA 10 14 = some (.iload_n 1) := by decide +kernel
theorem c10_15 : cdA 10 15 = some (.iaload) := by decide +kernel
theorem c10_16 : cdA 10 16 = some (.bipush 10) := by decide +kernel
theorem c10_18 : cdA 10 18 = some (.imul) := by decide +kernel
theorem c10_19 : cdA 10 19 = some (.iload_n 2) := by decide +kernel
theorem c10_20 : cdA 10 20 = some (.iadd) := by decide +kernel
theorem c10_21 : cdA 10 21 = some (.iaload) := by decide +kernel
theorem c10_22 : cdA 10 22 = some (.ireturn) := by decide +kernel
theorem R10 : mK 10 = 0 := by decide +kernel
theorem b10_0 {d : Nat} {h : HP} {Q : PV → HP → Prop} {v1 v2 : Int} (H : (0 ≤ v1 ∧ v1 < 8) ∧ ((0 ≤ (w32 ((w32 ((h 5 v1.toNat) * 10)) + v2)) ∧ (w32 ((w32 ((h 5 v1.toNat) * 10)) + v2)) < 40) ∧ Q (I (h 33 (w32 ((w32 ((h 5 v1.toNat) * 10)) + v2)).toNat)) h)) : X d 10 0 [some (P 1), some (I v1), some (I v2)] [] h Q :=
  s_aload_n c10_0 rfl (s_getP 30 c10_1 f10_45 t1_5 sh_1 g_1_5 (by decide) (by decide) (s_getP 33 c10_4 f10_62 t8_2 sh_30 g_30_2 (by decide) (by decide) (s_aload_n c10_7 rfl (s_getP 2 c10_8 f10_12 t1_0 sh_1 g_1_0 (by decide) (by decide) (s_getP 5 c10_11 f10_53 t4_3 sh_2 g_2_3 (by decide) (by decide) (s_iload_n c10_14 rfl (s_iald c10_15 sh_5 ⟨H.1, s_bipush c10_16 ⟨by decide, by decide⟩ (s_imul c10_18 (s_iload_n c10_19 rfl (s_iadd c10_20 (s_iald c10_21 sh_33 ⟨H.2.1, s_retI c10_22 R10 H.2.2⟩))))⟩)))))))
-- WarmSide$Craft.sentBy(IIII)I
theorem c11_0 : cdA 11 0 = some (.iload_n 2) := by decide +kernel
theorem c11_1 : cdA 11 1 = some (.bipush 100) := by decide +kernel
theorem c11_3 : cdA 11 3 = some (.idiv) := by decide +kernel
theorem c11_4 : cdA 11 4 = some (.istore 5) := by decide +kernel
theorem c11_6 : cdA 11 6 = some (.aload_n 0) := by decide +kernel
theorem c11_7 : cdA 11 7 = some (.getfield 45) := by decide +kernel
theorem f11_45 : fldR (moN 11) 45 = some (1, 5) := by decide +kernel
theorem c11_10 : cdA 11 10 = some (.getfield 65) := by decide +kernel
theorem f11_65 : fldR (moN 11) 65 = some (8, 0) := by decide +kernel
theorem c11_13 : cdA 11 13 = some (.iload 5) := by decide +kernel
theorem c11_15 : cdA 11 15 = some (.iaload) := by decide +kernel
theorem c11_16 : cdA 11 16 = some (.istore 6) := by decide +kernel
theorem c11_18 : cdA 11 18 = some (.iload 5) := by decide +kernel
theorem c11_20 : cdA 11 20 = some (.iconst 1) := by decide +kernel
theorem c11_21 : cdA 11 21 = some (.iadd) := by decide +kernel
theorem c11_22 : cdA 11 22 = some (.bipush 7) := by decide +kernel
theorem c11_24 : cdA 11 24 = some (.if_icmp .ge 34) := by decide +kernel
theorem c11_27 : cdA 11 27 = some (.iload 6) := by decide +kernel
theorem c11_29 : cdA 11 29 = some (.aload_n 0) := by decide +kernel
theorem c11_30 : cdA 11 30 = some (.getfield 45) := by decide +kernel
theorem c11_33 : cdA 11 33 = some (.getfield 65) := by decide +kernel
theorem c11_36 : cdA 11 36 = some (.iload 5) := by decide +kernel
theorem c11_38 : cdA 11 38 = some (.iconst 1) := by decide +kernel
theorem c11_39 : cdA 11 39 = some (.iadd) := by decide +kernel
theorem c11_40 : cdA 11 40 = some (.iaload) := by decide +kernel
theorem c11_41 : cdA 11 41 = some (.iload 6) := by decide +kernel
theorem c11_43 : cdA 11 43 = some (.isub) := by decide +kernel
theorem c11_44 : cdA 11 44 = some (.iload_n 2) := by decide +kernel
theorem c11_45 : cdA 11 45 = some (.bipush 100) := by decide +kernel
theorem c11_47 : cdA 11 47 = some (.iload 5) := by decide +kernel
theorem c11_49 : cdA 11 49 = some (.imul) := by decide +kernel
theorem c11_50 : cdA 11 50 = some (.isub) := by decide +kernel
theorem c11_51 : cdA 11 51 = some (.imul) := by decide +kernel
theorem c11_52 : cdA 11 52 = some (.bipush 100) := by decide +kernel
theorem c11_54 : cdA 11 54 = some (.idiv) := by decide +kernel
theorem c11_55 : cdA 11 55 = some (.iadd) := by decide +kernel
theorem c11_56 : cdA 11 56 = some (.istore 6) := by decide +kernel
theorem c11_58 : cdA 11 58 = some (.iload_n 3) := by decide +kernel
theorem c11_59 : cdA 11 59 = some (.ifCond .ne 10) := by decide +kernel
theorem c11_69 : cdA 11 69 = some (.iload_n 3) := by decide +kernel
theorem c11_70 : cdA 11 70 = some (.iconst 1) := by decide +kernel
theorem c11_71 : cdA 11 71 = some (.if_icmp .ne 10) := by decide +kernel
theorem c11_81 : cdA 11 81 = some (.iload 6) := by decide +kernel
theorem c11_74 : cdA 11 74 = some (.iload 6) := by decide +kernel
theorem c11_76 : cdA 11 76 = some (.iconst 2) := by decide +kernel
theorem c11_77 : cdA 11 77 = some (.idiv) := by decide +kernel
theorem c11_78 : cdA 11 78 = some (.goto 5) := by decide +kernel
theorem c11_62 : cdA 11 62 = some (.iload 6) := by decide +kernel
theorem c11_64 : cdA 11 64 = some (.iconst 5) := by decide +kernel
theorem c11_65 : cdA 11 65 = some (.idiv) := by decide +kernel
theorem c11_66 : cdA 11 66 = some (.goto 17) := by decide +kernel
theorem c11_83 : cdA 11 83 = some (.istore 7) := by decide +kernel
theorem c11_85 : cdA 11 85 = some (.aload_n 0) := by decide +kernel
theorem c11_86 : cdA 11 86 = some (.getfield 12) := by decide +kernel
theorem f11_12 : fldR (moN 11) 12 = some (1, 0) := by decide +kernel
theorem c11_89 : cdA 11 89 = some (.getfield 56) := by decide +kernel
theorem f11_56 : fldR (moN 11) 56 = some (4, 2) := by decide +kernel
theorem c11_92 : cdA 11 92 = some (.iload_n 1) := by decide +kernel
theorem c11_93 : cdA 11 93 = some (.iaload) := by decide +kernel
theorem c11_94 : cdA 11 94 = some (.iload 7) := by decide +kernel
theorem c11_96 : cdA 11 96 = some (.imul) := by decide +kernel
theorem c11_97 : cdA 11 97 = some (.iload 4) := by decide +kernel
theorem c11_99 : cdA 11 99 = some (.imul) := by decide +kernel
theorem c11_100 : cdA 11 100 = some (.bipush 100) := by decide +kernel
theorem c11_102 : cdA 11 102 = some (.idiv) := by decide +kernel
theorem c11_103 : cdA 11 103 = some (.ireturn) := by decide +kernel
theorem R11 : mK 11 = 0 := by decide +kernel
theorem b11_0 {d : Nat} {h : HP} {Q : PV → HP → Prop} {v1 v2 v3 v4 : Int} (H : (0 ≤ (w32 (Int.tdiv v2 100)) ∧ (w32 (Int.tdiv v2 100)) < 7) ∧ (((7 ≤ (w32 ((w32 (Int.tdiv v2 100)) + 1))) → X d 11 58 [some (P 1), some (I v1), some (I v2), some (I v3), some (I v4), some (I (w32 (Int.tdiv v2 100))), some (I (h 31 (w32 (Int.tdiv v2 100)).toNat)), none] [] h Q) ∧ (¬ (7 ≤ (w32 ((w32 (Int.tdiv v2 100)) + 1))) → ((0 ≤ (w32 ((w32 (Int.tdiv v2 100)) + 1)) ∧ (w32 ((w32 (Int.tdiv v2 100)) + 1)) < 7) ∧ X d 11 58 [some (P 1), some (I v1), some (I v2), some (I v3), some (I v4), some (I (w32 (Int.tdiv v2 100))), some (I (w32 ((h 31 (w32 (Int.tdiv v2 100)).toNat) + (w32 (Int.tdiv (w32 ((w32 ((h 31 (w32 ((w32 (Int.tdiv v2 100)) + 1)).toNat) - (h 31 (w32 (Int.tdiv v2 100)).toNat))) * (w32 (v2 - (w32 (100 * (w32 (Int.tdiv v2 100)))))))) 100))))), none] [] h Q)))) : X d 11 0 [some (P 1), some (I v1), some (I v2), some (I v3), some (I v4), none, none, none] [] h Q :=
  s_iload_n c11_0 rfl (s_bipush c11_1 ⟨by decide, by decide⟩ (s_idiv c11_3 (by decide) (s_istore c11_4 rfl (s_aload_n c11_6 rfl (s_getP 30 c11_7 f11_45 t1_5 sh_1 g_1_5 (by decide) (by decide) (s_getP 31 c11_10 f11_65 t8_0 sh_30 g_30_0 (by decide) (by decide) (s_iload c11_13 rfl (s_iald c11_15 sh_31 ⟨H.1, s_istore c11_16 rfl (s_iload c11_18 rfl (s_iconst c11_20 rfl (s_iadd c11_21 (s_bipush c11_22 ⟨by decide, by decide⟩ (s_ifc 58 (7 ≤ (w32 ((w32 (Int.tdiv v2 100)) + 1))) c11_24 (by decide) rfl ⟨fun q1 => (H.2.1 q1), fun q1 => s_iload c11_27 rfl (s_aload_n c11_29 rfl (s_getP 30 c11_30 f11_45 t1_5 sh_1 g_1_5 (by decide) (by decide) (s_getP 31 c11_33 f11_65 t8_0 sh_30 g_30_0 (by decide) (by decide) (s_iload c11_36 rfl (s_iconst c11_38 rfl (s_iadd c11_39 (s_iald c11_40 sh_31 ⟨(H.2.2 q1).1, s_iload c11_41 rfl (s_isub c11_43 (s_iload_n c11_44 rfl (s_bipush c11_45 ⟨by decide, by decide⟩ (s_iload c11_47 rfl (s_imul c11_49 (s_isub c11_50 (s_imul c11_51 (s_bipush c11_52 ⟨by decide, by decide⟩ (s_idiv c11_54 (by decide) (s_iadd c11_55 (s_istore c11_56 rfl ((H.2.2 q1).2))))))))))))⟩)))))))⟩)))))⟩))))))))
theorem b11_58 {d : Nat} {h : HP} {Q : PV → HP → Prop} {v1 v2 v3 v4 v5 v6 : Int} (H : ((¬ v3 = 0) → (((¬ v3 = 1) → X d 11 83 [some (P 1), some (I v1), some (I v2), some (I v3), some (I v4), some (I v5), some (I v6), none] [I v6] h Q) ∧ (¬ (¬ v3 = 1) → X d 11 83 [some (P 1), some (I v1), some (I v2), some (I v3), some (I v4), some (I v5), some (I v6), none] [I (w32 (Int.tdiv v6 2))] h Q))) ∧ (¬ (¬ v3 = 0) → X d 11 83 [some (P 1), some (I v1), some (I v2), some (I v3), some (I v4), some (I v5), some (I v6), none] [I (w32 (Int.tdiv v6 5))] h Q)) : X d 11 58 [some (P 1), some (I v1), some (I v2), some (I v3), some (I v4), some (I v5), some (I v6), none] [] h Q :=
  s_iload_n c11_58 rfl (s_if 69 (¬ v3 = 0) c11_59 (by decide) rfl ⟨fun q2 => s_iload_n c11_69 rfl (s_iconst c11_70 rfl (s_ifc 81 (¬ v3 = 1) c11_71 (by decide) rfl ⟨fun q3 => s_iload c11_81 rfl (((H.1 q2).1 q3)), fun q3 => s_iload c11_74 rfl (s_iconst c11_76 rfl (s_idiv c11_77 (by decide) (s_goto 83 c11_78 (by decide) (((H.1 q2).2 q3)))))⟩)), fun q2 => s_iload c11_62 rfl (s_iconst c11_64 rfl (s_idiv c11_65 (by decide) (s_goto 83 c11_66 (by decide) ((H.2 q2)))))⟩)
theorem b11_83 {d : Nat} {h : HP} {Q : PV → HP → Prop} {v1 v2 v3 v4 v5 v6 s0 : Int} (H : (0 ≤ v1 ∧ v1 < 8) ∧ Q (I (w32 (Int.tdiv (w32 ((w32 ((h 4 v1.toNat) * s0)) * v4)) 100))) h) : X d 11 83 [some (P 1), some (I v1), some (I v2), some (I v3), some (I v4), some (I v5), some (I v6), none] [I s0] h Q :=
  s_istore c11_83 rfl (s_aload_n c11_85 rfl (s_getP 2 c11_86 f11_12 t1_0 sh_1 g_1_0 (by decide) (by decide) (s_getP 4 c11_89 f11_56 t4_2 sh_2 g_2_2 (by decide) (by decide) (s_iload_n c11_92 rfl (s_iald c11_93 sh_4 ⟨H.1, s_iload c11_94 rfl (s_imul c11_96 (s_iload c11_97 rfl (s_imul c11_99 (s_bipush c11_100 ⟨by decide, by decide⟩ (s_idiv c11_102 (by decide) (s_retI c11_103 R11 H.2))))))⟩)))))
-- WarmSide$Craft.takenBy(III)I
theorem c9_0 : cdA 9 0 = some (.aload_n 0) := by decide +kernel
theorem c9_1 : cdA 9 1 = some (.getfield 45) := by decide +kernel
theorem f9_45 : fldR (moN 9) 45 = some (1, 5) := by decide +kernel
theorem c9_4 : cdA 9 4 = some (.getfield 49) := by decide +kernel
theorem f9_49 : fldR (moN 9) 49 = some (8, 1) := by decide +kernel
theorem t8_1 : fcl 8 1 = 2 := by decide +kernel
theorem c9_7 : cdA 9 7 = some (.aload_n 0) := by decide +kernel
theorem c9_8 : cdA 9 8 = some (.getfield 12) := by decide +kernel
theorem f9_12 : fldR (moN 9) 12 = some (1, 0) := by decide +kernel
theorem c9_11 : cdA 9 11 = some (.getfield 53) := by decide +kernel
theorem f9_53 : fldR (moN 9) 53 = some (4, 3) := by decide +kernel
theorem c9_14 : cdA 9 14 = some (.iload_n 1) := by decide +kernel
theorem c9_15 : cdA 9 15 = some (.iaload) := by decide +kernel
theorem c9_16 : cdA 9 16 = some (.bipush 10) := by decide +kernel
theorem c9_18 : cdA 9 18 = some (.imul) := by decide +kernel
theorem c9_19 : cdA 9 19 = some (.iload_n 3) := by decide +kernel
theorem c9_20 : cdA 9 20 = some (.iadd) := by decide +kernel
theorem c9_21 : cdA 9 21 = some (.iaload) := by decide +kernel
theorem c9_22 : cdA 9 22 = some (.istore 4) := by decide +kernel
theorem c9_24 : cdA 9 24 = some (.aload_n 0) := by decide +kernel
theorem c9_25 : cdA 9 25 = some (.getfield 12) := by decide +kernel
theorem c9_28 : cdA 9 28 = some (.getfield 56) := by decide +kernel
theorem f9_56 : fldR (moN 9) 56 = some (4, 2) := by decide +kernel
theorem c9_31 : cdA 9 31 = some (.iload_n 1) := by decide +kernel
theorem c9_32 : cdA 9 32 = some (.iaload) := by decide +kernel
theorem c9_33 : cdA 9 33 = some (.iload_n 2) := by decide +kernel
theorem c9_34 : cdA 9 34 = some (.imul) := by decide +kernel
theorem c9_35 : cdA 9 35 = some (.iload 4) := by decide +kernel
theorem c9_37 : cdA 9 37 = some (.imul) := by decide +kernel
theorem c9_38 : cdA 9 38 = some (.aload_n 0) := by decide +kernel
theorem c9_39 : cdA 9 39 = some (.getfield 12) := by decide +kernel
theorem c9_42 : cdA 9 42 = some (.getfield 59) := by decide +kernel
theorem f9_59 : fldR (moN 9) 59 = some (4, 4) := by decide +kernel
theorem c9_45 : cdA 9 45 = some (.iload_n 1) := by decide +kernel
theorem c9_46 : cdA 9 46 = some (.iaload) := by decide +kernel
theorem c9_47 : cdA 9 47 = some (.imul) := by decide +kernel
theorem c9_48 : cdA 9 48 = some (.sipush 200) := by decide +kernel
theorem c9_51 : cdA 9 51 = some (.idiv) := by decide +kernel
theorem c9_52 : cdA 9 52 = some (.ireturn) := by decide +kernel
theorem R9 : mK 9 = 0 := by decide +kernel
theorem b9_0 {d : Nat} {h : HP} {Q : PV → HP → Prop} {v1 v2 v3 : Int} (H : (0 ≤ v1 ∧ v1 < 8) ∧ ((0 ≤ (w32 ((w32 ((h 5 v1.toNat) * 10)) + v3)) ∧ (w32 ((w32 ((h 5 v1.toNat) * 10)) + v3)) < 40) ∧ ((0 ≤ v1 ∧ v1 < 8) ∧ ((0 ≤ v1 ∧ v1 < 8) ∧ Q (I (w32 (Int.tdiv (w32 ((w32 ((w32 ((h 4 v1.toNat) * v2)) * (h 32 (w32 ((w32 ((h 5 v1.toNat) * 10)) + v3)).toNat))) * (h 6 v1.toNat))) 200))) h)))) : X d 9 0 [some (P 1), some (I v1), some (I v2), some (I v3), none] [] h Q :=
  s_aload_n c9_0 rfl (s_getP 30 c9_1 f9_45 t1_5 sh_1 g_1_5 (by decide) (by decide) (s_getP 32 c9_4 f9_49 t8_1 sh_30 g_30_1 (by decide) (by decide) (s_aload_n c9_7 rfl (s_getP 2 c9_8 f9_12 t1_0 sh_1 g_1_0 (by decide) (by decide) (s_getP 5 c9_11 f9_53 t4_3 sh_2 g_2_3 (by decide) (by decide) (s_iload_n c9_14 rfl (s_iald c9_15 sh_5 ⟨H.1, s_bipush c9_16 ⟨by decide, by decide⟩ (s_imul c9_18 (s_iload_n c9_19 rfl (s_iadd c9_20 (s_iald c9_21 sh_32 ⟨H.2.1, s_istore c9_22 rfl (s_aload_n c9_24 rfl (s_getP 2 c9_25 f9_12 t1_0 sh_1 g_1_0 (by decide) (by decide) (s_getP 4 c9_28 f9_56 t4_2 sh_2 g_2_2 (by decide) (by decide) (s_iload_n c9_31 rfl (s_iald c9_32 sh_4 ⟨H.2.2.1, s_iload_n c9_33 rfl (s_imul c9_34 (s_iload c9_35 rfl (s_imul c9_37 (s_aload_n c9_38 rfl (s_getP 2 c9_39 f9_12 t1_0 sh_1 g_1_0 (by decide) (by decide) (s_getP 6 c9_42 f9_59 t4_4 sh_2 g_2_4 (by decide) (by decide) (s_iload_n c9_45 rfl (s_iald c9_46 sh_6 ⟨H.2.2.2.1, s_imul c9_47 (s_sipush c9_48 ⟨by decide, by decide⟩ (s_idiv c9_51 (by decide) (s_retI c9_52 R9 H.2.2.2.2)))⟩))))))))⟩)))))⟩))))⟩)))))))
