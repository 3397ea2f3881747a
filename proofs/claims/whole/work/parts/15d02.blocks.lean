/-! blocks of WarmSideModel, by program -/
-- WarmSideModel.sendingAt(I)I
theorem c176_0 : cdA 176 0 = some (.iload_n 1) := by decide +kernel
theorem c176_1 : cdA 176 1 = some (.bipush 100) := by decide +kernel
theorem c176_3 : cdA 176 3 = some (.idiv) := by decide +kernel
theorem c176_4 : cdA 176 4 = some (.istore_n 2) := by decide +kernel
theorem c176_5 : cdA 176 5 = some (.iload_n 2) := by decide +kernel
theorem c176_6 : cdA 176 6 = some (.bipush 6) := by decide +kernel
theorem c176_8 : cdA 176 8 = some (.if_icmp .ne 13) := by decide +kernel
theorem c176_21 : cdA 176 21 = some (.aload_n 0) := by decide +kernel
theorem c176_22 : cdA 176 22 = some (.getfield 37) := by decide +kernel
theorem f176_37 : fldR (moN 176) 37 = some (12, 10) := by decide +kernel
theorem c176_25 : cdA 176 25 = some (.iload_n 2) := by decide +kernel
theorem c176_26 : cdA 176 26 = some (.iaload) := by decide +kernel
theorem c176_27 : cdA 176 27 = some (.aload_n 0) := by decide +kernel
theorem c176_28 : cdA 176 28 = some (.getfield 37) := by decide +kernel
theorem c176_31 : cdA 176 31 = some (.iload_n 2) := by decide +kernel
theorem c176_32 : cdA 176 32 = some (.iconst 1) := by decide +kernel
theorem c176_33 : cdA 176 33 = some (.iadd) := by decide +kernel
theorem c176_34 : cdA 176 34 = some (.iaload) := by decide +kernel
theorem c176_35 : cdA 176 35 = some (.aload_n 0) := by decide +kernel
theorem c176_36 : cdA 176 36 = some (.getfield 37) := by decide +kernel
theorem c176_39 : cdA 176 39 = some (.iload_n 2) := by decide +kernel
theorem c176_40 : cdA 176 40 = some (.iaload) := by decide +kernel
theorem c176_41 : cdA 176 41 = some (.isub) := by decide +kernel
theorem c176_42 : cdA 176 42 = some (.iload_n 1) := by decide +kernel
theorem c176_43 : cdA 176 43 = some (.bipush 100) := by decide +kernel
theorem c176_45 : cdA 176 45 = some (.iload_n 2) := by decide +kernel
theorem c176_46 : cdA 176 46 = some (.imul) := by decide +kernel
theorem c176_47 : cdA 176 47 = some (.isub) := by decide +kernel
theorem c176_48 : cdA 176 48 = some (.imul) := by decide +kernel
theorem c176_49 : cdA 176 49 = some (.bipush 100) := by decide +kernel
theorem c176_51 : cdA 176 51 = some (.idiv) := by decide +kernel
theorem c176_52 : cdA 176 52 = some (.iadd) := by decide +kernel
theorem c176_53 : cdA 176 53 = some (.ireturn) := by decide +kernel
theorem R176 : mK 176 = 0 := by decide +kernel
theorem c176_11 : cdA 176 11 = some (.aload_n 0) := by decide +kernel
theorem c176_12 : cdA 176 12 = some (.getfield 37) := by decide +kernel
theorem c176_15 : cdA 176 15 = some (.bipush 6) := by decide +kernel
theorem c176_17 : cdA 176 17 = some (.iaload) := by decide +kernel
theorem c176_18 : cdA 176 18 = some (.goto 35) := by decide +kernel
theorem b176_0 {d : Nat} {h : HP} {Q : PV → HP → Prop} {v1 : Int} (H : ((¬ (w32 (Int.tdiv v1 100)) = 6) → ((0 ≤ (w32 (Int.tdiv v1 100)) ∧ (w32 (Int.tdiv v1 100)) < 7) ∧ ((0 ≤ (w32 ((w32 (Int.tdiv v1 100)) + 1)) ∧ (w32 ((w32 (Int.tdiv v1 100)) + 1)) < 7) ∧ ((0 ≤ (w32 (Int.tdiv v1 100)) ∧ (w32 (Int.tdiv v1 100)) < 7) ∧ Q (I (w32 ((h 79 (w32 (Int.tdiv v1 100)).toNat) + (w32 (Int.tdiv (w32 ((w32 ((h 79 (w32 ((w32 (Int.tdiv v1 100)) + 1)).toNat) - (h 79 (w32 (Int.tdiv v1 100)).toNat))) * (w32 (v1 - (w32 (100 * (w32 (Int.tdiv v1 100)))))))) 100))))) h)))) ∧ (¬ (¬ (w32 (Int.tdiv v1 100)) = 6) → Q (I (h 79 6)) h)) : X d 176 0 [some (P 69), some (I v1), none] [] h Q :=
  s_iload_n c176_0 rfl (s_bipush c176_1 ⟨by decide, by decide⟩ (s_idiv c176_3 (by decide) (s_istore_n c176_4 rfl (s_iload_n c176_5 rfl (s_bipush c176_6 ⟨by decide, by decide⟩ (s_ifc 21 (¬ (w32 (Int.tdiv v1 100)) = 6) c176_8 (by decide) rfl ⟨fun q1 => s_aload_n c176_21 rfl (s_getP 79 c176_22 f176_37 t12_10 sh_69 g_69_10 (by decide) (by decide) (s_iload_n c176_25 rfl (s_iald c176_26 sh_79 ⟨(H.1 q1).1, s_aload_n c176_27 rfl (s_getP 79 c176_28 f176_37 t12_10 sh_69 g_69_10 (by decide) (by decide) (s_iload_n c176_31 rfl (s_iconst c176_32 rfl (s_iadd c176_33 (s_iald c176_34 sh_79 ⟨(H.1 q1).2.1, s_aload_n c176_35 rfl (s_getP 79 c176_36 f176_37 t12_10 sh_69 g_69_10 (by decide) (by decide) (s_iload_n c176_39 rfl (s_iald c176_40 sh_79 ⟨(H.1 q1).2.2.1, s_isub c176_41 (s_iload_n c176_42 rfl (s_bipush c176_43 ⟨by decide, by decide⟩ (s_iload_n c176_45 rfl (s_imul c176_46 (s_isub c176_47 (s_imul c176_48 (s_bipush c176_49 ⟨by decide, by decide⟩ (s_idiv c176_51 (by decide) (s_iadd c176_52 (s_retI c176_53 R176 (H.1 q1).2.2.2))))))))))⟩)))⟩)))))⟩))), fun q1 => s_aload_n c176_11 rfl (s_getP 79 c176_12 f176_37 t12_10 sh_69 g_69_10 (by decide) (by decide) (s_bipush c176_15 ⟨by decide, by decide⟩ (s_iald c176_17 sh_79 ⟨⟨by decide, by decide⟩, (s_goto 53 c176_18 (by decide) (s_retI c176_53 R176 (H.2 q1)))⟩)))⟩))))))
-- WarmSideModel.sendsOf(I)I
theorem c180_0 : cdA 180 0 = some (.aload_n 0) := by decide +kernel
theorem c180_1 : cdA 180 1 = some (.aload_n 0) := by decide +kernel
theorem c180_2 : cdA 180 2 = some (.getfield 120) := by decide +kernel
theorem f180_120 : fldR (moN 180) 120 = some (12, 54) := by decide +kernel
theorem c180_5 : cdA 180 5 = some (.iload_n 1) := by decide +kernel
theorem c180_6 : cdA 180 6 = some (.iaload) := by decide +kernel
theorem c180_7 : cdA 180 7 = some (.invokevirtual 316) := by decide +kernel
theorem m180_316 : mthR (moN 180) 316 = 179 := by decide +kernel
theorem F176 : mF 176 1 3 true := by unfold mF; decide +kernel
theorem K176 : ¬ mK 176 = 4 := by decide +kernel
theorem S176_69 : SH0[69]? = some (.inl (moN 176)) := by decide +kernel
theorem c180_10 : cdA 180 10 = some (.istore_n 2) := by decide +kernel
theorem c180_11 : cdA 180 11 = some (.aload_n 0) := by decide +kernel
theorem c180_12 : cdA 180 12 = some (.getfield 138) := by decide +kernel
theorem f180_138 : fldR (moN 180) 138 = some (12, 68) := by decide +kernel
theorem c180_15 : cdA 180 15 = some (.iload_n 1) := by decide +kernel
theorem c180_16 : cdA 180 16 = some (.iaload) := by decide +kernel
theorem c180_17 : cdA 180 17 = some (.ifCond .ne 9) := by decide +kernel
theorem c180_26 : cdA 180 26 = some (.aload_n 0) := by decide +kernel
theorem c180_27 : cdA 180 27 = some (.getfield 138) := by decide +kernel
theorem c180_30 : cdA 180 30 = some (.iload_n 1) := by decide +kernel
theorem c180_31 : cdA 180 31 = some (.iaload) := by decide +kernel
theorem c180_32 : cdA 180 32 = some (.iconst 1) := by decide +kernel
theorem c180_33 : cdA 180 33 = some (.if_icmp .ne 9) := by decide +kernel
theorem c180_42 : cdA 180 42 = some (.iload_n 2) := by decide +kernel
theorem c180_36 : cdA 180 36 = some (.iload_n 2) := by decide +kernel
theorem c180_37 : cdA 180 37 = some (.iconst 2) := by decide +kernel
theorem c180_38 : cdA 180 38 = some (.idiv) := by decide +kernel
theorem c180_39 : cdA 180 39 = some (.goto 4) := by decide +kernel
theorem c180_20 : cdA 180 20 = some (.iload_n 2) := by decide +kernel
theorem c180_21 : cdA 180 21 = some (.iconst 5) := by decide +kernel
theorem c180_22 : cdA 180 22 = some (.idiv) := by decide +kernel
theorem c180_23 : cdA 180 23 = some (.goto 20) := by decide +kernel
theorem c180_43 : cdA 180 43 = some (.istore_n 2) := by decide +kernel
theorem c180_44 : cdA 180 44 = some (.aload_n 0) := by decide +kernel
theorem c180_45 : cdA 180 45 = some (.getfield 43) := by decide +kernel
theorem f180_43 : fldR (moN 180) 43 = some (12, 12) := by decide +kernel
theorem c180_48 : cdA 180 48 = some (.bipush 10) := by decide +kernel
theorem c180_50 : cdA 180 50 = some (.aload_n 0) := by decide +kernel
theorem c180_51 : cdA 180 51 = some (.getfield 16) := by decide +kernel
theorem f180_16 : fldR (moN 180) 16 = some (12, 2) := by decide +kernel
theorem c180_54 : cdA 180 54 = some (.iload_n 1) := by decide +kernel
theorem c180_55 : cdA 180 55 = some (.iaload) := by decide +kernel
theorem c180_56 : cdA 180 56 = some (.imul) := by decide +kernel
theorem c180_57 : cdA 180 57 = some (.aload_n 0) := by decide +kernel
theorem c180_58 : cdA 180 58 = some (.getfield 307) := by decide +kernel
theorem f180_307 : fldR (moN 180) 307 = some (12, 60) := by decide +kernel
theorem c180_61 : cdA 180 61 = some (.iadd) := by decide +kernel
theorem c180_62 : cdA 180 62 = some (.iaload) := by decide +kernel
theorem c180_63 : cdA 180 63 = some (.aload_n 0) := by decide +kernel
theorem c180_64 : cdA 180 64 = some (.getfield 313) := by decide +kernel
theorem f180_313 : fldR (moN 180) 313 = some (12, 62) := by decide +kernel
theorem c180_67 : cdA 180 67 = some (.imul) := by decide +kernel
theorem c180_68 : cdA 180 68 = some (.bipush 100) := by decide +kernel
theorem c180_70 : cdA 180 70 = some (.idiv) := by decide +kernel
theorem c180_71 : cdA 180 71 = some (.istore_n 3) := by decide +kernel
theorem c180_72 : cdA 180 72 = some (.aload_n 0) := by decide +kernel
theorem c180_73 : cdA 180 73 = some (.getfield 13) := by decide +kernel
theorem f180_13 : fldR (moN 180) 13 = some (12, 1) := by decide +kernel
theorem c180_76 : cdA 180 76 = some (.iload_n 1) := by decide +kernel
theorem c180_77 : cdA 180 77 = some (.iaload) := by decide +kernel
theorem c180_78 : cdA 180 78 = some (.iload_n 2) := by decide +kernel
theorem c180_79 : cdA 180 79 = some (.imul) := by decide +kernel
theorem c180_80 : cdA 180 80 = some (.iload_n 3) := by decide +kernel
theorem c180_81 : cdA 180 81 = some (.bipush 100) := by decide +kernel
theorem c180_83 : cdA 180 83 = some (.if_icmp .le 8) := by decide +kernel
theorem c180_91 : cdA 180 91 = some (.iload_n 3) := by decide +kernel
theorem c180_92 : cdA 180 92 = some (.imul) := by decide +kernel
theorem c180_93 : cdA 180 93 = some (.bipush 100) := by decide +kernel
theorem c180_95 : cdA 180 95 = some (.idiv) := by decide +kernel
theorem c180_96 : cdA 180 96 = some (.ireturn) := by decide +kernel
theorem R180 : mK 180 = 0 := by decide +kernel
theorem c180_86 : cdA 180 86 = some (.bipush 100) := by decide +kernel
theorem c180_88 : cdA 180 88 = some (.goto 4) := by decide +kernel
theorem b180_0 {d : Nat} {h : HP} {Q : PV → HP → Prop} {v1 : Int} (H : (0 ≤ v1 ∧ v1 < 8) ∧ X d 176 0 [some (P 69), some (I (h 105 v1.toNat)), none] [] h (fun r h' => X (d + 1) 180 10 [some (P 69), some (I v1), none, none] [r] h' Q)) : X (d + 1) 180 0 [some (P 69), some (I v1), none, none] [] h Q :=
  s_aload_n c180_0 rfl (s_aload_n c180_1 rfl (s_getP 105 c180_2 f180_120 t12_54 sh_69 g_69_54 (by decide) (by decide) (s_iload_n c180_5 rfl (s_iald c180_6 sh_105 ⟨H.1, s_cVi c180_7 m180_316 F176 K176 rfl (Nat.le_of_ble_eq_true rfl) rfl S176_69 rfl H.2⟩))))
theorem b180_10 {d : Nat} {h : HP} {Q : PV → HP → Prop} {v1 s0 : Int} (H : (0 ≤ v1 ∧ v1 < 8) ∧ (((¬ (h 111 v1.toNat) = 0) → ((0 ≤ v1 ∧ v1 < 8) ∧ (((¬ (h 111 v1.toNat) = 1) → X d 180 43 [some (P 69), some (I v1), some (I s0), none] [I s0] h Q) ∧ (¬ (¬ (h 111 v1.toNat) = 1) → X d 180 43 [some (P 69), some (I v1), some (I s0), none] [I (w32 (Int.tdiv s0 2))] h Q)))) ∧ (¬ (¬ (h 111 v1.toNat) = 0) → X d 180 43 [some (P 69), some (I v1), some (I s0), none] [I (w32 (Int.tdiv s0 5))] h Q))) : X d 180 10 [some (P 69), some (I v1), none, none] [I s0] h Q :=
  s_istore_n c180_10 rfl (s_aload_n c180_11 rfl (s_getP 111 c180_12 f180_138 t12_68 sh_69 g_69_68 (by decide) (by decide) (s_iload_n c180_15 rfl (s_iald c180_16 sh_111 ⟨H.1, s_if 26 (¬ (h 111 v1.toNat) = 0) c180_17 (by decide) rfl ⟨fun q1 => s_aload_n c180_26 rfl (s_getP 111 c180_27 f180_138 t12_68 sh_69 g_69_68 (by decide) (by decide) (s_iload_n c180_30 rfl (s_iald c180_31 sh_111 ⟨(H.2.1 q1).1, s_iconst c180_32 rfl (s_ifc 42 (¬ (h 111 v1.toNat) = 1) c180_33 (by decide) rfl ⟨fun q2 => s_iload_n c180_42 rfl (((H.2.1 q1).2.1 q2)), fun q2 => s_iload_n c180_36 rfl (s_iconst c180_37 rfl (s_idiv c180_38 (by decide) (s_goto 43 c180_39 (by decide) (((H.2.1 q1).2.2 q2)))))⟩)⟩))), fun q1 => s_iload_n c180_20 rfl (s_iconst c180_21 rfl (s_idiv c180_22 (by decide) (s_goto 43 c180_23 (by decide) ((H.2.2 q1)))))⟩⟩))))
theorem b180_43 {d : Nat} {h : HP} {Q : PV → HP → Prop} {v1 v2 s0 : Int} (H : (0 ≤ v1 ∧ v1 < 8) ∧ ((0 ≤ (w32 ((w32 (10 * (h 72 v1.toNat))) + (h 69 60))) ∧ (w32 ((w32 (10 * (h 72 v1.toNat))) + (h 69 60))) < 40) ∧ ((0 ≤ v1 ∧ v1 < 8) ∧ ((((w32 (Int.tdiv (w32 ((h 81 (w32 ((w32 (10 * (h 72 v1.toNat))) + (h 69 60))).toNat) * (h 69 62))) 100)) ≤ 100) → Q (I (w32 (Int.tdiv (w32 ((w32 ((h 71 v1.toNat) * s0)) * (w32 (Int.tdiv (w32 ((h 81 (w32 ((w32 (10 * (h 72 v1.toNat))) + (h 69 60))).toNat) * (h 69 62))) 100)))) 100))) h) ∧ (¬ ((w32 (Int.tdiv (w32 ((h 81 (w32 ((w32 (10 * (h 72 v1.toNat))) + (h 69 60))).toNat) * (h 69 62))) 100)) ≤ 100) → Q (I (w32 (Int.tdiv (w32 ((w32 ((h 71 v1.toNat) * s0)) * 100)) 100))) h))))) : X d 180 43 [some (P 69), some (I v1), some (I v2), none] [I s0] h Q :=
  s_istore_n c180_43 rfl (s_aload_n c180_44 rfl (s_getP 81 c180_45 f180_43 t12_12 sh_69 g_69_12 (by decide) (by decide) (s_bipush c180_48 ⟨by decide, by decide⟩ (s_aload_n c180_50 rfl (s_getP 72 c180_51 f180_16 t12_2 sh_69 g_69_2 (by decide) (by decide) (s_iload_n c180_54 rfl (s_iald c180_55 sh_72 ⟨H.1, s_imul c180_56 (s_aload_n c180_57 rfl (s_getI c180_58 f180_307 t12_60 sh_69 (s_iadd c180_61 (s_iald c180_62 sh_81 ⟨H.2.1, s_aload_n c180_63 rfl (s_getI c180_64 f180_313 t12_62 sh_69 (s_imul c180_67 (s_bipush c180_68 ⟨by decide, by decide⟩ (s_idiv c180_70 (by decide) (s_istore_n c180_71 rfl (s_aload_n c180_72 rfl (s_getP 71 c180_73 f180_13 t12_1 sh_69 g_69_1 (by decide) (by decide) (s_iload_n c180_76 rfl (s_iald c180_77 sh_71 ⟨H.2.2.1, s_iload_n c180_78 rfl (s_imul c180_79 (s_iload_n c180_80 rfl (s_bipush c180_81 ⟨by decide, by decide⟩ (s_ifc 91 ((w32 (Int.tdiv (w32 ((h 81 (w32 ((w32 (10 * (h 72 v1.toNat))) + (h 69 60))).toNat) * (h 69 62))) 100)) ≤ 100) c180_83 (by decide) rfl ⟨fun q3 => s_iload_n c180_91 rfl (s_imul c180_92 (s_bipush c180_93 ⟨by decide, by decide⟩ (s_idiv c180_95 (by decide) (s_retI c180_96 R180 (H.2.2.2.1 q3))))), fun q3 => s_bipush c180_86 ⟨by decide, by decide⟩ (s_goto 92 c180_88 (by decide) (s_imul c180_92 (s_bipush c180_93 ⟨by decide, by decide⟩ (s_idiv c180_95 (by decide) (s_retI c180_96 R180 (H.2.2.2.2 q3))))))⟩))))⟩)))))))))⟩))))⟩)))))))
-- WarmSideModel.ledTo(I)I
theorem c181_0 : cdA 181 0 = some (.iconst 0) := by decide +kernel
theorem c181_1 : cdA 181 1 = some (.istore_n 2) := by decide +kernel
theorem c181_2 : cdA 181 2 = some (.iconst 0) := by decide +kernel
theorem c181_3 : cdA 181 3 = some (.istore_n 3) := by decide +kernel
theorem c181_142 : cdA 181 142 = some (.iconst 0) := by decide +kernel
theorem c181_143 : cdA 181 143 = some (.goto 35) := by decide +kernel
theorem c181_178 : cdA 181 178 = some (.iadd) := by decide +kernel
theorem c181_179 : cdA 181 179 = some (.istore_n 2) := by decide +kernel
theorem c181_180 : cdA 181 180 = some (.iinc 3 1) := by decide +kernel
theorem c181_183 : cdA 181 183 = some (.goto (-96)) := by decide +kernel
theorem c181_4 : cdA 181 4 = some (.iload_n 3) := by decide +kernel
theorem c181_5 : cdA 181 5 = some (.aload_n 0) := by decide +kernel
theorem c181_6 : cdA 181 6 = some (.getfield 219) := by decide +kernel
theorem f181_219 : fldR (moN 181) 219 = some (12, 17) := by decide +kernel
theorem c181_9 : cdA 181 9 = some (.if_icmp .ge 76) := by decide +kernel
theorem c181_85 : cdA 181 85 = some (.iconst 0) := by decide +kernel
theorem c181_86 : cdA 181 86 = some (.istore_n 3) := by decide +kernel
theorem c181_12 : cdA 181 12 = some (.aload_n 0) := by decide +kernel
theorem c181_13 : cdA 181 13 = some (.getfield 123) := by decide +kernel
theorem f181_123 : fldR (moN 181) 123 = some (12, 63) := by decide +kernel
theorem c181_16 : cdA 181 16 = some (.iload_n 3) := by decide +kernel
theorem c181_17 : cdA 181 17 = some (.iaload) := by decide +kernel
theorem c181_18 : cdA 181 18 = some (.aload_n 0) := by decide +kernel
theorem c181_19 : cdA 181 19 = some (.getfield 120) := by decide +kernel
theorem f181_120 : fldR (moN 181) 120 = some (12, 54) := by decide +kernel
theorem c181_22 : cdA 181 22 = some (.aload_n 0) := by decide +kernel
theorem c181_23 : cdA 181 23 = some (.getfield 49) := by decide +kernel
theorem f181_49 : fldR (moN 181) 49 = some (12, 14) := by decide +kernel
theorem c181_26 : cdA 181 26 = some (.iload_n 3) := by decide +kernel
theorem c181_27 : cdA 181 27 = some (.iaload) := by decide +kernel
theorem c181_28 : cdA 181 28 = some (.iaload) := by decide +kernel
theorem c181_29 : cdA 181 29 = some (.aload_n 0) := by decide +kernel
theorem c181_30 : cdA 181 30 = some (.getfield 120) := by decide +kernel
theorem c181_33 : cdA 181 33 = some (.aload_n 0) := by decide +kernel
theorem c181_34 : cdA 181 34 = some (.getfield 52) := by decide +kernel
theorem f181_52 : fldR (moN 181) 52 = some (12, 15) := by decide +kernel
theorem c181_37 : cdA 181 37 = some (.iload_n 3) := by decide +kernel
theorem c181_38 : cdA 181 38 = some (.iaload) := by decide +kernel
theorem c181_39 : cdA 181 39 = some (.iaload) := by decide +kernel
theorem c181_40 : cdA 181 40 = some (.isub) := by decide +kernel
theorem c181_41 : cdA 181 41 = some (.imul) := by decide +kernel
theorem c181_42 : cdA 181 42 = some (.istore 4) := by decide +kernel
theorem c181_44 : cdA 181 44 = some (.iload_n 2) := by decide +kernel
theorem c181_45 : cdA 181 45 = some (.aload_n 0) := by decide +kernel
theorem c181_46 : cdA 181 46 = some (.getfield 52) := by decide +kernel
theorem c181_49 : cdA 181 49 = some (.iload_n 3) := by decide +kernel
theorem c181_50 : cdA 181 50 = some (.iaload) := by decide +kernel
theorem c181_51 : cdA 181 51 = some (.iload_n 1) := by decide +kernel
theorem c181_52 : cdA 181 52 = some (.if_icmp .ne 8) := by decide +kernel
theorem c181_60 : cdA 181 60 = some (.aload_n 0) := by decide +kernel
theorem c181_61 : cdA 181 61 = some (.getfield 49) := by decide +kernel
theorem c181_64 : cdA 181 64 = some (.iload_n 3) := by decide +kernel
theorem c181_65 : cdA 181 65 = some (.iaload) := by decide +kernel
theorem c181_66 : cdA 181 66 = some (.iload_n 1) := by decide +kernel
theorem c181_67 : cdA 181 67 = some (.if_icmp .ne 9) := by decide +kernel
theorem c181_76 : cdA 181 76 = some (.iconst 0) := by decide +kernel
theorem c181_70 : cdA 181 70 = some (.iload 4) := by decide +kernel
theorem c181_72 : cdA 181 72 = some (.ineg) := by decide +kernel
theorem c181_73 : cdA 181 73 = some (.goto 4) := by decide +kernel
theorem c181_55 : cdA 181 55 = some (.iload 4) := by decide +kernel
theorem c181_57 : cdA 181 57 = some (.goto 20) := by decide +kernel
theorem c181_77 : cdA 181 77 = some (.iadd) := by decide +kernel
theorem c181_78 : cdA 181 78 = some (.istore_n 2) := by decide +kernel
theorem c181_79 : cdA 181 79 = some (.iinc 3 1) := by decide +kernel
theorem c181_82 : cdA 181 82 = some (.goto (-78)) := by decide +kernel
theorem c181_87 : cdA 181 87 = some (.iload_n 3) := by decide +kernel
theorem c181_88 : cdA 181 88 = some (.aload_n 0) := by decide +kernel
theorem c181_89 : cdA 181 89 = some (.getfield 226) := by decide +kernel
theorem f181_226 : fldR (moN 181) 226 = some (12, 22) := by decide +kernel
theorem c181_92 : cdA 181 92 = some (.if_icmp .ge 94) := by decide +kernel
theorem c181_186 : cdA 181 186 = some (.iload_n 2) := by decide +kernel
theorem c181_187 : cdA 181 187 = some (.ireturn) := by decide +kernel
theorem R181 : mK 181 = 0 := by decide +kernel
theorem c181_95 : cdA 181 95 = some (.aload_n 0) := by decide +kernel
theorem c181_96 : cdA 181 96 = some (.getfield 64) := by decide +kernel
theorem f181_64 : fldR (moN 181) 64 = some (12, 20) := by decide +kernel
theorem c181_99 : cdA 181 99 = some (.iload_n 3) := by decide +kernel
theorem c181_100 : cdA 181 100 = some (.iaload) := by decide +kernel
theorem c181_101 : cdA 181 101 = some (.aload_n 0) := by decide +kernel
theorem c181_102 : cdA 181 102 = some (.getfield 120) := by decide +kernel
theorem c181_105 : cdA 181 105 = some (.aload_n 0) := by decide +kernel
theorem c181_106 : cdA 181 106 = some (.getfield 58) := by decide +kernel
theorem f181_58 : fldR (moN 181) 58 = some (12, 18) := by decide +kernel
theorem c181_109 : cdA 181 109 = some (.iload_n 3) := by decide +kernel
theorem c181_110 : cdA 181 110 = some (.iaload) := by decide +kernel
theorem c181_111 : cdA 181 111 = some (.iaload) := by decide +kernel
theorem c181_112 : cdA 181 112 = some (.aload_n 0) := by decide +kernel
theorem c181_113 : cdA 181 113 = some (.getfield 120) := by decide +kernel
theorem c181_116 : cdA 181 116 = some (.aload_n 0) := by decide +kernel
theorem c181_117 : cdA 181 117 = some (.getfield 61) := by decide +kernel
theorem f181_61 : fldR (moN 181) 61 = some (12, 19) := by decide +kernel
theorem c181_120 : cdA 181 120 = some (.iload_n 3) := by decide +kernel
theorem c181_121 : cdA 181 121 = some (.iaload) := by decide +kernel
theorem c181_122 : cdA 181 122 = some (.iaload) := by decide +kernel
theorem c181_123 : cdA 181 123 = some (.isub) := by decide +kernel
theorem c181_124 : cdA 181 124 = some (.imul) := by decide +kernel
theorem c181_125 : cdA 181 125 = some (.istore 4) := by decide +kernel
theorem c181_127 : cdA 181 127 = some (.iload_n 2) := by decide +kernel
theorem c181_128 : cdA 181 128 = some (.aload_n 0) := by decide +kernel
theorem c181_129 : cdA 181 129 = some (.getfield 126) := by decide +kernel
theorem f181_126 : fldR (moN 181) 126 = some (12, 64) := by decide +kernel
theorem c181_132 : cdA 181 132 = some (.iload_n 3) := by decide +kernel
theorem c181_133 : cdA 181 133 = some (.baload) := by decide +kernel
theorem c181_134 : cdA 181 134 = some (.ifCond .ne 8) := by decide +kernel
theorem c181_137 : cdA 181 137 = some (.iload 4) := by decide +kernel
theorem c181_139 : cdA 181 139 = some (.ifCond .ge 7) := by decide +kernel
theorem c181_146 : cdA 181 146 = some (.aload_n 0) := by decide +kernel
theorem c181_147 : cdA 181 147 = some (.getfield 61) := by decide +kernel
theorem c181_150 : cdA 181 150 = some (.iload_n 3) := by decide +kernel
theorem c181_151 : cdA 181 151 = some (.iaload) := by decide +kernel
theorem c181_152 : cdA 181 152 = some (.iload_n 1) := by decide +kernel
theorem c181_153 : cdA 181 153 = some (.if_icmp .ne 8) := by decide +kernel
theorem c181_161 : cdA 181 161 = some (.aload_n 0) := by decide +kernel
theorem c181_162 : cdA 181 162 = some (.getfield 58) := by decide +kernel
theorem c181_165 : cdA 181 165 = some (.iload_n 3) := by decide +kernel
theorem c181_166 : cdA 181 166 = some (.iaload) := by decide +kernel
theorem c181_167 : cdA 181 167 = some (.iload_n 1) := by decide +kernel
theorem c181_168 : cdA 181 168 = some (.if_icmp .ne 9) := by decide +kernel
theorem c181_177 : cdA 181 177 = some (.iconst 0) := by decide +kernel
theorem c181_171 : cdA 181 171 = some (.iload 4) := by decide +kernel
theorem c181_173 : cdA 181 173 = some (.ineg) := by decide +kernel
theorem c181_174 : cdA 181 174 = some (.goto 4) := by decide +kernel
theorem c181_156 : cdA 181 156 = some (.iload 4) := by decide +kernel
theorem c181_158 : cdA 181 158 = some (.goto 20) := by decide +kernel
theorem b181_0 {d : Nat} {h : HP} {Q : PV → HP → Prop} {v1 : Int} (H : X d 181 4 [some (P 69), some (I v1), some (I 0), some (I 0), none] [] h Q) : X d 181 0 [some (P 69), some (I v1), none, none, none] [] h Q :=
  s_iconst c181_0 rfl (s_istore_n c181_1 rfl (s_iconst c181_2 rfl (s_istore_n c181_3 rfl (H))))
theorem b181_142 {d : Nat} {h : HP} {Q : PV → HP → Prop} {v1 v2 v3 v4 s0 : Int} (H : X d 181 178 [some (P 69), some (I v1), some (I v2), some (I v3), some (I v4)] [I 0, I s0] h Q) : X d 181 142 [some (P 69), some (I v1), some (I v2), some (I v3), some (I v4)] [I s0] h Q :=
  s_iconst c181_142 rfl (s_goto 178 c181_143 (by decide) (H))
theorem b181_178 {d : Nat} {h : HP} {Q : PV → HP → Prop} {v1 v2 v3 v4 s0 s1 : Int} (H : X d 181 87 [some (P 69), some (I v1), some (I (w32 (s0 + s1))), some (I (w32 (v3 + 1))), none] [] h Q) : X d 181 178 [some (P 69), some (I v1), some (I v2), some (I v3), some (I v4)] [I s1, I s0] h Q :=
  s_iadd c181_178 (s_istore_n c181_179 rfl (s_iinc c181_180 rfl rfl rfl (s_goto 87 c181_183 (by decide) (X_weak (A := [some (P 69), some (I v1), some (I (w32 (s0 + s1))), some (I (w32 (v3 + 1))), none]) (B := [some (P 69), some (I v1), some (I (w32 (s0 + s1))), some (I (w32 (v3 + 1))), some (I v4)]) ⟨Or.inl rfl, Or.inl rfl, Or.inl rfl, Or.inl rfl, Or.inr ⟨rfl, _, rfl, rfl⟩, trivial⟩ H))))
theorem b181_4 {d : Nat} {h : HP} {Q : PV → HP → Prop} {v1 v2 v3 : Int} (H : (((h 69 17) ≤ v3) → X d 181 87 [some (P 69), some (I v1), some (I v2), some (I 0), none] [] h Q) ∧ (¬ ((h 69 17) ≤ v3) → ((0 ≤ v3 ∧ v3 < 20) ∧ ((0 ≤ v3 ∧ v3 < 20) ∧ ((0 ≤ (h 83 v3.toNat) ∧ (h 83 v3.toNat) < 8) ∧ ((0 ≤ v3 ∧ v3 < 20) ∧ ((0 ≤ (h 84 v3.toNat) ∧ (h 84 v3.toNat) < 8) ∧ ((0 ≤ v3 ∧ v3 < 20) ∧ (((¬ (h 84 v3.toNat) = v1) → ((0 ≤ v3 ∧ v3 < 20) ∧ (((¬ (h 83 v3.toNat) = v1) → X d 181 77 [some (P 69), some (I v1), some (I v2), some (I v3), some (I (w32 ((h 106 v3.toNat) * (w32 ((h 105 (h 83 v3.toNat).toNat) - (h 105 (h 84 v3.toNat).toNat))))))] [I 0, I v2] h Q) ∧ (¬ (¬ (h 83 v3.toNat) = v1) → X d 181 77 [some (P 69), some (I v1), some (I v2), some (I v3), some (I (w32 ((h 106 v3.toNat) * (w32 ((h 105 (h 83 v3.toNat).toNat) - (h 105 (h 84 v3.toNat).toNat))))))] [I (w32 (-(w32 ((h 106 v3.toNat) * (w32 ((h 105 (h 83 v3.toNat).toNat) - (h 105 (h 84 v3.toNat).toNat))))))), I v2] h Q)))) ∧ (¬ (¬ (h 84 v3.toNat) = v1) → X d 181 77 [some (P 69), some (I v1), some (I v2), some (I v3), some (I (w32 ((h 106 v3.toNat) * (w32 ((h 105 (h 83 v3.toNat).toNat) - (h 105 (h 84 v3.toNat).toNat))))))] [I (w32 ((h 106 v3.toNat) * (w32 ((h 105 (h 83 v3.toNat).toNat) - (h 105 (h 84 v3.toNat).toNat))))), I v2] h Q)))))))))) : X d 181 4 [some (P 69), some (I v1), some (I v2), some (I v3), none] [] h Q :=
  s_iload_n c181_4 rfl (s_aload_n c181_5 rfl (s_getI c181_6 f181_219 t12_17 sh_69 (s_ifc 85 ((h 69 17) ≤ v3) c181_9 (by decide) rfl ⟨fun q1 => s_iconst c181_85 rfl (s_istore_n c181_86 rfl ((H.1 q1))), fun q1 => s_aload_n c181_12 rfl (s_getP 106 c181_13 f181_123 t12_63 sh_69 g_69_63 (by decide) (by decide) (s_iload_n c181_16 rfl (s_iald c181_17 sh_106 ⟨(H.2 q1).1, s_aload_n c181_18 rfl (s_getP 105 c181_19 f181_120 t12_54 sh_69 g_69_54 (by decide) (by decide) (s_aload_n c181_22 rfl (s_getP 83 c181_23 f181_49 t12_14 sh_69 g_69_14 (by decide) (by decide) (s_iload_n c181_26 rfl (s_iald c181_27 sh_83 ⟨(H.2 q1).2.1, s_iald c181_28 sh_105 ⟨(H.2 q1).2.2.1, s_aload_n c181_29 rfl (s_getP 105 c181_30 f181_120 t12_54 sh_69 g_69_54 (by decide) (by decide) (s_aload_n c181_33 rfl (s_getP 84 c181_34 f181_52 t12_15 sh_69 g_69_15 (by decide) (by decide) (s_iload_n c181_37 rfl (s_iald c181_38 sh_84 ⟨(H.2 q1).2.2.2.1, s_iald c181_39 sh_105 ⟨(H.2 q1).2.2.2.2.1, s_isub c181_40 (s_imul c181_41 (s_istore c181_42 rfl (s_iload_n c181_44 rfl (s_aload_n c181_45 rfl (s_getP 84 c181_46 f181_52 t12_15 sh_69 g_69_15 (by decide) (by decide) (s_iload_n c181_49 rfl (s_iald c181_50 sh_84 ⟨(H.2 q1).2.2.2.2.2.1, s_iload_n c181_51 rfl (s_ifc 60 (¬ (h 84 v3.toNat) = v1) c181_52 (by decide) rfl ⟨fun q2 => s_aload_n c181_60 rfl (s_getP 83 c181_61 f181_49 t12_14 sh_69 g_69_14 (by decide) (by decide) (s_iload_n c181_64 rfl (s_iald c181_65 sh_83 ⟨((H.2 q1).2.2.2.2.2.2.1 q2).1, s_iload_n c181_66 rfl (s_ifc 76 (¬ (h 83 v3.toNat) = v1) c181_67 (by decide) rfl ⟨fun q3 => s_iconst c181_76 rfl ((((H.2 q1).2.2.2.2.2.2.1 q2).2.1 q3)), fun q3 => s_iload c181_70 rfl (s_ineg c181_72 (s_goto 77 c181_73 (by decide) ((((H.2 q1).2.2.2.2.2.2.1 q2).2.2 q3))))⟩)⟩))), fun q2 => s_iload c181_55 rfl (s_goto 77 c181_57 (by decide) (((H.2 q1).2.2.2.2.2.2.2 q2)))⟩)⟩)))))))⟩⟩)))))⟩⟩)))))⟩)))⟩)))
theorem b181_77 {d : Nat} {h : HP} {Q : PV → HP → Prop} {v1 v2 v3 v4 s0 s1 : Int} (H : X d 181 4 [some (P 69), some (I v1), some (I (w32 (s0 + s1))), some (I (w32 (v3 + 1))), none] [] h Q) : X d 181 77 [some (P 69), some (I v1), some (I v2), some (I v3), some (I v4)] [I s1, I s0] h Q :=
  s_iadd c181_77 (s_istore_n c181_78 rfl (s_iinc c181_79 rfl rfl rfl (s_goto 4 c181_82 (by decide) (X_weak (A := [some (P 69), some (I v1), some (I (w32 (s0 + s1))), some (I (w32 (v3 + 1))), none]) (B := [some (P 69), some (I v1), some (I (w32 (s0 + s1))), some (I (w32 (v3 + 1))), some (I v4)]) ⟨Or.inl rfl, Or.inl rfl, Or.inl rfl, Or.inl rfl, Or.inr ⟨rfl, _, rfl, rfl⟩, trivial⟩ H))))
theorem b181_87 {d : Nat} {h : HP} {Q : PV → HP → Prop} {v1 v2 v3 : Int} (H : (((h 69 22) ≤ v3) → Q (I v2) h) ∧ (¬ ((h 69 22) ≤ v3) → ((0 ≤ v3 ∧ v3 < 8) ∧ ((0 ≤ v3 ∧ v3 < 8) ∧ ((0 ≤ (h 86 v3.toNat) ∧ (h 86 v3.toNat) < 8) ∧ ((0 ≤ v3 ∧ v3 < 8) ∧ ((0 ≤ (h 87 v3.toNat) ∧ (h 87 v3.toNat) < 8) ∧ ((0 ≤ v3 ∧ v3 < 8) ∧ (((¬ (h 107 v3.toNat) = 0) → X d 181 142 [some (P 69), some (I v1), some (I v2), some (I v3), some (I (w32 ((h 88 v3.toNat) * (w32 ((h 105 (h 86 v3.toNat).toNat) - (h 105 (h 87 v3.toNat).toNat))))))] [I v2] h Q) ∧ (¬ (¬ (h 107 v3.toNat) = 0) → (((0 ≤ (w32 ((h 88 v3.toNat) * (w32 ((h 105 (h 86 v3.toNat).toNat) - (h 105 (h 87 v3.toNat).toNat)))))) → ((0 ≤ v3 ∧ v3 < 8) ∧ (((¬ (h 87 v3.toNat) = v1) → ((0 ≤ v3 ∧ v3 < 8) ∧ (((¬ (h 86 v3.toNat) = v1) → X d 181 178 [some (P 69), some (I v1), some (I v2), some (I v3), some (I (w32 ((h 88 v3.toNat) * (w32 ((h 105 (h 86 v3.toNat).toNat) - (h 105 (h 87 v3.toNat).toNat))))))] [I 0, I v2] h Q) ∧ (¬ (¬ (h 86 v3.toNat) = v1) → X d 181 178 [some (P 69), some (I v1), some (I v2), some (I v3), some (I (w32 ((h 88 v3.toNat) * (w32 ((h 105 (h 86 v3.toNat).toNat) - (h 105 (h 87 v3.toNat).toNat))))))] [I (w32 (-(w32 ((h 88 v3.toNat) * (w32 ((h 105 (h 86 v3.toNat).toNat) - (h 105 (h 87 v3.toNat).toNat))))))), I v2] h Q)))) ∧ (¬ (¬ (h 87 v3.toNat) = v1) → X d 181 178 [some (P 69), some (I v1), some (I v2), some (I v3), some (I (w32 ((h 88 v3.toNat) * (w32 ((h 105 (h 86 v3.toNat).toNat) - (h 105 (h 87 v3.toNat).toNat))))))] [I (w32 ((h 88 v3.toNat) * (w32 ((h 105 (h 86 v3.toNat).toNat) - (h 105 (h 87 v3.toNat).toNat))))), I v2] h Q)))) ∧ (¬ (0 ≤ (w32 ((h 88 v3.toNat) * (w32 ((h 105 (h 86 v3.toNat).toNat) - (h 105 (h 87 v3.toNat).toNat)))))) → X d 181 142 [some (P 69), some (I v1), some (I v2), some (I v3), some (I (w32 ((h 88 v3.toNat) * (w32 ((h 105 (h 86 v3.toNat).toNat) - (h 105 (h 87 v3.toNat).toNat))))))] [I v2] h Q)))))))))))) : X d 181 87 [some (P 69), some (I v1), some (I v2), some (I v3), none] [] h Q :=
  s_iload_n c181_87 rfl (s_aload_n c181_88 rfl (s_getI c181_89 f181_226 t12_22 sh_69 (s_ifc 186 ((h 69 22) ≤ v3) c181_92 (by decide) rfl ⟨fun q4 => s_iload_n c181_186 rfl (s_retI c181_187 R181 (H.1 q4)), fun q4 => s_aload_n c181_95 rfl (s_getP 88 c181_96 f181_64 t12_20 sh_69 g_69_20 (by decide) (by decide) (s_iload_n c181_99 rfl (s_iald c181_100 sh_88 ⟨(H.2 q4).1, s_aload_n c181_101 rfl (s_getP 105 c181_102 f181_120 t12_54 sh_69 g_69_54 (by decide) (by decide) (s_aload_n c181_105 rfl (s_getP 86 c181_106 f181_58 t12_18 sh_69 g_69_18 (by decide) (by decide) (s_iload_n c181_109 rfl (s_iald c181_110 sh_86 ⟨(H.2 q4).2.1, s_iald c181_111 sh_105 ⟨(H.2 q4).2.2.1, s_aload_n c181_112 rfl (s_getP 105 c181_113 f181_120 t12_54 sh_69 g_69_54 (by decide) (by decide) (s_aload_n c181_116 rfl (s_getP 87 c181_117 f181_61 t12_19 sh_69 g_69_19 (by decide) (by decide) (s_iload_n c181_120 rfl (s_iald c181_121 sh_87 ⟨(H.2 q4).2.2.2.1, s_iald c181_122 sh_105 ⟨(H.2 q4).2.2.2.2.1, s_isub c181_123 (s_imul c181_124 (s_istore c181_125 rfl (s_iload_n c181_127 rfl (s_aload_n c181_128 rfl (s_getP 107 c181_129 f181_126 t12_64 sh_69 g_69_64 (by decide) (by decide) (s_iload_n c181_132 rfl (s_bald c181_133 sh_107 ⟨(H.2 q4).2.2.2.2.2.1, s_if 142 (¬ (h 107 v3.toNat) = 0) c181_134 (by decide) rfl ⟨fun q5 => ((H.2 q4).2.2.2.2.2.2.1 q5), fun q5 => s_iload c181_137 rfl (s_if 146 (0 ≤ (w32 ((h 88 v3.toNat) * (w32 ((h 105 (h 86 v3.toNat).toNat) - (h 105 (h 87 v3.toNat).toNat)))))) c181_139 (by decide) rfl ⟨fun q6 => s_aload_n c181_146 rfl (s_getP 87 c181_147 f181_61 t12_19 sh_69 g_69_19 (by decide) (by decide) (s_iload_n c181_150 rfl (s_iald c181_151 sh_87 ⟨(((H.2 q4).2.2.2.2.2.2.2 q5).1 q6).1, s_iload_n c181_152 rfl (s_ifc 161 (¬ (h 87 v3.toNat) = v1) c181_153 (by decide) rfl ⟨fun q7 => s_aload_n c181_161 rfl (s_getP 86 c181_162 f181_58 t12_18 sh_69 g_69_18 (by decide) (by decide) (s_iload_n c181_165 rfl (s_iald c181_166 sh_86 ⟨((((H.2 q4).2.2.2.2.2.2.2 q5).1 q6).2.1 q7).1, s_iload_n c181_167 rfl (s_ifc 177 (¬ (h 86 v3.toNat) = v1) c181_168 (by decide) rfl ⟨fun q8 => s_iconst c181_177 rfl ((((((H.2 q4).2.2.2.2.2.2.2 q5).1 q6).2.1 q7).2.1 q8)), fun q8 => s_iload c181_171 rfl (s_ineg c181_173 (s_goto 178 c181_174 (by decide) ((((((H.2 q4).2.2.2.2.2.2.2 q5).1 q6).2.1 q7).2.2 q8))))⟩)⟩))), fun q7 => s_iload c181_156 rfl (s_goto 178 c181_158 (by decide) (((((H.2 q4).2.2.2.2.2.2.2 q5).1 q6).2.2 q7)))⟩)⟩))), fun q6 => (((H.2 q4).2.2.2.2.2.2.2 q5).2 q6)⟩)⟩⟩)))))))⟩⟩)))))⟩⟩)))))⟩)))⟩)))
-- WarmSideModel.tick()V
theorem c182_0 : cdA 182 0 = some (.aload_n 0) := by decide +kernel
theorem c182_1 : cdA 182 1 = some (.getfield 319) := by decide +kernel
theorem f182_319 : fldR (moN 182) 319 = some (12, 32) := by decide +kernel
theorem t12_32 : fcl 12 32 = 0 := by decide +kernel
theorem c182_4 : cdA 182 4 = some (.bipush 12) := by decide +kernel
theorem c182_6 : cdA 182 6 = some (.irem) := by decide +kernel
theorem c182_7 : cdA 182 7 = some (.istore_n 1) := by decide +kernel
theorem c182_8 : cdA 182 8 = some (.iconst 0) := by decide +kernel
theorem c182_9 : cdA 182 9 = some (.istore_n 2) := by decide +kernel
theorem c182_10 : cdA 182 10 = some (.iload_n 2) := by decide +kernel
theorem c182_11 : cdA 182 11 = some (.aload_n 0) := by decide +kernel
theorem c182_12 : cdA 182 12 = some (.getfield 180) := by decide +kernel
theorem f182_180 : fldR (moN 182) 180 = some (12, 9) := by decide +kernel
theorem c182_15 : cdA 182 15 = some (.if_icmp .ge 20) := by decide +kernel
theorem c182_35 : cdA 182 35 = some (.aload_n 0) := by decide +kernel
theorem c182_36 : cdA 182 36 = some (.aload_n 0) := by decide +kernel
theorem c182_37 : cdA 182 37 = some (.getfield 46) := by decide +kernel
theorem f182_46 : fldR (moN 182) 46 = some (12, 13) := by decide +kernel
theorem c182_40 : cdA 182 40 = some (.iload_n 1) := by decide +kernel
theorem c182_41 : cdA 182 41 = some (.iaload) := by decide +kernel
theorem c182_42 : cdA 182 42 = some (.putfield 283) := by decide +kernel
theorem f182_283 : fldR (moN 182) 283 = some (12, 55) := by decide +kernel
theorem n12_55 : ffin 12 55 = false := by decide +kernel
theorem c182_45 : cdA 182 45 = some (.aload_n 0) := by decide +kernel
theorem c182_46 : cdA 182 46 = some (.iload_n 1) := by decide +kernel
theorem c182_47 : cdA 182 47 = some (.putfield 286) := by decide +kernel
theorem f182_286 : fldR (moN 182) 286 = some (12, 56) := by decide +kernel
theorem n12_56 : ffin 12 56 = false := by decide +kernel
theorem c182_50 : cdA 182 50 = some (.iconst 0) := by decide +kernel
theorem c182_51 : cdA 182 51 = some (.istore_n 2) := by decide +kernel
theorem c182_18 : cdA 182 18 = some (.aload_n 0) := by decide +kernel
theorem c182_19 : cdA 182 19 = some (.getfield 120) := by decide +kernel
theorem f182_120 : fldR (moN 182) 120 = some (12, 54) := by decide +kernel
theorem c182_22 : cdA 182 22 = some (.iload_n 2) := by decide +kernel
theorem c182_23 : cdA 182 23 = some (.aload_n 0) := by decide +kernel
theorem c182_24 : cdA 182 24 = some (.iload_n 2) := by decide +kernel
theorem c182_25 : cdA 182 25 = some (.invokevirtual 322) := by decide +kernel
theorem m182_322 : mthR (moN 182) 322 = 178 := by decide +kernel
theorem F175 : mF 175 1 3 true := by unfold mF; decide +kernel
theorem K175 : ¬ mK 175 = 4 := by decide +kernel
theorem S175_69 : SH0[69]? = some (.inl (moN 175)) := by decide +kernel
theorem c182_109 : cdA 182 109 = some (.iastore) := by decide +kernel
theorem c182_110 : cdA 182 110 = some (.iinc 2 1) := by decide +kernel
theorem c182_113 : cdA 182 113 = some (.goto (-61)) := by decide +kernel
theorem c182_118 : cdA 182 118 = some (.iload_n 2) := by decide +kernel
theorem c182_119 : cdA 182 119 = some (.aload_n 0) := by decide +kernel
theorem c182_120 : cdA 182 120 = some (.getfield 180) := by decide +kernel
theorem c182_123 : cdA 182 123 = some (.if_icmp .ge 87) := by decide +kernel
theorem c182_210 : cdA 182 210 = some (.aload_n 0) := by decide +kernel
theorem c182_211 : cdA 182 211 = some (.iload_n 1) := by decide +kernel
theorem c182_212 : cdA 182 212 = some (.invokevirtual 328) := by decide +kernel
theorem m182_328 : mthR (moN 182) 328 = 180 := by decide +kernel
theorem F177 : mF 177 1 3 true := by unfold mF; decide +kernel
theorem K177 : mK 177 = 4 := by decide +kernel
theorem S177_69 : SH0[69]? = some (.inl (moN 177)) := by decide +kernel
theorem c182_126 : cdA 182 126 = some (.aload_n 0) := by decide +kernel
theorem c182_127 : cdA 182 127 = some (.getfield 25) := by decide +kernel
theorem f182_25 : fldR (moN 182) 25 = some (12, 5) := by decide +kernel
theorem c182_130 : cdA 182 130 = some (.iload_n 2) := by decide +kernel
theorem c182_131 : cdA 182 131 = some (.iaload) := by decide +kernel
theorem c182_132 : cdA 182 132 = some (.iconst 0) := by decide +kernel
theorem c182_133 : cdA 182 133 = some (.iconst 2) := by decide +kernel
theorem c182_134 : cdA 182 134 = some (.invokestatic 183) := by decide +kernel
theorem m182_183 : mthR (moN 182) 183 = 137 := by decide +kernel
theorem c182_137 : cdA 182 137 = some (.ifCond .eq 24) := by decide +kernel
theorem c182_140 : cdA 182 140 = some (.aload_n 0) := by decide +kernel
theorem c182_141 : cdA 182 141 = some (.getfield 117) := by decide +kernel
theorem f182_117 : fldR (moN 182) 117 = some (12, 48) := by decide +kernel
theorem c182_144 : cdA 182 144 = some (.iconst 4) := by decide +kernel
theorem c182_145 : cdA 182 145 = some (.iload_n 2) := by decide +kernel
theorem c182_146 : cdA 182 146 = some (.iadd) := by decide +kernel
theorem c182_147 : cdA 182 147 = some (.iaload) := by decide +kernel
theorem c182_148 : cdA 182 148 = some (.ifCond .lt 13) := by decide +kernel
theorem c182_151 : cdA 182 151 = some (.aload_n 0) := by decide +kernel
theorem c182_152 : cdA 182 152 = some (.iconst 4) := by decide +kernel
theorem c182_153 : cdA 182 153 = some (.iload_n 2) := by decide +kernel
theorem c182_154 : cdA 182 154 = some (.iadd) := by decide +kernel
theorem c182_155 : cdA 182 155 = some (.invokevirtual 325) := by decide +kernel
theorem m182_325 : mthR (moN 182) 325 = 176 := by decide +kernel
theorem F173 : mF 173 1 2 true := by unfold mF; decide +kernel
theorem K173 : ¬ mK 173 = 4 := by decide +kernel
theorem S173_69 : SH0[69]? = some (.inl (moN 173)) := by decide +kernel
theorem c182_158 : cdA 182 158 = some (.goto 5) := by decide +kernel
theorem c182_161 : cdA 182 161 = some (.bipush (-9)) := by decide +kernel
theorem c182_163 : cdA 182 163 = some (.istore_n 3) := by decide +kernel
theorem c182_164 : cdA 182 164 = some (.aload_n 0) := by decide +kernel
theorem c182_165 : cdA 182 165 = some (.getfield 25) := by decide +kernel
theorem c182_168 : cdA 182 168 = some (.iload_n 2) := by decide +kernel
theorem c182_169 : cdA 182 169 = some (.iload_n 3) := by decide +kernel
theorem c182_170 : cdA 182 170 = some (.ifCond .lt 7) := by decide +kernel
theorem c182_177 : cdA 182 177 = some (.aload_n 0) := by decide +kernel
theorem c182_178 : cdA 182 178 = some (.getfield 25) := by decide +kernel
theorem c182_181 : cdA 182 181 = some (.iload_n 2) := by decide +kernel
theorem c182_182 : cdA 182 182 = some (.iaload) := by decide +kernel
theorem c182_173 : cdA 182 173 = some (.iload_n 3) := by decide +kernel
theorem c182_174 : cdA 182 174 = some (.goto 9) := by decide +kernel
theorem c182_183 : cdA 182 183 = some (.iastore) := by decide +kernel
theorem c182_184 : cdA 182 184 = some (.aload_n 0) := by decide +kernel
theorem c182_185 : cdA 182 185 = some (.getfield 28) := by decide +kernel
theorem f182_28 : fldR (moN 182) 28 = some (12, 6) := by decide +kernel
theorem c182_188 : cdA 182 188 = some (.iload_n 2) := by decide +kernel
theorem c182_189 : cdA 182 189 = some (.iload_n 3) := by decide +kernel
theorem c182_190 : cdA 182 190 = some (.ifCond .lt 7) := by decide +kernel
theorem c182_197 : cdA 182 197 = some (.aload_n 0) := by decide +kernel
theorem c182_198 : cdA 182 198 = some (.getfield 28) := by decide +kernel
theorem c182_201 : cdA 182 201 = some (.iload_n 2) := by decide +kernel
theorem c182_202 : cdA 182 202 = some (.iaload) := by decide +kernel
theorem c182_193 : cdA 182 193 = some (.iload_n 3) := by decide +kernel
theorem c182_194 : cdA 182 194 = some (.goto 9) := by decide +kernel
theorem c182_203 : cdA 182 203 = some (.iastore) := by decide +kernel
theorem c182_204 : cdA 182 204 = some (.iinc 2 1) := by decide +kernel
theorem c182_207 : cdA 182 207 = some (.goto (-89)) := by decide +kernel
theorem c182_215 : cdA 182 215 = some (.aload_n 0) := by decide +kernel
theorem c182_216 : cdA 182 216 = some (.getfield 144) := by decide +kernel
theorem f182_144 : fldR (moN 182) 144 = some (12, 70) := by decide +kernel
theorem t12_70 : fcl 12 70 = 0 := by decide +kernel
theorem c182_219 : cdA 182 219 = some (.ifCond .lt 29) := by decide +kernel
theorem c182_222 : cdA 182 222 = some (.aload_n 0) := by decide +kernel
theorem c182_223 : cdA 182 223 = some (.getfield 129) := by decide +kernel
theorem f182_129 : fldR (moN 182) 129 = some (12, 65) := by decide +kernel
theorem c182_226 : cdA 182 226 = some (.aload_n 0) := by decide +kernel
theorem c182_227 : cdA 182 227 = some (.getfield 144) := by decide +kernel
theorem c182_230 : cdA 182 230 = some (.aload_n 0) := by decide +kernel
theorem c182_231 : cdA 182 231 = some (.getfield 332) := by decide +kernel
theorem f182_332 : fldR (moN 182) 332 = some (12, 71) := by decide +kernel
theorem t12_71 : fcl 12 71 = 0 := by decide +kernel
theorem c182_234 : cdA 182 234 = some (.iload_n 1) := by decide +kernel
theorem c182_235 : cdA 182 235 = some (.ishr) := by decide +kernel
theorem c182_236 : cdA 182 236 = some (.iconst 1) := by decide +kernel
theorem c182_237 : cdA 182 237 = some (.iand) := by decide +kernel
theorem c182_238 : cdA 182 238 = some (.iconst 1) := by decide +kernel
theorem c182_239 : cdA 182 239 = some (.if_icmp .ne 7) := by decide +kernel
theorem c182_246 : cdA 182 246 = some (.iconst 0) := by decide +kernel
theorem c182_242 : cdA 182 242 = some (.iconst 1) := by decide +kernel
theorem c182_243 : cdA 182 243 = some (.goto 4) := by decide +kernel
theorem c182_247 : cdA 182 247 = some (.bastore) := by decide +kernel
theorem c182_248 : cdA 182 248 = some (.iconst 0) := by decide +kernel
theorem c182_249 : cdA 182 249 = some (.istore_n 2) := by decide +kernel
theorem c182_250 : cdA 182 250 = some (.iload_n 2) := by decide +kernel
theorem c182_251 : cdA 182 251 = some (.aload_n 0) := by decide +kernel
theorem c182_252 : cdA 182 252 = some (.getfield 180) := by decide +kernel
theorem c182_255 : cdA 182 255 = some (.if_icmp .ge 124) := by decide +kernel
theorem c182_379 : cdA 182 379 = some (.iconst 0) := by decide +kernel
theorem c182_380 : cdA 182 380 = some (.istore_n 2) := by decide +kernel
theorem c182_258 : cdA 182 258 = some (.aload_n 0) := by decide +kernel
theorem c182_259 : cdA 182 259 = some (.iload_n 2) := by decide +kernel
theorem c182_260 : cdA 182 260 = some (.invokevirtual 335) := by decide +kernel
theorem m182_335 : mthR (moN 182) 335 = 181 := by decide +kernel
theorem F178 : mF 178 1 2 true := by unfold mF; decide +kernel
theorem K178 : ¬ mK 178 = 4 := by decide +kernel
theorem S178_69 : SH0[69]? = some (.inl (moN 178)) := by decide +kernel
theorem c182_263 : cdA 182 263 = some (.istore_n 3) := by decide +kernel
theorem c182_264 : cdA 182 264 = some (.aload_n 0) := by decide +kernel
theorem c182_265 : cdA 182 265 = some (.iload_n 2) := by decide +kernel
theorem c182_266 : cdA 182 266 = some (.invokevirtual 338) := by decide +kernel
theorem m182_338 : mthR (moN 182) 338 = 182 := by decide +kernel
theorem F179 : mF 179 1 4 true := by unfold mF; decide +kernel
theorem K179 : ¬ mK 179 = 4 := by decide +kernel
theorem S179_69 : SH0[69]? = some (.inl (moN 179)) := by decide +kernel
theorem c182_269 : cdA 182 269 = some (.istore 4) := by decide +kernel
theorem c182_271 : cdA 182 271 = some (.aload_n 0) := by decide +kernel
theorem c182_272 : cdA 182 272 = some (.iload_n 2) := by decide +kernel
theorem c182_273 : cdA 182 273 = some (.invokevirtual 341) := by decide +kernel
theorem m182_341 : mthR (moN 182) 341 = 183 := by decide +kernel
theorem F180 : mF 180 1 4 true := by unfold mF; decide +kernel
theorem K180 : ¬ mK 180 = 4 := by decide +kernel
theorem S180_69 : SH0[69]? = some (.inl (moN 180)) := by decide +kernel
theorem c182_276 : cdA 182 276 = some (.istore 5) := by decide +kernel
theorem c182_278 : cdA 182 278 = some (.aload_n 0) := by decide +kernel
theorem c182_279 : cdA 182 279 = some (.dup) := by decide +kernel
theorem c182_280 : cdA 182 280 = some (.getfield 344) := by decide +kernel
theorem f182_344 : fldR (moN 182) 344 = some (12, 33) := by decide +kernel
theorem t12_33 : fcl 12 33 = 1 := by decide +kernel
theorem c182_283 : cdA 182 283 = some (.iload_n 3) := by decide +kernel
theorem c182_284 : cdA 182 284 = some (.i2l) := by decide +kernel
theorem c182_285 : cdA 182 285 = some (.ladd) := by decide +kernel
theorem c182_286 : cdA 182 286 = some (.putfield 344) := by decide +kernel
theorem n12_33 : ffin 12 33 = false := by decide +kernel
theorem c182_289 : cdA 182 289 = some (.aload_n 0) := by decide +kernel
theorem c182_290 : cdA 182 290 = some (.dup) := by decide +kernel
theorem c182_291 : cdA 182 291 = some (.getfield 348) := by decide +kernel
theorem f182_348 : fldR (moN 182) 348 = some (12, 34) := by decide +kernel
theorem t12_34 : fcl 12 34 = 1 := by decide +kernel
theorem c182_294 : cdA 182 294 = some (.iload 4) := by decide +kernel
theorem c182_296 : cdA 182 296 = some (.i2l) := by decide +kernel
theorem c182_297 : cdA 182 297 = some (.ladd) := by decide +kernel
theorem c182_298 : cdA 182 298 = some (.putfield 348) := by decide +kernel
theorem n12_34 : ffin 12 34 = false := by decide +kernel
theorem c182_301 : cdA 182 301 = some (.aload_n 0) := by decide +kernel
theorem c182_302 : cdA 182 302 = some (.getfield 141) := by decide +kernel
theorem f182_141 : fldR (moN 182) 141 = some (12, 69) := by decide +kernel
theorem t12_69 : fcl 12 69 = 2 := by decide +kernel
theorem c182_305 : cdA 182 305 = some (.iload_n 2) := by decide +kernel
theorem c182_306 : cdA 182 306 = some (.iload_n 3) := by decide +kernel
theorem c182_307 : cdA 182 307 = some (.iload 4) := by decide +kernel
theorem c182_309 : cdA 182 309 = some (.iadd) := by decide +kernel
theorem c182_310 : cdA 182 310 = some (.iload 5) := by decide +kernel
theorem c182_312 : cdA 182 312 = some (.isub) := by decide +kernel
theorem c182_313 : cdA 182 313 = some (.aload_n 0) := by decide +kernel
theorem c182_314 : cdA 182 314 = some (.iload_n 2) := by decide +kernel
theorem c182_315 : cdA 182 315 = some (.invokevirtual 351) := by decide +kernel
theorem m182_351 : mthR (moN 182) 351 = 184 := by decide +kernel
theorem F181 : mF 181 1 5 true := by unfold mF; decide +kernel
theorem K181 : ¬ mK 181 = 4 := by decide +kernel
theorem S181_69 : SH0[69]? = some (.inl (moN 181)) := by decide +kernel
theorem c182_28 : cdA 182 28 = some (.iastore) := by decide +kernel
theorem c182_29 : cdA 182 29 = some (.iinc 2 1) := by decide +kernel
theorem c182_32 : cdA 182 32 = some (.goto (-22)) := by decide +kernel
theorem c182_318 : cdA 182 318 = some (.iadd) := by decide +kernel
theorem c182_319 : cdA 182 319 = some (.iastore) := by decide +kernel
theorem c182_320 : cdA 182 320 = some (.aload_n 0) := by decide +kernel
theorem c182_321 : cdA 182 321 = some (.getfield 19) := by decide +kernel
theorem f182_19 : fldR (moN 182) 19 = some (12, 3) := by decide +kernel
theorem c182_324 : cdA 182 324 = some (.iload_n 2) := by decide +kernel
theorem c182_325 : cdA 182 325 = some (.iaload) := by decide +kernel
theorem c182_326 : cdA 182 326 = some (.aload_n 0) := by decide +kernel
theorem c182_327 : cdA 182 327 = some (.getfield 141) := by decide +kernel
theorem c182_330 : cdA 182 330 = some (.iload_n 2) := by decide +kernel
theorem c182_331 : cdA 182 331 = some (.iaload) := by decide +kernel
theorem c182_332 : cdA 182 332 = some (.iadd) := by decide +kernel
theorem c182_333 : cdA 182 333 = some (.ineg) := by decide +kernel
theorem c182_334 : cdA 182 334 = some (.istore 6) := by decide +kernel
theorem c182_336 : cdA 182 336 = some (.aload_n 0) := by decide +kernel
theorem c182_337 : cdA 182 337 = some (.dup) := by decide +kernel
theorem c182_338 : cdA 182 338 = some (.getfield 354) := by decide +kernel
theorem f182_354 : fldR (moN 182) 354 = some (12, 35) := by decide +kernel
theorem t12_35 : fcl 12 35 = 1 := by decide +kernel
theorem c182_341 : cdA 182 341 = some (.iload 6) := by decide +kernel
theorem c182_343 : cdA 182 343 = some (.ifCond .gt 9) := by decide +kernel
theorem c182_352 : cdA 182 352 = some (.iload 5) := by decide +kernel
theorem c182_354 : cdA 182 354 = some (.iload 6) := by decide +kernel
theorem c182_356 : cdA 182 356 = some (.if_icmp .le 12) := by decide +kernel
theorem c182_368 : cdA 182 368 = some (.lconst 0) := by decide +kernel
theorem c182_359 : cdA 182 359 = some (.iload 5) := by decide +kernel
theorem c182_361 : cdA 182 361 = some (.iload 6) := by decide +kernel
theorem c182_363 : cdA 182 363 = some (.isub) := by decide +kernel
theorem c182_364 : cdA 182 364 = some (.i2l) := by decide +kernel
theorem c182_365 : cdA 182 365 = some (.goto 4) := by decide +kernel
theorem c182_346 : cdA 182 346 = some (.iload 5) := by decide +kernel
theorem c182_348 : cdA 182 348 = some (.i2l) := by decide +kernel
theorem c182_349 : cdA 182 349 = some (.goto 20) := by decide +kernel
theorem c182_369 : cdA 182 369 = some (.ladd) := by decide +kernel
theorem c182_370 : cdA 182 370 = some (.putfield 354) := by decide +kernel
theorem n12_35 : ffin 12 35 = false := by decide +kernel
theorem c182_373 : cdA 182 373 = some (.iinc 2 1) := by decide +kernel
theorem c182_376 : cdA 182 376 = some (.goto (-126)) := by decide +kernel
theorem c182_381 : cdA 182 381 = some (.iload_n 2) := by decide +kernel
theorem c182_382 : cdA 182 382 = some (.aload_n 0) := by decide +kernel
theorem c182_383 : cdA 182 383 = some (.getfield 180) := by decide +kernel
theorem c182_386 : cdA 182 386 = some (.if_icmp .ge 48) := by decide +kernel
theorem c182_434 : cdA 182 434 = some (.aload_n 0) := by decide +kernel
theorem c182_435 : cdA 182 435 = some (.dup) := by decide +kernel
theorem c182_436 : cdA 182 436 = some (.getfield 319) := by decide +kernel
theorem c182_439 : cdA 182 439 = some (.iconst 1) := by decide +kernel
theorem c182_440 : cdA 182 440 = some (.iadd) := by decide +kernel
theorem c182_441 : cdA 182 441 = some (.putfield 319) := by decide +kernel
theorem n12_32 : ffin 12 32 = false := by decide +kernel
theorem c182_444 : cdA 182 444 = some (.return_) := by decide +kernel
theorem R182 : mK 182 = 4 := by decide +kernel
theorem c182_389 : cdA 182 389 = some (.aload_n 0) := by decide +kernel
theorem c182_390 : cdA 182 390 = some (.getfield 19) := by decide +kernel
theorem c182_393 : cdA 182 393 = some (.iload_n 2) := by decide +kernel
theorem c182_394 : cdA 182 394 = some (.aload_n 0) := by decide +kernel
theorem c182_395 : cdA 182 395 = some (.getfield 19) := by decide +kernel
theorem c182_398 : cdA 182 398 = some (.iload_n 2) := by decide +kernel
theorem c182_399 : cdA 182 399 = some (.iaload) := by decide +kernel
theorem c182_400 : cdA 182 400 = some (.aload_n 0) := by decide +kernel
theorem c182_401 : cdA 182 401 = some (.getfield 141) := by decide +kernel
theorem c182_404 : cdA 182 404 = some (.iload_n 2) := by decide +kernel
theorem c182_405 : cdA 182 405 = some (.iaload) := by decide +kernel
theorem c182_406 : cdA 182 406 = some (.iadd) := by decide +kernel
theorem c182_407 : cdA 182 407 = some (.ifCond .ge 7) := by decide +kernel
theorem c182_414 : cdA 182 414 = some (.aload_n 0) := by decide +kernel
theorem c182_415 : cdA 182 415 = some (.getfield 19) := by decide +kernel
theorem c182_418 : cdA 182 418 = some (.iload_n 2) := by decide +kernel
theorem c182_419 : cdA 182 419 = some (.iaload) := by decide +kernel
theorem c182_420 : cdA 182 420 = some (.aload_n 0) := by decide +kernel
theorem c182_421 : cdA 182 421 = some (.getfield 141) := by decide +kernel
theorem c182_424 : cdA 182 424 = some (.iload_n 2) := by decide +kernel
theorem c182_425 : cdA 182 425 = some (.iaload) := by decide +kernel
theorem c182_426 : cdA 182 426 = some (.iadd) := by decide +kernel
theorem c182_410 : cdA 182 410 = some (.iconst 0) := by decide +kernel
theorem c182_411 : cdA 182 411 = some (.goto 16) := by decide +kernel
theorem c182_427 : cdA 182 427 = some (.iastore) := by decide +kernel
theorem c182_428 : cdA 182 428 = some (.iinc 2 1) := by decide +kernel
theorem c182_431 : cdA 182 431 = some (.goto (-50)) := by decide +kernel
theorem c182_52 : cdA 182 52 = some (.iload_n 2) := by decide +kernel
theorem c182_53 : cdA 182 53 = some (.aload_n 0) := by decide +kernel
theorem c182_54 : cdA 182 54 = some (.getfield 232) := by decide +kernel
theorem f182_232 : fldR (moN 182) 232 = some (12, 30) := by decide +kernel
theorem c182_57 : cdA 182 57 = some (.if_icmp .ge 59) := by decide +kernel
theorem c182_116 : cdA 182 116 = some (.iconst 0) := by decide +kernel
theorem c182_117 : cdA 182 117 = some (.istore_n 2) := by decide +kernel
theorem c182_60 : cdA 182 60 = some (.aload_n 0) := by decide +kernel
theorem c182_61 : cdA 182 61 = some (.getfield 86) := by decide +kernel
theorem f182_86 : fldR (moN 182) 86 = some (12, 29) := by decide +kernel
theorem c182_64 : cdA 182 64 = some (.iload_n 2) := by decide +kernel
theorem c182_65 : cdA 182 65 = some (.iaload) := by decide +kernel
theorem c182_66 : cdA 182 66 = some (.iconst 2) := by decide +kernel
theorem c182_67 : cdA 182 67 = some (.if_icmp .ge 20) := by decide +kernel
theorem c182_70 : cdA 182 70 = some (.aload_n 0) := by decide +kernel
theorem c182_71 : cdA 182 71 = some (.getfield 117) := by decide +kernel
theorem c182_74 : cdA 182 74 = some (.iload_n 2) := by decide +kernel
theorem c182_75 : cdA 182 75 = some (.iaload) := by decide +kernel
theorem c182_76 : cdA 182 76 = some (.ifCond .lt 11) := by decide +kernel
theorem c182_79 : cdA 182 79 = some (.aload_n 0) := by decide +kernel
theorem c182_80 : cdA 182 80 = some (.iload_n 2) := by decide +kernel
theorem c182_81 : cdA 182 81 = some (.invokevirtual 325) := by decide +kernel
theorem c182_84 : cdA 182 84 = some (.goto 5) := by decide +kernel
theorem c182_87 : cdA 182 87 = some (.bipush (-9)) := by decide +kernel
theorem c182_89 : cdA 182 89 = some (.istore_n 3) := by decide +kernel
theorem c182_90 : cdA 182 90 = some (.aload_n 0) := by decide +kernel
theorem c182_91 : cdA 182 91 = some (.getfield 86) := by decide +kernel
theorem c182_94 : cdA 182 94 = some (.iload_n 2) := by decide +kernel
theorem c182_95 : cdA 182 95 = some (.iload_n 3) := by decide +kernel
theorem c182_96 : cdA 182 96 = some (.ifCond .lt 7) := by decide +kernel
theorem c182_103 : cdA 182 103 = some (.aload_n 0) := by decide +kernel
theorem c182_104 : cdA 182 104 = some (.getfield 86) := by decide +kernel
theorem c182_107 : cdA 182 107 = some (.iload_n 2) := by decide +kernel
theorem c182_108 : cdA 182 108 = some (.iaload) := by decide +kernel
theorem c182_99 : cdA 182 99 = some (.iload_n 3) := by decide +kernel
theorem c182_100 : cdA 182 100 = some (.goto 9) := by decide +kernel
theorem b182_0 {d : Nat} {h : HP} {Q : PV → HP → Prop} (H : X d 182 10 [some (P 69), some (I (Int.tmod (h 69 32) 12)), some (I 0), none, none, none, none] [] h Q) : X d 182 0 [some (P 69), none, none, none, none, none, none] [] h Q :=
  s_aload_n c182_0 rfl (s_getI c182_1 f182_319 t12_32 sh_69 (s_bipush c182_4 ⟨by decide, by decide⟩ (s_irem c182_6 (by decide) (s_istore_n c182_7 rfl (s_iconst c182_8 rfl (s_istore_n c182_9 rfl (H)))))))
theorem b182_10 {d : Nat} {h : HP} {Q : PV → HP → Prop} {v1 v2 : Int} (H : (((h 69 9) ≤ v2) → ((0 ≤ v1 ∧ v1 < 12) ∧ X (d + 1) 182 52 [some (P 69), some (I v1), some (I 0), none, none, none, none] [] (up2 (up2 h 69 55 (h 82 v1.toNat)) 69 56 v1) Q)) ∧ (¬ ((h 69 9) ≤ v2) → X d 175 0 [some (P 69), some (I v2), none] [] h (fun r h' => X (d + 1) 182 28 [some (P 69), some (I v1), some (I v2), none, none, none, none] [r, I v2, P 105] h' Q))) : X (d + 1) 182 10 [some (P 69), some (I v1), some (I v2), none, none, none, none] [] h Q :=
  s_iload_n c182_10 rfl (s_aload_n c182_11 rfl (s_getI c182_12 f182_180 t12_9 sh_69 (s_ifc 35 ((h 69 9) ≤ v2) c182_15 (by decide) rfl ⟨fun q1 => s_aload_n c182_35 rfl (s_aload_n c182_36 rfl (s_getP 82 c182_37 f182_46 t12_13 sh_69 g_69_13 (by decide) (by decide) (s_iload_n c182_40 rfl (s_iald c182_41 sh_82 ⟨(H.1 q1).1, s_putI c182_42 f182_283 t12_55 n12_55 sh_69 (s_aload_n c182_45 rfl (s_iload_n c182_46 rfl (s_putI c182_47 f182_286 t12_56 n12_56 sh_69 (s_iconst c182_50 rfl (s_istore_n c182_51 rfl ((H.1 q1).2))))))⟩)))), fun q1 => s_aload_n c182_18 rfl (s_getP 105 c182_19 f182_120 t12_54 sh_69 g_69_54 (by decide) (by decide) (s_iload_n c182_22 rfl (s_aload_n c182_23 rfl (s_iload_n c182_24 rfl (s_cVi c182_25 m182_322 F175 K175 rfl (Nat.le_of_ble_eq_true rfl) rfl S175_69 rfl (H.2 q1))))))⟩)))
theorem b182_109 {d : Nat} {h : HP} {Q : PV → HP → Prop} {v1 v2 v3 s1 s2 : Int} (H : (0 ≤ s1 ∧ s1 < 4) ∧ X d 182 52 [some (P 69), some (I v1), some (I (w32 (v2 + 1))), none, none, none, none] [] (up2 h 95 s1.toNat s2) Q) : X d 182 109 [some (P 69), some (I v1), some (I v2), some (I v3), none, none, none] [I s2, I s1, P 95] h Q :=
  s_iast c182_109 sh_95 ⟨H.1, s_iinc c182_110 rfl rfl rfl (s_goto 52 c182_113 (by decide) (X_weak (A := [some (P 69), some (I v1), some (I (w32 (v2 + 1))), none, none, none, none]) (B := [some (P 69), some (I v1), some (I (w32 (v2 + 1))), some (I v3), none, none, none]) ⟨Or.inl rfl, Or.inl rfl, Or.inl rfl, Or.inr ⟨rfl, _, rfl, rfl⟩, Or.inl rfl, Or.inl rfl, Or.inl rfl, trivial⟩ H.2))⟩
theorem b182_118 {d : Nat} {h : HP} {Q : PV → HP → Prop} {v1 v2 : Int} (H : (((h 69 9) ≤ v2) → X d 177 0 [some (P 69), some (I v1), none] [] h (fun _ h' => X (d + 1) 182 215 [some (P 69), some (I v1), some (I v2), none, none, none, none] [] h' Q)) ∧ (¬ ((h 69 9) ≤ v2) → ((0 ≤ v2 ∧ v2 < 8) ∧ X d 134 0 [some (I (h 75 v2.toNat)), some (I 0), some (I 2)] [] h (fun r h' => X (d + 1) 182 137 [some (P 69), some (I v1), some (I v2), none, none, none, none] [r] h' Q)))) : X (d + 1) 182 118 [some (P 69), some (I v1), some (I v2), none, none, none, none] [] h Q :=
  s_iload_n c182_118 rfl (s_aload_n c182_119 rfl (s_getI c182_120 f182_180 t12_9 sh_69 (s_ifc 210 ((h 69 9) ≤ v2) c182_123 (by decide) rfl ⟨fun q2 => s_aload_n c182_210 rfl (s_iload_n c182_211 rfl (s_cVv c182_212 m182_328 F177 K177 rfl (Nat.le_of_ble_eq_true rfl) rfl S177_69 rfl (H.1 q2))), fun q2 => s_aload_n c182_126 rfl (s_getP 75 c182_127 f182_25 t12_5 sh_69 g_69_5 (by decide) (by decide) (s_iload_n c182_130 rfl (s_iald c182_131 sh_75 ⟨(H.2 q2).1, s_iconst c182_132 rfl (s_iconst c182_133 rfl (s_cSi c182_134 m182_183 F134 K134 rfl (Nat.le_of_ble_eq_true rfl) rfl rfl (H.2 q2).2))⟩)))⟩)))
theorem b182_137 {d : Nat} {h : HP} {Q : PV → HP → Prop} {v1 v2 s0 : Int} (H : ((s0 = 0) → X (d + 1) 182 161 [some (P 69), some (I v1), some (I v2), none, none, none, none] [] h Q) ∧ (¬ (s0 = 0) → ((0 ≤ (w32 (4 + v2)) ∧ (w32 (4 + v2)) < 12) ∧ ((((h 104 (w32 (4 + v2)).toNat) < 0) → X (d + 1) 182 161 [some (P 69), some (I v1), some (I v2), none, none, none, none] [] h Q) ∧ (¬ ((h 104 (w32 (4 + v2)).toNat) < 0) → X d 173 0 [some (P 69), some (I (w32 (4 + v2)))] [] h (fun r h' => X (d + 1) 182 158 [some (P 69), some (I v1), some (I v2), none, none, none, none] [r] h' Q)))))) : X (d + 1) 182 137 [some (P 69), some (I v1), some (I v2), none, none, none, none] [I s0] h Q :=
  s_if 161 (s0 = 0) c182_137 (by decide) rfl ⟨fun q3 => (H.1 q3), fun q3 => s_aload_n c182_140 rfl (s_getP 104 c182_141 f182_117 t12_48 sh_69 g_69_48 (by decide) (by decide) (s_iconst c182_144 rfl (s_iload_n c182_145 rfl (s_iadd c182_146 (s_iald c182_147 sh_104 ⟨(H.2 q3).1, s_if 161 ((h 104 (w32 (4 + v2)).toNat) < 0) c182_148 (by decide) rfl ⟨fun q4 => ((H.2 q3).2.1 q4), fun q4 => s_aload_n c182_151 rfl (s_iconst c182_152 rfl (s_iload_n c182_153 rfl (s_iadd c182_154 (s_cVi c182_155 m182_325 F173 K173 rfl (Nat.le_of_ble_eq_true rfl) rfl S173_69 rfl ((H.2 q3).2.2 q4)))))⟩⟩)))))⟩
theorem b182_158 {d : Nat} {h : HP} {Q : PV → HP → Prop} {v1 v2 s0 : Int} (H : X d 182 163 [some (P 69), some (I v1), some (I v2), none, none, none, none] [I s0] h Q) : X d 182 158 [some (P 69), some (I v1), some (I v2), none, none, none, none] [I s0] h Q :=
  s_goto 163 c182_158 (by decide) (H)
theorem b182_161 {d : Nat} {h : HP} {Q : PV → HP → Prop} {v1 v2 : Int} (H : X d 182 163 [some (P 69), some (I v1), some (I v2), none, none, none, none] [I (-9)] h Q) : X d 182 161 [some (P 69), some (I v1), some (I v2), none, none, none, none] [] h Q :=
  s_bipush c182_161 ⟨by decide, by decide⟩ (H)
theorem b182_163 {d : Nat} {h : HP} {Q : PV → HP → Prop} {v1 v2 s0 : Int} (H : ((s0 < 0) → ((0 ≤ v2 ∧ v2 < 8) ∧ X d 182 183 [some (P 69), some (I v1), some (I v2), some (I s0), none, none, none] [I (h 75 v2.toNat), I v2, P 75] h Q)) ∧ (¬ (s0 < 0) → X d 182 183 [some (P 69), some (I v1), some (I v2), some (I s0), none, none, none] [I s0, I v2, P 75] h Q)) : X d 182 163 [some (P 69), some (I v1), some (I v2), none, none, none, none] [I s0] h Q :=
  s_istore_n c182_163 rfl (s_aload_n c182_164 rfl (s_getP 75 c182_165 f182_25 t12_5 sh_69 g_69_5 (by decide) (by decide) (s_iload_n c182_168 rfl (s_iload_n c182_169 rfl (s_if 177 (s0 < 0) c182_170 (by decide) rfl ⟨fun q5 => s_aload_n c182_177 rfl (s_getP 75 c182_178 f182_25 t12_5 sh_69 g_69_5 (by decide) (by decide) (s_iload_n c182_181 rfl (s_iald c182_182 sh_75 ⟨(H.1 q5).1, (H.1 q5).2⟩))), fun q5 => s_iload_n c182_173 rfl (s_goto 183 c182_174 (by decide) ((H.2 q5)))⟩)))))
theorem b182_183 {d : Nat} {h : HP} {Q : PV → HP → Prop} {v1 v2 v3 s1 s2 : Int} (H : (0 ≤ s1 ∧ s1 < 8) ∧ (((v3 < 0) → ((0 ≤ v2 ∧ v2 < 8) ∧ X d 182 203 [some (P 69), some (I v1), some (I v2), some (I v3), none, none, none] [I (h 76 v2.toNat), I v2, P 76] (up2 h 75 s1.toNat s2) Q)) ∧ (¬ (v3 < 0) → X d 182 203 [some (P 69), some (I v1), some (I v2), some (I v3), none, none, none] [I v3, I v2, P 76] (up2 h 75 s1.toNat s2) Q))) : X d 182 183 [some (P 69), some (I v1), some (I v2), some (I v3), none, none, none] [I s2, I s1, P 75] h Q :=
  s_iast c182_183 sh_75 ⟨H.1, s_aload_n c182_184 rfl (s_getP 76 c182_185 f182_28 t12_6 sh_69 g_69_6 (by decide) (by decide) (s_iload_n c182_188 rfl (s_iload_n c182_189 rfl (s_if 197 (v3 < 0) c182_190 (by decide) rfl ⟨fun q6 => s_aload_n c182_197 rfl (s_getP 76 c182_198 f182_28 t12_6 sh_69 g_69_6 (by decide) (by decide) (s_iload_n c182_201 rfl (s_iald c182_202 sh_76 ⟨(H.2.1 q6).1, (H.2.1 q6).2⟩))), fun q6 => s_iload_n c182_193 rfl (s_goto 203 c182_194 (by decide) ((H.2.2 q6)))⟩))))⟩
theorem b182_203 {d : Nat} {h : HP} {Q : PV → HP → Prop} {v1 v2 v3 s1 s2 : Int} (H : (0 ≤ s1 ∧ s1 < 8) ∧ X d 182 118 [some (P 69), some (I v1), some (I (w32 (v2 + 1))), none, none, none, none] [] (up2 h 76 s1.toNat s2) Q) : X d 182 203 [some (P 69), some (I v1), some (I v2), some (I v3), none, none, none] [I s2, I s1, P 76] h Q :=
  s_iast c182_203 sh_76 ⟨H.1, s_iinc c182_204 rfl rfl rfl (s_goto 118 c182_207 (by decide) (X_weak (A := [some (P 69), some (I v1), some (I (w32 (v2 + 1))), none, none, none, none]) (B := [some (P 69), some (I v1), some (I (w32 (v2 + 1))), some (I v3), none, none, none]) ⟨Or.inl rfl, Or.inl rfl, Or.inl rfl, Or.inr ⟨rfl, _, rfl, rfl⟩, Or.inl rfl, Or.inl rfl, Or.inl rfl, trivial⟩ H.2))⟩
theorem b182_215 {d : Nat} {h : HP} {Q : PV → HP → Prop} {v1 v2 : Int} (H : (((h 69 70) < 0) → X d 182 248 [some (P 69), some (I v1), some (I v2), none, none, none, none] [] h Q) ∧ (¬ ((h 69 70) < 0) → (((¬ (bAnd (bShr (h 69 71) v1) 1) = 1) → X d 182 247 [some (P 69), some (I v1), some (I v2), none, none, none, none] [I 0, I (h 69 70), P 108] h Q) ∧ (¬ (¬ (bAnd (bShr (h 69 71) v1) 1) = 1) → X d 182 247 [some (P 69), some (I v1), some (I v2), none, none, none, none] [I 1, I (h 69 70), P 108] h Q)))) : X d 182 215 [some (P 69), some (I v1), some (I v2), none, none, none, none] [] h Q :=
  s_aload_n c182_215 rfl (s_getI c182_216 f182_144 t12_70 sh_69 (s_if 248 ((h 69 70) < 0) c182_219 (by decide) rfl ⟨fun q7 => (H.1 q7), fun q7 => s_aload_n c182_222 rfl (s_getP 108 c182_223 f182_129 t12_65 sh_69 g_69_65 (by decide) (by decide) (s_aload_n c182_226 rfl (s_getI c182_227 f182_144 t12_70 sh_69 (s_aload_n c182_230 rfl (s_getI c182_231 f182_332 t12_71 sh_69 (s_iload_n c182_234 rfl (s_ishr c182_235 (s_iconst c182_236 rfl (s_iand c182_237 (s_iconst c182_238 rfl (s_ifc 246 (¬ (bAnd (bShr (h 69 71) v1) 1) = 1) c182_239 (by decide) rfl ⟨fun q8 => s_iconst c182_246 rfl (((H.2 q7).1 q8)), fun q8 => s_iconst c182_242 rfl (s_goto 247 c182_243 (by decide) (((H.2 q7).2 q8)))⟩)))))))))))⟩))
theorem b182_247 {d : Nat} {h : HP} {Q : PV → HP → Prop} {v1 v2 s1 s2 : Int} (H : (0 ≤ s1 ∧ s1 < 8) ∧ (s2 = 0 ∨ s2 = 1) ∧ X d 182 248 [some (P 69), some (I v1), some (I v2), none, none, none, none] [] (up2 h 108 s1.toNat s2) Q) : X d 182 247 [some (P 69), some (I v1), some (I v2), none, none, none, none] [I s2, I s1, P 108] h Q :=
  s_bast c182_247 sh_108 ⟨H.1, H.2.1, H.2.2⟩
theorem b182_248 {d : Nat} {h : HP} {Q : PV → HP → Prop} {v1 v2 : Int} (H : X d 182 250 [some (P 69), some (I v1), some (I 0), none, none, none, none] [] h Q) : X d 182 248 [some (P 69), some (I v1), some (I v2), none, none, none, none] [] h Q :=
  s_iconst c182_248 rfl (s_istore_n c182_249 rfl (H))
theorem b182_250 {d : Nat} {h : HP} {Q : PV → HP → Prop} {v1 v2 : Int} (H : (((h 69 9) ≤ v2) → X (d + 1) 182 381 [some (P 69), some (I v1), some (I 0), none, none, none, none] [] h Q) ∧ (¬ ((h 69 9) ≤ v2) → X d 178 0 [some (P 69), some (I v2)] [] h (fun r h' => X (d + 1) 182 263 [some (P 69), some (I v1), some (I v2), none, none, none, none] [r] h' Q))) : X (d + 1) 182 250 [some (P 69), some (I v1), some (I v2), none, none, none, none] [] h Q :=
  s_iload_n c182_250 rfl (s_aload_n c182_251 rfl (s_getI c182_252 f182_180 t12_9 sh_69 (s_ifc 379 ((h 69 9) ≤ v2) c182_255 (by decide) rfl ⟨fun q9 => s_iconst c182_379 rfl (s_istore_n c182_380 rfl ((H.1 q9))), fun q9 => s_aload_n c182_258 rfl (s_iload_n c182_259 rfl (s_cVi c182_260 m182_335 F178 K178 rfl (Nat.le_of_ble_eq_true rfl) rfl S178_69 rfl (H.2 q9)))⟩)))
theorem b182_263 {d : Nat} {h : HP} {Q : PV → HP → Prop} {v1 v2 s0 : Int} (H : X d 179 0 [some (P 69), some (I v2), none, none] [] h (fun r h' => X (d + 1) 182 269 [some (P 69), some (I v1), some (I v2), some (I s0), none, none, none] [r] h' Q)) : X (d + 1) 182 263 [some (P 69), some (I v1), some (I v2), none, none, none, none] [I s0] h Q :=
  s_istore_n c182_263 rfl (s_aload_n c182_264 rfl (s_iload_n c182_265 rfl (s_cVi c182_266 m182_338 F179 K179 rfl (Nat.le_of_ble_eq_true rfl) rfl S179_69 rfl H)))
theorem b182_269 {d : Nat} {h : HP} {Q : PV → HP → Prop} {v1 v2 v3 s0 : Int} (H : X d 180 0 [some (P 69), some (I v2), none, none] [] h (fun r h' => X (d + 1) 182 276 [some (P 69), some (I v1), some (I v2), some (I v3), some (I s0), none, none] [r] h' Q)) : X (d + 1) 182 269 [some (P 69), some (I v1), some (I v2), some (I v3), none, none, none] [I s0] h Q :=
  s_istore c182_269 rfl (s_aload_n c182_271 rfl (s_iload_n c182_272 rfl (s_cVi c182_273 m182_341 F180 K180 rfl (Nat.le_of_ble_eq_true rfl) rfl S180_69 rfl H)))
theorem b182_276 {d : Nat} {h : HP} {Q : PV → HP → Prop} {v1 v2 v3 v4 s0 : Int} (H : X d 181 0 [some (P 69), some (I v2), none, none, none] [] (up2 (up2 h 69 33 (w64 ((h 69 33) + v3))) 69 34 (w64 ((h 69 34) + v4))) (fun r h' => X (d + 1) 182 318 [some (P 69), some (I v1), some (I v2), some (I v3), some (I v4), some (I s0), none] [r, I (w32 ((w32 (v3 + v4)) - s0)), I v2, P 112] h' Q)) : X (d + 1) 182 276 [some (P 69), some (I v1), some (I v2), some (I v3), some (I v4), none, none] [I s0] h Q :=
  s_istore c182_276 rfl (s_aload_n c182_278 rfl (s_dupP c182_279 (s_getJ c182_280 f182_344 t12_33 sh_69 (s_iload_n c182_283 rfl (s_i2l c182_284 (s_ladd c182_285 (s_putJ c182_286 f182_344 t12_33 n12_33 sh_69 (s_aload_n c182_289 rfl (s_dupP c182_290 (s_getJ c182_291 f182_348 t12_34 sh_69 (s_iload c182_294 rfl (s_i2l c182_296 (s_ladd c182_297 (s_putJ c182_298 f182_348 t12_34 n12_34 sh_69 (s_aload_n c182_301 rfl (s_getP 112 c182_302 f182_141 t12_69 sh_69 g_69_69 (by decide) (by decide) (s_iload_n c182_305 rfl (s_iload_n c182_306 rfl (s_iload c182_307 rfl (s_iadd c182_309 (s_iload c182_310 rfl (s_isub c182_312 (s_aload_n c182_313 rfl (s_iload_n c182_314 rfl (s_cVi c182_315 m182_351 F181 K181 rfl (Nat.le_of_ble_eq_true rfl) rfl S181_69 rfl H)))))))))))))))))))))))))
theorem b182_28 {d : Nat} {h : HP} {Q : PV → HP → Prop} {v1 v2 s1 s2 : Int} (H : (0 ≤ s1 ∧ s1 < 8) ∧ X d 182 10 [some (P 69), some (I v1), some (I (w32 (v2 + 1))), none, none, none, none] [] (up2 h 105 s1.toNat s2) Q) : X d 182 28 [some (P 69), some (I v1), some (I v2), none, none, none, none] [I s2, I s1, P 105] h Q :=
  s_iast c182_28 sh_105 ⟨H.1, s_iinc c182_29 rfl rfl rfl (s_goto 10 c182_32 (by decide) (H.2))⟩
theorem b182_318 {d : Nat} {h : HP} {Q : PV → HP → Prop} {v1 v2 v3 v4 v5 s1 s2 s3 : Int} (H : (0 ≤ s1 ∧ s1 < 8) ∧ ((0 ≤ v2 ∧ v2 < 8) ∧ ((0 ≤ v2 ∧ v2 < 8) ∧ (((0 < (w32 (-(w32 ((h 73 v2.toNat) + ((up2 h 112 s1.toNat (w32 (s2 + s3))) 112 v2.toNat)))))) → (((v5 ≤ (w32 (-(w32 ((h 73 v2.toNat) + ((up2 h 112 s1.toNat (w32 (s2 + s3))) 112 v2.toNat)))))) → X d 182 369 [some (P 69), some (I v1), some (I v2), some (I v3), some (I v4), some (I v5), some (I (w32 (-(w32 ((h 73 v2.toNat) + ((up2 h 112 s1.toNat (w32 (s2 + s3))) 112 v2.toNat))))))] [J 0, J (h 69 35), P 69] (up2 h 112 s1.toNat (w32 (s2 + s3))) Q) ∧ (¬ (v5 ≤ (w32 (-(w32 ((h 73 v2.toNat) + ((up2 h 112 s1.toNat (w32 (s2 + s3))) 112 v2.toNat)))))) → X d 182 369 [some (P 69), some (I v1), some (I v2), some (I v3), some (I v4), some (I v5), some (I (w32 (-(w32 ((h 73 v2.toNat) + ((up2 h 112 s1.toNat (w32 (s2 + s3))) 112 v2.toNat))))))] [J (w32 (v5 - (w32 (-(w32 ((h 73 v2.toNat) + ((up2 h 112 s1.toNat (w32 (s2 + s3))) 112 v2.toNat))))))), J (h 69 35), P 69] (up2 h 112 s1.toNat (w32 (s2 + s3))) Q))) ∧ (¬ (0 < (w32 (-(w32 ((h 73 v2.toNat) + ((up2 h 112 s1.toNat (w32 (s2 + s3))) 112 v2.toNat)))))) → X d 182 369 [some (P 69), some (I v1), some (I v2), some (I v3), some (I v4), some (I v5), some (I (w32 (-(w32 ((h 73 v2.toNat) + ((up2 h 112 s1.toNat (w32 (s2 + s3))) 112 v2.toNat))))))] [J v5, J (h 69 35), P 69] (up2 h 112 s1.toNat (w32 (s2 + s3))) Q))))) : X d 182 318 [some (P 69), some (I v1), some (I v2), some (I v3), some (I v4), some (I v5), none] [I s3, I s2, I s1, P 112] h Q :=
  s_iadd c182_318 (s_iast c182_319 sh_112 ⟨H.1, s_aload_n c182_320 rfl (s_getP 73 c182_321 f182_19 t12_3 sh_69 g_69_3 (by decide) (by decide) (s_iload_n c182_324 rfl (s_iald c182_325 sh_73 ⟨H.2.1, s_aload_n c182_326 rfl (s_getP 112 c182_327 f182_141 t12_69 sh_69 g_69_69 (by decide) (by decide) (s_iload_n c182_330 rfl (s_iald c182_331 sh_112 ⟨H.2.2.1, s_iadd c182_332 (s_ineg c182_333 (s_istore c182_334 rfl (s_aload_n c182_336 rfl (s_dupP c182_337 (s_getJ c182_338 f182_354 t12_35 sh_69 (s_iload c182_341 rfl (s_if 352 (0 < (w32 (-(w32 ((h 73 v2.toNat) + ((up2 h 112 s1.toNat (w32 (s2 + s3))) 112 v2.toNat)))))) c182_343 (by decide) rfl ⟨fun q10 => s_iload c182_352 rfl (s_iload c182_354 rfl (s_ifc 368 (v5 ≤ (w32 (-(w32 ((h 73 v2.toNat) + ((up2 h 112 s1.toNat (w32 (s2 + s3))) 112 v2.toNat)))))) c182_356 (by decide) rfl ⟨fun q11 => s_lconst c182_368 (((H.2.2.2.1 q10).1 q11)), fun q11 => s_iload c182_359 rfl (s_iload c182_361 rfl (s_isub c182_363 (s_i2l c182_364 (s_goto 369 c182_365 (by decide) (((H.2.2.2.1 q10).2 q11))))))⟩)), fun q10 => s_iload c182_346 rfl (s_i2l c182_348 (s_goto 369 c182_349 (by decide) ((H.2.2.2.2 q10))))⟩)))))))⟩)))⟩)))⟩)
theorem b182_369 {d : Nat} {h : HP} {Q : PV → HP → Prop} {v1 v2 v3 v4 v5 v6 s1 s2 : Int} (H : X d 182 250 [some (P 69), some (I v1), some (I (w32 (v2 + 1))), none, none, none, none] [] (up2 h 69 35 (w64 (s1 + s2))) Q) : X d 182 369 [some (P 69), some (I v1), some (I v2), some (I v3), some (I v4), some (I v5), some (I v6)] [J s2, J s1, P 69] h Q :=
  s_ladd c182_369 (s_putJ c182_370 f182_354 t12_35 n12_35 sh_69 (s_iinc c182_373 rfl rfl rfl (s_goto 250 c182_376 (by decide) (X_weak (A := [some (P 69), some (I v1), some (I (w32 (v2 + 1))), none, none, none, none]) (B := [some (P 69), some (I v1), some (I (w32 (v2 + 1))), some (I v3), some (I v4), some (I v5), some (I v6)]) ⟨Or.inl rfl, Or.inl rfl, Or.inl rfl, Or.inr ⟨rfl, _, rfl, rfl⟩, Or.inr ⟨rfl, _, rfl, rfl⟩, Or.inr ⟨rfl, _, rfl, rfl⟩, Or.inr ⟨rfl, _, rfl, rfl⟩, trivial⟩ H))))
theorem b182_381 {d : Nat} {h : HP} {Q : PV → HP → Prop} {v1 v2 : Int} (H : (((h 69 9) ≤ v2) → Q (I 0) (up2 h 69 32 (w32 ((h 69 32) + 1)))) ∧ (¬ ((h 69 9) ≤ v2) → ((0 ≤ v2 ∧ v2 < 8) ∧ ((0 ≤ v2 ∧ v2 < 8) ∧ (((0 ≤ (w32 ((h 73 v2.toNat) + (h 112 v2.toNat)))) → ((0 ≤ v2 ∧ v2 < 8) ∧ ((0 ≤ v2 ∧ v2 < 8) ∧ X d 182 427 [some (P 69), some (I v1), some (I v2), none, none, none, none] [I (w32 ((h 73 v2.toNat) + (h 112 v2.toNat))), I v2, P 73] h Q))) ∧ (¬ (0 ≤ (w32 ((h 73 v2.toNat) + (h 112 v2.toNat)))) → X d 182 427 [some (P 69), some (I v1), some (I v2), none, none, none, none] [I 0, I v2, P 73] h Q)))))) : X d 182 381 [some (P 69), some (I v1), some (I v2), none, none, none, none] [] h Q :=
  s_iload_n c182_381 rfl (s_aload_n c182_382 rfl (s_getI c182_383 f182_180 t12_9 sh_69 (s_ifc 434 ((h 69 9) ≤ v2) c182_386 (by decide) rfl ⟨fun q12 => s_aload_n c182_434 rfl (s_dupP c182_435 (s_getI c182_436 f182_319 t12_32 sh_69 (s_iconst c182_439 rfl (s_iadd c182_440 (s_putI c182_441 f182_319 t12_32 n12_32 sh_69 (s_retV c182_444 R182 (H.1 q12))))))), fun q12 => s_aload_n c182_389 rfl (s_getP 73 c182_390 f182_19 t12_3 sh_69 g_69_3 (by decide) (by decide) (s_iload_n c182_393 rfl (s_aload_n c182_394 rfl (s_getP 73 c182_395 f182_19 t12_3 sh_69 g_69_3 (by decide) (by decide) (s_iload_n c182_398 rfl (s_iald c182_399 sh_73 ⟨(H.2 q12).1, s_aload_n c182_400 rfl (s_getP 112 c182_401 f182_141 t12_69 sh_69 g_69_69 (by decide) (by decide) (s_iload_n c182_404 rfl (s_iald c182_405 sh_112 ⟨(H.2 q12).2.1, s_iadd c182_406 (s_if 414 (0 ≤ (w32 ((h 73 v2.toNat) + (h 112 v2.toNat)))) c182_407 (by decide) rfl ⟨fun q13 => s_aload_n c182_414 rfl (s_getP 73 c182_415 f182_19 t12_3 sh_69 g_69_3 (by decide) (by decide) (s_iload_n c182_418 rfl (s_iald c182_419 sh_73 ⟨((H.2 q12).2.2.1 q13).1, s_aload_n c182_420 rfl (s_getP 112 c182_421 f182_141 t12_69 sh_69 g_69_69 (by decide) (by decide) (s_iload_n c182_424 rfl (s_iald c182_425 sh_112 ⟨((H.2 q12).2.2.1 q13).2.1, s_iadd c182_426 (((H.2 q12).2.2.1 q13).2.2)⟩)))⟩))), fun q13 => s_iconst c182_410 rfl (s_goto 427 c182_411 (by decide) (((H.2 q12).2.2.2 q13)))⟩)⟩)))⟩))))))⟩)))
theorem b182_427 {d : Nat} {h : HP} {Q : PV → HP → Prop} {v1 v2 s1 s2 : Int} (H : (0 ≤ s1 ∧ s1 < 8) ∧ X d 182 381 [some (P 69), some (I v1), some (I (w32 (v2 + 1))), none, none, none, none] [] (up2 h 73 s1.toNat s2) Q) : X d 182 427 [some (P 69), some (I v1), some (I v2), none, none, none, none] [I s2, I s1, P 73] h Q :=
  s_iast c182_427 sh_73 ⟨H.1, s_iinc c182_428 rfl rfl rfl (s_goto 381 c182_431 (by decide) (H.2))⟩
theorem b182_52 {d : Nat} {h : HP} {Q : PV → HP → Prop} {v1 v2 : Int} (H : (((h 69 30) ≤ v2) → X (d + 1) 182 118 [some (P 69), some (I v1), some (I 0), none, none, none, none] [] h Q) ∧ (¬ ((h 69 30) ≤ v2) → ((0 ≤ v2 ∧ v2 < 4) ∧ (((2 ≤ (h 95 v2.toNat)) → X (d + 1) 182 87 [some (P 69), some (I v1), some (I v2), none, none, none, none] [] h Q) ∧ (¬ (2 ≤ (h 95 v2.toNat)) → ((0 ≤ v2 ∧ v2 < 12) ∧ ((((h 104 v2.toNat) < 0) → X (d + 1) 182 87 [some (P 69), some (I v1), some (I v2), none, none, none, none] [] h Q) ∧ (¬ ((h 104 v2.toNat) < 0) → X d 173 0 [some (P 69), some (I v2)] [] h (fun r h' => X (d + 1) 182 84 [some (P 69), some (I v1), some (I v2), none, none, none, none] [r] h' Q))))))))) : X (d + 1) 182 52 [some (P 69), some (I v1), some (I v2), none, none, none, none] [] h Q :=
  s_iload_n c182_52 rfl (s_aload_n c182_53 rfl (s_getI c182_54 f182_232 t12_30 sh_69 (s_ifc 116 ((h 69 30) ≤ v2) c182_57 (by decide) rfl ⟨fun q14 => s_iconst c182_116 rfl (s_istore_n c182_117 rfl ((H.1 q14))), fun q14 => s_aload_n c182_60 rfl (s_getP 95 c182_61 f182_86 t12_29 sh_69 g_69_29 (by decide) (by decide) (s_iload_n c182_64 rfl (s_iald c182_65 sh_95 ⟨(H.2 q14).1, s_iconst c182_66 rfl (s_ifc 87 (2 ≤ (h 95 v2.toNat)) c182_67 (by decide) rfl ⟨fun q15 => ((H.2 q14).2.1 q15), fun q15 => s_aload_n c182_70 rfl (s_getP 104 c182_71 f182_117 t12_48 sh_69 g_69_48 (by decide) (by decide) (s_iload_n c182_74 rfl (s_iald c182_75 sh_104 ⟨((H.2 q14).2.2 q15).1, s_if 87 ((h 104 v2.toNat) < 0) c182_76 (by decide) rfl ⟨fun q16 => (((H.2 q14).2.2 q15).2.1 q16), fun q16 => s_aload_n c182_79 rfl (s_iload_n c182_80 rfl (s_cVi c182_81 m182_325 F173 K173 rfl (Nat.le_of_ble_eq_true rfl) rfl S173_69 rfl (((H.2 q14).2.2 q15).2.2 q16)))⟩⟩)))⟩)⟩)))⟩)))
theorem b182_84 {d : Nat} {h : HP} {Q : PV → HP → Prop} {v1 v2 s0 : Int} (H : X d 182 89 [some (P 69), some (I v1), some (I v2), none, none, none, none] [I s0] h Q) : X d 182 84 [some (P 69), some (I v1), some (I v2), none, none, none, none] [I s0] h Q :=
  s_goto 89 c182_84 (by decide) (H)
theorem b182_87 {d : Nat} {h : HP} {Q : PV → HP → Prop} {v1 v2 : Int} (H : X d 182 89 [some (P 69), some (I v1), some (I v2), none, none, none, none] [I (-9)] h Q) : X d 182 87 [some (P 69), some (I v1), some (I v2), none, none, none, none] [] h Q :=
  s_bipush c182_87 ⟨by decide, by decide⟩ (H)
theorem b182_89 {d : Nat} {h : HP} {Q : PV → HP → Prop} {v1 v2 s0 : Int} (H : ((s0 < 0) → ((0 ≤ v2 ∧ v2 < 4) ∧ X d 182 109 [some (P 69), some (I v1), some (I v2), some (I s0), none, none, none] [I (h 95 v2.toNat), I v2, P 95] h Q)) ∧ (¬ (s0 < 0) → X d 182 109 [some (P 69), some (I v1), some (I v2), some (I s0), none, none, none] [I s0, I v2, P 95] h Q)) : X d 182 89 [some (P 69), some (I v1), some (I v2), none, none, none, none] [I s0] h Q :=
  s_istore_n c182_89 rfl (s_aload_n c182_90 rfl (s_getP 95 c182_91 f182_86 t12_29 sh_69 g_69_29 (by decide) (by decide) (s_iload_n c182_94 rfl (s_iload_n c182_95 rfl (s_if 103 (s0 < 0) c182_96 (by decide) rfl ⟨fun q17 => s_aload_n c182_103 rfl (s_getP 95 c182_104 f182_86 t12_29 sh_69 g_69_29 (by decide) (by decide) (s_iload_n c182_107 rfl (s_iald c182_108 sh_95 ⟨(H.1 q17).1, (H.1 q17).2⟩))), fun q17 => s_iload_n c182_99 rfl (s_goto 109 c182_100 (by decide) ((H.2 q17)))⟩)))))
-- WarmSideModel.ticks(I)I
theorem c183_0 : cdA 183 0 = some (.iload_n 1) := by decide +kernel
theorem c183_1 : cdA 183 1 = some (.iconst 1) := by decide +kernel
theorem c183_2 : cdA 183 2 = some (.if_icmp .ge 10) := by decide +kernel
theorem c183_12 : cdA 183 12 = some (.iload_n 1) := by decide +kernel
theorem c183_13 : cdA 183 13 = some (.sipush 200) := by decide +kernel
theorem c183_16 : cdA 183 16 = some (.if_icmp .gt 15) := by decide +kernel
theorem c183_19 : cdA 183 19 = some (.aload_n 0) := by decide +kernel
theorem c183_20 : cdA 183 20 = some (.getfield 319) := by decide +kernel
theorem f183_319 : fldR (moN 183) 319 = some (12, 32) := by decide +kernel
theorem c183_23 : cdA 183 23 = some (.iload_n 1) := by decide +kernel
theorem c183_24 : cdA 183 24 = some (.iadd) := by decide +kernel
theorem c183_25 : cdA 183 25 = some (.sipush 9999) := by decide +kernel
theorem c183_28 : cdA 183 28 = some (.if_icmp .le 10) := by decide +kernel
theorem c183_38 : cdA 183 38 = some (.iconst 0) := by decide +kernel
theorem c183_39 : cdA 183 39 = some (.istore_n 2) := by decide +kernel
theorem c183_5 : cdA 183 5 = some (.aload_n 0) := by decide +kernel
theorem c183_6 : cdA 183 6 = some (.bipush (-4)) := by decide +kernel
theorem c183_8 : cdA 183 8 = some (.invokevirtual 187) := by decide +kernel
theorem m183_187 : mthR (moN 183) 187 = 138 := by decide +kernel
theorem c183_11 : cdA 183 11 = some (.ireturn) := by decide +kernel
theorem R183 : mK 183 = 0 := by decide +kernel
theorem c183_31 : cdA 183 31 = some (.aload_n 0) := by decide +kernel
theorem c183_32 : cdA 183 32 = some (.bipush (-6)) := by decide +kernel
theorem c183_34 : cdA 183 34 = some (.invokevirtual 187) := by decide +kernel
theorem c183_37 : cdA 183 37 = some (.ireturn) := by decide +kernel
theorem c183_40 : cdA 183 40 = some (.iload_n 2) := by decide +kernel
theorem c183_41 : cdA 183 41 = some (.iload_n 1) := by decide +kernel
theorem c183_42 : cdA 183 42 = some (.if_icmp .ge 13) := by decide +kernel
theorem c183_55 : cdA 183 55 = some (.aload_n 0) := by decide +kernel
theorem c183_56 : cdA 183 56 = some (.invokevirtual 360) := by decide +kernel
theorem m183_360 : mthR (moN 183) 360 = 150 := by decide +kernel
theorem F147 : mF 147 0 1 true := by unfold mF; decide +kernel
theorem K147 : mK 147 = 4 := by decide +kernel
theorem S147_69 : SH0[69]? = some (.inl (moN 147)) := by decide +kernel
theorem c183_45 : cdA 183 45 = some (.aload_n 0) := by decide +kernel
theorem c183_46 : cdA 183 46 = some (.invokevirtual 357) := by decide +kernel
theorem m183_357 : mthR (moN 183) 357 = 185 := by decide +kernel
theorem F182 : mF 182 0 7 true := by unfold mF; decide +kernel
theorem K182 : mK 182 = 4 := by decide +kernel
theorem S182_69 : SH0[69]? = some (.inl (moN 182)) := by decide +kernel
theorem c183_49 : cdA 183 49 = some (.iinc 2 1) := by decide +kernel
theorem c183_52 : cdA 183 52 = some (.goto (-12)) := by decide +kernel
theorem c183_59 : cdA 183 59 = some (.aload_n 0) := by decide +kernel
theorem c183_60 : cdA 183 60 = some (.getfield 319) := by decide +kernel
theorem c183_63 : cdA 183 63 = some (.ireturn) := by decide +kernel
theorem b183_0 {d : Nat} {h : HP} {Q : PV → HP → Prop} {v1 : Int} (H : ((1 ≤ v1) → (((200 < v1) → X (d + 1) 183 31 [some (P 69), some (I v1), none] [] h Q) ∧ (¬ (200 < v1) → ((((w32 ((h 69 32) + v1)) ≤ 9999) → X (d + 1) 183 40 [some (P 69), some (I v1), some (I 0)] [] h Q) ∧ (¬ ((w32 ((h 69 32) + v1)) ≤ 9999) → X (d + 1) 183 31 [some (P 69), some (I v1), none] [] h Q))))) ∧ (¬ (1 ≤ v1) → X d 135 0 [some (P 69), some (I (-4))] [] h (fun r h' => X (d + 1) 183 11 [some (P 69), some (I v1), none] [r] h' Q))) : X (d + 1) 183 0 [some (P 69), some (I v1), none] [] h Q :=
  s_iload_n c183_0 rfl (s_iconst c183_1 rfl (s_ifc 12 (1 ≤ v1) c183_2 (by decide) rfl ⟨fun q1 => s_iload_n c183_12 rfl (s_sipush c183_13 ⟨by decide, by decide⟩ (s_ifc 31 (200 < v1) c183_16 (by decide) rfl ⟨fun q2 => ((H.1 q1).1 q2), fun q2 => s_aload_n c183_19 rfl (s_getI c183_20 f183_319 t12_32 sh_69 (s_iload_n c183_23 rfl (s_iadd c183_24 (s_sipush c183_25 ⟨by decide, by decide⟩ (s_ifc 38 ((w32 ((h 69 32) + v1)) ≤ 9999) c183_28 (by decide) rfl ⟨fun q3 => s_iconst c183_38 rfl (s_istore_n c183_39 rfl ((((H.1 q1).2 q2).1 q3))), fun q3 => (((H.1 q1).2 q2).2 q3)⟩)))))⟩)), fun q1 => s_aload_n c183_5 rfl (s_bipush c183_6 ⟨by decide, by decide⟩ (s_cVi c183_8 m183_187 F135 K135 rfl (Nat.le_of_ble_eq_true rfl) rfl S135_69 rfl (H.2 q1)))⟩))
theorem b183_11 {d : Nat} {h : HP} {Q : PV → HP → Prop} {v1 s0 : Int} (H : Q (I s0) h) : X d 183 11 [some (P 69), some (I v1), none] [I s0] h Q :=
  s_retI c183_11 R183 H
theorem b183_31 {d : Nat} {h : HP} {Q : PV → HP → Prop} {v1 : Int} (H : X d 135 0 [some (P 69), some (I (-6))] [] h (fun r h' => X (d + 1) 183 37 [some (P 69), some (I v1), none] [r] h' Q)) : X (d + 1) 183 31 [some (P 69), some (I v1), none] [] h Q :=
  s_aload_n c183_31 rfl (s_bipush c183_32 ⟨by decide, by decide⟩ (s_cVi c183_34 m183_187 F135 K135 rfl (Nat.le_of_ble_eq_true rfl) rfl S135_69 rfl H))
theorem b183_37 {d : Nat} {h : HP} {Q : PV → HP → Prop} {v1 s0 : Int} (H : Q (I s0) h) : X d 183 37 [some (P 69), some (I v1), none] [I s0] h Q :=
  s_retI c183_37 R183 H
theorem b183_40 {d : Nat} {h : HP} {Q : PV → HP → Prop} {v1 v2 : Int} (H : ((v1 ≤ v2) → X d 147 0 [some (P 69)] [] h (fun _ h' => X (d + 1) 183 59 [some (P 69), some (I v1), some (I v2)] [] h' Q)) ∧ (¬ (v1 ≤ v2) → X d 182 0 [some (P 69), none, none, none, none, none, none] [] h (fun _ h' => X (d + 1) 183 49 [some (P 69), some (I v1), some (I v2)] [] h' Q))) : X (d + 1) 183 40 [some (P 69), some (I v1), some (I v2)] [] h Q :=
  s_iload_n c183_40 rfl (s_iload_n c183_41 rfl (s_ifc 55 (v1 ≤ v2) c183_42 (by decide) rfl ⟨fun q4 => s_aload_n c183_55 rfl (s_cVv c183_56 m183_360 F147 K147 rfl (Nat.le_of_ble_eq_true rfl) rfl S147_69 rfl (H.1 q4)), fun q4 => s_aload_n c183_45 rfl (s_cVv c183_46 m183_357 F182 K182 rfl (Nat.le_of_ble_eq_true rfl) rfl S182_69 rfl (H.2 q4))⟩))
theorem b183_49 {d : Nat} {h : HP} {Q : PV → HP → Prop} {v1 v2 : Int} (H : X d 183 40 [some (P 69), some (I v1), some (I (w32 (v2 + 1)))] [] h Q) : X d 183 49 [some (P 69), some (I v1), some (I v2)] [] h Q :=
  s_iinc c183_49 rfl rfl rfl (s_goto 40 c183_52 (by decide) (H))
theorem b183_59 {d : Nat} {h : HP} {Q : PV → HP → Prop} {v1 v2 : Int} (H : Q (I (h 69 32)) h) : X d 183 59 [some (P 69), some (I v1), some (I v2)] [] h Q :=
  s_aload_n c183_59 rfl (s_getI c183_60 f183_319 t12_32 sh_69 (s_retI c183_63 R183 H))
-- WarmSideModel.of(II)I
theorem c184_0 : cdA 184 0 = some (.aload_n 0) := by decide +kernel
theorem c184_1 : cdA 184 1 = some (.iload_n 1) := by decide +kernel
theorem c184_2 : cdA 184 2 = some (.invokevirtual 191) := by decide +kernel
theorem m184_191 : mthR (moN 184) 191 = 139 := by decide +kernel
theorem c184_13 : cdA 184 13 = some (.ireturn) := by decide +kernel
theorem R184 : mK 184 = 0 := by decide +kernel
theorem c184_5 : cdA 184 5 = some (.ifCond .ne 9) := by decide +kernel
theorem c184_14 : cdA 184 14 = some (.iload_n 2) := by decide +kernel
theorem c184_15 : cdA 184 15 = some (.tableswitch 67 0 4 #[33, 39, 46, 53, 60]) := by decide +kernel
theorem c184_82 : cdA 184 82 = some (.aload_n 0) := by decide +kernel
theorem c184_83 : cdA 184 83 = some (.bipush (-2)) := by decide +kernel
theorem c184_85 : cdA 184 85 = some (.invokevirtual 187) := by decide +kernel
theorem m184_187 : mthR (moN 184) 187 = 138 := by decide +kernel
theorem c184_48 : cdA 184 48 = some (.aload_n 0) := by decide +kernel
theorem c184_49 : cdA 184 49 = some (.iload_n 1) := by decide +kernel
theorem c184_50 : cdA 184 50 = some (.invokevirtual 322) := by decide +kernel
theorem m184_322 : mthR (moN 184) 322 = 178 := by decide +kernel
theorem c184_54 : cdA 184 54 = some (.aload_n 0) := by decide +kernel
theorem c184_55 : cdA 184 55 = some (.getfield 19) := by decide +kernel
theorem f184_19 : fldR (moN 184) 19 = some (12, 3) := by decide +kernel
theorem c184_58 : cdA 184 58 = some (.iload_n 1) := by decide +kernel
theorem c184_59 : cdA 184 59 = some (.iaload) := by decide +kernel
theorem c184_60 : cdA 184 60 = some (.ireturn) := by decide +kernel
theorem c184_61 : cdA 184 61 = some (.aload_n 0) := by decide +kernel
theorem c184_62 : cdA 184 62 = some (.getfield 25) := by decide +kernel
theorem f184_25 : fldR (moN 184) 25 = some (12, 5) := by decide +kernel
theorem c184_65 : cdA 184 65 = some (.iload_n 1) := by decide +kernel
theorem c184_66 : cdA 184 66 = some (.iaload) := by decide +kernel
theorem c184_67 : cdA 184 67 = some (.ireturn) := by decide +kernel
theorem c184_68 : cdA 184 68 = some (.aload_n 0) := by decide +kernel
theorem c184_69 : cdA 184 69 = some (.getfield 31) := by decide +kernel
theorem f184_31 : fldR (moN 184) 31 = some (12, 7) := by decide +kernel
theorem t12_7 : fcl 12 7 = 2 := by decide +kernel
theorem c184_72 : cdA 184 72 = some (.iload_n 1) := by decide +kernel
theorem c184_73 : cdA 184 73 = some (.iaload) := by decide +kernel
theorem c184_74 : cdA 184 74 = some (.ireturn) := by decide +kernel
theorem c184_75 : cdA 184 75 = some (.aload_n 0) := by decide +kernel
theorem c184_76 : cdA 184 76 = some (.getfield 34) := by decide +kernel
theorem f184_34 : fldR (moN 184) 34 = some (12, 8) := by decide +kernel
theorem c184_79 : cdA 184 79 = some (.iload_n 1) := by decide +kernel
theorem c184_80 : cdA 184 80 = some (.iaload) := by decide +kernel
theorem c184_81 : cdA 184 81 = some (.ireturn) := by decide +kernel
theorem c184_8 : cdA 184 8 = some (.aload_n 0) := by decide +kernel
theorem c184_9 : cdA 184 9 = some (.iconst (-1)) := by decide +kernel
theorem c184_10 : cdA 184 10 = some (.invokevirtual 187) := by decide +kernel
theorem c184_53 : cdA 184 53 = some (.ireturn) := by decide +kernel
theorem c184_88 : cdA 184 88 = some (.ireturn) := by decide +kernel
theorem b184_0 {d : Nat} {h : HP} {Q : PV → HP → Prop} {v1 v2 : Int} (H : X d 136 0 [some (P 69), some (I v1)] [] h (fun r h' => X (d + 1) 184 5 [some (P 69), some (I v1), some (I v2)] [r] h' Q)) : X (d + 1) 184 0 [some (P 69), some (I v1), some (I v2)] [] h Q :=
  s_aload_n c184_0 rfl (s_iload_n c184_1 rfl (s_cVi c184_2 m184_191 F136 K136 rfl (Nat.le_of_ble_eq_true rfl) rfl S136_69 rfl H))
theorem b184_13 {d : Nat} {h : HP} {Q : PV → HP → Prop} {v1 v2 s0 : Int} (H : Q (I s0) h) : X d 184 13 [some (P 69), some (I v1), some (I v2)] [I s0] h Q :=
  s_retI c184_13 R184 H
theorem b184_5 {d : Nat} {h : HP} {Q : PV → HP → Prop} {v1 v2 s0 : Int} (H : ((¬ s0 = 0) → (((v2 < 0 ∨ 4 < v2) → X d 135 0 [some (P 69), some (I (-2))] [] h (fun r h' => X (d + 1) 184 88 [some (P 69), some (I v1), some (I v2)] [r] h' Q)) ∧ (v2 = 0 → X d 175 0 [some (P 69), some (I v1), none] [] h (fun r h' => X (d + 1) 184 53 [some (P 69), some (I v1), some (I v2)] [r] h' Q)) ∧ (v2 = 1 → ((0 ≤ v1 ∧ v1 < 8) ∧ Q (I (h 73 v1.toNat)) h)) ∧ (v2 = 2 → ((0 ≤ v1 ∧ v1 < 8) ∧ Q (I (h 75 v1.toNat)) h)) ∧ (v2 = 3 → ((0 ≤ v1 ∧ v1 < 8) ∧ Q (I (h 77 v1.toNat)) h)) ∧ (v2 = 4 → ((0 ≤ v1 ∧ v1 < 8) ∧ Q (I (h 78 v1.toNat)) h)))) ∧ (¬ (¬ s0 = 0) → X d 135 0 [some (P 69), some (I (-1))] [] h (fun r h' => X (d + 1) 184 13 [some (P 69), some (I v1), some (I v2)] [r] h' Q))) : X (d + 1) 184 5 [some (P 69), some (I v1), some (I v2)] [I s0] h Q :=
  s_if 14 (¬ s0 = 0) c184_5 (by decide) rfl ⟨fun q1 => s_iload_n c184_14 rfl (s_tsw (x := v2) 82 c184_15 (by decide) (fun q2 => s_aload_n c184_82 rfl (s_bipush c184_83 ⟨by decide, by decide⟩ (s_cVi c184_85 m184_187 F135 K135 rfl (Nat.le_of_ble_eq_true rfl) rfl S135_69 rfl ((H.1 q1).1 q2)))) (fun qn => by
    have qc : v2 = 0 ∨ v2 = 1 ∨ v2 = 2 ∨ v2 = 3 ∨ v2 = 4 := by omega
    rcases qc with q2 | q2 | q2 | q2 | q2
    · exact ⟨33, 48, by rw [q2]; rfl, by decide, s_aload_n c184_48 rfl (s_iload_n c184_49 rfl (s_cVi c184_50 m184_322 F175 K175 rfl (Nat.le_of_ble_eq_true rfl) rfl S175_69 rfl ((H.1 q1).2.1 q2)))⟩
    · exact ⟨39, 54, by rw [q2]; rfl, by decide, s_aload_n c184_54 rfl (s_getP 73 c184_55 f184_19 t12_3 sh_69 g_69_3 (by decide) (by decide) (s_iload_n c184_58 rfl (s_iald c184_59 sh_73 ⟨((H.1 q1).2.2.1 q2).1, s_retI c184_60 R184 ((H.1 q1).2.2.1 q2).2⟩)))⟩
    · exact ⟨46, 61, by rw [q2]; rfl, by decide, s_aload_n c184_61 rfl (s_getP 75 c184_62 f184_25 t12_5 sh_69 g_69_5 (by decide) (by decide) (s_iload_n c184_65 rfl (s_iald c184_66 sh_75 ⟨((H.1 q1).2.2.2.1 q2).1, s_retI c184_67 R184 ((H.1 q1).2.2.2.1 q2).2⟩)))⟩
    · exact ⟨53, 68, by rw [q2]; rfl, by decide, s_aload_n c184_68 rfl (s_getP 77 c184_69 f184_31 t12_7 sh_69 g_69_7 (by decide) (by decide) (s_iload_n c184_72 rfl (s_iald c184_73 sh_77 ⟨((H.1 q1).2.2.2.2.1 q2).1, s_retI c184_74 R184 ((H.1 q1).2.2.2.2.1 q2).2⟩)))⟩
    · exact ⟨60, 75, by rw [q2]; rfl, by decide, s_aload_n c184_75 rfl (s_getP 78 c184_76 f184_34 t12_8 sh_69 g_69_8 (by decide) (by decide) (s_iload_n c184_79 rfl (s_iald c184_80 sh_78 ⟨((H.1 q1).2.2.2.2.2 q2).1, s_retI c184_81 R184 ((H.1 q1).2.2.2.2.2 q2).2⟩)))⟩
    )), fun q1 => s_aload_n c184_8 rfl (s_iconst c184_9 rfl (s_cVi c184_10 m184_187 F135 K135 rfl (Nat.le_of_ble_eq_true rfl) rfl S135_69 rfl (H.2 q1)))⟩
theorem b184_53 {d : Nat} {h : HP} {Q : PV → HP → Prop} {v1 v2 s0 : Int} (H : Q (I s0) h) : X d 184 53 [some (P 69), some (I v1), some (I v2)] [I s0] h Q :=
  s_retI c184_53 R184 H
theorem b184_88 {d : Nat} {h : HP} {Q : PV → HP → Prop} {v1 v2 s0 : Int} (H : Q (I s0) h) : X d 184 88 [some (P 69), some (I v1), some (I v2)] [I s0] h Q :=
  s_retI c184_88 R184 H
-- WarmSideModel.sum(I)J
theorem c185_0 : cdA 185 0 = some (.iload_n 1) := by decide +kernel
theorem c185_1 : cdA 185 1 = some (.ifCond .ne 10) := by decide +kernel
theorem c185_11 : cdA 185 11 = some (.iload_n 1) := by decide +kernel
theorem c185_12 : cdA 185 12 = some (.iconst 1) := by decide +kernel
theorem c185_13 : cdA 185 13 = some (.if_icmp .ne 10) := by decide +kernel
theorem c185_23 : cdA 185 23 = some (.iload_n 1) := by decide +kernel
theorem c185_24 : cdA 185 24 = some (.iconst 2) := by decide +kernel
theorem c185_25 : cdA 185 25 = some (.if_icmp .ne 10) := by decide +kernel
theorem c185_35 : cdA 185 35 = some (.aload_n 0) := by decide +kernel
theorem c185_36 : cdA 185 36 = some (.bipush (-2)) := by decide +kernel
theorem c185_38 : cdA 185 38 = some (.invokevirtual 187) := by decide +kernel
theorem m185_187 : mthR (moN 185) 187 = 138 := by decide +kernel
theorem c185_28 : cdA 185 28 = some (.aload_n 0) := by decide +kernel
theorem c185_29 : cdA 185 29 = some (.getfield 354) := by decide +kernel
theorem f185_354 : fldR (moN 185) 354 = some (12, 35) := by decide +kernel
theorem c185_32 : cdA 185 32 = some (.goto 10) := by decide +kernel
theorem c185_42 : cdA 185 42 = some (.lreturn) := by decide +kernel
theorem R185 : mK 185 = 1 := by decide +kernel
theorem c185_16 : cdA 185 16 = some (.aload_n 0) := by decide +kernel
theorem c185_17 : cdA 185 17 = some (.getfield 348) := by decide +kernel
theorem f185_348 : fldR (moN 185) 348 = some (12, 34) := by decide +kernel
theorem c185_20 : cdA 185 20 = some (.goto 22) := by decide +kernel
theorem c185_4 : cdA 185 4 = some (.aload_n 0) := by decide +kernel
theorem c185_5 : cdA 185 5 = some (.getfield 344) := by decide +kernel
theorem f185_344 : fldR (moN 185) 344 = some (12, 33) := by decide +kernel
theorem c185_8 : cdA 185 8 = some (.goto 34) := by decide +kernel
theorem c185_41 : cdA 185 41 = some (.i2l) := by decide +kernel
theorem b185_0 {d : Nat} {h : HP} {Q : PV → HP → Prop} {v1 : Int} (H : ((¬ v1 = 0) → (((¬ v1 = 1) → (((¬ v1 = 2) → X d 135 0 [some (P 69), some (I (-2))] [] h (fun r h' => X (d + 1) 185 41 [some (P 69), some (I v1)] [r] h' Q)) ∧ (¬ (¬ v1 = 2) → Q (J (h 69 35)) h))) ∧ (¬ (¬ v1 = 1) → Q (J (h 69 34)) h))) ∧ (¬ (¬ v1 = 0) → Q (J (h 69 33)) h)) : X (d + 1) 185 0 [some (P 69), some (I v1)] [] h Q :=
  s_iload_n c185_0 rfl (s_if 11 (¬ v1 = 0) c185_1 (by decide) rfl ⟨fun q1 => s_iload_n c185_11 rfl (s_iconst c185_12 rfl (s_ifc 23 (¬ v1 = 1) c185_13 (by decide) rfl ⟨fun q2 => s_iload_n c185_23 rfl (s_iconst c185_24 rfl (s_ifc 35 (¬ v1 = 2) c185_25 (by decide) rfl ⟨fun q3 => s_aload_n c185_35 rfl (s_bipush c185_36 ⟨by decide, by decide⟩ (s_cVi c185_38 m185_187 F135 K135 rfl (Nat.le_of_ble_eq_true rfl) rfl S135_69 rfl (((H.1 q1).1 q2).1 q3))), fun q3 => s_aload_n c185_28 rfl (s_getJ c185_29 f185_354 t12_35 sh_69 (s_goto 42 c185_32 (by decide) (s_retJ c185_42 R185 (((H.1 q1).1 q2).2 q3))))⟩)), fun q2 => s_aload_n c185_16 rfl (s_getJ c185_17 f185_348 t12_34 sh_69 (s_goto 42 c185_20 (by decide) (s_retJ c185_42 R185 ((H.1 q1).2 q2))))⟩)), fun q1 => s_aload_n c185_4 rfl (s_getJ c185_5 f185_344 t12_33 sh_69 (s_goto 42 c185_8 (by decide) (s_retJ c185_42 R185 (H.2 q1))))⟩)
theorem b185_41 {d : Nat} {h : HP} {Q : PV → HP → Prop} {v1 s0 : Int} (H : Q (J s0) h) : X d 185 41 [some (P 69), some (I v1)] [I s0] h Q :=
  s_i2l c185_41 (s_retJ c185_42 R185 H)
-- WarmSideModel.findRest()V
theorem c186_0 : cdA 186 0 = some (.iconst 0) := by decide +kernel
theorem c186_1 : cdA 186 1 = some (.istore_n 1) := by decide +kernel
theorem c186_2 : cdA 186 2 = some (.iload_n 1) := by decide +kernel
theorem c186_3 : cdA 186 3 = some (.aload_n 0) := by decide +kernel
theorem c186_4 : cdA 186 4 = some (.getfield 180) := by decide +kernel
theorem f186_180 : fldR (moN 186) 180 = some (12, 9) := by decide +kernel
theorem c186_7 : cdA 186 7 = some (.if_icmp .ge 18) := by decide +kernel
theorem c186_25 : cdA 186 25 = some (.iconst 1) := by decide +kernel
theorem c186_26 : cdA 186 26 = some (.istore_n 1) := by decide +kernel
theorem c186_10 : cdA 186 10 = some (.aload_n 0) := by decide +kernel
theorem c186_11 : cdA 186 11 = some (.getfield 120) := by decide +kernel
theorem f186_120 : fldR (moN 186) 120 = some (12, 54) := by decide +kernel
theorem c186_14 : cdA 186 14 = some (.iload_n 1) := by decide +kernel
theorem c186_15 : cdA 186 15 = some (.sipush 600) := by decide +kernel
theorem c186_18 : cdA 186 18 = some (.iastore) := by decide +kernel
theorem c186_19 : cdA 186 19 = some (.iinc 1 1) := by decide +kernel
theorem c186_22 : cdA 186 22 = some (.goto (-20)) := by decide +kernel
theorem c186_27 : cdA 186 27 = some (.iload_n 1) := by decide +kernel
theorem c186_28 : cdA 186 28 = some (.ifCond .eq 73) := by decide +kernel
theorem c186_101 : cdA 186 101 = some (.return_) := by decide +kernel
theorem R186 : mK 186 = 4 := by decide +kernel
theorem c186_31 : cdA 186 31 = some (.iconst 0) := by decide +kernel
theorem c186_32 : cdA 186 32 = some (.istore_n 1) := by decide +kernel
theorem c186_33 : cdA 186 33 = some (.iconst 0) := by decide +kernel
theorem c186_34 : cdA 186 34 = some (.istore_n 2) := by decide +kernel
theorem c186_35 : cdA 186 35 = some (.iload_n 2) := by decide +kernel
theorem c186_36 : cdA 186 36 = some (.aload_n 0) := by decide +kernel
theorem c186_37 : cdA 186 37 = some (.getfield 180) := by decide +kernel
theorem c186_40 : cdA 186 40 = some (.if_icmp .ge 58) := by decide +kernel
theorem c186_98 : cdA 186 98 = some (.goto (-71)) := by decide +kernel
theorem c186_43 : cdA 186 43 = some (.aload_n 0) := by decide +kernel
theorem c186_44 : cdA 186 44 = some (.getfield 120) := by decide +kernel
theorem c186_47 : cdA 186 47 = some (.iload_n 2) := by decide +kernel
theorem c186_48 : cdA 186 48 = some (.iaload) := by decide +kernel
theorem c186_49 : cdA 186 49 = some (.ifCond .le 43) := by decide +kernel
theorem c186_52 : cdA 186 52 = some (.aload_n 0) := by decide +kernel
theorem c186_53 : cdA 186 53 = some (.iload_n 2) := by decide +kernel
theorem c186_54 : cdA 186 54 = some (.invokevirtual 335) := by decide +kernel
theorem m186_335 : mthR (moN 186) 335 = 181 := by decide +kernel
theorem c186_57 : cdA 186 57 = some (.aload_n 0) := by decide +kernel
theorem c186_58 : cdA 186 58 = some (.iload_n 2) := by decide +kernel
theorem c186_59 : cdA 186 59 = some (.invokevirtual 338) := by decide +kernel
theorem m186_338 : mthR (moN 186) 338 = 182 := by decide +kernel
theorem c186_62 : cdA 186 62 = some (.iadd) := by decide +kernel
theorem c186_63 : cdA 186 63 = some (.aload_n 0) := by decide +kernel
theorem c186_64 : cdA 186 64 = some (.iload_n 2) := by decide +kernel
theorem c186_65 : cdA 186 65 = some (.invokevirtual 351) := by decide +kernel
theorem m186_351 : mthR (moN 186) 351 = 184 := by decide +kernel
theorem c186_68 : cdA 186 68 = some (.iadd) := by decide +kernel
theorem c186_69 : cdA 186 69 = some (.aload_n 0) := by decide +kernel
theorem c186_70 : cdA 186 70 = some (.iload_n 2) := by decide +kernel
theorem c186_71 : cdA 186 71 = some (.invokevirtual 341) := by decide +kernel
theorem m186_341 : mthR (moN 186) 341 = 183 := by decide +kernel
theorem c186_74 : cdA 186 74 = some (.if_icmp .ge 18) := by decide +kernel
theorem c186_77 : cdA 186 77 = some (.aload_n 0) := by decide +kernel
theorem c186_78 : cdA 186 78 = some (.getfield 120) := by decide +kernel
theorem c186_81 : cdA 186 81 = some (.iload_n 2) := by decide +kernel
theorem c186_82 : cdA 186 82 = some (.dup2) := by decide +kernel
theorem c186_83 : cdA 186 83 = some (.iaload) := by decide +kernel
theorem c186_84 : cdA 186 84 = some (.iconst 1) := by decide +kernel
theorem c186_85 : cdA 186 85 = some (.isub) := by decide +kernel
theorem c186_86 : cdA 186 86 = some (.iastore) := by decide +kernel
theorem c186_87 : cdA 186 87 = some (.iconst 1) := by decide +kernel
theorem c186_88 : cdA 186 88 = some (.istore_n 1) := by decide +kernel
theorem c186_89 : cdA 186 89 = some (.goto (-46)) := by decide +kernel
theorem c186_92 : cdA 186 92 = some (.iinc 2 1) := by decide +kernel
theorem c186_95 : cdA 186 95 = some (.goto (-60)) := by decide +kernel
theorem b186_0 {d : Nat} {h : HP} {Q : PV → HP → Prop} (H : X d 186 2 [some (P 69), some (I 0), none] [] h Q) : X d 186 0 [some (P 69), none, none] [] h Q :=
  s_iconst c186_0 rfl (s_istore_n c186_1 rfl (H))
theorem b186_2 {d : Nat} {h : HP} {Q : PV → HP → Prop} {v1 : Int} (H : (((h 69 9) ≤ v1) → X d 186 27 [some (P 69), some (I 1), none] [] h Q) ∧ (¬ ((h 69 9) ≤ v1) → ((0 ≤ v1 ∧ v1 < 8) ∧ X d 186 2 [some (P 69), some (I (w32 (v1 + 1))), none] [] (up2 h 105 v1.toNat 600) Q))) : X d 186 2 [some (P 69), some (I v1), none] [] h Q :=
  s_iload_n c186_2 rfl (s_aload_n c186_3 rfl (s_getI c186_4 f186_180 t12_9 sh_69 (s_ifc 25 ((h 69 9) ≤ v1) c186_7 (by decide) rfl ⟨fun q1 => s_iconst c186_25 rfl (s_istore_n c186_26 rfl ((H.1 q1))), fun q1 => s_aload_n c186_10 rfl (s_getP 105 c186_11 f186_120 t12_54 sh_69 g_69_54 (by decide) (by decide) (s_iload_n c186_14 rfl (s_sipush c186_15 ⟨by decide, by decide⟩ (s_iast c186_18 sh_105 ⟨(H.2 q1).1, s_iinc c186_19 rfl rfl rfl (s_goto 2 c186_22 (by decide) ((H.2 q1).2))⟩))))⟩)))
theorem b186_27 {d : Nat} {h : HP} {Q : PV → HP → Prop} {v1 : Int} (H : ((v1 = 0) → Q (I 0) h) ∧ (¬ (v1 = 0) → X d 186 35 [some (P 69), some (I 0), some (I 0)] [] h Q)) : X d 186 27 [some (P 69), some (I v1), none] [] h Q :=
  s_iload_n c186_27 rfl (s_if 101 (v1 = 0) c186_28 (by decide) rfl ⟨fun q2 => s_retV c186_101 R186 (H.1 q2), fun q2 => s_iconst c186_31 rfl (s_istore_n c186_32 rfl (s_iconst c186_33 rfl (s_istore_n c186_34 rfl ((H.2 q2)))))⟩)
theorem b186_35 {d : Nat} {h : HP} {Q : PV → HP → Prop} {v1 v2 : Int} (H : (((h 69 9) ≤ v2) → X d 186 27 [some (P 69), some (I v1), none] [] h Q) ∧ (¬ ((h 69 9) ≤ v2) → X d 186 43 [some (P 69), some (I v1), some (I v2)] [] h Q)) : X d 186 35 [some (P 69), some (I v1), some (I v2)] [] h Q :=
  s_iload_n c186_35 rfl (s_aload_n c186_36 rfl (s_getI c186_37 f186_180 t12_9 sh_69 (s_ifc 98 ((h 69 9) ≤ v2) c186_40 (by decide) rfl ⟨fun q3 => s_goto 27 c186_98 (by decide) (X_weak (A := [some (P 69), some (I v1), none]) (B := [some (P 69), some (I v1), some (I v2)]) ⟨Or.inl rfl, Or.inl rfl, Or.inr ⟨rfl, _, rfl, rfl⟩, trivial⟩ (H.1 q3)), fun q3 => (H.2 q3)⟩)))
theorem b186_43 {d : Nat} {h : HP} {Q : PV → HP → Prop} {v1 v2 : Int} (H : (0 ≤ v2 ∧ v2 < 8) ∧ ((((h 105 v2.toNat) ≤ 0) → X (d + 1) 186 92 [some (P 69), some (I v1), some (I v2)] [] h Q) ∧ (¬ ((h 105 v2.toNat) ≤ 0) → X d 178 0 [some (P 69), some (I v2)] [] h (fun r h' => X (d + 1) 186 57 [some (P 69), some (I v1), some (I v2)] [r] h' Q)))) : X (d + 1) 186 43 [some (P 69), some (I v1), some (I v2)] [] h Q :=
  s_aload_n c186_43 rfl (s_getP 105 c186_44 f186_120 t12_54 sh_69 g_69_54 (by decide) (by decide) (s_iload_n c186_47 rfl (s_iald c186_48 sh_105 ⟨H.1, s_if 92 ((h 105 v2.toNat) ≤ 0) c186_49 (by decide) rfl ⟨fun q4 => (H.2.1 q4), fun q4 => s_aload_n c186_52 rfl (s_iload_n c186_53 rfl (s_cVi c186_54 m186_335 F178 K178 rfl (Nat.le_of_ble_eq_true rfl) rfl S178_69 rfl (H.2.2 q4)))⟩⟩)))
theorem b186_57 {d : Nat} {h : HP} {Q : PV → HP → Prop} {v1 v2 s0 : Int} (H : X d 179 0 [some (P 69), some (I v2), none, none] [] h (fun r h' => X (d + 1) 186 62 [some (P 69), some (I v1), some (I v2)] [r, I s0] h' Q)) : X (d + 1) 186 57 [some (P 69), some (I v1), some (I v2)] [I s0] h Q :=
  s_aload_n c186_57 rfl (s_iload_n c186_58 rfl (s_cVi c186_59 m186_338 F179 K179 rfl (Nat.le_of_ble_eq_true rfl) rfl S179_69 rfl H))
theorem b186_62 {d : Nat} {h : HP} {Q : PV → HP → Prop} {v1 v2 s0 s1 : Int} (H : X d 181 0 [some (P 69), some (I v2), none, none, none] [] h (fun r h' => X (d + 1) 186 68 [some (P 69), some (I v1), some (I v2)] [r, I (w32 (s0 + s1))] h' Q)) : X (d + 1) 186 62 [some (P 69), some (I v1), some (I v2)] [I s1, I s0] h Q :=
  s_iadd c186_62 (s_aload_n c186_63 rfl (s_iload_n c186_64 rfl (s_cVi c186_65 m186_351 F181 K181 rfl (Nat.le_of_ble_eq_true rfl) rfl S181_69 rfl H)))
theorem b186_68 {d : Nat} {h : HP} {Q : PV → HP → Prop} {v1 v2 s0 s1 : Int} (H : X d 180 0 [some (P 69), some (I v2), none, none] [] h (fun r h' => X (d + 1) 186 74 [some (P 69), some (I v1), some (I v2)] [r, I (w32 (s0 + s1))] h' Q)) : X (d + 1) 186 68 [some (P 69), some (I v1), some (I v2)] [I s1, I s0] h Q :=
  s_iadd c186_68 (s_aload_n c186_69 rfl (s_iload_n c186_70 rfl (s_cVi c186_71 m186_341 F180 K180 rfl (Nat.le_of_ble_eq_true rfl) rfl S180_69 rfl H)))
theorem b186_74 {d : Nat} {h : HP} {Q : PV → HP → Prop} {v1 v2 s0 s1 : Int} (H : ((s1 ≤ s0) → X d 186 92 [some (P 69), some (I v1), some (I v2)] [] h Q) ∧ (¬ (s1 ≤ s0) → ((0 ≤ v2 ∧ v2 < 8) ∧ ((0 ≤ v2 ∧ v2 < 8) ∧ X d 186 43 [some (P 69), some (I 1), some (I v2)] [] (up2 h 105 v2.toNat (w32 ((h 105 v2.toNat) - 1))) Q)))) : X d 186 74 [some (P 69), some (I v1), some (I v2)] [I s1, I s0] h Q :=
  s_ifc 92 (s1 ≤ s0) c186_74 (by decide) rfl ⟨fun q5 => (H.1 q5), fun q5 => s_aload_n c186_77 rfl (s_getP 105 c186_78 f186_120 t12_54 sh_69 g_69_54 (by decide) (by decide) (s_iload_n c186_81 rfl (s_dup2 c186_82 (s_iald c186_83 sh_105 ⟨(H.2 q5).1, s_iconst c186_84 rfl (s_isub c186_85 (s_iast c186_86 sh_105 ⟨(H.2 q5).2.1, s_iconst c186_87 rfl (s_istore_n c186_88 rfl (s_goto 43 c186_89 (by decide) ((H.2 q5).2.2)))⟩))⟩))))⟩
theorem b186_92 {d : Nat} {h : HP} {Q : PV → HP → Prop} {v1 v2 : Int} (H : X d 186 35 [some (P 69), some (I v1), some (I (w32 (v2 + 1)))] [] h Q) : X d 186 92 [some (P 69), some (I v1), some (I v2)] [] h Q :=
  s_iinc c186_92 rfl rfl rfl (s_goto 35 c186_95 (by decide) (H))
-- WarmSideModel.restOf(I)I
theorem c187_0 : cdA 187 0 = some (.aload_n 0) := by decide +kernel
theorem c187_1 : cdA 187 1 = some (.invokevirtual 363) := by decide +kernel
theorem m187_363 : mthR (moN 187) 363 = 189 := by decide +kernel
theorem F186 : mF 186 0 3 true := by unfold mF; decide +kernel
theorem K186 : mK 186 = 4 := by decide +kernel
theorem S186_69 : SH0[69]? = some (.inl (moN 186)) := by decide +kernel
theorem c187_4 : cdA 187 4 = some (.aload_n 0) := by decide +kernel
theorem c187_5 : cdA 187 5 = some (.getfield 120) := by decide +kernel
theorem f187_120 : fldR (moN 187) 120 = some (12, 54) := by decide +kernel
theorem c187_8 : cdA 187 8 = some (.iload_n 1) := by decide +kernel
theorem c187_9 : cdA 187 9 = some (.iaload) := by decide +kernel
theorem c187_10 : cdA 187 10 = some (.ireturn) := by decide +kernel
theorem R187 : mK 187 = 0 := by decide +kernel
theorem b187_0 {d : Nat} {h : HP} {Q : PV → HP → Prop} {v1 : Int} (H : X d 186 0 [some (P 69), none, none] [] h (fun _ h' => X (d + 1) 187 4 [some (P 69), some (I v1)] [] h' Q)) : X (d + 1) 187 0 [some (P 69), some (I v1)] [] h Q :=
  s_aload_n c187_0 rfl (s_cVv c187_1 m187_363 F186 K186 rfl (Nat.le_of_ble_eq_true rfl) rfl S186_69 rfl H)
theorem b187_4 {d : Nat} {h : HP} {Q : PV → HP → Prop} {v1 : Int} (H : (0 ≤ v1 ∧ v1 < 8) ∧ Q (I (h 105 v1.toNat)) h) : X d 187 4 [some (P 69), some (I v1)] [] h Q :=
  s_aload_n c187_4 rfl (s_getP 105 c187_5 f187_120 t12_54 sh_69 g_69_54 (by decide) (by decide) (s_iload_n c187_8 rfl (s_iald c187_9 sh_105 ⟨H.1, s_retI c187_10 R187 H.2⟩)))
-- WarmSideModel.rest(II)I
theorem c188_0 : cdA 188 0 = some (.aload_n 0) := by decide +kernel
theorem c188_1 : cdA 188 1 = some (.iload_n 1) := by decide +kernel
theorem c188_2 : cdA 188 2 = some (.invokevirtual 191) := by decide +kernel
theorem m188_191 : mthR (moN 188) 191 = 139 := by decide +kernel
theorem c188_12 : cdA 188 12 = some (.ifCond .ne 9) := by decide +kernel
theorem c188_21 : cdA 188 21 = some (.aload_n 0) := by decide +kernel
theorem c188_22 : cdA 188 22 = some (.iload_n 2) := by decide +kernel
theorem c188_23 : cdA 188 23 = some (.invokevirtual 328) := by decide +kernel
theorem m188_328 : mthR (moN 188) 328 = 180 := by decide +kernel
theorem c188_15 : cdA 188 15 = some (.aload_n 0) := by decide +kernel
theorem c188_16 : cdA 188 16 = some (.iconst (-1)) := by decide +kernel
theorem c188_17 : cdA 188 17 = some (.invokevirtual 187) := by decide +kernel
theorem m188_187 : mthR (moN 188) 187 = 138 := by decide +kernel
theorem c188_20 : cdA 188 20 = some (.ireturn) := by decide +kernel
theorem R188 : mK 188 = 0 := by decide +kernel
theorem c188_26 : cdA 188 26 = some (.aload_n 0) := by decide +kernel
theorem c188_27 : cdA 188 27 = some (.iload_n 1) := by decide +kernel
theorem c188_28 : cdA 188 28 = some (.invokevirtual 366) := by decide +kernel
theorem m188_366 : mthR (moN 188) 366 = 190 := by decide +kernel
theorem F187 : mF 187 1 2 true := by unfold mF; decide +kernel
theorem K187 : ¬ mK 187 = 4 := by decide +kernel
theorem S187_69 : SH0[69]? = some (.inl (moN 187)) := by decide +kernel
theorem c188_31 : cdA 188 31 = some (.ireturn) := by decide +kernel
theorem c188_5 : cdA 188 5 = some (.ifCond .eq 10) := by decide +kernel
theorem c188_8 : cdA 188 8 = some (.iload_n 2) := by decide +kernel
theorem c188_9 : cdA 188 9 = some (.invokestatic 199) := by decide +kernel
theorem m188_199 : mthR (moN 188) 199 = 140 := by decide +kernel
theorem b188_0 {d : Nat} {h : HP} {Q : PV → HP → Prop} {v1 v2 : Int} (H : X d 136 0 [some (P 69), some (I v1)] [] h (fun r h' => X (d + 1) 188 5 [some (P 69), some (I v1), some (I v2)] [r] h' Q)) : X (d + 1) 188 0 [some (P 69), some (I v1), some (I v2)] [] h Q :=
  s_aload_n c188_0 rfl (s_iload_n c188_1 rfl (s_cVi c188_2 m188_191 F136 K136 rfl (Nat.le_of_ble_eq_true rfl) rfl S136_69 rfl H))
theorem b188_12 {d : Nat} {h : HP} {Q : PV → HP → Prop} {v1 v2 s0 : Int} (H : ((¬ s0 = 0) → X d 177 0 [some (P 69), some (I v2), none] [] h (fun _ h' => X (d + 1) 188 26 [some (P 69), some (I v1), some (I v2)] [] h' Q)) ∧ (¬ (¬ s0 = 0) → X (d + 1) 188 15 [some (P 69), some (I v1), some (I v2)] [] h Q)) : X (d + 1) 188 12 [some (P 69), some (I v1), some (I v2)] [I s0] h Q :=
  s_if 21 (¬ s0 = 0) c188_12 (by decide) rfl ⟨fun q1 => s_aload_n c188_21 rfl (s_iload_n c188_22 rfl (s_cVv c188_23 m188_328 F177 K177 rfl (Nat.le_of_ble_eq_true rfl) rfl S177_69 rfl (H.1 q1))), fun q1 => (H.2 q1)⟩
theorem b188_15 {d : Nat} {h : HP} {Q : PV → HP → Prop} {v1 v2 : Int} (H : X d 135 0 [some (P 69), some (I (-1))] [] h (fun r h' => X (d + 1) 188 20 [some (P 69), some (I v1), some (I v2)] [r] h' Q)) : X (d + 1) 188 15 [some (P 69), some (I v1), some (I v2)] [] h Q :=
  s_aload_n c188_15 rfl (s_iconst c188_16 rfl (s_cVi c188_17 m188_187 F135 K135 rfl (Nat.le_of_ble_eq_true rfl) rfl S135_69 rfl H))
theorem b188_20 {d : Nat} {h : HP} {Q : PV → HP → Prop} {v1 v2 s0 : Int} (H : Q (I s0) h) : X d 188 20 [some (P 69), some (I v1), some (I v2)] [I s0] h Q :=
  s_retI c188_20 R188 H
theorem b188_26 {d : Nat} {h : HP} {Q : PV → HP → Prop} {v1 v2 : Int} (H : X d 187 0 [some (P 69), some (I v1)] [] h (fun r h' => X (d + 1) 188 31 [some (P 69), some (I v1), some (I v2)] [r] h' Q)) : X (d + 1) 188 26 [some (P 69), some (I v1), some (I v2)] [] h Q :=
  s_aload_n c188_26 rfl (s_iload_n c188_27 rfl (s_cVi c188_28 m188_366 F187 K187 rfl (Nat.le_of_ble_eq_true rfl) rfl S187_69 rfl H))
theorem b188_31 {d : Nat} {h : HP} {Q : PV → HP → Prop} {v1 v2 s0 : Int} (H : Q (I s0) h) : X d 188 31 [some (P 69), some (I v1), some (I v2)] [I s0] h Q :=
  s_retI c188_31 R188 H
theorem b188_5 {d : Nat} {h : HP} {Q : PV → HP → Prop} {v1 v2 s0 : Int} (H : ((s0 = 0) → X (d + 1) 188 15 [some (P 69), some (I v1), some (I v2)] [] h Q) ∧ (¬ (s0 = 0) → X d 137 0 [some (I v2)] [] h (fun r h' => X (d + 1) 188 12 [some (P 69), some (I v1), some (I v2)] [r] h' Q))) : X (d + 1) 188 5 [some (P 69), some (I v1), some (I v2)] [I s0] h Q :=
  s_if 15 (s0 = 0) c188_5 (by decide) rfl ⟨fun q2 => (H.1 q2), fun q2 => s_iload_n c188_8 rfl (s_cSi c188_9 m188_199 F137 K137 rfl (Nat.le_of_ble_eq_true rfl) rfl rfl (H.2 q2))⟩
-- WarmSideModel.isRuled(I)Z
theorem c189_0 : cdA 189 0 = some (.aload_n 0) := by decide +kernel
theorem c189_1 : cdA 189 1 = some (.getfield 86) := by decide +kernel
theorem f189_86 : fldR (moN 189) 86 = some (12, 29) := by decide +kernel
theorem c189_4 : cdA 189 4 = some (.iload_n 1) := by decide +kernel
theorem c189_5 : cdA 189 5 = some (.iaload) := by decide +kernel
theorem c189_6 : cdA 189 6 = some (.iconst 2) := by decide +kernel
theorem c189_7 : cdA 189 7 = some (.if_icmp .ge 16) := by decide +kernel
theorem c189_23 : cdA 189 23 = some (.iconst 0) := by decide +kernel
theorem c189_24 : cdA 189 24 = some (.ireturn) := by decide +kernel
theorem R189 : mK 189 = 3 := by decide +kernel
theorem c189_10 : cdA 189 10 = some (.aload_n 0) := by decide +kernel
theorem c189_11 : cdA 189 11 = some (.getfield 117) := by decide +kernel
theorem f189_117 : fldR (moN 189) 117 = some (12, 48) := by decide +kernel
theorem c189_14 : cdA 189 14 = some (.iload_n 1) := by decide +kernel
theorem c189_15 : cdA 189 15 = some (.iaload) := by decide +kernel
theorem c189_16 : cdA 189 16 = some (.ifCond .lt 7) := by decide +kernel
theorem c189_19 : cdA 189 19 = some (.iconst 1) := by decide +kernel
theorem c189_20 : cdA 189 20 = some (.goto 4) := by decide +kernel
theorem b189_0 {d : Nat} {h : HP} {Q : PV → HP → Prop} {v1 : Int} (H : (0 ≤ v1 ∧ v1 < 4) ∧ (((2 ≤ (h 95 v1.toNat)) → Q (I 0) h) ∧ (¬ (2 ≤ (h 95 v1.toNat)) → ((0 ≤ v1 ∧ v1 < 12) ∧ ((((h 104 v1.toNat) < 0) → Q (I 0) h) ∧ (¬ ((h 104 v1.toNat) < 0) → Q (I 1) h)))))) : X d 189 0 [some (P 69), some (I v1)] [] h Q :=
  s_aload_n c189_0 rfl (s_getP 95 c189_1 f189_86 t12_29 sh_69 g_69_29 (by decide) (by decide) (s_iload_n c189_4 rfl (s_iald c189_5 sh_95 ⟨H.1, s_iconst c189_6 rfl (s_ifc 23 (2 ≤ (h 95 v1.toNat)) c189_7 (by decide) rfl ⟨fun q1 => s_iconst c189_23 rfl (s_retZ c189_24 R189 ⟨by decide, (H.2.1 q1)⟩), fun q1 => s_aload_n c189_10 rfl (s_getP 104 c189_11 f189_117 t12_48 sh_69 g_69_48 (by decide) (by decide) (s_iload_n c189_14 rfl (s_iald c189_15 sh_104 ⟨(H.2.2 q1).1, s_if 23 ((h 104 v1.toNat) < 0) c189_16 (by decide) rfl ⟨fun q2 => s_iconst c189_23 rfl (s_retZ c189_24 R189 ⟨by decide, ((H.2.2 q1).2.1 q2)⟩), fun q2 => s_iconst c189_19 rfl (s_goto 24 c189_20 (by decide) (s_retZ c189_24 R189 ⟨by decide, ((H.2.2 q1).2.2 q2)⟩))⟩⟩)))⟩)⟩)))
-- WarmSideModel.isRest(II)Z
theorem c190_0 : cdA 190 0 = some (.aload_n 0) := by decide +kernel
theorem c190_1 : cdA 190 1 = some (.iload_n 1) := by decide +kernel
theorem c190_2 : cdA 190 2 = some (.invokevirtual 328) := by decide +kernel
theorem m190_328 : mthR (moN 190) 328 = 180 := by decide +kernel
theorem c190_10 : cdA 190 10 = some (.iload 4) := by decide +kernel
theorem c190_12 : cdA 190 12 = some (.iconst 4) := by decide +kernel
theorem c190_13 : cdA 190 13 = some (.if_icmp .ge 104) := by decide +kernel
theorem c190_117 : cdA 190 117 = some (.iload_n 3) := by decide +kernel
theorem c190_118 : cdA 190 118 = some (.ifCond .ne 5) := by decide +kernel
theorem c190_123 : cdA 190 123 = some (.aload_n 0) := by decide +kernel
theorem c190_124 : cdA 190 124 = some (.invokevirtual 363) := by decide +kernel
theorem m190_363 : mthR (moN 190) 363 = 189 := by decide +kernel
theorem c190_121 : cdA 190 121 = some (.iconst 0) := by decide +kernel
theorem c190_122 : cdA 190 122 = some (.ireturn) := by decide +kernel
theorem R190 : mK 190 = 3 := by decide +kernel
theorem c190_16 : cdA 190 16 = some (.iload_n 2) := by decide +kernel
theorem c190_17 : cdA 190 17 = some (.iload 4) := by decide +kernel
theorem c190_19 : cdA 190 19 = some (.ishr) := by decide +kernel
theorem c190_20 : cdA 190 20 = some (.iconst 1) := by decide +kernel
theorem c190_21 : cdA 190 21 = some (.iand) := by decide +kernel
theorem c190_22 : cdA 190 22 = some (.iconst 1) := by decide +kernel
theorem c190_23 : cdA 190 23 = some (.if_icmp .ne 7) := by decide +kernel
theorem c190_30 : cdA 190 30 = some (.iconst 0) := by decide +kernel
theorem c190_26 : cdA 190 26 = some (.iconst 1) := by decide +kernel
theorem c190_27 : cdA 190 27 = some (.goto 4) := by decide +kernel
theorem c190_100 : cdA 190 100 = some (.iconst 0) := by decide +kernel
theorem c190_101 : cdA 190 101 = some (.istore_n 3) := by decide +kernel
theorem c190_102 : cdA 190 102 = some (.aload_n 0) := by decide +kernel
theorem c190_103 : cdA 190 103 = some (.getfield 135) := by decide +kernel
theorem f190_135 : fldR (moN 190) 135 = some (12, 67) := by decide +kernel
theorem c190_106 : cdA 190 106 = some (.iload 4) := by decide +kernel
theorem c190_108 : cdA 190 108 = some (.iload 5) := by decide +kernel
theorem c190_110 : cdA 190 110 = some (.bastore) := by decide +kernel
theorem c190_111 : cdA 190 111 = some (.iinc 4 1) := by decide +kernel
theorem c190_114 : cdA 190 114 = some (.goto (-104)) := by decide +kernel
theorem c190_127 : cdA 190 127 = some (.aload_n 0) := by decide +kernel
theorem c190_128 : cdA 190 128 = some (.aload_n 0) := by decide +kernel
theorem c190_129 : cdA 190 129 = some (.getfield 46) := by decide +kernel
theorem f190_46 : fldR (moN 190) 46 = some (12, 13) := by decide +kernel
theorem c190_132 : cdA 190 132 = some (.iload_n 1) := by decide +kernel
theorem c190_133 : cdA 190 133 = some (.iaload) := by decide +kernel
theorem c190_134 : cdA 190 134 = some (.putfield 283) := by decide +kernel
theorem f190_283 : fldR (moN 190) 283 = some (12, 55) := by decide +kernel
theorem c190_137 : cdA 190 137 = some (.aload_n 0) := by decide +kernel
theorem c190_138 : cdA 190 138 = some (.iload_n 1) := by decide +kernel
theorem c190_139 : cdA 190 139 = some (.putfield 286) := by decide +kernel
theorem f190_286 : fldR (moN 190) 286 = some (12, 56) := by decide +kernel
theorem c190_142 : cdA 190 142 = some (.iconst 0) := by decide +kernel
theorem c190_143 : cdA 190 143 = some (.istore 4) := by decide +kernel
theorem c190_145 : cdA 190 145 = some (.iload 4) := by decide +kernel
theorem c190_147 : cdA 190 147 = some (.aload_n 0) := by decide +kernel
theorem c190_148 : cdA 190 148 = some (.getfield 232) := by decide +kernel
theorem f190_232 : fldR (moN 190) 232 = some (12, 30) := by decide +kernel
theorem c190_151 : cdA 190 151 = some (.if_icmp .ge 57) := by decide +kernel
theorem c190_208 : cdA 190 208 = some (.iload_n 3) := by decide +kernel
theorem c190_209 : cdA 190 209 = some (.ireturn) := by decide +kernel
theorem c190_154 : cdA 190 154 = some (.aload_n 0) := by decide +kernel
theorem c190_155 : cdA 190 155 = some (.iload 4) := by decide +kernel
theorem c190_157 : cdA 190 157 = some (.invokevirtual 369) := by decide +kernel
theorem m190_369 : mthR (moN 190) 369 = 192 := by decide +kernel
theorem F189 : mF 189 1 2 true := by unfold mF; decide +kernel
theorem K189 : ¬ mK 189 = 4 := by decide +kernel
theorem S189_69 : SH0[69]? = some (.inl (moN 189)) := by decide +kernel
theorem c190_160 : cdA 190 160 = some (.ifCond .eq 12) := by decide +kernel
theorem c190_172 : cdA 190 172 = some (.bipush (-9)) := by decide +kernel
theorem c190_163 : cdA 190 163 = some (.aload_n 0) := by decide +kernel
theorem c190_164 : cdA 190 164 = some (.iload 4) := by decide +kernel
theorem c190_166 : cdA 190 166 = some (.invokevirtual 325) := by decide +kernel
theorem m190_325 : mthR (moN 190) 325 = 176 := by decide +kernel
theorem c190_169 : cdA 190 169 = some (.goto 5) := by decide +kernel
theorem c190_174 : cdA 190 174 = some (.istore 5) := by decide +kernel
theorem c190_176 : cdA 190 176 = some (.iload_n 3) := by decide +kernel
theorem c190_177 : cdA 190 177 = some (.ifCond .eq 23) := by decide +kernel
theorem c190_180 : cdA 190 180 = some (.iload 5) := by decide +kernel
theorem c190_182 : cdA 190 182 = some (.ifCond .lt 14) := by decide +kernel
theorem c190_185 : cdA 190 185 = some (.iload 5) := by decide +kernel
theorem c190_187 : cdA 190 187 = some (.iload_n 2) := by decide +kernel
theorem c190_188 : cdA 190 188 = some (.iload 4) := by decide +kernel
theorem c190_190 : cdA 190 190 = some (.ishr) := by decide +kernel
theorem c190_191 : cdA 190 191 = some (.iconst 1) := by decide +kernel
theorem c190_192 : cdA 190 192 = some (.iand) := by decide +kernel
theorem c190_193 : cdA 190 193 = some (.if_icmp .ne 7) := by decide +kernel
theorem c190_196 : cdA 190 196 = some (.iconst 1) := by decide +kernel
theorem c190_197 : cdA 190 197 = some (.goto 4) := by decide +kernel
theorem c190_200 : cdA 190 200 = some (.iconst 0) := by decide +kernel
theorem c190_201 : cdA 190 201 = some (.istore_n 3) := by decide +kernel
theorem c190_202 : cdA 190 202 = some (.iinc 4 1) := by decide +kernel
theorem c190_205 : cdA 190 205 = some (.goto (-60)) := by decide +kernel
theorem c190_31 : cdA 190 31 = some (.istore 5) := by decide +kernel
theorem c190_33 : cdA 190 33 = some (.iload 4) := by decide +kernel
theorem c190_35 : cdA 190 35 = some (.aload_n 0) := by decide +kernel
theorem c190_36 : cdA 190 36 = some (.getfield 232) := by decide +kernel
theorem c190_39 : cdA 190 39 = some (.if_icmp .ge 16) := by decide +kernel
theorem c190_42 : cdA 190 42 = some (.aload_n 0) := by decide +kernel
theorem c190_43 : cdA 190 43 = some (.iload 4) := by decide +kernel
theorem c190_45 : cdA 190 45 = some (.invokevirtual 369) := by decide +kernel
theorem c190_48 : cdA 190 48 = some (.ifCond .eq 7) := by decide +kernel
theorem c190_51 : cdA 190 51 = some (.iconst 1) := by decide +kernel
theorem c190_52 : cdA 190 52 = some (.goto 4) := by decide +kernel
theorem c190_5 : cdA 190 5 = some (.iconst 1) := by decide +kernel
theorem c190_6 : cdA 190 6 = some (.istore_n 3) := by decide +kernel
theorem c190_7 : cdA 190 7 = some (.iconst 0) := by decide +kernel
theorem c190_8 : cdA 190 8 = some (.istore 4) := by decide +kernel
theorem c190_55 : cdA 190 55 = some (.iconst 0) := by decide +kernel
theorem c190_56 : cdA 190 56 = some (.istore 6) := by decide +kernel
theorem c190_58 : cdA 190 58 = some (.iload_n 3) := by decide +kernel
theorem c190_59 : cdA 190 59 = some (.ifCond .eq 41) := by decide +kernel
theorem c190_62 : cdA 190 62 = some (.iload 6) := by decide +kernel
theorem c190_64 : cdA 190 64 = some (.ifCond .ne 32) := by decide +kernel
theorem c190_67 : cdA 190 67 = some (.iload 5) := by decide +kernel
theorem c190_69 : cdA 190 69 = some (.iload 4) := by decide +kernel
theorem c190_71 : cdA 190 71 = some (.aload_n 0) := by decide +kernel
theorem c190_72 : cdA 190 72 = some (.getfield 232) := by decide +kernel
theorem c190_75 : cdA 190 75 = some (.if_icmp .ge 17) := by decide +kernel
theorem c190_78 : cdA 190 78 = some (.aload_n 0) := by decide +kernel
theorem c190_79 : cdA 190 79 = some (.getfield 135) := by decide +kernel
theorem c190_82 : cdA 190 82 = some (.iload 4) := by decide +kernel
theorem c190_84 : cdA 190 84 = some (.baload) := by decide +kernel
theorem c190_85 : cdA 190 85 = some (.ifCond .eq 7) := by decide +kernel
theorem c190_88 : cdA 190 88 = some (.iconst 1) := by decide +kernel
theorem c190_89 : cdA 190 89 = some (.goto 4) := by decide +kernel
theorem c190_92 : cdA 190 92 = some (.iconst 0) := by decide +kernel
theorem c190_93 : cdA 190 93 = some (.if_icmp .ne 7) := by decide +kernel
theorem c190_96 : cdA 190 96 = some (.iconst 1) := by decide +kernel
theorem c190_97 : cdA 190 97 = some (.goto 4) := by decide +kernel
theorem b190_0 {d : Nat} {h : HP} {Q : PV → HP → Prop} {v1 v2 : Int} (H : X d 177 0 [some (P 69), some (I v1), none] [] h (fun _ h' => X (d + 1) 190 5 [some (P 69), some (I v1), some (I v2), none, none, none, none] [] h' Q)) : X (d + 1) 190 0 [some (P 69), some (I v1), some (I v2), none, none, none, none] [] h Q :=
  s_aload_n c190_0 rfl (s_iload_n c190_1 rfl (s_cVv c190_2 m190_328 F177 K177 rfl (Nat.le_of_ble_eq_true rfl) rfl S177_69 rfl H))
theorem b190_10 {d : Nat} {h : HP} {Q : PV → HP → Prop} {v1 v2 v3 v4 : Int} (H : ((4 ≤ v4) → (((¬ v3 = 0) → X d 186 0 [some (P 69), none, none] [] h (fun _ h' => X (d + 1) 190 127 [some (P 69), some (I v1), some (I v2), some (I v3), some (I v4), none, none] [] h' Q)) ∧ (¬ (¬ v3 = 0) → Q (I 0) h))) ∧ (¬ (4 ≤ v4) → (((¬ (bAnd (bShr v2 v4) 1) = 1) → X (d + 1) 190 31 [some (P 69), some (I v1), some (I v2), some (I v3), some (I v4), none, none] [I 0] h Q) ∧ (¬ (¬ (bAnd (bShr v2 v4) 1) = 1) → X (d + 1) 190 31 [some (P 69), some (I v1), some (I v2), some (I v3), some (I v4), none, none] [I 1] h Q)))) : X (d + 1) 190 10 [some (P 69), some (I v1), some (I v2), some (I v3), some (I v4), none, none] [] h Q :=
  s_iload c190_10 rfl (s_iconst c190_12 rfl (s_ifc 117 (4 ≤ v4) c190_13 (by decide) rfl ⟨fun q1 => s_iload_n c190_117 rfl (s_if 123 (¬ v3 = 0) c190_118 (by decide) rfl ⟨fun q2 => s_aload_n c190_123 rfl (s_cVv c190_124 m190_363 F186 K186 rfl (Nat.le_of_ble_eq_true rfl) rfl S186_69 rfl ((H.1 q1).1 q2)), fun q2 => s_iconst c190_121 rfl (s_retZ c190_122 R190 ⟨by decide, ((H.1 q1).2 q2)⟩)⟩), fun q1 => s_iload_n c190_16 rfl (s_iload c190_17 rfl (s_ishr c190_19 (s_iconst c190_20 rfl (s_iand c190_21 (s_iconst c190_22 rfl (s_ifc 30 (¬ (bAnd (bShr v2 v4) 1) = 1) c190_23 (by decide) rfl ⟨fun q3 => s_iconst c190_30 rfl (((H.2 q1).1 q3)), fun q3 => s_iconst c190_26 rfl (s_goto 31 c190_27 (by decide) (((H.2 q1).2 q3)))⟩))))))⟩))
theorem b190_100 {d : Nat} {h : HP} {Q : PV → HP → Prop} {v1 v2 v3 v4 v5 v6 : Int} (H : X d 190 101 [some (P 69), some (I v1), some (I v2), some (I v3), some (I v4), some (I v5), some (I v6)] [I 0] h Q) : X d 190 100 [some (P 69), some (I v1), some (I v2), some (I v3), some (I v4), some (I v5), some (I v6)] [] h Q :=
  s_iconst c190_100 rfl (H)
theorem b190_101 {d : Nat} {h : HP} {Q : PV → HP → Prop} {v1 v2 v3 v4 v5 v6 s0 : Int} (H : (0 ≤ v4 ∧ v4 < 4) ∧ (v5 = 0 ∨ v5 = 1) ∧ X d 190 10 [some (P 69), some (I v1), some (I v2), some (I s0), some (I (w32 (v4 + 1))), none, none] [] (up2 h 110 v4.toNat v5) Q) : X d 190 101 [some (P 69), some (I v1), some (I v2), some (I v3), some (I v4), some (I v5), some (I v6)] [I s0] h Q :=
  s_istore_n c190_101 rfl (s_aload_n c190_102 rfl (s_getP 110 c190_103 f190_135 t12_67 sh_69 g_69_67 (by decide) (by decide) (s_iload c190_106 rfl (s_iload c190_108 rfl (s_bast c190_110 sh_110 ⟨H.1, H.2.1, s_iinc c190_111 rfl rfl rfl (s_goto 10 c190_114 (by decide) (X_weak (A := [some (P 69), some (I v1), some (I v2), some (I s0), some (I (w32 (v4 + 1))), none, none]) (B := [some (P 69), some (I v1), some (I v2), some (I s0), some (I (w32 (v4 + 1))), some (I v5), some (I v6)]) ⟨Or.inl rfl, Or.inl rfl, Or.inl rfl, Or.inl rfl, Or.inl rfl, Or.inr ⟨rfl, _, rfl, rfl⟩, Or.inr ⟨rfl, _, rfl, rfl⟩, trivial⟩ H.2.2))⟩)))))
theorem b190_127 {d : Nat} {h : HP} {Q : PV → HP → Prop} {v1 v2 v3 v4 : Int} (H : (0 ≤ v1 ∧ v1 < 12) ∧ X d 190 145 [some (P 69), some (I v1), some (I v2), some (I v3), some (I 0), none, none] [] (up2 (up2 h 69 55 (h 82 v1.toNat)) 69 56 v1) Q) : X d 190 127 [some (P 69), some (I v1), some (I v2), some (I v3), some (I v4), none, none] [] h Q :=
  s_aload_n c190_127 rfl (s_aload_n c190_128 rfl (s_getP 82 c190_129 f190_46 t12_13 sh_69 g_69_13 (by decide) (by decide) (s_iload_n c190_132 rfl (s_iald c190_133 sh_82 ⟨H.1, s_putI c190_134 f190_283 t12_55 n12_55 sh_69 (s_aload_n c190_137 rfl (s_iload_n c190_138 rfl (s_putI c190_139 f190_286 t12_56 n12_56 sh_69 (s_iconst c190_142 rfl (s_istore c190_143 rfl (H.2))))))⟩))))
theorem b190_145 {d : Nat} {h : HP} {Q : PV → HP → Prop} {v1 v2 v3 v4 : Int} (H : (((h 69 30) ≤ v4) → ((v3 = 0 ∨ v3 = 1) ∧ Q (I v3) h)) ∧ (¬ ((h 69 30) ≤ v4) → X d 189 0 [some (P 69), some (I v4)] [] h (fun r h' => X (d + 1) 190 160 [some (P 69), some (I v1), some (I v2), some (I v3), some (I v4), none, none] [r] h' Q))) : X (d + 1) 190 145 [some (P 69), some (I v1), some (I v2), some (I v3), some (I v4), none, none] [] h Q :=
  s_iload c190_145 rfl (s_aload_n c190_147 rfl (s_getI c190_148 f190_232 t12_30 sh_69 (s_ifc 208 ((h 69 30) ≤ v4) c190_151 (by decide) rfl ⟨fun q4 => s_iload_n c190_208 rfl (s_retZ c190_209 R190 (H.1 q4)), fun q4 => s_aload_n c190_154 rfl (s_iload c190_155 rfl (s_cVi c190_157 m190_369 F189 K189 rfl (Nat.le_of_ble_eq_true rfl) rfl S189_69 rfl (H.2 q4)))⟩)))
theorem b190_160 {d : Nat} {h : HP} {Q : PV → HP → Prop} {v1 v2 v3 v4 s0 : Int} (H : ((s0 = 0) → X (d + 1) 190 174 [some (P 69), some (I v1), some (I v2), some (I v3), some (I v4), none, none] [I (-9)] h Q) ∧ (¬ (s0 = 0) → X d 173 0 [some (P 69), some (I v4)] [] h (fun r h' => X (d + 1) 190 169 [some (P 69), some (I v1), some (I v2), some (I v3), some (I v4), none, none] [r] h' Q))) : X (d + 1) 190 160 [some (P 69), some (I v1), some (I v2), some (I v3), some (I v4), none, none] [I s0] h Q :=
  s_if 172 (s0 = 0) c190_160 (by decide) rfl ⟨fun q5 => s_bipush c190_172 ⟨by decide, by decide⟩ ((H.1 q5)), fun q5 => s_aload_n c190_163 rfl (s_iload c190_164 rfl (s_cVi c190_166 m190_325 F173 K173 rfl (Nat.le_of_ble_eq_true rfl) rfl S173_69 rfl (H.2 q5)))⟩
theorem b190_169 {d : Nat} {h : HP} {Q : PV → HP → Prop} {v1 v2 v3 v4 s0 : Int} (H : X d 190 174 [some (P 69), some (I v1), some (I v2), some (I v3), some (I v4), none, none] [I s0] h Q) : X d 190 169 [some (P 69), some (I v1), some (I v2), some (I v3), some (I v4), none, none] [I s0] h Q :=
  s_goto 174 c190_169 (by decide) (H)
theorem b190_174 {d : Nat} {h : HP} {Q : PV → HP → Prop} {v1 v2 v3 v4 s0 : Int} (H : ((v3 = 0) → X d 190 200 [some (P 69), some (I v1), some (I v2), some (I v3), some (I v4), some (I s0), none] [] h Q) ∧ (¬ (v3 = 0) → (((s0 < 0) → X d 190 196 [some (P 69), some (I v1), some (I v2), some (I v3), some (I v4), some (I s0), none] [] h Q) ∧ (¬ (s0 < 0) → (((¬ s0 = (bAnd (bShr v2 v4) 1)) → X d 190 200 [some (P 69), some (I v1), some (I v2), some (I v3), some (I v4), some (I s0), none] [] h Q) ∧ (¬ (¬ s0 = (bAnd (bShr v2 v4) 1)) → X d 190 196 [some (P 69), some (I v1), some (I v2), some (I v3), some (I v4), some (I s0), none] [] h Q)))))) : X d 190 174 [some (P 69), some (I v1), some (I v2), some (I v3), some (I v4), none, none] [I s0] h Q :=
  s_istore c190_174 rfl (s_iload_n c190_176 rfl (s_if 200 (v3 = 0) c190_177 (by decide) rfl ⟨fun q6 => (H.1 q6), fun q6 => s_iload c190_180 rfl (s_if 196 (s0 < 0) c190_182 (by decide) rfl ⟨fun q7 => ((H.2 q6).1 q7), fun q7 => s_iload c190_185 rfl (s_iload_n c190_187 rfl (s_iload c190_188 rfl (s_ishr c190_190 (s_iconst c190_191 rfl (s_iand c190_192 (s_ifc 200 (¬ s0 = (bAnd (bShr v2 v4) 1)) c190_193 (by decide) rfl ⟨fun q8 => (((H.2 q6).2 q7).1 q8), fun q8 => (((H.2 q6).2 q7).2 q8)⟩))))))⟩)⟩))
theorem b190_196 {d : Nat} {h : HP} {Q : PV → HP → Prop} {v1 v2 v3 v4 v5 : Int} (H : X d 190 201 [some (P 69), some (I v1), some (I v2), some (I v3), some (I v4), some (I v5), none] [I 1] h Q) : X d 190 196 [some (P 69), some (I v1), some (I v2), some (I v3), some (I v4), some (I v5), none] [] h Q :=
  s_iconst c190_196 rfl (s_goto 201 c190_197 (by decide) (H))
theorem b190_200 {d : Nat} {h : HP} {Q : PV → HP → Prop} {v1 v2 v3 v4 v5 : Int} (H : X d 190 201 [some (P 69), some (I v1), some (I v2), some (I v3), some (I v4), some (I v5), none] [I 0] h Q) : X d 190 200 [some (P 69), some (I v1), some (I v2), some (I v3), some (I v4), some (I v5), none] [] h Q :=
  s_iconst c190_200 rfl (H)
theorem b190_201 {d : Nat} {h : HP} {Q : PV → HP → Prop} {v1 v2 v3 v4 v5 s0 : Int} (H : X d 190 145 [some (P 69), some (I v1), some (I v2), some (I s0), some (I (w32 (v4 + 1))), none, none] [] h Q) : X d 190 201 [some (P 69), some (I v1), some (I v2), some (I v3), some (I v4), some (I v5), none] [I s0] h Q :=
  s_istore_n c190_201 rfl (s_iinc c190_202 rfl rfl rfl (s_goto 145 c190_205 (by decide) (X_weak (A := [some (P 69), some (I v1), some (I v2), some (I s0), some (I (w32 (v4 + 1))), none, none]) (B := [some (P 69), some (I v1), some (I v2), some (I s0), some (I (w32 (v4 + 1))), some (I v5), none]) ⟨Or.inl rfl, Or.inl rfl, Or.inl rfl, Or.inl rfl, Or.inl rfl, Or.inr ⟨rfl, _, rfl, rfl⟩, Or.inl rfl, trivial⟩ H)))
theorem b190_31 {d : Nat} {h : HP} {Q : PV → HP → Prop} {v1 v2 v3 v4 s0 : Int} (H : (((h 69 30) ≤ v4) → X (d + 1) 190 55 [some (P 69), some (I v1), some (I v2), some (I v3), some (I v4), some (I s0), none] [] h Q) ∧ (¬ ((h 69 30) ≤ v4) → X d 189 0 [some (P 69), some (I v4)] [] h (fun r h' => X (d + 1) 190 48 [some (P 69), some (I v1), some (I v2), some (I v3), some (I v4), some (I s0), none] [r] h' Q))) : X (d + 1) 190 31 [some (P 69), some (I v1), some (I v2), some (I v3), some (I v4), none, none] [I s0] h Q :=
  s_istore c190_31 rfl (s_iload c190_33 rfl (s_aload_n c190_35 rfl (s_getI c190_36 f190_232 t12_30 sh_69 (s_ifc 55 ((h 69 30) ≤ v4) c190_39 (by decide) rfl ⟨fun q9 => (H.1 q9), fun q9 => s_aload_n c190_42 rfl (s_iload c190_43 rfl (s_cVi c190_45 m190_369 F189 K189 rfl (Nat.le_of_ble_eq_true rfl) rfl S189_69 rfl (H.2 q9)))⟩))))
theorem b190_48 {d : Nat} {h : HP} {Q : PV → HP → Prop} {v1 v2 v3 v4 v5 s0 : Int} (H : ((s0 = 0) → X d 190 55 [some (P 69), some (I v1), some (I v2), some (I v3), some (I v4), some (I v5), none] [] h Q) ∧ (¬ (s0 = 0) → X d 190 56 [some (P 69), some (I v1), some (I v2), some (I v3), some (I v4), some (I v5), none] [I 1] h Q)) : X d 190 48 [some (P 69), some (I v1), some (I v2), some (I v3), some (I v4), some (I v5), none] [I s0] h Q :=
  s_if 55 (s0 = 0) c190_48 (by decide) rfl ⟨fun q10 => (H.1 q10), fun q10 => s_iconst c190_51 rfl (s_goto 56 c190_52 (by decide) ((H.2 q10)))⟩
theorem b190_5 {d : Nat} {h : HP} {Q : PV → HP → Prop} {v1 v2 : Int} (H : X d 190 10 [some (P 69), some (I v1), some (I v2), some (I 1), some (I 0), none, none] [] h Q) : X d 190 5 [some (P 69), some (I v1), some (I v2), none, none, none, none] [] h Q :=
  s_iconst c190_5 rfl (s_istore_n c190_6 rfl (s_iconst c190_7 rfl (s_istore c190_8 rfl (H))))
theorem b190_55 {d : Nat} {h : HP} {Q : PV → HP → Prop} {v1 v2 v3 v4 v5 : Int} (H : X d 190 56 [some (P 69), some (I v1), some (I v2), some (I v3), some (I v4), some (I v5), none] [I 0] h Q) : X d 190 55 [some (P 69), some (I v1), some (I v2), some (I v3), some (I v4), some (I v5), none] [] h Q :=
  s_iconst c190_55 rfl (H)
theorem b190_56 {d : Nat} {h : HP} {Q : PV → HP → Prop} {v1 v2 v3 v4 v5 s0 : Int} (H : ((v3 = 0) → X d 190 100 [some (P 69), some (I v1), some (I v2), some (I v3), some (I v4), some (I v5), some (I s0)] [] h Q) ∧ (¬ (v3 = 0) → (((¬ s0 = 0) → X d 190 96 [some (P 69), some (I v1), some (I v2), some (I v3), some (I v4), some (I v5), some (I s0)] [] h Q) ∧ (¬ (¬ s0 = 0) → ((((h 69 30) ≤ v4) → X d 190 92 [some (P 69), some (I v1), some (I v2), some (I v3), some (I v4), some (I v5), some (I s0)] [I v5] h Q) ∧ (¬ ((h 69 30) ≤ v4) → ((0 ≤ v4 ∧ v4 < 4) ∧ ((((h 110 v4.toNat) = 0) → X d 190 92 [some (P 69), some (I v1), some (I v2), some (I v3), some (I v4), some (I v5), some (I s0)] [I v5] h Q) ∧ (¬ ((h 110 v4.toNat) = 0) → X d 190 93 [some (P 69), some (I v1), some (I v2), some (I v3), some (I v4), some (I v5), some (I s0)] [I 1, I v5] h Q))))))))) : X d 190 56 [some (P 69), some (I v1), some (I v2), some (I v3), some (I v4), some (I v5), none] [I s0] h Q :=
  s_istore c190_56 rfl (s_iload_n c190_58 rfl (s_if 100 (v3 = 0) c190_59 (by decide) rfl ⟨fun q11 => (H.1 q11), fun q11 => s_iload c190_62 rfl (s_if 96 (¬ s0 = 0) c190_64 (by decide) rfl ⟨fun q12 => ((H.2 q11).1 q12), fun q12 => s_iload c190_67 rfl (s_iload c190_69 rfl (s_aload_n c190_71 rfl (s_getI c190_72 f190_232 t12_30 sh_69 (s_ifc 92 ((h 69 30) ≤ v4) c190_75 (by decide) rfl ⟨fun q13 => (((H.2 q11).2 q12).1 q13), fun q13 => s_aload_n c190_78 rfl (s_getP 110 c190_79 f190_135 t12_67 sh_69 g_69_67 (by decide) (by decide) (s_iload c190_82 rfl (s_bald c190_84 sh_110 ⟨(((H.2 q11).2 q12).2 q13).1, s_if 92 ((h 110 v4.toNat) = 0) c190_85 (by decide) rfl ⟨fun q14 => ((((H.2 q11).2 q12).2 q13).2.1 q14), fun q14 => s_iconst c190_88 rfl (s_goto 93 c190_89 (by decide) (((((H.2 q11).2 q12).2 q13).2.2 q14)))⟩⟩)))⟩))))⟩)⟩))
theorem b190_92 {d : Nat} {h : HP} {Q : PV → HP → Prop} {v1 v2 v3 v4 v5 v6 s0 : Int} (H : X d 190 93 [some (P 69), some (I v1), some (I v2), some (I v3), some (I v4), some (I v5), some (I v6)] [I 0, I s0] h Q) : X d 190 92 [some (P 69), some (I v1), some (I v2), some (I v3), some (I v4), some (I v5), some (I v6)] [I s0] h Q :=
  s_iconst c190_92 rfl (H)
theorem b190_93 {d : Nat} {h : HP} {Q : PV → HP → Prop} {v1 v2 v3 v4 v5 v6 s0 s1 : Int} (H : ((¬ s0 = s1) → X d 190 100 [some (P 69), some (I v1), some (I v2), some (I v3), some (I v4), some (I v5), some (I v6)] [] h Q) ∧ (¬ (¬ s0 = s1) → X d 190 96 [some (P 69), some (I v1), some (I v2), some (I v3), some (I v4), some (I v5), some (I v6)] [] h Q)) : X d 190 93 [some (P 69), some (I v1), some (I v2), some (I v3), some (I v4), some (I v5), some (I v6)] [I s1, I s0] h Q :=
  s_ifc 100 (¬ s0 = s1) c190_93 (by decide) rfl ⟨fun q15 => (H.1 q15), fun q15 => (H.2 q15)⟩
theorem b190_96 {d : Nat} {h : HP} {Q : PV → HP → Prop} {v1 v2 v3 v4 v5 v6 : Int} (H : X d 190 101 [some (P 69), some (I v1), some (I v2), some (I v3), some (I v4), some (I v5), some (I v6)] [I 1] h Q) : X d 190 96 [some (P 69), some (I v1), some (I v2), some (I v3), some (I v4), some (I v5), some (I v6)] [] h Q :=
  s_iconst c190_96 rfl (s_goto 101 c190_97 (by decide) (H))
-- WarmSideModel.rests(II)I
theorem c191_0 : cdA 191 0 = some (.iload_n 1) := by decide +kernel
theorem c191_1 : cdA 191 1 = some (.invokestatic 199) := by decide +kernel
theorem m191_199 : mthR (moN 191) 199 = 140 := by decide +kernel
theorem c191_12 : cdA 191 12 = some (.ireturn) := by decide +kernel
theorem R191 : mK 191 = 0 := by decide +kernel
theorem c191_24 : cdA 191 24 = some (.ireturn) := by decide +kernel
theorem c191_30 : cdA 191 30 = some (.iload 4) := by decide +kernel
theorem c191_32 : cdA 191 32 = some (.bipush 16) := by decide +kernel
theorem c191_34 : cdA 191 34 = some (.if_icmp .ge 30) := by decide +kernel
theorem c191_64 : cdA 191 64 = some (.iload_n 2) := by decide +kernel
theorem c191_65 : cdA 191 65 = some (.ifCond .ge 7) := by decide +kernel
theorem c191_72 : cdA 191 72 = some (.bipush (-9)) := by decide +kernel
theorem c191_74 : cdA 191 74 = some (.ireturn) := by decide +kernel
theorem c191_68 : cdA 191 68 = some (.iload_n 3) := by decide +kernel
theorem c191_69 : cdA 191 69 = some (.goto 5) := by decide +kernel
theorem c191_37 : cdA 191 37 = some (.aload_n 0) := by decide +kernel
theorem c191_38 : cdA 191 38 = some (.iload_n 1) := by decide +kernel
theorem c191_39 : cdA 191 39 = some (.iload 4) := by decide +kernel
theorem c191_41 : cdA 191 41 = some (.invokevirtual 372) := by decide +kernel
theorem m191_372 : mthR (moN 191) 372 = 193 := by decide +kernel
theorem F190 : mF 190 2 7 true := by unfold mF; decide +kernel
theorem K190 : ¬ mK 190 = 4 := by decide +kernel
theorem S190_69 : SH0[69]? = some (.inl (moN 190)) := by decide +kernel
theorem c191_4 : cdA 191 4 = some (.ifCond .ne 9) := by decide +kernel
theorem c191_13 : cdA 191 13 = some (.iload_n 2) := by decide +kernel
theorem c191_14 : cdA 191 14 = some (.iconst (-1)) := by decide +kernel
theorem c191_15 : cdA 191 15 = some (.if_icmp .ge 10) := by decide +kernel
theorem c191_25 : cdA 191 25 = some (.iconst 0) := by decide +kernel
theorem c191_26 : cdA 191 26 = some (.istore_n 3) := by decide +kernel
theorem c191_27 : cdA 191 27 = some (.iconst 0) := by decide +kernel
theorem c191_28 : cdA 191 28 = some (.istore 4) := by decide +kernel
theorem c191_18 : cdA 191 18 = some (.aload_n 0) := by decide +kernel
theorem c191_19 : cdA 191 19 = some (.bipush (-4)) := by decide +kernel
theorem c191_21 : cdA 191 21 = some (.invokevirtual 187) := by decide +kernel
theorem m191_187 : mthR (moN 191) 187 = 138 := by decide +kernel
theorem c191_7 : cdA 191 7 = some (.aload_n 0) := by decide +kernel
theorem c191_8 : cdA 191 8 = some (.iconst (-1)) := by decide +kernel
theorem c191_9 : cdA 191 9 = some (.invokevirtual 187) := by decide +kernel
theorem c191_44 : cdA 191 44 = some (.ifCond .eq 14) := by decide +kernel
theorem c191_47 : cdA 191 47 = some (.iload_n 3) := by decide +kernel
theorem c191_48 : cdA 191 48 = some (.iload_n 2) := by decide +kernel
theorem c191_49 : cdA 191 49 = some (.if_icmp .ne 6) := by decide +kernel
theorem c191_55 : cdA 191 55 = some (.iinc 3 1) := by decide +kernel
theorem c191_52 : cdA 191 52 = some (.iload 4) := by decide +kernel
theorem c191_54 : cdA 191 54 = some (.ireturn) := by decide +kernel
theorem c191_58 : cdA 191 58 = some (.iinc 4 1) := by decide +kernel
theorem c191_61 : cdA 191 61 = some (.goto (-31)) := by decide +kernel
theorem b191_0 {d : Nat} {h : HP} {Q : PV → HP → Prop} {v1 v2 : Int} (H : X d 137 0 [some (I v1)] [] h (fun r h' => X (d + 1) 191 4 [some (P 69), some (I v1), some (I v2), none, none] [r] h' Q)) : X (d + 1) 191 0 [some (P 69), some (I v1), some (I v2), none, none] [] h Q :=
  s_iload_n c191_0 rfl (s_cSi c191_1 m191_199 F137 K137 rfl (Nat.le_of_ble_eq_true rfl) rfl rfl H)
theorem b191_12 {d : Nat} {h : HP} {Q : PV → HP → Prop} {v1 v2 s0 : Int} (H : Q (I s0) h) : X d 191 12 [some (P 69), some (I v1), some (I v2), none, none] [I s0] h Q :=
  s_retI c191_12 R191 H
theorem b191_24 {d : Nat} {h : HP} {Q : PV → HP → Prop} {v1 v2 s0 : Int} (H : Q (I s0) h) : X d 191 24 [some (P 69), some (I v1), some (I v2), none, none] [I s0] h Q :=
  s_retI c191_24 R191 H
theorem b191_30 {d : Nat} {h : HP} {Q : PV → HP → Prop} {v1 v2 v3 v4 : Int} (H : ((16 ≤ v4) → (((0 ≤ v2) → Q (I (-9)) h) ∧ (¬ (0 ≤ v2) → Q (I v3) h))) ∧ (¬ (16 ≤ v4) → X d 190 0 [some (P 69), some (I v1), some (I v4), none, none, none, none] [] h (fun r h' => X (d + 1) 191 44 [some (P 69), some (I v1), some (I v2), some (I v3), some (I v4)] [r] h' Q))) : X (d + 1) 191 30 [some (P 69), some (I v1), some (I v2), some (I v3), some (I v4)] [] h Q :=
  s_iload c191_30 rfl (s_bipush c191_32 ⟨by decide, by decide⟩ (s_ifc 64 (16 ≤ v4) c191_34 (by decide) rfl ⟨fun q1 => s_iload_n c191_64 rfl (s_if 72 (0 ≤ v2) c191_65 (by decide) rfl ⟨fun q2 => s_bipush c191_72 ⟨by decide, by decide⟩ (s_retI c191_74 R191 ((H.1 q1).1 q2)), fun q2 => s_iload_n c191_68 rfl (s_goto 74 c191_69 (by decide) (s_retI c191_74 R191 ((H.1 q1).2 q2)))⟩), fun q1 => s_aload_n c191_37 rfl (s_iload_n c191_38 rfl (s_iload c191_39 rfl (s_cVi c191_41 m191_372 F190 K190 rfl (Nat.le_of_ble_eq_true rfl) rfl S190_69 rfl (H.2 q1))))⟩))
theorem b191_4 {d : Nat} {h : HP} {Q : PV → HP → Prop} {v1 v2 s0 : Int} (H : ((¬ s0 = 0) → ((((-1) ≤ v2) → X (d + 1) 191 30 [some (P 69), some (I v1), some (I v2), some (I 0), some (I 0)] [] h Q) ∧ (¬ ((-1) ≤ v2) → X d 135 0 [some (P 69), some (I (-4))] [] h (fun r h' => X (d + 1) 191 24 [some (P 69), some (I v1), some (I v2), none, none] [r] h' Q)))) ∧ (¬ (¬ s0 = 0) → X d 135 0 [some (P 69), some (I (-1))] [] h (fun r h' => X (d + 1) 191 12 [some (P 69), some (I v1), some (I v2), none, none] [r] h' Q))) : X (d + 1) 191 4 [some (P 69), some (I v1), some (I v2), none, none] [I s0] h Q :=
  s_if 13 (¬ s0 = 0) c191_4 (by decide) rfl ⟨fun q3 => s_iload_n c191_13 rfl (s_iconst c191_14 rfl (s_ifc 25 ((-1) ≤ v2) c191_15 (by decide) rfl ⟨fun q4 => s_iconst c191_25 rfl (s_istore_n c191_26 rfl (s_iconst c191_27 rfl (s_istore c191_28 rfl (((H.1 q3).1 q4))))), fun q4 => s_aload_n c191_18 rfl (s_bipush c191_19 ⟨by decide, by decide⟩ (s_cVi c191_21 m191_187 F135 K135 rfl (Nat.le_of_ble_eq_true rfl) rfl S135_69 rfl ((H.1 q3).2 q4)))⟩)), fun q3 => s_aload_n c191_7 rfl (s_iconst c191_8 rfl (s_cVi c191_9 m191_187 F135 K135 rfl (Nat.le_of_ble_eq_true rfl) rfl S135_69 rfl (H.2 q3)))⟩
theorem b191_44 {d : Nat} {h : HP} {Q : PV → HP → Prop} {v1 v2 v3 v4 s0 : Int} (H : ((s0 = 0) → X d 191 58 [some (P 69), some (I v1), some (I v2), some (I v3), some (I v4)] [] h Q) ∧ (¬ (s0 = 0) → (((¬ v3 = v2) → X d 191 58 [some (P 69), some (I v1), some (I v2), some (I (w32 (v3 + 1))), some (I v4)] [] h Q) ∧ (¬ (¬ v3 = v2) → Q (I v4) h)))) : X d 191 44 [some (P 69), some (I v1), some (I v2), some (I v3), some (I v4)] [I s0] h Q :=
  s_if 58 (s0 = 0) c191_44 (by decide) rfl ⟨fun q5 => (H.1 q5), fun q5 => s_iload_n c191_47 rfl (s_iload_n c191_48 rfl (s_ifc 55 (¬ v3 = v2) c191_49 (by decide) rfl ⟨fun q6 => s_iinc c191_55 rfl rfl rfl (((H.2 q5).1 q6)), fun q6 => s_iload c191_52 rfl (s_retI c191_54 R191 ((H.2 q5).2 q6))⟩))⟩
theorem b191_58 {d : Nat} {h : HP} {Q : PV → HP → Prop} {v1 v2 v3 v4 : Int} (H : X d 191 30 [some (P 69), some (I v1), some (I v2), some (I v3), some (I (w32 (v4 + 1)))] [] h Q) : X d 191 58 [some (P 69), some (I v1), some (I v2), some (I v3), some (I v4)] [] h Q :=
  s_iinc c191_58 rfl rfl rfl (s_goto 30 c191_61 (by decide) (H))
-- WarmSideModel.span(II)I
theorem c192_0 : cdA 192 0 = some (.iload_n 1) := by decide +kernel
theorem c192_1 : cdA 192 1 = some (.iconst 0) := by decide +kernel
theorem c192_2 : cdA 192 2 = some (.iconst 2) := by decide +kernel
theorem c192_3 : cdA 192 3 = some (.invokestatic 183) := by decide +kernel
theorem m192_183 : mthR (moN 192) 183 = 137 := by decide +kernel
theorem c192_15 : cdA 192 15 = some (.ireturn) := by decide +kernel
theorem R192 : mK 192 = 0 := by decide +kernel
theorem c192_26 : cdA 192 26 = some (.ireturn) := by decide +kernel
theorem c192_39 : cdA 192 39 = some (.ireturn) := by decide +kernel
theorem c192_6 : cdA 192 6 = some (.ifCond .ne 10) := by decide +kernel
theorem c192_16 : cdA 192 16 = some (.iload_n 2) := by decide +kernel
theorem c192_17 : cdA 192 17 = some (.ifCond .ge 10) := by decide +kernel
theorem c192_27 : cdA 192 27 = some (.iload_n 2) := by decide +kernel
theorem c192_28 : cdA 192 28 = some (.bipush 50) := by decide +kernel
theorem c192_30 : cdA 192 30 = some (.if_icmp .le 10) := by decide +kernel
theorem c192_40 : cdA 192 40 = some (.aload_n 0) := by decide +kernel
theorem c192_41 : cdA 192 41 = some (.getfield 89) := by decide +kernel
theorem f192_89 : fldR (moN 192) 89 = some (12, 36) := by decide +kernel
theorem t12_36 : fcl 12 36 = 2 := by decide +kernel
theorem c192_44 : cdA 192 44 = some (.iload_n 1) := by decide +kernel
theorem c192_45 : cdA 192 45 = some (.iaload) := by decide +kernel
theorem c192_46 : cdA 192 46 = some (.istore_n 3) := by decide +kernel
theorem c192_47 : cdA 192 47 = some (.aload_n 0) := by decide +kernel
theorem c192_48 : cdA 192 48 = some (.getfield 89) := by decide +kernel
theorem c192_51 : cdA 192 51 = some (.iload_n 1) := by decide +kernel
theorem c192_52 : cdA 192 52 = some (.iload_n 2) := by decide +kernel
theorem c192_53 : cdA 192 53 = some (.iastore) := by decide +kernel
theorem c192_54 : cdA 192 54 = some (.iload_n 3) := by decide +kernel
theorem c192_55 : cdA 192 55 = some (.ireturn) := by decide +kernel
theorem c192_33 : cdA 192 33 = some (.aload_n 0) := by decide +kernel
theorem c192_34 : cdA 192 34 = some (.bipush (-6)) := by decide +kernel
theorem c192_36 : cdA 192 36 = some (.invokevirtual 187) := by decide +kernel
theorem m192_187 : mthR (moN 192) 187 = 138 := by decide +kernel
theorem c192_20 : cdA 192 20 = some (.aload_n 0) := by decide +kernel
theorem c192_21 : cdA 192 21 = some (.bipush (-4)) := by decide +kernel
theorem c192_23 : cdA 192 23 = some (.invokevirtual 187) := by decide +kernel
theorem c192_9 : cdA 192 9 = some (.aload_n 0) := by decide +kernel
theorem c192_10 : cdA 192 10 = some (.bipush (-2)) := by decide +kernel
theorem c192_12 : cdA 192 12 = some (.invokevirtual 187) := by decide +kernel
theorem b192_0 {d : Nat} {h : HP} {Q : PV → HP → Prop} {v1 v2 : Int} (H : X d 134 0 [some (I v1), some (I 0), some (I 2)] [] h (fun r h' => X (d + 1) 192 6 [some (P 69), some (I v1), some (I v2), none] [r] h' Q)) : X (d + 1) 192 0 [some (P 69), some (I v1), some (I v2), none] [] h Q :=
  s_iload_n c192_0 rfl (s_iconst c192_1 rfl (s_iconst c192_2 rfl (s_cSi c192_3 m192_183 F134 K134 rfl (Nat.le_of_ble_eq_true rfl) rfl rfl H)))
theorem b192_15 {d : Nat} {h : HP} {Q : PV → HP → Prop} {v1 v2 s0 : Int} (H : Q (I s0) h) : X d 192 15 [some (P 69), some (I v1), some (I v2), none] [I s0] h Q :=
  s_retI c192_15 R192 H
theorem b192_26 {d : Nat} {h : HP} {Q : PV → HP → Prop} {v1 v2 s0 : Int} (H : Q (I s0) h) : X d 192 26 [some (P 69), some (I v1), some (I v2), none] [I s0] h Q :=
  s_retI c192_26 R192 H
theorem b192_39 {d : Nat} {h : HP} {Q : PV → HP → Prop} {v1 v2 s0 : Int} (H : Q (I s0) h) : X d 192 39 [some (P 69), some (I v1), some (I v2), none] [I s0] h Q :=
  s_retI c192_39 R192 H
theorem b192_6 {d : Nat} {h : HP} {Q : PV → HP → Prop} {v1 v2 s0 : Int} (H : ((¬ s0 = 0) → (((0 ≤ v2) → (((v2 ≤ 50) → ((0 ≤ v1 ∧ v1 < 3) ∧ ((0 ≤ v1 ∧ v1 < 3) ∧ Q (I (h 96 v1.toNat)) (up2 h 96 v1.toNat v2)))) ∧ (¬ (v2 ≤ 50) → X d 135 0 [some (P 69), some (I (-6))] [] h (fun r h' => X (d + 1) 192 39 [some (P 69), some (I v1), some (I v2), none] [r] h' Q)))) ∧ (¬ (0 ≤ v2) → X d 135 0 [some (P 69), some (I (-4))] [] h (fun r h' => X (d + 1) 192 26 [some (P 69), some (I v1), some (I v2), none] [r] h' Q)))) ∧ (¬ (¬ s0 = 0) → X d 135 0 [some (P 69), some (I (-2))] [] h (fun r h' => X (d + 1) 192 15 [some (P 69), some (I v1), some (I v2), none] [r] h' Q))) : X (d + 1) 192 6 [some (P 69), some (I v1), some (I v2), none] [I s0] h Q :=
  s_if 16 (¬ s0 = 0) c192_6 (by decide) rfl ⟨fun q1 => s_iload_n c192_16 rfl (s_if 27 (0 ≤ v2) c192_17 (by decide) rfl ⟨fun q2 => s_iload_n c192_27 rfl (s_bipush c192_28 ⟨by decide, by decide⟩ (s_ifc 40 (v2 ≤ 50) c192_30 (by decide) rfl ⟨fun q3 => s_aload_n c192_40 rfl (s_getP 96 c192_41 f192_89 t12_36 sh_69 g_69_36 (by decide) (by decide) (s_iload_n c192_44 rfl (s_iald c192_45 sh_96 ⟨(((H.1 q1).1 q2).1 q3).1, s_istore_n c192_46 rfl (s_aload_n c192_47 rfl (s_getP 96 c192_48 f192_89 t12_36 sh_69 g_69_36 (by decide) (by decide) (s_iload_n c192_51 rfl (s_iload_n c192_52 rfl (s_iast c192_53 sh_96 ⟨(((H.1 q1).1 q2).1 q3).2.1, s_iload_n c192_54 rfl (s_retI c192_55 R192 (((H.1 q1).1 q2).1 q3).2.2)⟩)))))⟩))), fun q3 => s_aload_n c192_33 rfl (s_bipush c192_34 ⟨by decide, by decide⟩ (s_cVi c192_36 m192_187 F135 K135 rfl (Nat.le_of_ble_eq_true rfl) rfl S135_69 rfl (((H.1 q1).1 q2).2 q3)))⟩)), fun q2 => s_aload_n c192_20 rfl (s_bipush c192_21 ⟨by decide, by decide⟩ (s_cVi c192_23 m192_187 F135 K135 rfl (Nat.le_of_ble_eq_true rfl) rfl S135_69 rfl ((H.1 q1).2 q2)))⟩), fun q1 => s_aload_n c192_9 rfl (s_bipush c192_10 ⟨by decide, by decide⟩ (s_cVi c192_12 m192_187 F135 K135 rfl (Nat.le_of_ble_eq_true rfl) rfl S135_69 rfl (H.2 q1)))⟩
-- WarmSideModel.worstOf(IIIZ)I
theorem c193_0 : cdA 193 0 = some (.aload_n 0) := by decide +kernel
theorem c193_1 : cdA 193 1 = some (.iload_n 2) := by decide +kernel
theorem c193_2 : cdA 193 2 = some (.invokevirtual 328) := by decide +kernel
theorem m193_328 : mthR (moN 193) 328 = 180 := by decide +kernel
theorem c193_20 : cdA 193 20 = some (.istore 5) := by decide +kernel
theorem c193_22 : cdA 193 22 = some (.aload_n 0) := by decide +kernel
theorem c193_23 : cdA 193 23 = some (.aload_n 0) := by decide +kernel
theorem c193_24 : cdA 193 24 = some (.getfield 304) := by decide +kernel
theorem f193_304 : fldR (moN 193) 304 = some (12, 59) := by decide +kernel
theorem c193_27 : cdA 193 27 = some (.bipush 100) := by decide +kernel
theorem c193_29 : cdA 193 29 = some (.iload 5) := by decide +kernel
theorem c193_31 : cdA 193 31 = some (.aload_n 0) := by decide +kernel
theorem c193_32 : cdA 193 32 = some (.getfield 89) := by decide +kernel
theorem f193_89 : fldR (moN 193) 89 = some (12, 36) := by decide +kernel
theorem c193_35 : cdA 193 35 = some (.iconst 0) := by decide +kernel
theorem c193_36 : cdA 193 36 = some (.iaload) := by decide +kernel
theorem c193_37 : cdA 193 37 = some (.imul) := by decide +kernel
theorem c193_38 : cdA 193 38 = some (.iadd) := by decide +kernel
theorem c193_39 : cdA 193 39 = some (.imul) := by decide +kernel
theorem c193_40 : cdA 193 40 = some (.bipush 100) := by decide +kernel
theorem c193_42 : cdA 193 42 = some (.idiv) := by decide +kernel
theorem c193_43 : cdA 193 43 = some (.putfield 304) := by decide +kernel
theorem c193_46 : cdA 193 46 = some (.aload_n 0) := by decide +kernel
theorem c193_47 : cdA 193 47 = some (.bipush 100) := by decide +kernel
theorem c193_49 : cdA 193 49 = some (.iload 5) := by decide +kernel
theorem c193_51 : cdA 193 51 = some (.aload_n 0) := by decide +kernel
theorem c193_52 : cdA 193 52 = some (.getfield 89) := by decide +kernel
theorem c193_55 : cdA 193 55 = some (.iconst 1) := by decide +kernel
theorem c193_56 : cdA 193 56 = some (.iaload) := by decide +kernel
theorem c193_57 : cdA 193 57 = some (.imul) := by decide +kernel
theorem c193_58 : cdA 193 58 = some (.iadd) := by decide +kernel
theorem c193_59 : cdA 193 59 = some (.putfield 310) := by decide +kernel
theorem f193_310 : fldR (moN 193) 310 = some (12, 61) := by decide +kernel
theorem c193_62 : cdA 193 62 = some (.aload_n 0) := by decide +kernel
theorem c193_63 : cdA 193 63 = some (.bipush 100) := by decide +kernel
theorem c193_65 : cdA 193 65 = some (.iload 5) := by decide +kernel
theorem c193_67 : cdA 193 67 = some (.aload_n 0) := by decide +kernel
theorem c193_68 : cdA 193 68 = some (.getfield 89) := by decide +kernel
theorem c193_71 : cdA 193 71 = some (.iconst 2) := by decide +kernel
theorem c193_72 : cdA 193 72 = some (.iaload) := by decide +kernel
theorem c193_73 : cdA 193 73 = some (.imul) := by decide +kernel
theorem c193_74 : cdA 193 74 = some (.isub) := by decide +kernel
theorem c193_75 : cdA 193 75 = some (.putfield 313) := by decide +kernel
theorem f193_313 : fldR (moN 193) 313 = some (12, 62) := by decide +kernel
theorem c193_78 : cdA 193 78 = some (.aload_n 0) := by decide +kernel
theorem c193_79 : cdA 193 79 = some (.iload_n 1) := by decide +kernel
theorem c193_80 : cdA 193 80 = some (.invokevirtual 366) := by decide +kernel
theorem m193_366 : mthR (moN 193) 366 = 190 := by decide +kernel
theorem c193_5 : cdA 193 5 = some (.aload_n 0) := by decide +kernel
theorem c193_6 : cdA 193 6 = some (.iload_n 3) := by decide +kernel
theorem c193_7 : cdA 193 7 = some (.putfield 307) := by decide +kernel
theorem f193_307 : fldR (moN 193) 307 = some (12, 60) := by decide +kernel
theorem c193_10 : cdA 193 10 = some (.iload 4) := by decide +kernel
theorem c193_12 : cdA 193 12 = some (.ifCond .eq 7) := by decide +kernel
theorem c193_19 : cdA 193 19 = some (.iconst (-1)) := by decide +kernel
theorem c193_15 : cdA 193 15 = some (.iconst 1) := by decide +kernel
theorem c193_16 : cdA 193 16 = some (.goto 4) := by decide +kernel
theorem c193_83 : cdA 193 83 = some (.ireturn) := by decide +kernel
theorem R193 : mK 193 = 0 := by decide +kernel
theorem b193_0 {d : Nat} {h : HP} {Q : PV → HP → Prop} {v1 v2 v3 v4 : Int} (H : X d 177 0 [some (P 69), some (I v2), none] [] h (fun _ h' => X (d + 1) 193 5 [some (P 69), some (I v1), some (I v2), some (I v3), some (I v4), none] [] h' Q)) : X (d + 1) 193 0 [some (P 69), some (I v1), some (I v2), some (I v3), some (I v4), none] [] h Q :=
  s_aload_n c193_0 rfl (s_iload_n c193_1 rfl (s_cVv c193_2 m193_328 F177 K177 rfl (Nat.le_of_ble_eq_true rfl) rfl S177_69 rfl H))
theorem b193_20 {d : Nat} {h : HP} {Q : PV → HP → Prop} {v1 v2 v3 v4 s0 : Int} (H : X d 187 0 [some (P 69), some (I v1)] [] (up2 (up2 (up2 h 69 59 (w32 (Int.tdiv (w32 ((h 69 59) * (w32 (100 + (w32 (s0 * (h 96 0))))))) 100))) 69 61 (w32 (100 + (w32 (s0 * (h 96 1)))))) 69 62 (w32 (100 - (w32 (s0 * (h 96 2)))))) (fun r h' => X (d + 1) 193 83 [some (P 69), some (I v1), some (I v2), some (I v3), some (I v4), some (I s0)] [r] h' Q)) : X (d + 1) 193 20 [some (P 69), some (I v1), some (I v2), some (I v3), some (I v4), none] [I s0] h Q :=
  s_istore c193_20 rfl (s_aload_n c193_22 rfl (s_aload_n c193_23 rfl (s_getI c193_24 f193_304 t12_59 sh_69 (s_bipush c193_27 ⟨by decide, by decide⟩ (s_iload c193_29 rfl (s_aload_n c193_31 rfl (s_getP 96 c193_32 f193_89 t12_36 sh_69 g_69_36 (by decide) (by decide) (s_iconst c193_35 rfl (s_iald c193_36 sh_96 ⟨⟨by decide, by decide⟩, (s_imul c193_37 (s_iadd c193_38 (s_imul c193_39 (s_bipush c193_40 ⟨by decide, by decide⟩ (s_idiv c193_42 (by decide) (s_putI c193_43 f193_304 t12_59 n12_59 sh_69 (s_aload_n c193_46 rfl (s_bipush c193_47 ⟨by decide, by decide⟩ (s_iload c193_49 rfl (s_aload_n c193_51 rfl (s_getP 96 c193_52 f193_89 t12_36 sh_69 g_69_36 (by decide) (by decide) (s_iconst c193_55 rfl (s_iald c193_56 sh_96 ⟨⟨by decide, by decide⟩, (s_imul c193_57 (s_iadd c193_58 (s_putI c193_59 f193_310 t12_61 n12_61 sh_69 (s_aload_n c193_62 rfl (s_bipush c193_63 ⟨by decide, by decide⟩ (s_iload c193_65 rfl (s_aload_n c193_67 rfl (s_getP 96 c193_68 f193_89 t12_36 sh_69 g_69_36 (by decide) (by decide) (s_iconst c193_71 rfl (s_iald c193_72 sh_96 ⟨⟨by decide, by decide⟩, (s_imul c193_73 (s_isub c193_74 (s_putI c193_75 f193_313 t12_62 n12_62 sh_69 (s_aload_n c193_78 rfl (s_iload_n c193_79 rfl (s_cVi c193_80 m193_366 F187 K187 rfl (Nat.le_of_ble_eq_true rfl) rfl S187_69 rfl H))))))⟩))))))))))⟩)))))))))))))⟩)))))))))
theorem b193_5 {d : Nat} {h : HP} {Q : PV → HP → Prop} {v1 v2 v3 v4 : Int} (H : ((v4 = 0) → X d 193 20 [some (P 69), some (I v1), some (I v2), some (I v3), some (I v4), none] [I (-1)] (up2 h 69 60 v3) Q) ∧ (¬ (v4 = 0) → X d 193 20 [some (P 69), some (I v1), some (I v2), some (I v3), some (I v4), none] [I 1] (up2 h 69 60 v3) Q)) : X d 193 5 [some (P 69), some (I v1), some (I v2), some (I v3), some (I v4), none] [] h Q :=
  s_aload_n c193_5 rfl (s_iload_n c193_6 rfl (s_putI c193_7 f193_307 t12_60 n12_60 sh_69 (s_iload c193_10 rfl (s_if 19 (v4 = 0) c193_12 (by decide) rfl ⟨fun q1 => s_iconst c193_19 rfl ((H.1 q1)), fun q1 => s_iconst c193_15 rfl (s_goto 20 c193_16 (by decide) ((H.2 q1)))⟩))))
theorem b193_83 {d : Nat} {h : HP} {Q : PV → HP → Prop} {v1 v2 v3 v4 v5 s0 : Int} (H : Q (I s0) h) : X d 193 83 [some (P 69), some (I v1), some (I v2), some (I v3), some (I v4), some (I v5)] [I s0] h Q :=
  s_retI c193_83 R193 H
