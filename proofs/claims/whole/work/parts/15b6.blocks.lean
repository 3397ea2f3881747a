/-! blocks of WarmSide$Acts, by program -/
-- WarmSide$Acts.dropOldest()V
theorem c5_0 : cdA 5 0 = some (.aload_n 0) := by decide +kernel
theorem c5_1 : cdA 5 1 = some (.getfield 9) := by decide +kernel
theorem f5_9 : fldR (moN 5) 9 = some (0, 3) := by decide +kernel
theorem t0_3 : fcl 0 3 = 2 := by decide +kernel
theorem c5_4 : cdA 5 4 = some (.iconst 1) := by decide +kernel
theorem c5_5 : cdA 5 5 = some (.aload_n 0) := by decide +kernel
theorem c5_6 : cdA 5 6 = some (.getfield 9) := by decide +kernel
theorem c5_9 : cdA 5 9 = some (.iconst 0) := by decide +kernel
theorem c5_10 : cdA 5 10 = some (.bipush 59) := by decide +kernel
theorem c5_12 : cdA 5 12 = some (.invokestatic 41) := by decide +kernel
theorem m5_41 : mthR (moN 5) 41 = 2 := by decide +kernel
theorem c5_15 : cdA 5 15 = some (.aload_n 0) := by decide +kernel
theorem c5_16 : cdA 5 16 = some (.getfield 13) := by decide +kernel
theorem f5_13 : fldR (moN 5) 13 = some (0, 4) := by decide +kernel
theorem t0_4 : fcl 0 4 = 2 := by decide +kernel
theorem c5_19 : cdA 5 19 = some (.iconst 1) := by decide +kernel
theorem c5_20 : cdA 5 20 = some (.aload_n 0) := by decide +kernel
theorem c5_21 : cdA 5 21 = some (.getfield 13) := by decide +kernel
theorem c5_24 : cdA 5 24 = some (.iconst 0) := by decide +kernel
theorem c5_25 : cdA 5 25 = some (.bipush 59) := by decide +kernel
theorem c5_27 : cdA 5 27 = some (.invokestatic 41) := by decide +kernel
theorem c5_30 : cdA 5 30 = some (.aload_n 0) := by decide +kernel
theorem c5_31 : cdA 5 31 = some (.getfield 16) := by decide +kernel
theorem f5_16 : fldR (moN 5) 16 = some (0, 5) := by decide +kernel
theorem t0_5 : fcl 0 5 = 2 := by decide +kernel
theorem c5_34 : cdA 5 34 = some (.iconst 1) := by decide +kernel
theorem c5_35 : cdA 5 35 = some (.aload_n 0) := by decide +kernel
theorem c5_36 : cdA 5 36 = some (.getfield 16) := by decide +kernel
theorem c5_39 : cdA 5 39 = some (.iconst 0) := by decide +kernel
theorem c5_40 : cdA 5 40 = some (.bipush 59) := by decide +kernel
theorem c5_42 : cdA 5 42 = some (.invokestatic 41) := by decide +kernel
theorem c5_45 : cdA 5 45 = some (.aload_n 0) := by decide +kernel
theorem c5_46 : cdA 5 46 = some (.bipush 59) := by decide +kernel
theorem c5_48 : cdA 5 48 = some (.putfield 23) := by decide +kernel
theorem f5_23 : fldR (moN 5) 23 = some (0, 1) := by decide +kernel
theorem t0_1 : fcl 0 1 = 0 := by decide +kernel
theorem n0_1 : ffin 0 1 = false := by decide +kernel
theorem c5_51 : cdA 5 51 = some (.return_) := by decide +kernel
theorem R5 : mK 5 = 4 := by decide +kernel
theorem b5_0 {d : Nat} {h : HP} {Q : PV → HP → Prop} (H : Q (I 0) (up2 (cpy (cpy (cpy h 58 58 1 0 59) 59 59 1 0 59) 60 60 1 0 59) 57 1 59)) : X d 5 0 [some (P 57)] [] h Q :=
  s_aload_n c5_0 rfl (s_getP 58 c5_1 f5_9 t0_3 sh_57 g_57_3 (by decide) (by decide) (s_iconst c5_4 rfl (s_aload_n c5_5 rfl (s_getP 58 c5_6 f5_9 t0_3 sh_57 g_57_3 (by decide) (by decide) (s_iconst c5_9 rfl (s_bipush c5_10 ⟨by decide, by decide⟩ (s_acp c5_12 m5_41 sh_58 sh_58 rfl ⟨⟨by decide, by decide, by decide, by decide, by decide⟩, s_aload_n c5_15 rfl (s_getP 59 c5_16 f5_13 t0_4 sh_57 g_57_4 (by decide) (by decide) (s_iconst c5_19 rfl (s_aload_n c5_20 rfl (s_getP 59 c5_21 f5_13 t0_4 sh_57 g_57_4 (by decide) (by decide) (s_iconst c5_24 rfl (s_bipush c5_25 ⟨by decide, by decide⟩ (s_acp c5_27 m5_41 sh_59 sh_59 rfl ⟨⟨by decide, by decide, by decide, by decide, by decide⟩, s_aload_n c5_30 rfl (s_getP 60 c5_31 f5_16 t0_5 sh_57 g_57_5 (by decide) (by decide) (s_iconst c5_34 rfl (s_aload_n c5_35 rfl (s_getP 60 c5_36 f5_16 t0_5 sh_57 g_57_5 (by decide) (by decide) (s_iconst c5_39 rfl (s_bipush c5_40 ⟨by decide, by decide⟩ (s_acp c5_42 m5_41 sh_60 sh_60 rfl ⟨⟨by decide, by decide, by decide, by decide, by decide⟩, s_aload_n c5_45 rfl (s_bipush c5_46 ⟨by decide, by decide⟩ (s_putI c5_48 f5_23 t0_1 n0_1 sh_57 (s_retV c5_51 R5 H)))⟩)))))))⟩)))))))⟩)))))))
-- WarmSide$Acts.get(II)I
theorem c6_0 : cdA 6 0 = some (.iload_n 1) := by decide +kernel
theorem c6_1 : cdA 6 1 = some (.tableswitch 94 0 3 #[31, 44, 57, 81]) := by decide +kernel
theorem c6_95 : cdA 6 95 = some (.aload_n 0) := by decide +kernel
theorem c6_96 : cdA 6 96 = some (.getfield 19) := by decide +kernel
theorem f6_19 : fldR (moN 6) 19 = some (0, 0) := by decide +kernel
theorem t0_0 : fcl 0 0 = 2 := by decide +kernel
theorem c6_99 : cdA 6 99 = some (.getfield 61) := by decide +kernel
theorem f6_61 : fldR (moN 6) 61 = some (1, 0) := by decide +kernel
theorem c6_102 : cdA 6 102 = some (.getfield 82) := by decide +kernel
theorem f6_82 : fldR (moN 6) 82 = some (4, 4) := by decide +kernel
theorem c6_105 : cdA 6 105 = some (.iload_n 2) := by decide +kernel
theorem c6_106 : cdA 6 106 = some (.iaload) := by decide +kernel
theorem c6_107 : cdA 6 107 = some (.ireturn) := by decide +kernel
theorem R6 : mK 6 = 0 := by decide +kernel
theorem c6_32 : cdA 6 32 = some (.aload_n 0) := by decide +kernel
theorem c6_33 : cdA 6 33 = some (.getfield 19) := by decide +kernel
theorem c6_36 : cdA 6 36 = some (.getfield 47) := by decide +kernel
theorem f6_47 : fldR (moN 6) 47 = some (1, 3) := by decide +kernel
theorem t1_3 : fcl 1 3 = 2 := by decide +kernel
theorem c6_39 : cdA 6 39 = some (.getfield 53) := by decide +kernel
theorem f6_53 : fldR (moN 6) 53 = some (3, 5) := by decide +kernel
theorem c6_42 : cdA 6 42 = some (.iload_n 2) := by decide +kernel
theorem c6_43 : cdA 6 43 = some (.iaload) := by decide +kernel
theorem c6_44 : cdA 6 44 = some (.ireturn) := by decide +kernel
theorem c6_45 : cdA 6 45 = some (.aload_n 0) := by decide +kernel
theorem c6_46 : cdA 6 46 = some (.getfield 19) := by decide +kernel
theorem c6_49 : cdA 6 49 = some (.getfield 58) := by decide +kernel
theorem f6_58 : fldR (moN 6) 58 = some (1, 4) := by decide +kernel
theorem t1_4 : fcl 1 4 = 2 := by decide +kernel
theorem c6_52 : cdA 6 52 = some (.getfield 53) := by decide +kernel
theorem c6_55 : cdA 6 55 = some (.iload_n 2) := by decide +kernel
theorem c6_56 : cdA 6 56 = some (.iaload) := by decide +kernel
theorem c6_57 : cdA 6 57 = some (.ireturn) := by decide +kernel
theorem c6_58 : cdA 6 58 = some (.aload_n 0) := by decide +kernel
theorem c6_59 : cdA 6 59 = some (.getfield 19) := by decide +kernel
theorem c6_62 : cdA 6 62 = some (.getfield 61) := by decide +kernel
theorem c6_65 : cdA 6 65 = some (.iload_n 2) := by decide +kernel
theorem c6_66 : cdA 6 66 = some (.aload_n 0) := by decide +kernel
theorem c6_67 : cdA 6 67 = some (.getfield 19) := by decide +kernel
theorem c6_70 : cdA 6 70 = some (.getfield 61) := by decide +kernel
theorem c6_73 : cdA 6 73 = some (.getfield 65) := by decide +kernel
theorem f6_65 : fldR (moN 6) 65 = some (4, 6) := by decide +kernel
theorem c6_76 : cdA 6 76 = some (.iload_n 2) := by decide +kernel
theorem c6_77 : cdA 6 77 = some (.iaload) := by decide +kernel
theorem c6_78 : cdA 6 78 = some (.invokevirtual 70) := by decide +kernel
theorem m6_70 : mthR (moN 6) 70 = 25 := by decide +kernel
theorem F22 : mF 22 2 3 true := by unfold mF; decide +kernel
theorem K22 : ¬ mK 22 = 4 := by decide +kernel
theorem S22_2 : SH0[2]? = some (.inl (moN 22)) := by decide +kernel
theorem c6_82 : cdA 6 82 = some (.aload_n 0) := by decide +kernel
theorem c6_83 : cdA 6 83 = some (.getfield 19) := by decide +kernel
theorem c6_86 : cdA 6 86 = some (.getfield 73) := by decide +kernel
theorem f6_73 : fldR (moN 6) 73 = some (1, 2) := by decide +kernel
theorem t1_2 : fcl 1 2 = 2 := by decide +kernel
theorem c6_89 : cdA 6 89 = some (.getfield 77) := by decide +kernel
theorem f6_77 : fldR (moN 6) 77 = some (2, 5) := by decide +kernel
theorem t2_5 : fcl 2 5 = 2 := by decide +kernel
theorem c6_92 : cdA 6 92 = some (.iload_n 2) := by decide +kernel
theorem c6_93 : cdA 6 93 = some (.iaload) := by decide +kernel
theorem c6_94 : cdA 6 94 = some (.ireturn) := by decide +kernel
theorem c6_81 : cdA 6 81 = some (.ireturn) := by decide +kernel
theorem b6_0 {d : Nat} {h : HP} {Q : PV → HP → Prop} {v1 v2 : Int} (H : ((v1 < 0 ∨ 3 < v1) → ((0 ≤ v2 ∧ v2 < 8) ∧ Q (I (h 6 v2.toNat)) h)) ∧ (v1 = 0 → ((0 ≤ v2 ∧ v2 < 8) ∧ Q (I (h 25 v2.toNat)) h)) ∧ (v1 = 1 → ((0 ≤ v2 ∧ v2 < 4) ∧ Q (I (h 29 v2.toNat)) h)) ∧ (v1 = 2 → ((0 ≤ v2 ∧ v2 < 8) ∧ X d 22 0 [some (P 2), some (I v2), some (I (h 8 v2.toNat))] [] h (fun r h' => X (d + 1) 6 81 [some (P 57), some (I v1), some (I v2)] [r] h' Q))) ∧ (v1 = 3 → ((0 ≤ v2 ∧ v2 < 8) ∧ Q (I (h 21 v2.toNat)) h))) : X (d + 1) 6 0 [some (P 57), some (I v1), some (I v2)] [] h Q :=
  s_iload_n c6_0 rfl (s_tsw (x := v1) 95 c6_1 (by decide) (fun q1 => s_aload_n c6_95 rfl (s_getP 1 c6_96 f6_19 t0_0 sh_57 g_57_0 (by decide) (by decide) (s_getP 2 c6_99 f6_61 t1_0 sh_1 g_1_0 (by decide) (by decide) (s_getP 6 c6_102 f6_82 t4_4 sh_2 g_2_4 (by decide) (by decide) (s_iload_n c6_105 rfl (s_iald c6_106 sh_6 ⟨(H.1 q1).1, s_retI c6_107 R6 (H.1 q1).2⟩)))))) (fun qn => by
    have qc : v1 = 0 ∨ v1 = 1 ∨ v1 = 2 ∨ v1 = 3 := by omega
    rcases qc with q1 | q1 | q1 | q1
    · exact ⟨31, 32, by rw [q1]; rfl, by decide, s_aload_n c6_32 rfl (s_getP 1 c6_33 f6_19 t0_0 sh_57 g_57_0 (by decide) (by decide) (s_getP 22 c6_36 f6_47 t1_3 sh_1 g_1_3 (by decide) (by decide) (s_getP 25 c6_39 f6_53 t3_5 sh_22 g_22_5 (by decide) (by decide) (s_iload_n c6_42 rfl (s_iald c6_43 sh_25 ⟨(H.2.1 q1).1, s_retI c6_44 R6 (H.2.1 q1).2⟩)))))⟩
    · exact ⟨44, 45, by rw [q1]; rfl, by decide, s_aload_n c6_45 rfl (s_getP 1 c6_46 f6_19 t0_0 sh_57 g_57_0 (by decide) (by decide) (s_getP 26 c6_49 f6_58 t1_4 sh_1 g_1_4 (by decide) (by decide) (s_getP 29 c6_52 f6_53 t3_5 sh_26 g_26_5 (by decide) (by decide) (s_iload_n c6_55 rfl (s_iald c6_56 sh_29 ⟨(H.2.2.1 q1).1, s_retI c6_57 R6 (H.2.2.1 q1).2⟩)))))⟩
    · exact ⟨57, 58, by rw [q1]; rfl, by decide, s_aload_n c6_58 rfl (s_getP 1 c6_59 f6_19 t0_0 sh_57 g_57_0 (by decide) (by decide) (s_getP 2 c6_62 f6_61 t1_0 sh_1 g_1_0 (by decide) (by decide) (s_iload_n c6_65 rfl (s_aload_n c6_66 rfl (s_getP 1 c6_67 f6_19 t0_0 sh_57 g_57_0 (by decide) (by decide) (s_getP 2 c6_70 f6_61 t1_0 sh_1 g_1_0 (by decide) (by decide) (s_getP 8 c6_73 f6_65 t4_6 sh_2 g_2_6 (by decide) (by decide) (s_iload_n c6_76 rfl (s_iald c6_77 sh_8 ⟨(H.2.2.2.1 q1).1, s_cVi c6_78 m6_70 F22 K22 rfl (Nat.le_of_ble_eq_true rfl) rfl S22_2 rfl (H.2.2.2.1 q1).2⟩)))))))))⟩
    · exact ⟨81, 82, by rw [q1]; rfl, by decide, s_aload_n c6_82 rfl (s_getP 1 c6_83 f6_19 t0_0 sh_57 g_57_0 (by decide) (by decide) (s_getP 17 c6_86 f6_73 t1_2 sh_1 g_1_2 (by decide) (by decide) (s_getP 21 c6_89 f6_77 t2_5 sh_17 g_17_5 (by decide) (by decide) (s_iload_n c6_92 rfl (s_iald c6_93 sh_21 ⟨(H.2.2.2.2 q1).1, s_retI c6_94 R6 (H.2.2.2.2 q1).2⟩)))))⟩
    ))
theorem b6_81 {d : Nat} {h : HP} {Q : PV → HP → Prop} {v1 v2 s0 : Int} (H : Q (I s0) h) : X d 6 81 [some (P 57), some (I v1), some (I v2)] [I s0] h Q :=
  s_retI c6_81 R6 H
-- WarmSide$Acts.put(III)V
theorem c7_0 : cdA 7 0 = some (.iload_n 1) := by decide +kernel
theorem c7_1 : cdA 7 1 = some (.tableswitch 94 0 3 #[31, 47, 63, 78]) := by decide +kernel
theorem c7_95 : cdA 7 95 = some (.aload_n 0) := by decide +kernel
theorem c7_96 : cdA 7 96 = some (.getfield 19) := by decide +kernel
theorem f7_19 : fldR (moN 7) 19 = some (0, 0) := by decide +kernel
theorem c7_99 : cdA 7 99 = some (.getfield 61) := by decide +kernel
theorem f7_61 : fldR (moN 7) 61 = some (1, 0) := by decide +kernel
theorem c7_102 : cdA 7 102 = some (.getfield 82) := by decide +kernel
theorem f7_82 : fldR (moN 7) 82 = some (4, 4) := by decide +kernel
theorem c7_105 : cdA 7 105 = some (.iload_n 2) := by decide +kernel
theorem c7_106 : cdA 7 106 = some (.iload_n 3) := by decide +kernel
theorem c7_107 : cdA 7 107 = some (.iastore) := by decide +kernel
theorem c7_108 : cdA 7 108 = some (.return_) := by decide +kernel
theorem R7 : mK 7 = 4 := by decide +kernel
theorem c7_32 : cdA 7 32 = some (.aload_n 0) := by decide +kernel
theorem c7_33 : cdA 7 33 = some (.getfield 19) := by decide +kernel
theorem c7_36 : cdA 7 36 = some (.getfield 47) := by decide +kernel
theorem f7_47 : fldR (moN 7) 47 = some (1, 3) := by decide +kernel
theorem c7_39 : cdA 7 39 = some (.getfield 53) := by decide +kernel
theorem f7_53 : fldR (moN 7) 53 = some (3, 5) := by decide +kernel
theorem c7_42 : cdA 7 42 = some (.iload_n 2) := by decide +kernel
theorem c7_43 : cdA 7 43 = some (.iload_n 3) := by decide +kernel
theorem c7_44 : cdA 7 44 = some (.iastore) := by decide +kernel
theorem c7_45 : cdA 7 45 = some (.goto 63) := by decide +kernel
theorem c7_48 : cdA 7 48 = some (.aload_n 0) := by decide +kernel
theorem c7_49 : cdA 7 49 = some (.getfield 19) := by decide +kernel
theorem c7_52 : cdA 7 52 = some (.getfield 58) := by decide +kernel
theorem f7_58 : fldR (moN 7) 58 = some (1, 4) := by decide +kernel
theorem c7_55 : cdA 7 55 = some (.getfield 53) := by decide +kernel
theorem c7_58 : cdA 7 58 = some (.iload_n 2) := by decide +kernel
theorem c7_59 : cdA 7 59 = some (.iload_n 3) := by decide +kernel
theorem c7_60 : cdA 7 60 = some (.iastore) := by decide +kernel
theorem c7_61 : cdA 7 61 = some (.goto 47) := by decide +kernel
theorem c7_64 : cdA 7 64 = some (.aload_n 0) := by decide +kernel
theorem c7_65 : cdA 7 65 = some (.getfield 19) := by decide +kernel
theorem c7_68 : cdA 7 68 = some (.getfield 61) := by decide +kernel
theorem c7_71 : cdA 7 71 = some (.iload_n 2) := by decide +kernel
theorem c7_72 : cdA 7 72 = some (.iload_n 3) := by decide +kernel
theorem c7_73 : cdA 7 73 = some (.invokevirtual 85) := by decide +kernel
theorem m7_85 : mthR (moN 7) 85 = 26 := by decide +kernel
theorem F23 : mF 23 2 3 true := by unfold mF; decide +kernel
theorem K23 : mK 23 = 4 := by decide +kernel
theorem S23_2 : SH0[2]? = some (.inl (moN 23)) := by decide +kernel
theorem c7_79 : cdA 7 79 = some (.aload_n 0) := by decide +kernel
theorem c7_80 : cdA 7 80 = some (.getfield 19) := by decide +kernel
theorem c7_83 : cdA 7 83 = some (.getfield 73) := by decide +kernel
theorem f7_73 : fldR (moN 7) 73 = some (1, 2) := by decide +kernel
theorem c7_86 : cdA 7 86 = some (.getfield 77) := by decide +kernel
theorem f7_77 : fldR (moN 7) 77 = some (2, 5) := by decide +kernel
theorem c7_89 : cdA 7 89 = some (.iload_n 2) := by decide +kernel
theorem c7_90 : cdA 7 90 = some (.iload_n 3) := by decide +kernel
theorem c7_91 : cdA 7 91 = some (.iastore) := by decide +kernel
theorem c7_92 : cdA 7 92 = some (.goto 16) := by decide +kernel
theorem c7_76 : cdA 7 76 = some (.goto 32) := by decide +kernel
theorem b7_0 {d : Nat} {h : HP} {Q : PV → HP → Prop} {v1 v2 v3 : Int} (H : ((v1 < 0 ∨ 3 < v1) → ((0 ≤ v2 ∧ v2 < 8) ∧ Q (I 0) (up2 h 6 v2.toNat v3))) ∧ (v1 = 0 → ((0 ≤ v2 ∧ v2 < 8) ∧ Q (I 0) (up2 h 25 v2.toNat v3))) ∧ (v1 = 1 → ((0 ≤ v2 ∧ v2 < 4) ∧ Q (I 0) (up2 h 29 v2.toNat v3))) ∧ (v1 = 2 → X d 23 0 [some (P 2), some (I v2), some (I v3)] [] h (fun _ h' => X (d + 1) 7 76 [some (P 57), some (I v1), some (I v2), some (I v3)] [] h' Q)) ∧ (v1 = 3 → ((0 ≤ v2 ∧ v2 < 8) ∧ Q (I 0) (up2 h 21 v2.toNat v3)))) : X (d + 1) 7 0 [some (P 57), some (I v1), some (I v2), some (I v3)] [] h Q :=
  s_iload_n c7_0 rfl (s_tsw (x := v1) 95 c7_1 (by decide) (fun q1 => s_aload_n c7_95 rfl (s_getP 1 c7_96 f7_19 t0_0 sh_57 g_57_0 (by decide) (by decide) (s_getP 2 c7_99 f7_61 t1_0 sh_1 g_1_0 (by decide) (by decide) (s_getP 6 c7_102 f7_82 t4_4 sh_2 g_2_4 (by decide) (by decide) (s_iload_n c7_105 rfl (s_iload_n c7_106 rfl (s_iast c7_107 sh_6 ⟨(H.1 q1).1, s_retV c7_108 R7 (H.1 q1).2⟩))))))) (fun qn => by
    have qc : v1 = 0 ∨ v1 = 1 ∨ v1 = 2 ∨ v1 = 3 := by omega
    rcases qc with q1 | q1 | q1 | q1
    · exact ⟨31, 32, by rw [q1]; rfl, by decide, s_aload_n c7_32 rfl (s_getP 1 c7_33 f7_19 t0_0 sh_57 g_57_0 (by decide) (by decide) (s_getP 22 c7_36 f7_47 t1_3 sh_1 g_1_3 (by decide) (by decide) (s_getP 25 c7_39 f7_53 t3_5 sh_22 g_22_5 (by decide) (by decide) (s_iload_n c7_42 rfl (s_iload_n c7_43 rfl (s_iast c7_44 sh_25 ⟨(H.2.1 q1).1, s_goto 108 c7_45 (by decide) (s_retV c7_108 R7 (H.2.1 q1).2)⟩))))))⟩
    · exact ⟨47, 48, by rw [q1]; rfl, by decide, s_aload_n c7_48 rfl (s_getP 1 c7_49 f7_19 t0_0 sh_57 g_57_0 (by decide) (by decide) (s_getP 26 c7_52 f7_58 t1_4 sh_1 g_1_4 (by decide) (by decide) (s_getP 29 c7_55 f7_53 t3_5 sh_26 g_26_5 (by decide) (by decide) (s_iload_n c7_58 rfl (s_iload_n c7_59 rfl (s_iast c7_60 sh_29 ⟨(H.2.2.1 q1).1, s_goto 108 c7_61 (by decide) (s_retV c7_108 R7 (H.2.2.1 q1).2)⟩))))))⟩
    · exact ⟨63, 64, by rw [q1]; rfl, by decide, s_aload_n c7_64 rfl (s_getP 1 c7_65 f7_19 t0_0 sh_57 g_57_0 (by decide) (by decide) (s_getP 2 c7_68 f7_61 t1_0 sh_1 g_1_0 (by decide) (by decide) (s_iload_n c7_71 rfl (s_iload_n c7_72 rfl (s_cVv c7_73 m7_85 F23 K23 rfl (Nat.le_of_ble_eq_true rfl) rfl S23_2 rfl (H.2.2.2.1 q1))))))⟩
    · exact ⟨78, 79, by rw [q1]; rfl, by decide, s_aload_n c7_79 rfl (s_getP 1 c7_80 f7_19 t0_0 sh_57 g_57_0 (by decide) (by decide) (s_getP 17 c7_83 f7_73 t1_2 sh_1 g_1_2 (by decide) (by decide) (s_getP 21 c7_86 f7_77 t2_5 sh_17 g_17_5 (by decide) (by decide) (s_iload_n c7_89 rfl (s_iload_n c7_90 rfl (s_iast c7_91 sh_21 ⟨(H.2.2.2.2 q1).1, s_goto 108 c7_92 (by decide) (s_retV c7_108 R7 (H.2.2.2.2 q1).2)⟩))))))⟩
    ))
theorem b7_76 {d : Nat} {h : HP} {Q : PV → HP → Prop} {v1 v2 v3 : Int} (H : Q (I 0) h) : X d 7 76 [some (P 57), some (I v1), some (I v2), some (I v3)] [] h Q :=
  s_goto 108 c7_76 (by decide) (s_retV c7_108 R7 H)
-- WarmSide$Acts.tell(III)Z
theorem c2_0 : cdA 2 0 = some (.aload_n 0) := by decide +kernel
theorem c2_1 : cdA 2 1 = some (.iload_n 1) := by decide +kernel
theorem c2_2 : cdA 2 2 = some (.iload_n 2) := by decide +kernel
theorem c2_3 : cdA 2 3 = some (.invokevirtual 30) := by decide +kernel
theorem m2_30 : mthR (moN 2) 30 = 9 := by decide +kernel
theorem F6 : mF 6 2 3 true := by unfold mF; decide +kernel
theorem K6 : ¬ mK 6 = 4 := by decide +kernel
theorem S6_57 : SH0[57]? = some (.inl (moN 6)) := by decide +kernel
theorem c2_29 : cdA 2 29 = some (.aload_n 0) := by decide +kernel
theorem c2_30 : cdA 2 30 = some (.getfield 9) := by decide +kernel
theorem f2_9 : fldR (moN 2) 9 = some (0, 3) := by decide +kernel
theorem c2_33 : cdA 2 33 = some (.aload_n 0) := by decide +kernel
theorem c2_34 : cdA 2 34 = some (.getfield 23) := by decide +kernel
theorem f2_23 : fldR (moN 2) 23 = some (0, 1) := by decide +kernel
theorem c2_37 : cdA 2 37 = some (.iload_n 1) := by decide +kernel
theorem c2_38 : cdA 2 38 = some (.iconst 4) := by decide +kernel
theorem c2_39 : cdA 2 39 = some (.ishl) := by decide +kernel
theorem c2_40 : cdA 2 40 = some (.iload_n 2) := by decide +kernel
theorem c2_41 : cdA 2 41 = some (.ior) := by decide +kernel
theorem c2_42 : cdA 2 42 = some (.iastore) := by decide +kernel
theorem c2_43 : cdA 2 43 = some (.aload_n 0) := by decide +kernel
theorem c2_44 : cdA 2 44 = some (.getfield 13) := by decide +kernel
theorem f2_13 : fldR (moN 2) 13 = some (0, 4) := by decide +kernel
theorem c2_47 : cdA 2 47 = some (.aload_n 0) := by decide +kernel
theorem c2_48 : cdA 2 48 = some (.getfield 23) := by decide +kernel
theorem c2_51 : cdA 2 51 = some (.iload 4) := by decide +kernel
theorem c2_53 : cdA 2 53 = some (.iastore) := by decide +kernel
theorem c2_54 : cdA 2 54 = some (.aload_n 0) := by decide +kernel
theorem c2_55 : cdA 2 55 = some (.getfield 16) := by decide +kernel
theorem f2_16 : fldR (moN 2) 16 = some (0, 5) := by decide +kernel
theorem c2_58 : cdA 2 58 = some (.aload_n 0) := by decide +kernel
theorem c2_59 : cdA 2 59 = some (.getfield 23) := by decide +kernel
theorem c2_62 : cdA 2 62 = some (.iload_n 3) := by decide +kernel
theorem c2_63 : cdA 2 63 = some (.iastore) := by decide +kernel
theorem c2_64 : cdA 2 64 = some (.aload_n 0) := by decide +kernel
theorem c2_65 : cdA 2 65 = some (.dup) := by decide +kernel
theorem c2_66 : cdA 2 66 = some (.getfield 23) := by decide +kernel
theorem c2_69 : cdA 2 69 = some (.iconst 1) := by decide +kernel
theorem c2_70 : cdA 2 70 = some (.iadd) := by decide +kernel
theorem c2_71 : cdA 2 71 = some (.putfield 23) := by decide +kernel
theorem c2_74 : cdA 2 74 = some (.aload_n 0) := by decide +kernel
theorem c2_75 : cdA 2 75 = some (.aload_n 0) := by decide +kernel
theorem c2_76 : cdA 2 76 = some (.getfield 23) := by decide +kernel
theorem c2_79 : cdA 2 79 = some (.putfield 27) := by decide +kernel
theorem f2_27 : fldR (moN 2) 27 = some (0, 2) := by decide +kernel
theorem t0_2 : fcl 0 2 = 0 := by decide +kernel
theorem n0_2 : ffin 0 2 = false := by decide +kernel
theorem c2_82 : cdA 2 82 = some (.aload_n 0) := by decide +kernel
theorem c2_83 : cdA 2 83 = some (.iload_n 1) := by decide +kernel
theorem c2_84 : cdA 2 84 = some (.iload_n 2) := by decide +kernel
theorem c2_85 : cdA 2 85 = some (.iload_n 3) := by decide +kernel
theorem c2_86 : cdA 2 86 = some (.invokevirtual 37) := by decide +kernel
theorem m2_37 : mthR (moN 2) 37 = 10 := by decide +kernel
theorem F7 : mF 7 3 4 true := by unfold mF; decide +kernel
theorem K7 : mK 7 = 4 := by decide +kernel
theorem S7_57 : SH0[57]? = some (.inl (moN 7)) := by decide +kernel
theorem c2_6 : cdA 2 6 = some (.istore 4) := by decide +kernel
theorem c2_8 : cdA 2 8 = some (.iload 4) := by decide +kernel
theorem c2_10 : cdA 2 10 = some (.iload_n 3) := by decide +kernel
theorem c2_11 : cdA 2 11 = some (.if_icmp .ne 5) := by decide +kernel
theorem c2_16 : cdA 2 16 = some (.aload_n 0) := by decide +kernel
theorem c2_17 : cdA 2 17 = some (.getfield 23) := by decide +kernel
theorem c2_20 : cdA 2 20 = some (.bipush 60) := by decide +kernel
theorem c2_22 : cdA 2 22 = some (.if_icmp .lt 7) := by decide +kernel
theorem c2_25 : cdA 2 25 = some (.aload_n 0) := by decide +kernel
theorem c2_26 : cdA 2 26 = some (.invokevirtual 34) := by decide +kernel
theorem m2_34 : mthR (moN 2) 34 = 8 := by decide +kernel
theorem F5 : mF 5 0 1 true := by unfold mF; decide +kernel
theorem K5 : mK 5 = 4 := by decide +kernel
theorem S5_57 : SH0[57]? = some (.inl (moN 5)) := by decide +kernel
theorem c2_14 : cdA 2 14 = some (.iconst 0) := by decide +kernel
theorem c2_15 : cdA 2 15 = some (.ireturn) := by decide +kernel
theorem R2 : mK 2 = 3 := by decide +kernel
theorem c2_89 : cdA 2 89 = some (.iconst 1) := by decide +kernel
theorem c2_90 : cdA 2 90 = some (.ireturn) := by decide +kernel
theorem b2_0 {d : Nat} {h : HP} {Q : PV → HP → Prop} {v1 v2 v3 : Int} (H : X d 6 0 [some (P 57), some (I v1), some (I v2)] [] h (fun r h' => X (d + 1) 2 6 [some (P 57), some (I v1), some (I v2), some (I v3), none] [r] h' Q)) : X (d + 1) 2 0 [some (P 57), some (I v1), some (I v2), some (I v3), none] [] h Q :=
  s_aload_n c2_0 rfl (s_iload_n c2_1 rfl (s_iload_n c2_2 rfl (s_cVi c2_3 m2_30 F6 K6 rfl (Nat.le_of_ble_eq_true rfl) rfl S6_57 rfl H)))
theorem b2_29 {d : Nat} {h : HP} {Q : PV → HP → Prop} {v1 v2 v3 v4 : Int} (H : (0 ≤ (h 57 1) ∧ (h 57 1) < 60) ∧ ((0 ≤ (h 57 1) ∧ (h 57 1) < 60) ∧ ((0 ≤ (h 57 1) ∧ (h 57 1) < 60) ∧ X d 7 0 [some (P 57), some (I v1), some (I v2), some (I v3)] [] (up2 (up2 (up2 (up2 (up2 h 58 (h 57 1).toNat (bOr (bShl v1 4) v2)) 59 (h 57 1).toNat v4) 60 (h 57 1).toNat v3) 57 1 (w32 ((h 57 1) + 1))) 57 2 (w32 ((h 57 1) + 1))) (fun _ h' => X (d + 1) 2 89 [some (P 57), some (I v1), some (I v2), some (I v3), some (I v4)] [] h' Q)))) : X (d + 1) 2 29 [some (P 57), some (I v1), some (I v2), some (I v3), some (I v4)] [] h Q :=
  s_aload_n c2_29 rfl (s_getP 58 c2_30 f2_9 t0_3 sh_57 g_57_3 (by decide) (by decide) (s_aload_n c2_33 rfl (s_getI c2_34 f2_23 t0_1 sh_57 (s_iload_n c2_37 rfl (s_iconst c2_38 rfl (s_ishl c2_39 (s_iload_n c2_40 rfl (s_ior c2_41 (s_iast c2_42 sh_58 ⟨H.1, s_aload_n c2_43 rfl (s_getP 59 c2_44 f2_13 t0_4 sh_57 g_57_4 (by decide) (by decide) (s_aload_n c2_47 rfl (s_getI c2_48 f2_23 t0_1 sh_57 (s_iload c2_51 rfl (s_iast c2_53 sh_59 ⟨H.2.1, s_aload_n c2_54 rfl (s_getP 60 c2_55 f2_16 t0_5 sh_57 g_57_5 (by decide) (by decide) (s_aload_n c2_58 rfl (s_getI c2_59 f2_23 t0_1 sh_57 (s_iload_n c2_62 rfl (s_iast c2_63 sh_60 ⟨H.2.2.1, s_aload_n c2_64 rfl (s_dupP c2_65 (s_getI c2_66 f2_23 t0_1 sh_57 (s_iconst c2_69 rfl (s_iadd c2_70 (s_putI c2_71 f2_23 t0_1 n0_1 sh_57 (s_aload_n c2_74 rfl (s_aload_n c2_75 rfl (s_getI c2_76 f2_23 t0_1 sh_57 (s_putI c2_79 f2_27 t0_2 n0_2 sh_57 (s_aload_n c2_82 rfl (s_iload_n c2_83 rfl (s_iload_n c2_84 rfl (s_iload_n c2_85 rfl (s_cVv c2_86 m2_37 F7 K7 rfl (Nat.le_of_ble_eq_true rfl) rfl S7_57 rfl H.2.2.2))))))))))))))⟩)))))⟩)))))⟩)))))))))
theorem b2_6 {d : Nat} {h : HP} {Q : PV → HP → Prop} {v1 v2 v3 s0 : Int} (H : ((¬ s0 = v3) → ((((h 57 1) < 60) → X (d + 1) 2 29 [some (P 57), some (I v1), some (I v2), some (I v3), some (I s0)] [] h Q) ∧ (¬ ((h 57 1) < 60) → X d 5 0 [some (P 57)] [] h (fun _ h' => X (d + 1) 2 29 [some (P 57), some (I v1), some (I v2), some (I v3), some (I s0)] [] h' Q)))) ∧ (¬ (¬ s0 = v3) → Q (I 0) h)) : X (d + 1) 2 6 [some (P 57), some (I v1), some (I v2), some (I v3), none] [I s0] h Q :=
  s_istore c2_6 rfl (s_iload c2_8 rfl (s_iload_n c2_10 rfl (s_ifc 16 (¬ s0 = v3) c2_11 (by decide) rfl ⟨fun q1 => s_aload_n c2_16 rfl (s_getI c2_17 f2_23 t0_1 sh_57 (s_bipush c2_20 ⟨by decide, by decide⟩ (s_ifc 29 ((h 57 1) < 60) c2_22 (by decide) rfl ⟨fun q2 => ((H.1 q1).1 q2), fun q2 => s_aload_n c2_25 rfl (s_cVv c2_26 m2_34 F5 K5 rfl (Nat.le_of_ble_eq_true rfl) rfl S5_57 rfl ((H.1 q1).2 q2))⟩))), fun q1 => s_iconst c2_14 rfl (s_retZ c2_15 R2 ⟨by decide, (H.2 q1)⟩)⟩)))
theorem b2_89 {d : Nat} {h : HP} {Q : PV → HP → Prop} {v1 v2 v3 v4 : Int} (H : Q (I 1) h) : X d 2 89 [some (P 57), some (I v1), some (I v2), some (I v3), some (I v4)] [] h Q :=
  s_iconst c2_89 rfl (s_retZ c2_90 R2 ⟨by decide, H⟩)
-- WarmSide$Acts.forget()V
theorem c1_0 : cdA 1 0 = some (.aload_n 0) := by decide +kernel
theorem c1_1 : cdA 1 1 = some (.iconst 0) := by decide +kernel
theorem c1_2 : cdA 1 2 = some (.putfield 23) := by decide +kernel
theorem f1_23 : fldR (moN 1) 23 = some (0, 1) := by decide +kernel
theorem c1_5 : cdA 1 5 = some (.aload_n 0) := by decide +kernel
theorem c1_6 : cdA 1 6 = some (.iconst 0) := by decide +kernel
theorem c1_7 : cdA 1 7 = some (.putfield 27) := by decide +kernel
theorem f1_27 : fldR (moN 1) 27 = some (0, 2) := by decide +kernel
theorem c1_10 : cdA 1 10 = some (.return_) := by decide +kernel
theorem R1 : mK 1 = 4 := by decide +kernel
theorem b1_0 {d : Nat} {h : HP} {Q : PV → HP → Prop} (H : Q (I 0) (up2 (up2 h 57 1 0) 57 2 0)) : X d 1 0 [some (P 57)] [] h Q :=
  s_aload_n c1_0 rfl (s_iconst c1_1 rfl (s_putI c1_2 f1_23 t0_1 n0_1 sh_57 (s_aload_n c1_5 rfl (s_iconst c1_6 rfl (s_putI c1_7 f1_27 t0_2 n0_2 sh_57 (s_retV c1_10 R1 H))))))
-- WarmSide$Acts.back()Z
theorem c3_0 : cdA 3 0 = some (.aload_n 0) := by decide +kernel
theorem c3_1 : cdA 3 1 = some (.getfield 23) := by decide +kernel
theorem f3_23 : fldR (moN 3) 23 = some (0, 1) := by decide +kernel
theorem c3_4 : cdA 3 4 = some (.ifCond .gt 5) := by decide +kernel
theorem c3_9 : cdA 3 9 = some (.aload_n 0) := by decide +kernel
theorem c3_10 : cdA 3 10 = some (.dup) := by decide +kernel
theorem c3_11 : cdA 3 11 = some (.getfield 23) := by decide +kernel
theorem c3_14 : cdA 3 14 = some (.iconst 1) := by decide +kernel
theorem c3_15 : cdA 3 15 = some (.isub) := by decide +kernel
theorem c3_16 : cdA 3 16 = some (.putfield 23) := by decide +kernel
theorem c3_19 : cdA 3 19 = some (.aload_n 0) := by decide +kernel
theorem c3_20 : cdA 3 20 = some (.aload_n 0) := by decide +kernel
theorem c3_21 : cdA 3 21 = some (.getfield 9) := by decide +kernel
theorem f3_9 : fldR (moN 3) 9 = some (0, 3) := by decide +kernel
theorem c3_24 : cdA 3 24 = some (.aload_n 0) := by decide +kernel
theorem c3_25 : cdA 3 25 = some (.getfield 23) := by decide +kernel
theorem c3_28 : cdA 3 28 = some (.iaload) := by decide +kernel
theorem c3_29 : cdA 3 29 = some (.iconst 4) := by decide +kernel
theorem c3_30 : cdA 3 30 = some (.ishr) := by decide +kernel
theorem c3_31 : cdA 3 31 = some (.aload_n 0) := by decide +kernel
theorem c3_32 : cdA 3 32 = some (.getfield 9) := by decide +kernel
theorem c3_35 : cdA 3 35 = some (.aload_n 0) := by decide +kernel
theorem c3_36 : cdA 3 36 = some (.getfield 23) := by decide +kernel
theorem c3_39 : cdA 3 39 = some (.iaload) := by decide +kernel
theorem c3_40 : cdA 3 40 = some (.bipush 15) := by decide +kernel
theorem c3_42 : cdA 3 42 = some (.iand) := by decide +kernel
theorem c3_43 : cdA 3 43 = some (.aload_n 0) := by decide +kernel
theorem c3_44 : cdA 3 44 = some (.getfield 13) := by decide +kernel
theorem f3_13 : fldR (moN 3) 13 = some (0, 4) := by decide +kernel
theorem c3_47 : cdA 3 47 = some (.aload_n 0) := by decide +kernel
theorem c3_48 : cdA 3 48 = some (.getfield 23) := by decide +kernel
theorem c3_51 : cdA 3 51 = some (.iaload) := by decide +kernel
theorem c3_52 : cdA 3 52 = some (.invokevirtual 37) := by decide +kernel
theorem m3_37 : mthR (moN 3) 37 = 10 := by decide +kernel
theorem c3_7 : cdA 3 7 = some (.iconst 0) := by decide +kernel
theorem c3_8 : cdA 3 8 = some (.ireturn) := by decide +kernel
theorem R3 : mK 3 = 3 := by decide +kernel
theorem c3_55 : cdA 3 55 = some (.iconst 1) := by decide +kernel
theorem c3_56 : cdA 3 56 = some (.ireturn) := by decide +kernel
theorem b3_0 {d : Nat} {h : HP} {Q : PV → HP → Prop} (H : ((0 < (h 57 1)) → ((0 ≤ (w32 ((h 57 1) - 1)) ∧ (w32 ((h 57 1) - 1)) < 60) ∧ ((0 ≤ (w32 ((h 57 1) - 1)) ∧ (w32 ((h 57 1) - 1)) < 60) ∧ ((0 ≤ (w32 ((h 57 1) - 1)) ∧ (w32 ((h 57 1) - 1)) < 60) ∧ X d 7 0 [some (P 57), some (I (bShr (h 58 (w32 ((h 57 1) - 1)).toNat) 4)), some (I (bAnd (h 58 (w32 ((h 57 1) - 1)).toNat) 15)), some (I (h 59 (w32 ((h 57 1) - 1)).toNat))] [] (up2 h 57 1 (w32 ((h 57 1) - 1))) (fun _ h' => X (d + 1) 3 55 [some (P 57)] [] h' Q))))) ∧ (¬ (0 < (h 57 1)) → Q (I 0) h)) : X (d + 1) 3 0 [some (P 57)] [] h Q :=
  s_aload_n c3_0 rfl (s_getI c3_1 f3_23 t0_1 sh_57 (s_if 9 (0 < (h 57 1)) c3_4 (by decide) rfl ⟨fun q1 => s_aload_n c3_9 rfl (s_dupP c3_10 (s_getI c3_11 f3_23 t0_1 sh_57 (s_iconst c3_14 rfl (s_isub c3_15 (s_putI c3_16 f3_23 t0_1 n0_1 sh_57 (s_aload_n c3_19 rfl (s_aload_n c3_20 rfl (s_getP 58 c3_21 f3_9 t0_3 sh_57 g_57_3 (by decide) (by decide) (s_aload_n c3_24 rfl (s_getI c3_25 f3_23 t0_1 sh_57 (s_iald c3_28 sh_58 ⟨(H.1 q1).1, s_iconst c3_29 rfl (s_ishr c3_30 (s_aload_n c3_31 rfl (s_getP 58 c3_32 f3_9 t0_3 sh_57 g_57_3 (by decide) (by decide) (s_aload_n c3_35 rfl (s_getI c3_36 f3_23 t0_1 sh_57 (s_iald c3_39 sh_58 ⟨(H.1 q1).2.1, s_bipush c3_40 ⟨by decide, by decide⟩ (s_iand c3_42 (s_aload_n c3_43 rfl (s_getP 59 c3_44 f3_13 t0_4 sh_57 g_57_4 (by decide) (by decide) (s_aload_n c3_47 rfl (s_getI c3_48 f3_23 t0_1 sh_57 (s_iald c3_51 sh_59 ⟨(H.1 q1).2.2.1, s_cVv c3_52 m3_37 F7 K7 rfl (Nat.le_of_ble_eq_true rfl) rfl S7_57 rfl (H.1 q1).2.2.2⟩))))))⟩))))))⟩))))))))))), fun q1 => s_iconst c3_7 rfl (s_retZ c3_8 R3 ⟨by decide, (H.2 q1)⟩)⟩))
theorem b3_55 {d : Nat} {h : HP} {Q : PV → HP → Prop} (H : Q (I 1) h) : X d 3 55 [some (P 57)] [] h Q :=
  s_iconst c3_55 rfl (s_retZ c3_56 R3 ⟨by decide, H⟩)
-- WarmSide$Acts.again()Z
theorem c4_0 : cdA 4 0 = some (.aload_n 0) := by decide +kernel
theorem c4_1 : cdA 4 1 = some (.getfield 23) := by decide +kernel
theorem f4_23 : fldR (moN 4) 23 = some (0, 1) := by decide +kernel
theorem c4_4 : cdA 4 4 = some (.aload_n 0) := by decide +kernel
theorem c4_5 : cdA 4 5 = some (.getfield 27) := by decide +kernel
theorem f4_27 : fldR (moN 4) 27 = some (0, 2) := by decide +kernel
theorem c4_8 : cdA 4 8 = some (.if_icmp .lt 5) := by decide +kernel
theorem c4_13 : cdA 4 13 = some (.aload_n 0) := by decide +kernel
theorem c4_14 : cdA 4 14 = some (.aload_n 0) := by decide +kernel
theorem c4_15 : cdA 4 15 = some (.getfield 9) := by decide +kernel
theorem f4_9 : fldR (moN 4) 9 = some (0, 3) := by decide +kernel
theorem c4_18 : cdA 4 18 = some (.aload_n 0) := by decide +kernel
theorem c4_19 : cdA 4 19 = some (.getfield 23) := by decide +kernel
theorem c4_22 : cdA 4 22 = some (.iaload) := by decide +kernel
theorem c4_23 : cdA 4 23 = some (.iconst 4) := by decide +kernel
theorem c4_24 : cdA 4 24 = some (.ishr) := by decide +kernel
theorem c4_25 : cdA 4 25 = some (.aload_n 0) := by decide +kernel
theorem c4_26 : cdA 4 26 = some (.getfield 9) := by decide +kernel
theorem c4_29 : cdA 4 29 = some (.aload_n 0) := by decide +kernel
theorem c4_30 : cdA 4 30 = some (.getfield 23) := by decide +kernel
theorem c4_33 : cdA 4 33 = some (.iaload) := by decide +kernel
theorem c4_34 : cdA 4 34 = some (.bipush 15) := by decide +kernel
theorem c4_36 : cdA 4 36 = some (.iand) := by decide +kernel
theorem c4_37 : cdA 4 37 = some (.aload_n 0) := by decide +kernel
theorem c4_38 : cdA 4 38 = some (.getfield 16) := by decide +kernel
theorem f4_16 : fldR (moN 4) 16 = some (0, 5) := by decide +kernel
theorem c4_41 : cdA 4 41 = some (.aload_n 0) := by decide +kernel
theorem c4_42 : cdA 4 42 = some (.getfield 23) := by decide +kernel
theorem c4_45 : cdA 4 45 = some (.iaload) := by decide +kernel
theorem c4_46 : cdA 4 46 = some (.invokevirtual 37) := by decide +kernel
theorem m4_37 : mthR (moN 4) 37 = 10 := by decide +kernel
theorem c4_11 : cdA 4 11 = some (.iconst 0) := by decide +kernel
theorem c4_12 : cdA 4 12 = some (.ireturn) := by decide +kernel
theorem R4 : mK 4 = 3 := by decide +kernel
theorem c4_49 : cdA 4 49 = some (.aload_n 0) := by decide +kernel
theorem c4_50 : cdA 4 50 = some (.dup) := by decide +kernel
theorem c4_51 : cdA 4 51 = some (.getfield 23) := by decide +kernel
theorem c4_54 : cdA 4 54 = some (.iconst 1) := by decide +kernel
theorem c4_55 : cdA 4 55 = some (.iadd) := by decide +kernel
theorem c4_56 : cdA 4 56 = some (.putfield 23) := by decide +kernel
theorem c4_59 : cdA 4 59 = some (.iconst 1) := by decide +kernel
theorem c4_60 : cdA 4 60 = some (.ireturn) := by decide +kernel
theorem b4_0 {d : Nat} {h : HP} {Q : PV → HP → Prop} (H : (((h 57 1) < (h 57 2)) → ((0 ≤ (h 57 1) ∧ (h 57 1) < 60) ∧ ((0 ≤ (h 57 1) ∧ (h 57 1) < 60) ∧ ((0 ≤ (h 57 1) ∧ (h 57 1) < 60) ∧ X d 7 0 [some (P 57), some (I (bShr (h 58 (h 57 1).toNat) 4)), some (I (bAnd (h 58 (h 57 1).toNat) 15)), some (I (h 60 (h 57 1).toNat))] [] h (fun _ h' => X (d + 1) 4 49 [some (P 57)] [] h' Q))))) ∧ (¬ ((h 57 1) < (h 57 2)) → Q (I 0) h)) : X (d + 1) 4 0 [some (P 57)] [] h Q :=
  s_aload_n c4_0 rfl (s_getI c4_1 f4_23 t0_1 sh_57 (s_aload_n c4_4 rfl (s_getI c4_5 f4_27 t0_2 sh_57 (s_ifc 13 ((h 57 1) < (h 57 2)) c4_8 (by decide) rfl ⟨fun q1 => s_aload_n c4_13 rfl (s_aload_n c4_14 rfl (s_getP 58 c4_15 f4_9 t0_3 sh_57 g_57_3 (by decide) (by decide) (s_aload_n c4_18 rfl (s_getI c4_19 f4_23 t0_1 sh_57 (s_iald c4_22 sh_58 ⟨(H.1 q1).1, s_iconst c4_23 rfl (s_ishr c4_24 (s_aload_n c4_25 rfl (s_getP 58 c4_26 f4_9 t0_3 sh_57 g_57_3 (by decide) (by decide) (s_aload_n c4_29 rfl (s_getI c4_30 f4_23 t0_1 sh_57 (s_iald c4_33 sh_58 ⟨(H.1 q1).2.1, s_bipush c4_34 ⟨by decide, by decide⟩ (s_iand c4_36 (s_aload_n c4_37 rfl (s_getP 60 c4_38 f4_16 t0_5 sh_57 g_57_5 (by decide) (by decide) (s_aload_n c4_41 rfl (s_getI c4_42 f4_23 t0_1 sh_57 (s_iald c4_45 sh_60 ⟨(H.1 q1).2.2.1, s_cVv c4_46 m4_37 F7 K7 rfl (Nat.le_of_ble_eq_true rfl) rfl S7_57 rfl (H.1 q1).2.2.2⟩))))))⟩))))))⟩))))), fun q1 => s_iconst c4_11 rfl (s_retZ c4_12 R4 ⟨by decide, (H.2 q1)⟩)⟩))))
theorem b4_49 {d : Nat} {h : HP} {Q : PV → HP → Prop} (H : Q (I 1) (up2 h 57 1 (w32 ((h 57 1) + 1)))) : X d 4 49 [some (P 57)] [] h Q :=
  s_aload_n c4_49 rfl (s_dupP c4_50 (s_getI c4_51 f4_23 t0_1 sh_57 (s_iconst c4_54 rfl (s_iadd c4_55 (s_putI c4_56 f4_23 t0_1 n0_1 sh_57 (s_iconst c4_59 rfl (s_retZ c4_60 R4 ⟨by decide, H⟩)))))))
