/-! blocks of WarmSideModel, by program -/
-- WarmSideModel.worst(IIZ)I
theorem c194_0 : cdA 194 0 = some (.aload_n 0) := by decide +kernel
theorem c194_1 : cdA 194 1 = some (.iload_n 1) := by decide +kernel
theorem c194_2 : cdA 194 2 = some (.invokevirtual 191) := by decide +kernel
theorem m194_191 : mthR (moN 194) 191 = 139 := by decide +kernel
theorem c194_12 : cdA 194 12 = some (.ifCond .eq 17) := by decide +kernel
theorem c194_15 : cdA 194 15 = some (.aload_n 0) := by decide +kernel
theorem c194_16 : cdA 194 16 = some (.iload_n 1) := by decide +kernel
theorem c194_17 : cdA 194 17 = some (.iload_n 2) := by decide +kernel
theorem c194_18 : cdA 194 18 = some (.aload_n 0) := by decide +kernel
theorem c194_19 : cdA 194 19 = some (.getfield 301) := by decide +kernel
theorem f194_301 : fldR (moN 194) 301 = some (12, 31) := by decide +kernel
theorem c194_22 : cdA 194 22 = some (.iload_n 3) := by decide +kernel
theorem c194_23 : cdA 194 23 = some (.invokevirtual 376) := by decide +kernel
theorem m194_376 : mthR (moN 194) 376 = 196 := by decide +kernel
theorem F193 : mF 193 4 6 true := by unfold mF; decide +kernel
theorem K193 : ¬ mK 193 = 4 := by decide +kernel
theorem S193_69 : SH0[69]? = some (.inl (moN 193)) := by decide +kernel
theorem c194_26 : cdA 194 26 = some (.goto 8) := by decide +kernel
theorem c194_29 : cdA 194 29 = some (.aload_n 0) := by decide +kernel
theorem c194_30 : cdA 194 30 = some (.iconst (-1)) := by decide +kernel
theorem c194_31 : cdA 194 31 = some (.invokevirtual 187) := by decide +kernel
theorem m194_187 : mthR (moN 194) 187 = 138 := by decide +kernel
theorem c194_34 : cdA 194 34 = some (.ireturn) := by decide +kernel
theorem R194 : mK 194 = 0 := by decide +kernel
theorem c194_5 : cdA 194 5 = some (.ifCond .eq 24) := by decide +kernel
theorem c194_8 : cdA 194 8 = some (.iload_n 2) := by decide +kernel
theorem c194_9 : cdA 194 9 = some (.invokestatic 199) := by decide +kernel
theorem m194_199 : mthR (moN 194) 199 = 140 := by decide +kernel
theorem b194_0 {d : Nat} {h : HP} {Q : PV → HP → Prop} {v1 v2 v3 : Int} (H : X d 136 0 [some (P 69), some (I v1)] [] h (fun r h' => X (d + 1) 194 5 [some (P 69), some (I v1), some (I v2), some (I v3)] [r] h' Q)) : X (d + 1) 194 0 [some (P 69), some (I v1), some (I v2), some (I v3)] [] h Q :=
  s_aload_n c194_0 rfl (s_iload_n c194_1 rfl (s_cVi c194_2 m194_191 F136 K136 rfl (Nat.le_of_ble_eq_true rfl) rfl S136_69 rfl H))
theorem b194_12 {d : Nat} {h : HP} {Q : PV → HP → Prop} {v1 v2 v3 s0 : Int} (H : ((s0 = 0) → X (d + 1) 194 29 [some (P 69), some (I v1), some (I v2), some (I v3)] [] h Q) ∧ (¬ (s0 = 0) → X d 193 0 [some (P 69), some (I v1), some (I v2), some (I (h 69 31)), some (I v3), none] [] h (fun r h' => X (d + 1) 194 26 [some (P 69), some (I v1), some (I v2), some (I v3)] [r] h' Q))) : X (d + 1) 194 12 [some (P 69), some (I v1), some (I v2), some (I v3)] [I s0] h Q :=
  s_if 29 (s0 = 0) c194_12 (by decide) rfl ⟨fun q1 => (H.1 q1), fun q1 => s_aload_n c194_15 rfl (s_iload_n c194_16 rfl (s_iload_n c194_17 rfl (s_aload_n c194_18 rfl (s_getI c194_19 f194_301 t12_31 sh_69 (s_iload_n c194_22 rfl (s_cVi c194_23 m194_376 F193 K193 rfl (Nat.le_of_ble_eq_true rfl) rfl S193_69 rfl (H.2 q1)))))))⟩
theorem b194_26 {d : Nat} {h : HP} {Q : PV → HP → Prop} {v1 v2 v3 s0 : Int} (H : X d 194 34 [some (P 69), some (I v1), some (I v2), some (I v3)] [I s0] h Q) : X d 194 26 [some (P 69), some (I v1), some (I v2), some (I v3)] [I s0] h Q :=
  s_goto 34 c194_26 (by decide) (H)
theorem b194_29 {d : Nat} {h : HP} {Q : PV → HP → Prop} {v1 v2 v3 : Int} (H : X d 135 0 [some (P 69), some (I (-1))] [] h (fun r h' => X (d + 1) 194 34 [some (P 69), some (I v1), some (I v2), some (I v3)] [r] h' Q)) : X (d + 1) 194 29 [some (P 69), some (I v1), some (I v2), some (I v3)] [] h Q :=
  s_aload_n c194_29 rfl (s_iconst c194_30 rfl (s_cVi c194_31 m194_187 F135 K135 rfl (Nat.le_of_ble_eq_true rfl) rfl S135_69 rfl H))
theorem b194_34 {d : Nat} {h : HP} {Q : PV → HP → Prop} {v1 v2 v3 s0 : Int} (H : Q (I s0) h) : X d 194 34 [some (P 69), some (I v1), some (I v2), some (I v3)] [I s0] h Q :=
  s_retI c194_34 R194 H
theorem b194_5 {d : Nat} {h : HP} {Q : PV → HP → Prop} {v1 v2 v3 s0 : Int} (H : ((s0 = 0) → X (d + 1) 194 29 [some (P 69), some (I v1), some (I v2), some (I v3)] [] h Q) ∧ (¬ (s0 = 0) → X d 137 0 [some (I v2)] [] h (fun r h' => X (d + 1) 194 12 [some (P 69), some (I v1), some (I v2), some (I v3)] [r] h' Q))) : X (d + 1) 194 5 [some (P 69), some (I v1), some (I v2), some (I v3)] [I s0] h Q :=
  s_if 29 (s0 = 0) c194_5 (by decide) rfl ⟨fun q2 => (H.1 q2), fun q2 => s_iload_n c194_8 rfl (s_cSi c194_9 m194_199 F137 K137 rfl (Nat.le_of_ble_eq_true rfl) rfl rfl (H.2 q2))⟩
-- WarmSideModel.nowAt(I)I
theorem c195_0 : cdA 195 0 = some (.iload_n 1) := by decide +kernel
theorem c195_1 : cdA 195 1 = some (.iconst 4) := by decide +kernel
theorem c195_2 : cdA 195 2 = some (.if_icmp .ge 12) := by decide +kernel
theorem c195_14 : cdA 195 14 = some (.iload_n 1) := by decide +kernel
theorem c195_15 : cdA 195 15 = some (.bipush 12) := by decide +kernel
theorem c195_17 : cdA 195 17 = some (.if_icmp .ge 14) := by decide +kernel
theorem c195_31 : cdA 195 31 = some (.iload_n 1) := by decide +kernel
theorem c195_32 : cdA 195 32 = some (.bipush 20) := by decide +kernel
theorem c195_34 : cdA 195 34 = some (.if_icmp .ge 17) := by decide +kernel
theorem c195_51 : cdA 195 51 = some (.aload_n 0) := by decide +kernel
theorem c195_52 : cdA 195 52 = some (.getfield 28) := by decide +kernel
theorem f195_28 : fldR (moN 195) 28 = some (12, 6) := by decide +kernel
theorem c195_55 : cdA 195 55 = some (.iload_n 1) := by decide +kernel
theorem c195_56 : cdA 195 56 = some (.iconst 4) := by decide +kernel
theorem c195_57 : cdA 195 57 = some (.isub) := by decide +kernel
theorem c195_58 : cdA 195 58 = some (.bipush 16) := by decide +kernel
theorem c195_60 : cdA 195 60 = some (.isub) := by decide +kernel
theorem c195_61 : cdA 195 61 = some (.iaload) := by decide +kernel
theorem c195_62 : cdA 195 62 = some (.ireturn) := by decide +kernel
theorem R195 : mK 195 = 0 := by decide +kernel
theorem c195_37 : cdA 195 37 = some (.aload_n 0) := by decide +kernel
theorem c195_38 : cdA 195 38 = some (.getfield 25) := by decide +kernel
theorem f195_25 : fldR (moN 195) 25 = some (12, 5) := by decide +kernel
theorem c195_41 : cdA 195 41 = some (.iload_n 1) := by decide +kernel
theorem c195_42 : cdA 195 42 = some (.iconst 4) := by decide +kernel
theorem c195_43 : cdA 195 43 = some (.isub) := by decide +kernel
theorem c195_44 : cdA 195 44 = some (.bipush 8) := by decide +kernel
theorem c195_46 : cdA 195 46 = some (.isub) := by decide +kernel
theorem c195_47 : cdA 195 47 = some (.iaload) := by decide +kernel
theorem c195_48 : cdA 195 48 = some (.goto 14) := by decide +kernel
theorem c195_20 : cdA 195 20 = some (.aload_n 0) := by decide +kernel
theorem c195_21 : cdA 195 21 = some (.getfield 19) := by decide +kernel
theorem f195_19 : fldR (moN 195) 19 = some (12, 3) := by decide +kernel
theorem c195_24 : cdA 195 24 = some (.iload_n 1) := by decide +kernel
theorem c195_25 : cdA 195 25 = some (.iconst 4) := by decide +kernel
theorem c195_26 : cdA 195 26 = some (.isub) := by decide +kernel
theorem c195_27 : cdA 195 27 = some (.iaload) := by decide +kernel
theorem c195_28 : cdA 195 28 = some (.goto 34) := by decide +kernel
theorem c195_5 : cdA 195 5 = some (.aload_n 0) := by decide +kernel
theorem c195_6 : cdA 195 6 = some (.getfield 86) := by decide +kernel
theorem f195_86 : fldR (moN 195) 86 = some (12, 29) := by decide +kernel
theorem c195_9 : cdA 195 9 = some (.iload_n 1) := by decide +kernel
theorem c195_10 : cdA 195 10 = some (.iaload) := by decide +kernel
theorem c195_11 : cdA 195 11 = some (.goto 51) := by decide +kernel
theorem b195_0 {d : Nat} {h : HP} {Q : PV → HP → Prop} {v1 : Int} (H : ((4 ≤ v1) → (((12 ≤ v1) → (((20 ≤ v1) → ((0 ≤ (w32 ((w32 (v1 - 4)) - 16)) ∧ (w32 ((w32 (v1 - 4)) - 16)) < 8) ∧ Q (I (h 76 (w32 ((w32 (v1 - 4)) - 16)).toNat)) h)) ∧ (¬ (20 ≤ v1) → ((0 ≤ (w32 ((w32 (v1 - 4)) - 8)) ∧ (w32 ((w32 (v1 - 4)) - 8)) < 8) ∧ Q (I (h 75 (w32 ((w32 (v1 - 4)) - 8)).toNat)) h)))) ∧ (¬ (12 ≤ v1) → ((0 ≤ (w32 (v1 - 4)) ∧ (w32 (v1 - 4)) < 8) ∧ Q (I (h 73 (w32 (v1 - 4)).toNat)) h)))) ∧ (¬ (4 ≤ v1) → ((0 ≤ v1 ∧ v1 < 4) ∧ Q (I (h 95 v1.toNat)) h))) : X d 195 0 [some (P 69), some (I v1)] [] h Q :=
  s_iload_n c195_0 rfl (s_iconst c195_1 rfl (s_ifc 14 (4 ≤ v1) c195_2 (by decide) rfl ⟨fun q1 => s_iload_n c195_14 rfl (s_bipush c195_15 ⟨by decide, by decide⟩ (s_ifc 31 (12 ≤ v1) c195_17 (by decide) rfl ⟨fun q2 => s_iload_n c195_31 rfl (s_bipush c195_32 ⟨by decide, by decide⟩ (s_ifc 51 (20 ≤ v1) c195_34 (by decide) rfl ⟨fun q3 => s_aload_n c195_51 rfl (s_getP 76 c195_52 f195_28 t12_6 sh_69 g_69_6 (by decide) (by decide) (s_iload_n c195_55 rfl (s_iconst c195_56 rfl (s_isub c195_57 (s_bipush c195_58 ⟨by decide, by decide⟩ (s_isub c195_60 (s_iald c195_61 sh_76 ⟨(((H.1 q1).1 q2).1 q3).1, s_retI c195_62 R195 (((H.1 q1).1 q2).1 q3).2⟩))))))), fun q3 => s_aload_n c195_37 rfl (s_getP 75 c195_38 f195_25 t12_5 sh_69 g_69_5 (by decide) (by decide) (s_iload_n c195_41 rfl (s_iconst c195_42 rfl (s_isub c195_43 (s_bipush c195_44 ⟨by decide, by decide⟩ (s_isub c195_46 (s_iald c195_47 sh_75 ⟨(((H.1 q1).1 q2).2 q3).1, s_goto 62 c195_48 (by decide) (s_retI c195_62 R195 (((H.1 q1).1 q2).2 q3).2)⟩)))))))⟩)), fun q2 => s_aload_n c195_20 rfl (s_getP 73 c195_21 f195_19 t12_3 sh_69 g_69_3 (by decide) (by decide) (s_iload_n c195_24 rfl (s_iconst c195_25 rfl (s_isub c195_26 (s_iald c195_27 sh_73 ⟨((H.1 q1).2 q2).1, s_goto 62 c195_28 (by decide) (s_retI c195_62 R195 ((H.1 q1).2 q2).2)⟩)))))⟩)), fun q1 => s_aload_n c195_5 rfl (s_getP 95 c195_6 f195_86 t12_29 sh_69 g_69_29 (by decide) (by decide) (s_iload_n c195_9 rfl (s_iald c195_10 sh_95 ⟨(H.2 q1).1, s_goto 62 c195_11 (by decide) (s_retI c195_62 R195 (H.2 q1).2)⟩)))⟩))
-- WarmSideModel.save()V
theorem c196_0 : cdA 196 0 = some (.iconst 0) := by decide +kernel
theorem c196_1 : cdA 196 1 = some (.istore_n 1) := by decide +kernel
theorem c196_18 : cdA 196 18 = some (.iastore) := by decide +kernel
theorem c196_19 : cdA 196 19 = some (.iinc 1 1) := by decide +kernel
theorem c196_22 : cdA 196 22 = some (.goto (-20)) := by decide +kernel
theorem c196_2 : cdA 196 2 = some (.iload_n 1) := by decide +kernel
theorem c196_3 : cdA 196 3 = some (.bipush 28) := by decide +kernel
theorem c196_5 : cdA 196 5 = some (.if_icmp .ge 20) := by decide +kernel
theorem c196_25 : cdA 196 25 = some (.aload_n 0) := by decide +kernel
theorem c196_26 : cdA 196 26 = some (.aload_n 0) := by decide +kernel
theorem c196_27 : cdA 196 27 = some (.getfield 319) := by decide +kernel
theorem f196_319 : fldR (moN 196) 319 = some (12, 32) := by decide +kernel
theorem c196_30 : cdA 196 30 = some (.putfield 383) := by decide +kernel
theorem f196_383 : fldR (moN 196) 383 = some (12, 74) := by decide +kernel
theorem t12_74 : fcl 12 74 = 0 := by decide +kernel
theorem n12_74 : ffin 12 74 = false := by decide +kernel
theorem c196_33 : cdA 196 33 = some (.aload_n 0) := by decide +kernel
theorem c196_34 : cdA 196 34 = some (.aload_n 0) := by decide +kernel
theorem c196_35 : cdA 196 35 = some (.getfield 344) := by decide +kernel
theorem f196_344 : fldR (moN 196) 344 = some (12, 33) := by decide +kernel
theorem c196_38 : cdA 196 38 = some (.putfield 386) := by decide +kernel
theorem f196_386 : fldR (moN 196) 386 = some (12, 75) := by decide +kernel
theorem t12_75 : fcl 12 75 = 1 := by decide +kernel
theorem n12_75 : ffin 12 75 = false := by decide +kernel
theorem c196_41 : cdA 196 41 = some (.aload_n 0) := by decide +kernel
theorem c196_42 : cdA 196 42 = some (.aload_n 0) := by decide +kernel
theorem c196_43 : cdA 196 43 = some (.getfield 348) := by decide +kernel
theorem f196_348 : fldR (moN 196) 348 = some (12, 34) := by decide +kernel
theorem c196_46 : cdA 196 46 = some (.putfield 389) := by decide +kernel
theorem f196_389 : fldR (moN 196) 389 = some (12, 76) := by decide +kernel
theorem t12_76 : fcl 12 76 = 1 := by decide +kernel
theorem n12_76 : ffin 12 76 = false := by decide +kernel
theorem c196_49 : cdA 196 49 = some (.aload_n 0) := by decide +kernel
theorem c196_50 : cdA 196 50 = some (.aload_n 0) := by decide +kernel
theorem c196_51 : cdA 196 51 = some (.getfield 354) := by decide +kernel
theorem f196_354 : fldR (moN 196) 354 = some (12, 35) := by decide +kernel
theorem c196_54 : cdA 196 54 = some (.putfield 392) := by decide +kernel
theorem f196_392 : fldR (moN 196) 392 = some (12, 77) := by decide +kernel
theorem t12_77 : fcl 12 77 = 1 := by decide +kernel
theorem n12_77 : ffin 12 77 = false := by decide +kernel
theorem c196_57 : cdA 196 57 = some (.return_) := by decide +kernel
theorem R196 : mK 196 = 4 := by decide +kernel
theorem c196_8 : cdA 196 8 = some (.aload_n 0) := by decide +kernel
theorem c196_9 : cdA 196 9 = some (.getfield 150) := by decide +kernel
theorem f196_150 : fldR (moN 196) 150 = some (12, 73) := by decide +kernel
theorem t12_73 : fcl 12 73 = 2 := by decide +kernel
theorem c196_12 : cdA 196 12 = some (.iload_n 1) := by decide +kernel
theorem c196_13 : cdA 196 13 = some (.aload_n 0) := by decide +kernel
theorem c196_14 : cdA 196 14 = some (.iload_n 1) := by decide +kernel
theorem c196_15 : cdA 196 15 = some (.invokevirtual 380) := by decide +kernel
theorem m196_380 : mthR (moN 196) 380 = 198 := by decide +kernel
theorem F195 : mF 195 1 2 true := by unfold mF; decide +kernel
theorem K195 : ¬ mK 195 = 4 := by decide +kernel
theorem S195_69 : SH0[69]? = some (.inl (moN 195)) := by decide +kernel
theorem b196_0 {d : Nat} {h : HP} {Q : PV → HP → Prop} (H : X d 196 2 [some (P 69), some (I 0)] [] h Q) : X d 196 0 [some (P 69), none] [] h Q :=
  s_iconst c196_0 rfl (s_istore_n c196_1 rfl (H))
theorem b196_18 {d : Nat} {h : HP} {Q : PV → HP → Prop} {v1 s1 s2 : Int} (H : (0 ≤ s1 ∧ s1 < 28) ∧ X d 196 2 [some (P 69), some (I (w32 (v1 + 1)))] [] (up2 h 114 s1.toNat s2) Q) : X d 196 18 [some (P 69), some (I v1)] [I s2, I s1, P 114] h Q :=
  s_iast c196_18 sh_114 ⟨H.1, s_iinc c196_19 rfl rfl rfl (s_goto 2 c196_22 (by decide) (H.2))⟩
theorem b196_2 {d : Nat} {h : HP} {Q : PV → HP → Prop} {v1 : Int} (H : ((28 ≤ v1) → Q (I 0) (up2 (up2 (up2 (up2 h 69 74 (h 69 32)) 69 75 (h 69 33)) 69 76 (h 69 34)) 69 77 (h 69 35))) ∧ (¬ (28 ≤ v1) → X d 195 0 [some (P 69), some (I v1)] [] h (fun r h' => X (d + 1) 196 18 [some (P 69), some (I v1)] [r, I v1, P 114] h' Q))) : X (d + 1) 196 2 [some (P 69), some (I v1)] [] h Q :=
  s_iload_n c196_2 rfl (s_bipush c196_3 ⟨by decide, by decide⟩ (s_ifc 25 (28 ≤ v1) c196_5 (by decide) rfl ⟨fun q1 => s_aload_n c196_25 rfl (s_aload_n c196_26 rfl (s_getI c196_27 f196_319 t12_32 sh_69 (s_putI c196_30 f196_383 t12_74 n12_74 sh_69 (s_aload_n c196_33 rfl (s_aload_n c196_34 rfl (s_getJ c196_35 f196_344 t12_33 sh_69 (s_putJ c196_38 f196_386 t12_75 n12_75 sh_69 (s_aload_n c196_41 rfl (s_aload_n c196_42 rfl (s_getJ c196_43 f196_348 t12_34 sh_69 (s_putJ c196_46 f196_389 t12_76 n12_76 sh_69 (s_aload_n c196_49 rfl (s_aload_n c196_50 rfl (s_getJ c196_51 f196_354 t12_35 sh_69 (s_putJ c196_54 f196_392 t12_77 n12_77 sh_69 (s_retV c196_57 R196 (H.1 q1))))))))))))))))), fun q1 => s_aload_n c196_8 rfl (s_getP 114 c196_9 f196_150 t12_73 sh_69 g_69_73 (by decide) (by decide) (s_iload_n c196_12 rfl (s_aload_n c196_13 rfl (s_iload_n c196_14 rfl (s_cVi c196_15 m196_380 F195 K195 rfl (Nat.le_of_ble_eq_true rfl) rfl S195_69 rfl (H.2 q1))))))⟩))
-- WarmSideModel.putBack()V
theorem c197_0 : cdA 197 0 = some (.iconst 0) := by decide +kernel
theorem c197_1 : cdA 197 1 = some (.istore_n 1) := by decide +kernel
theorem c197_2 : cdA 197 2 = some (.iload_n 1) := by decide +kernel
theorem c197_3 : cdA 197 3 = some (.iconst 4) := by decide +kernel
theorem c197_4 : cdA 197 4 = some (.if_icmp .ge 21) := by decide +kernel
theorem c197_25 : cdA 197 25 = some (.iconst 0) := by decide +kernel
theorem c197_26 : cdA 197 26 = some (.istore_n 1) := by decide +kernel
theorem c197_7 : cdA 197 7 = some (.aload_n 0) := by decide +kernel
theorem c197_8 : cdA 197 8 = some (.getfield 86) := by decide +kernel
theorem f197_86 : fldR (moN 197) 86 = some (12, 29) := by decide +kernel
theorem c197_11 : cdA 197 11 = some (.iload_n 1) := by decide +kernel
theorem c197_12 : cdA 197 12 = some (.aload_n 0) := by decide +kernel
theorem c197_13 : cdA 197 13 = some (.getfield 150) := by decide +kernel
theorem f197_150 : fldR (moN 197) 150 = some (12, 73) := by decide +kernel
theorem c197_16 : cdA 197 16 = some (.iload_n 1) := by decide +kernel
theorem c197_17 : cdA 197 17 = some (.iaload) := by decide +kernel
theorem c197_18 : cdA 197 18 = some (.iastore) := by decide +kernel
theorem c197_19 : cdA 197 19 = some (.iinc 1 1) := by decide +kernel
theorem c197_22 : cdA 197 22 = some (.goto (-20)) := by decide +kernel
theorem c197_27 : cdA 197 27 = some (.iload_n 1) := by decide +kernel
theorem c197_28 : cdA 197 28 = some (.bipush 8) := by decide +kernel
theorem c197_30 : cdA 197 30 = some (.if_icmp .ge 53) := by decide +kernel
theorem c197_83 : cdA 197 83 = some (.aload_n 0) := by decide +kernel
theorem c197_84 : cdA 197 84 = some (.aload_n 0) := by decide +kernel
theorem c197_85 : cdA 197 85 = some (.getfield 383) := by decide +kernel
theorem f197_383 : fldR (moN 197) 383 = some (12, 74) := by decide +kernel
theorem c197_88 : cdA 197 88 = some (.putfield 319) := by decide +kernel
theorem f197_319 : fldR (moN 197) 319 = some (12, 32) := by decide +kernel
theorem c197_91 : cdA 197 91 = some (.aload_n 0) := by decide +kernel
theorem c197_92 : cdA 197 92 = some (.aload_n 0) := by decide +kernel
theorem c197_93 : cdA 197 93 = some (.getfield 386) := by decide +kernel
theorem f197_386 : fldR (moN 197) 386 = some (12, 75) := by decide +kernel
theorem c197_96 : cdA 197 96 = some (.putfield 344) := by decide +kernel
theorem f197_344 : fldR (moN 197) 344 = some (12, 33) := by decide +kernel
theorem c197_99 : cdA 197 99 = some (.aload_n 0) := by decide +kernel
theorem c197_100 : cdA 197 100 = some (.aload_n 0) := by decide +kernel
theorem c197_101 : cdA 197 101 = some (.getfield 389) := by decide +kernel
theorem f197_389 : fldR (moN 197) 389 = some (12, 76) := by decide +kernel
theorem c197_104 : cdA 197 104 = some (.putfield 348) := by decide +kernel
theorem f197_348 : fldR (moN 197) 348 = some (12, 34) := by decide +kernel
theorem c197_107 : cdA 197 107 = some (.aload_n 0) := by decide +kernel
theorem c197_108 : cdA 197 108 = some (.aload_n 0) := by decide +kernel
theorem c197_109 : cdA 197 109 = some (.getfield 392) := by decide +kernel
theorem f197_392 : fldR (moN 197) 392 = some (12, 77) := by decide +kernel
theorem c197_112 : cdA 197 112 = some (.putfield 354) := by decide +kernel
theorem f197_354 : fldR (moN 197) 354 = some (12, 35) := by decide +kernel
theorem c197_115 : cdA 197 115 = some (.return_) := by decide +kernel
theorem R197 : mK 197 = 4 := by decide +kernel
theorem c197_33 : cdA 197 33 = some (.aload_n 0) := by decide +kernel
theorem c197_34 : cdA 197 34 = some (.getfield 19) := by decide +kernel
theorem f197_19 : fldR (moN 197) 19 = some (12, 3) := by decide +kernel
theorem c197_37 : cdA 197 37 = some (.iload_n 1) := by decide +kernel
theorem c197_38 : cdA 197 38 = some (.aload_n 0) := by decide +kernel
theorem c197_39 : cdA 197 39 = some (.getfield 150) := by decide +kernel
theorem c197_42 : cdA 197 42 = some (.iconst 4) := by decide +kernel
theorem c197_43 : cdA 197 43 = some (.iload_n 1) := by decide +kernel
theorem c197_44 : cdA 197 44 = some (.iadd) := by decide +kernel
theorem c197_45 : cdA 197 45 = some (.iaload) := by decide +kernel
theorem c197_46 : cdA 197 46 = some (.iastore) := by decide +kernel
theorem c197_47 : cdA 197 47 = some (.aload_n 0) := by decide +kernel
theorem c197_48 : cdA 197 48 = some (.getfield 25) := by decide +kernel
theorem f197_25 : fldR (moN 197) 25 = some (12, 5) := by decide +kernel
theorem c197_51 : cdA 197 51 = some (.iload_n 1) := by decide +kernel
theorem c197_52 : cdA 197 52 = some (.aload_n 0) := by decide +kernel
theorem c197_53 : cdA 197 53 = some (.getfield 150) := by decide +kernel
theorem c197_56 : cdA 197 56 = some (.bipush 12) := by decide +kernel
theorem c197_58 : cdA 197 58 = some (.iload_n 1) := by decide +kernel
theorem c197_59 : cdA 197 59 = some (.iadd) := by decide +kernel
theorem c197_60 : cdA 197 60 = some (.iaload) := by decide +kernel
theorem c197_61 : cdA 197 61 = some (.iastore) := by decide +kernel
theorem c197_62 : cdA 197 62 = some (.aload_n 0) := by decide +kernel
theorem c197_63 : cdA 197 63 = some (.getfield 28) := by decide +kernel
theorem f197_28 : fldR (moN 197) 28 = some (12, 6) := by decide +kernel
theorem c197_66 : cdA 197 66 = some (.iload_n 1) := by decide +kernel
theorem c197_67 : cdA 197 67 = some (.aload_n 0) := by decide +kernel
theorem c197_68 : cdA 197 68 = some (.getfield 150) := by decide +kernel
theorem c197_71 : cdA 197 71 = some (.bipush 20) := by decide +kernel
theorem c197_73 : cdA 197 73 = some (.iload_n 1) := by decide +kernel
theorem c197_74 : cdA 197 74 = some (.iadd) := by decide +kernel
theorem c197_75 : cdA 197 75 = some (.iaload) := by decide +kernel
theorem c197_76 : cdA 197 76 = some (.iastore) := by decide +kernel
theorem c197_77 : cdA 197 77 = some (.iinc 1 1) := by decide +kernel
theorem c197_80 : cdA 197 80 = some (.goto (-53)) := by decide +kernel
theorem b197_0 {d : Nat} {h : HP} {Q : PV → HP → Prop} (H : X d 197 2 [some (P 69), some (I 0)] [] h Q) : X d 197 0 [some (P 69), none] [] h Q :=
  s_iconst c197_0 rfl (s_istore_n c197_1 rfl (H))
theorem b197_2 {d : Nat} {h : HP} {Q : PV → HP → Prop} {v1 : Int} (H : ((4 ≤ v1) → X d 197 27 [some (P 69), some (I 0)] [] h Q) ∧ (¬ (4 ≤ v1) → ((0 ≤ v1 ∧ v1 < 28) ∧ ((0 ≤ v1 ∧ v1 < 4) ∧ X d 197 2 [some (P 69), some (I (w32 (v1 + 1)))] [] (up2 h 95 v1.toNat (h 114 v1.toNat)) Q)))) : X d 197 2 [some (P 69), some (I v1)] [] h Q :=
  s_iload_n c197_2 rfl (s_iconst c197_3 rfl (s_ifc 25 (4 ≤ v1) c197_4 (by decide) rfl ⟨fun q1 => s_iconst c197_25 rfl (s_istore_n c197_26 rfl ((H.1 q1))), fun q1 => s_aload_n c197_7 rfl (s_getP 95 c197_8 f197_86 t12_29 sh_69 g_69_29 (by decide) (by decide) (s_iload_n c197_11 rfl (s_aload_n c197_12 rfl (s_getP 114 c197_13 f197_150 t12_73 sh_69 g_69_73 (by decide) (by decide) (s_iload_n c197_16 rfl (s_iald c197_17 sh_114 ⟨(H.2 q1).1, s_iast c197_18 sh_95 ⟨(H.2 q1).2.1, s_iinc c197_19 rfl rfl rfl (s_goto 2 c197_22 (by decide) ((H.2 q1).2.2))⟩⟩))))))⟩))
theorem b197_27 {d : Nat} {h : HP} {Q : PV → HP → Prop} {v1 : Int} (H : ((8 ≤ v1) → Q (I 0) (up2 (up2 (up2 (up2 h 69 32 (h 69 74)) 69 33 (h 69 75)) 69 34 (h 69 76)) 69 35 (h 69 77))) ∧ (¬ (8 ≤ v1) → ((0 ≤ (w32 (4 + v1)) ∧ (w32 (4 + v1)) < 28) ∧ ((0 ≤ v1 ∧ v1 < 8) ∧ ((0 ≤ (w32 (12 + v1)) ∧ (w32 (12 + v1)) < 28) ∧ ((0 ≤ v1 ∧ v1 < 8) ∧ ((0 ≤ (w32 (20 + v1)) ∧ (w32 (20 + v1)) < 28) ∧ ((0 ≤ v1 ∧ v1 < 8) ∧ X d 197 27 [some (P 69), some (I (w32 (v1 + 1)))] [] (up2 (up2 (up2 h 73 v1.toNat (h 114 (w32 (4 + v1)).toNat)) 75 v1.toNat (h 114 (w32 (12 + v1)).toNat)) 76 v1.toNat (h 114 (w32 (20 + v1)).toNat)) Q)))))))) : X d 197 27 [some (P 69), some (I v1)] [] h Q :=
  s_iload_n c197_27 rfl (s_bipush c197_28 ⟨by decide, by decide⟩ (s_ifc 83 (8 ≤ v1) c197_30 (by decide) rfl ⟨fun q2 => s_aload_n c197_83 rfl (s_aload_n c197_84 rfl (s_getI c197_85 f197_383 t12_74 sh_69 (s_putI c197_88 f197_319 t12_32 n12_32 sh_69 (s_aload_n c197_91 rfl (s_aload_n c197_92 rfl (s_getJ c197_93 f197_386 t12_75 sh_69 (s_putJ c197_96 f197_344 t12_33 n12_33 sh_69 (s_aload_n c197_99 rfl (s_aload_n c197_100 rfl (s_getJ c197_101 f197_389 t12_76 sh_69 (s_putJ c197_104 f197_348 t12_34 n12_34 sh_69 (s_aload_n c197_107 rfl (s_aload_n c197_108 rfl (s_getJ c197_109 f197_392 t12_77 sh_69 (s_putJ c197_112 f197_354 t12_35 n12_35 sh_69 (s_retV c197_115 R197 (H.1 q2))))))))))))))))), fun q2 => s_aload_n c197_33 rfl (s_getP 73 c197_34 f197_19 t12_3 sh_69 g_69_3 (by decide) (by decide) (s_iload_n c197_37 rfl (s_aload_n c197_38 rfl (s_getP 114 c197_39 f197_150 t12_73 sh_69 g_69_73 (by decide) (by decide) (s_iconst c197_42 rfl (s_iload_n c197_43 rfl (s_iadd c197_44 (s_iald c197_45 sh_114 ⟨(H.2 q2).1, s_iast c197_46 sh_73 ⟨(H.2 q2).2.1, s_aload_n c197_47 rfl (s_getP 75 c197_48 f197_25 t12_5 sh_69 g_69_5 (by decide) (by decide) (s_iload_n c197_51 rfl (s_aload_n c197_52 rfl (s_getP 114 c197_53 f197_150 t12_73 sh_69 g_69_73 (by decide) (by decide) (s_bipush c197_56 ⟨by decide, by decide⟩ (s_iload_n c197_58 rfl (s_iadd c197_59 (s_iald c197_60 sh_114 ⟨(H.2 q2).2.2.1, s_iast c197_61 sh_75 ⟨(H.2 q2).2.2.2.1, s_aload_n c197_62 rfl (s_getP 76 c197_63 f197_28 t12_6 sh_69 g_69_6 (by decide) (by decide) (s_iload_n c197_66 rfl (s_aload_n c197_67 rfl (s_getP 114 c197_68 f197_150 t12_73 sh_69 g_69_73 (by decide) (by decide) (s_bipush c197_71 ⟨by decide, by decide⟩ (s_iload_n c197_73 rfl (s_iadd c197_74 (s_iald c197_75 sh_114 ⟨(H.2 q2).2.2.2.2.1, s_iast c197_76 sh_76 ⟨(H.2 q2).2.2.2.2.2.1, s_iinc c197_77 rfl rfl rfl (s_goto 27 c197_80 (by decide) ((H.2 q2).2.2.2.2.2.2))⟩⟩))))))))⟩⟩))))))))⟩⟩))))))))⟩))
-- WarmSideModel.areAlike(II)Z
theorem c198_0 : cdA 198 0 = some (.iconst 1) := by decide +kernel
theorem c198_1 : cdA 198 1 = some (.istore_n 3) := by decide +kernel
theorem c198_2 : cdA 198 2 = some (.iconst 0) := by decide +kernel
theorem c198_3 : cdA 198 3 = some (.istore 4) := by decide +kernel
theorem c198_47 : cdA 198 47 = some (.iconst 0) := by decide +kernel
theorem c198_48 : cdA 198 48 = some (.istore_n 3) := by decide +kernel
theorem c198_49 : cdA 198 49 = some (.iinc 4 1) := by decide +kernel
theorem c198_52 : cdA 198 52 = some (.goto (-47)) := by decide +kernel
theorem c198_5 : cdA 198 5 = some (.iload 4) := by decide +kernel
theorem c198_7 : cdA 198 7 = some (.bipush 28) := by decide +kernel
theorem c198_9 : cdA 198 9 = some (.if_icmp .ge 46) := by decide +kernel
theorem c198_55 : cdA 198 55 = some (.iload_n 3) := by decide +kernel
theorem c198_56 : cdA 198 56 = some (.ireturn) := by decide +kernel
theorem R198 : mK 198 = 3 := by decide +kernel
theorem c198_12 : cdA 198 12 = some (.iload_n 3) := by decide +kernel
theorem c198_13 : cdA 198 13 = some (.ifCond .eq 34) := by decide +kernel
theorem c198_16 : cdA 198 16 = some (.aload_n 0) := by decide +kernel
theorem c198_17 : cdA 198 17 = some (.getfield 147) := by decide +kernel
theorem f198_147 : fldR (moN 198) 147 = some (12, 72) := by decide +kernel
theorem t12_72 : fcl 12 72 = 2 := by decide +kernel
theorem c198_20 : cdA 198 20 = some (.bipush 28) := by decide +kernel
theorem c198_22 : cdA 198 22 = some (.iload_n 1) := by decide +kernel
theorem c198_23 : cdA 198 23 = some (.imul) := by decide +kernel
theorem c198_24 : cdA 198 24 = some (.iload 4) := by decide +kernel
theorem c198_26 : cdA 198 26 = some (.iadd) := by decide +kernel
theorem c198_27 : cdA 198 27 = some (.iaload) := by decide +kernel
theorem c198_28 : cdA 198 28 = some (.aload_n 0) := by decide +kernel
theorem c198_29 : cdA 198 29 = some (.getfield 147) := by decide +kernel
theorem c198_32 : cdA 198 32 = some (.bipush 28) := by decide +kernel
theorem c198_34 : cdA 198 34 = some (.iload_n 2) := by decide +kernel
theorem c198_35 : cdA 198 35 = some (.imul) := by decide +kernel
theorem c198_36 : cdA 198 36 = some (.iload 4) := by decide +kernel
theorem c198_38 : cdA 198 38 = some (.iadd) := by decide +kernel
theorem c198_39 : cdA 198 39 = some (.iaload) := by decide +kernel
theorem c198_40 : cdA 198 40 = some (.if_icmp .ne 7) := by decide +kernel
theorem c198_43 : cdA 198 43 = some (.iconst 1) := by decide +kernel
theorem c198_44 : cdA 198 44 = some (.goto 4) := by decide +kernel
theorem b198_0 {d : Nat} {h : HP} {Q : PV → HP → Prop} {v1 v2 : Int} (H : X d 198 5 [some (P 69), some (I v1), some (I v2), some (I 1), some (I 0)] [] h Q) : X d 198 0 [some (P 69), some (I v1), some (I v2), none, none] [] h Q :=
  s_iconst c198_0 rfl (s_istore_n c198_1 rfl (s_iconst c198_2 rfl (s_istore c198_3 rfl (H))))
theorem b198_47 {d : Nat} {h : HP} {Q : PV → HP → Prop} {v1 v2 v3 v4 : Int} (H : X d 198 48 [some (P 69), some (I v1), some (I v2), some (I v3), some (I v4)] [I 0] h Q) : X d 198 47 [some (P 69), some (I v1), some (I v2), some (I v3), some (I v4)] [] h Q :=
  s_iconst c198_47 rfl (H)
theorem b198_48 {d : Nat} {h : HP} {Q : PV → HP → Prop} {v1 v2 v3 v4 s0 : Int} (H : X d 198 5 [some (P 69), some (I v1), some (I v2), some (I s0), some (I (w32 (v4 + 1)))] [] h Q) : X d 198 48 [some (P 69), some (I v1), some (I v2), some (I v3), some (I v4)] [I s0] h Q :=
  s_istore_n c198_48 rfl (s_iinc c198_49 rfl rfl rfl (s_goto 5 c198_52 (by decide) (H)))
theorem b198_5 {d : Nat} {h : HP} {Q : PV → HP → Prop} {v1 v2 v3 v4 : Int} (H : ((28 ≤ v4) → ((v3 = 0 ∨ v3 = 1) ∧ Q (I v3) h)) ∧ (¬ (28 ≤ v4) → (((v3 = 0) → X d 198 47 [some (P 69), some (I v1), some (I v2), some (I v3), some (I v4)] [] h Q) ∧ (¬ (v3 = 0) → ((0 ≤ (w32 ((w32 (28 * v1)) + v4)) ∧ (w32 ((w32 (28 * v1)) + v4)) < 1708) ∧ ((0 ≤ (w32 ((w32 (28 * v2)) + v4)) ∧ (w32 ((w32 (28 * v2)) + v4)) < 1708) ∧ (((¬ (h 113 (w32 ((w32 (28 * v1)) + v4)).toNat) = (h 113 (w32 ((w32 (28 * v2)) + v4)).toNat)) → X d 198 47 [some (P 69), some (I v1), some (I v2), some (I v3), some (I v4)] [] h Q) ∧ (¬ (¬ (h 113 (w32 ((w32 (28 * v1)) + v4)).toNat) = (h 113 (w32 ((w32 (28 * v2)) + v4)).toNat)) → X d 198 48 [some (P 69), some (I v1), some (I v2), some (I v3), some (I v4)] [I 1] h Q)))))))) : X d 198 5 [some (P 69), some (I v1), some (I v2), some (I v3), some (I v4)] [] h Q :=
  s_iload c198_5 rfl (s_bipush c198_7 ⟨by decide, by decide⟩ (s_ifc 55 (28 ≤ v4) c198_9 (by decide) rfl ⟨fun q1 => s_iload_n c198_55 rfl (s_retZ c198_56 R198 (H.1 q1)), fun q1 => s_iload_n c198_12 rfl (s_if 47 (v3 = 0) c198_13 (by decide) rfl ⟨fun q2 => ((H.2 q1).1 q2), fun q2 => s_aload_n c198_16 rfl (s_getP 113 c198_17 f198_147 t12_72 sh_69 g_69_72 (by decide) (by decide) (s_bipush c198_20 ⟨by decide, by decide⟩ (s_iload_n c198_22 rfl (s_imul c198_23 (s_iload c198_24 rfl (s_iadd c198_26 (s_iald c198_27 sh_113 ⟨((H.2 q1).2 q2).1, s_aload_n c198_28 rfl (s_getP 113 c198_29 f198_147 t12_72 sh_69 g_69_72 (by decide) (by decide) (s_bipush c198_32 ⟨by decide, by decide⟩ (s_iload_n c198_34 rfl (s_imul c198_35 (s_iload c198_36 rfl (s_iadd c198_38 (s_iald c198_39 sh_113 ⟨((H.2 q1).2 q2).2.1, s_ifc 47 (¬ (h 113 (w32 ((w32 (28 * v1)) + v4)).toNat) = (h 113 (w32 ((w32 (28 * v2)) + v4)).toNat)) c198_40 (by decide) rfl ⟨fun q3 => (((H.2 q1).2 q2).2.2.1 q3), fun q3 => s_iconst c198_43 rfl (s_goto 48 c198_44 (by decide) ((((H.2 q1).2 q2).2.2.2 q3)))⟩⟩)))))))⟩)))))))⟩)⟩))
-- WarmSideModel.repeat(I)I
theorem c199_0 : cdA 199 0 = some (.iload_n 1) := by decide +kernel
theorem c199_1 : cdA 199 1 = some (.iconst 0) := by decide +kernel
theorem c199_2 : cdA 199 2 = some (.iconst 1) := by decide +kernel
theorem c199_3 : cdA 199 3 = some (.invokestatic 183) := by decide +kernel
theorem m199_183 : mthR (moN 199) 183 = 137 := by decide +kernel
theorem c199_105 : cdA 199 105 = some (.iload 4) := by decide +kernel
theorem c199_107 : cdA 199 107 = some (.bipush 12) := by decide +kernel
theorem c199_109 : cdA 199 109 = some (.if_icmp .ge 17) := by decide +kernel
theorem c199_112 : cdA 199 112 = some (.iload_n 2) := by decide +kernel
theorem c199_113 : cdA 199 113 = some (.ifCond .ge 13) := by decide +kernel
theorem c199_116 : cdA 199 116 = some (.aload_n 0) := by decide +kernel
theorem c199_117 : cdA 199 117 = some (.invokevirtual 357) := by decide +kernel
theorem m199_357 : mthR (moN 199) 357 = 185 := by decide +kernel
theorem c199_120 : cdA 199 120 = some (.iinc 4 1) := by decide +kernel
theorem c199_123 : cdA 199 123 = some (.goto (-18)) := by decide +kernel
theorem c199_126 : cdA 199 126 = some (.iinc 3 1) := by decide +kernel
theorem c199_129 : cdA 199 129 = some (.goto (-104)) := by decide +kernel
theorem c199_132 : cdA 199 132 = some (.aload_n 0) := by decide +kernel
theorem c199_133 : cdA 199 133 = some (.invokevirtual 401) := by decide +kernel
theorem m199_401 : mthR (moN 199) 401 = 200 := by decide +kernel
theorem F197 : mF 197 0 2 true := by unfold mF; decide +kernel
theorem K197 : mK 197 = 4 := by decide +kernel
theorem S197_69 : SH0[69]? = some (.inl (moN 197)) := by decide +kernel
theorem c199_136 : cdA 199 136 = some (.iload_n 2) := by decide +kernel
theorem c199_137 : cdA 199 137 = some (.ifCond .ge 8) := by decide +kernel
theorem c199_145 : cdA 199 145 = some (.iload_n 1) := by decide +kernel
theorem c199_146 : cdA 199 146 = some (.ifCond .ne 9) := by decide +kernel
theorem c199_155 : cdA 199 155 = some (.iload_n 2) := by decide +kernel
theorem c199_156 : cdA 199 156 = some (.ireturn) := by decide +kernel
theorem R199 : mK 199 = 0 := by decide +kernel
theorem c199_149 : cdA 199 149 = some (.iload_n 3) := by decide +kernel
theorem c199_150 : cdA 199 150 = some (.iconst 1) := by decide +kernel
theorem c199_151 : cdA 199 151 = some (.isub) := by decide +kernel
theorem c199_152 : cdA 199 152 = some (.goto 4) := by decide +kernel
theorem c199_140 : cdA 199 140 = some (.bipush (-9)) := by decide +kernel
theorem c199_142 : cdA 199 142 = some (.goto 14) := by decide +kernel
theorem c199_15 : cdA 199 15 = some (.ireturn) := by decide +kernel
theorem c199_20 : cdA 199 20 = some (.bipush (-9)) := by decide +kernel
theorem c199_22 : cdA 199 22 = some (.istore_n 2) := by decide +kernel
theorem c199_23 : cdA 199 23 = some (.iconst 0) := by decide +kernel
theorem c199_24 : cdA 199 24 = some (.istore_n 3) := by decide +kernel
theorem c199_25 : cdA 199 25 = some (.iload_n 2) := by decide +kernel
theorem c199_26 : cdA 199 26 = some (.ifCond .ge 106) := by decide +kernel
theorem c199_29 : cdA 199 29 = some (.iload_n 3) := by decide +kernel
theorem c199_30 : cdA 199 30 = some (.bipush 60) := by decide +kernel
theorem c199_32 : cdA 199 32 = some (.if_icmp .gt 100) := by decide +kernel
theorem c199_35 : cdA 199 35 = some (.iconst 0) := by decide +kernel
theorem c199_36 : cdA 199 36 = some (.istore 4) := by decide +kernel
theorem c199_38 : cdA 199 38 = some (.iload 4) := by decide +kernel
theorem c199_40 : cdA 199 40 = some (.bipush 28) := by decide +kernel
theorem c199_42 : cdA 199 42 = some (.if_icmp .ge 27) := by decide +kernel
theorem c199_69 : cdA 199 69 = some (.iload_n 3) := by decide +kernel
theorem c199_70 : cdA 199 70 = some (.iconst 1) := by decide +kernel
theorem c199_71 : cdA 199 71 = some (.isub) := by decide +kernel
theorem c199_72 : cdA 199 72 = some (.istore 4) := by decide +kernel
theorem c199_45 : cdA 199 45 = some (.aload_n 0) := by decide +kernel
theorem c199_46 : cdA 199 46 = some (.getfield 147) := by decide +kernel
theorem f199_147 : fldR (moN 199) 147 = some (12, 72) := by decide +kernel
theorem c199_49 : cdA 199 49 = some (.bipush 28) := by decide +kernel
theorem c199_51 : cdA 199 51 = some (.iload_n 3) := by decide +kernel
theorem c199_52 : cdA 199 52 = some (.imul) := by decide +kernel
theorem c199_53 : cdA 199 53 = some (.iload 4) := by decide +kernel
theorem c199_55 : cdA 199 55 = some (.iadd) := by decide +kernel
theorem c199_56 : cdA 199 56 = some (.aload_n 0) := by decide +kernel
theorem c199_57 : cdA 199 57 = some (.iload 4) := by decide +kernel
theorem c199_59 : cdA 199 59 = some (.invokevirtual 380) := by decide +kernel
theorem m199_380 : mthR (moN 199) 380 = 198 := by decide +kernel
theorem c199_6 : cdA 199 6 = some (.ifCond .ne 10) := by decide +kernel
theorem c199_16 : cdA 199 16 = some (.aload_n 0) := by decide +kernel
theorem c199_17 : cdA 199 17 = some (.invokevirtual 395) := by decide +kernel
theorem m199_395 : mthR (moN 199) 395 = 199 := by decide +kernel
theorem F196 : mF 196 0 2 true := by unfold mF; decide +kernel
theorem K196 : mK 196 = 4 := by decide +kernel
theorem S196_69 : SH0[69]? = some (.inl (moN 196)) := by decide +kernel
theorem c199_9 : cdA 199 9 = some (.aload_n 0) := by decide +kernel
theorem c199_10 : cdA 199 10 = some (.bipush (-2)) := by decide +kernel
theorem c199_12 : cdA 199 12 = some (.invokevirtual 187) := by decide +kernel
theorem m199_187 : mthR (moN 199) 187 = 138 := by decide +kernel
theorem c199_62 : cdA 199 62 = some (.iastore) := by decide +kernel
theorem c199_63 : cdA 199 63 = some (.iinc 4 1) := by decide +kernel
theorem c199_66 : cdA 199 66 = some (.goto (-28)) := by decide +kernel
theorem c199_74 : cdA 199 74 = some (.iload 4) := by decide +kernel
theorem c199_76 : cdA 199 76 = some (.ifCond .lt 26) := by decide +kernel
theorem c199_102 : cdA 199 102 = some (.iconst 0) := by decide +kernel
theorem c199_103 : cdA 199 103 = some (.istore 4) := by decide +kernel
theorem c199_79 : cdA 199 79 = some (.aload_n 0) := by decide +kernel
theorem c199_80 : cdA 199 80 = some (.iload 4) := by decide +kernel
theorem c199_82 : cdA 199 82 = some (.iload_n 3) := by decide +kernel
theorem c199_83 : cdA 199 83 = some (.invokevirtual 398) := by decide +kernel
theorem m199_398 : mthR (moN 199) 398 = 201 := by decide +kernel
theorem F198 : mF 198 2 5 true := by unfold mF; decide +kernel
theorem K198 : ¬ mK 198 = 4 := by decide +kernel
theorem S198_69 : SH0[69]? = some (.inl (moN 198)) := by decide +kernel
theorem c199_86 : cdA 199 86 = some (.ifCond .eq 8) := by decide +kernel
theorem c199_94 : cdA 199 94 = some (.iload_n 2) := by decide +kernel
theorem c199_89 : cdA 199 89 = some (.iload 4) := by decide +kernel
theorem c199_91 : cdA 199 91 = some (.goto 4) := by decide +kernel
theorem c199_95 : cdA 199 95 = some (.istore_n 2) := by decide +kernel
theorem c199_96 : cdA 199 96 = some (.iinc 4 (-1)) := by decide +kernel
theorem c199_99 : cdA 199 99 = some (.goto (-25)) := by decide +kernel
theorem b199_0 {d : Nat} {h : HP} {Q : PV → HP → Prop} {v1 : Int} (H : X d 134 0 [some (I v1), some (I 0), some (I 1)] [] h (fun r h' => X (d + 1) 199 6 [some (P 69), some (I v1), none, none, none] [r] h' Q)) : X (d + 1) 199 0 [some (P 69), some (I v1), none, none, none] [] h Q :=
  s_iload_n c199_0 rfl (s_iconst c199_1 rfl (s_iconst c199_2 rfl (s_cSi c199_3 m199_183 F134 K134 rfl (Nat.le_of_ble_eq_true rfl) rfl rfl H)))
theorem b199_105 {d : Nat} {h : HP} {Q : PV → HP → Prop} {v1 v2 v3 v4 : Int} (H : ((12 ≤ v4) → X (d + 1) 199 126 [some (P 69), some (I v1), some (I v2), some (I v3), some (I v4)] [] h Q) ∧ (¬ (12 ≤ v4) → (((0 ≤ v2) → X (d + 1) 199 126 [some (P 69), some (I v1), some (I v2), some (I v3), some (I v4)] [] h Q) ∧ (¬ (0 ≤ v2) → X d 182 0 [some (P 69), none, none, none, none, none, none] [] h (fun _ h' => X (d + 1) 199 120 [some (P 69), some (I v1), some (I v2), some (I v3), some (I v4)] [] h' Q))))) : X (d + 1) 199 105 [some (P 69), some (I v1), some (I v2), some (I v3), some (I v4)] [] h Q :=
  s_iload c199_105 rfl (s_bipush c199_107 ⟨by decide, by decide⟩ (s_ifc 126 (12 ≤ v4) c199_109 (by decide) rfl ⟨fun q1 => (H.1 q1), fun q1 => s_iload_n c199_112 rfl (s_if 126 (0 ≤ v2) c199_113 (by decide) rfl ⟨fun q2 => ((H.2 q1).1 q2), fun q2 => s_aload_n c199_116 rfl (s_cVv c199_117 m199_357 F182 K182 rfl (Nat.le_of_ble_eq_true rfl) rfl S182_69 rfl ((H.2 q1).2 q2))⟩)⟩))
theorem b199_120 {d : Nat} {h : HP} {Q : PV → HP → Prop} {v1 v2 v3 v4 : Int} (H : X d 199 105 [some (P 69), some (I v1), some (I v2), some (I v3), some (I (w32 (v4 + 1)))] [] h Q) : X d 199 120 [some (P 69), some (I v1), some (I v2), some (I v3), some (I v4)] [] h Q :=
  s_iinc c199_120 rfl rfl rfl (s_goto 105 c199_123 (by decide) (H))
theorem b199_126 {d : Nat} {h : HP} {Q : PV → HP → Prop} {v1 v2 v3 v4 : Int} (H : X d 199 25 [some (P 69), some (I v1), some (I v2), some (I (w32 (v3 + 1))), none] [] h Q) : X d 199 126 [some (P 69), some (I v1), some (I v2), some (I v3), some (I v4)] [] h Q :=
  s_iinc c199_126 rfl rfl rfl (s_goto 25 c199_129 (by decide) (X_weak (A := [some (P 69), some (I v1), some (I v2), some (I (w32 (v3 + 1))), none]) (B := [some (P 69), some (I v1), some (I v2), some (I (w32 (v3 + 1))), some (I v4)]) ⟨Or.inl rfl, Or.inl rfl, Or.inl rfl, Or.inl rfl, Or.inr ⟨rfl, _, rfl, rfl⟩, trivial⟩ H))
theorem b199_132 {d : Nat} {h : HP} {Q : PV → HP → Prop} {v1 v2 v3 : Int} (H : X d 197 0 [some (P 69), none] [] h (fun _ h' => X (d + 1) 199 136 [some (P 69), some (I v1), some (I v2), some (I v3), none] [] h' Q)) : X (d + 1) 199 132 [some (P 69), some (I v1), some (I v2), some (I v3), none] [] h Q :=
  s_aload_n c199_132 rfl (s_cVv c199_133 m199_401 F197 K197 rfl (Nat.le_of_ble_eq_true rfl) rfl S197_69 rfl H)
theorem b199_136 {d : Nat} {h : HP} {Q : PV → HP → Prop} {v1 v2 v3 : Int} (H : ((0 ≤ v2) → (((¬ v1 = 0) → Q (I v2) h) ∧ (¬ (¬ v1 = 0) → Q (I (w32 (v3 - 1))) h))) ∧ (¬ (0 ≤ v2) → Q (I (-9)) h)) : X d 199 136 [some (P 69), some (I v1), some (I v2), some (I v3), none] [] h Q :=
  s_iload_n c199_136 rfl (s_if 145 (0 ≤ v2) c199_137 (by decide) rfl ⟨fun q3 => s_iload_n c199_145 rfl (s_if 155 (¬ v1 = 0) c199_146 (by decide) rfl ⟨fun q4 => s_iload_n c199_155 rfl (s_retI c199_156 R199 ((H.1 q3).1 q4)), fun q4 => s_iload_n c199_149 rfl (s_iconst c199_150 rfl (s_isub c199_151 (s_goto 156 c199_152 (by decide) (s_retI c199_156 R199 ((H.1 q3).2 q4)))))⟩), fun q3 => s_bipush c199_140 ⟨by decide, by decide⟩ (s_goto 156 c199_142 (by decide) (s_retI c199_156 R199 (H.2 q3)))⟩)
theorem b199_15 {d : Nat} {h : HP} {Q : PV → HP → Prop} {v1 s0 : Int} (H : Q (I s0) h) : X d 199 15 [some (P 69), some (I v1), none, none, none] [I s0] h Q :=
  s_retI c199_15 R199 H
theorem b199_20 {d : Nat} {h : HP} {Q : PV → HP → Prop} {v1 : Int} (H : X d 199 25 [some (P 69), some (I v1), some (I (-9)), some (I 0), none] [] h Q) : X d 199 20 [some (P 69), some (I v1), none, none, none] [] h Q :=
  s_bipush c199_20 ⟨by decide, by decide⟩ (s_istore_n c199_22 rfl (s_iconst c199_23 rfl (s_istore_n c199_24 rfl (H))))
theorem b199_25 {d : Nat} {h : HP} {Q : PV → HP → Prop} {v1 v2 v3 : Int} (H : ((0 ≤ v2) → X d 199 132 [some (P 69), some (I v1), some (I v2), some (I v3), none] [] h Q) ∧ (¬ (0 ≤ v2) → (((60 < v3) → X d 199 132 [some (P 69), some (I v1), some (I v2), some (I v3), none] [] h Q) ∧ (¬ (60 < v3) → X d 199 38 [some (P 69), some (I v1), some (I v2), some (I v3), some (I 0)] [] h Q)))) : X d 199 25 [some (P 69), some (I v1), some (I v2), some (I v3), none] [] h Q :=
  s_iload_n c199_25 rfl (s_if 132 (0 ≤ v2) c199_26 (by decide) rfl ⟨fun q5 => (H.1 q5), fun q5 => s_iload_n c199_29 rfl (s_bipush c199_30 ⟨by decide, by decide⟩ (s_ifc 132 (60 < v3) c199_32 (by decide) rfl ⟨fun q6 => ((H.2 q5).1 q6), fun q6 => s_iconst c199_35 rfl (s_istore c199_36 rfl (((H.2 q5).2 q6)))⟩))⟩)
theorem b199_38 {d : Nat} {h : HP} {Q : PV → HP → Prop} {v1 v2 v3 v4 : Int} (H : ((28 ≤ v4) → X (d + 1) 199 74 [some (P 69), some (I v1), some (I v2), some (I v3), some (I (w32 (v3 - 1)))] [] h Q) ∧ (¬ (28 ≤ v4) → X d 195 0 [some (P 69), some (I v4)] [] h (fun r h' => X (d + 1) 199 62 [some (P 69), some (I v1), some (I v2), some (I v3), some (I v4)] [r, I (w32 ((w32 (28 * v3)) + v4)), P 113] h' Q))) : X (d + 1) 199 38 [some (P 69), some (I v1), some (I v2), some (I v3), some (I v4)] [] h Q :=
  s_iload c199_38 rfl (s_bipush c199_40 ⟨by decide, by decide⟩ (s_ifc 69 (28 ≤ v4) c199_42 (by decide) rfl ⟨fun q7 => s_iload_n c199_69 rfl (s_iconst c199_70 rfl (s_isub c199_71 (s_istore c199_72 rfl ((H.1 q7))))), fun q7 => s_aload_n c199_45 rfl (s_getP 113 c199_46 f199_147 t12_72 sh_69 g_69_72 (by decide) (by decide) (s_bipush c199_49 ⟨by decide, by decide⟩ (s_iload_n c199_51 rfl (s_imul c199_52 (s_iload c199_53 rfl (s_iadd c199_55 (s_aload_n c199_56 rfl (s_iload c199_57 rfl (s_cVi c199_59 m199_380 F195 K195 rfl (Nat.le_of_ble_eq_true rfl) rfl S195_69 rfl (H.2 q7))))))))))⟩))
theorem b199_6 {d : Nat} {h : HP} {Q : PV → HP → Prop} {v1 s0 : Int} (H : ((¬ s0 = 0) → X d 196 0 [some (P 69), none] [] h (fun _ h' => X (d + 1) 199 20 [some (P 69), some (I v1), none, none, none] [] h' Q)) ∧ (¬ (¬ s0 = 0) → X d 135 0 [some (P 69), some (I (-2))] [] h (fun r h' => X (d + 1) 199 15 [some (P 69), some (I v1), none, none, none] [r] h' Q))) : X (d + 1) 199 6 [some (P 69), some (I v1), none, none, none] [I s0] h Q :=
  s_if 16 (¬ s0 = 0) c199_6 (by decide) rfl ⟨fun q8 => s_aload_n c199_16 rfl (s_cVv c199_17 m199_395 F196 K196 rfl (Nat.le_of_ble_eq_true rfl) rfl S196_69 rfl (H.1 q8)), fun q8 => s_aload_n c199_9 rfl (s_bipush c199_10 ⟨by decide, by decide⟩ (s_cVi c199_12 m199_187 F135 K135 rfl (Nat.le_of_ble_eq_true rfl) rfl S135_69 rfl (H.2 q8)))⟩
theorem b199_62 {d : Nat} {h : HP} {Q : PV → HP → Prop} {v1 v2 v3 v4 s1 s2 : Int} (H : (0 ≤ s1 ∧ s1 < 1708) ∧ X d 199 38 [some (P 69), some (I v1), some (I v2), some (I v3), some (I (w32 (v4 + 1)))] [] (up2 h 113 s1.toNat s2) Q) : X d 199 62 [some (P 69), some (I v1), some (I v2), some (I v3), some (I v4)] [I s2, I s1, P 113] h Q :=
  s_iast c199_62 sh_113 ⟨H.1, s_iinc c199_63 rfl rfl rfl (s_goto 38 c199_66 (by decide) (H.2))⟩
theorem b199_74 {d : Nat} {h : HP} {Q : PV → HP → Prop} {v1 v2 v3 v4 : Int} (H : ((v4 < 0) → X (d + 1) 199 105 [some (P 69), some (I v1), some (I v2), some (I v3), some (I 0)] [] h Q) ∧ (¬ (v4 < 0) → X d 198 0 [some (P 69), some (I v4), some (I v3), none, none] [] h (fun r h' => X (d + 1) 199 86 [some (P 69), some (I v1), some (I v2), some (I v3), some (I v4)] [r] h' Q))) : X (d + 1) 199 74 [some (P 69), some (I v1), some (I v2), some (I v3), some (I v4)] [] h Q :=
  s_iload c199_74 rfl (s_if 102 (v4 < 0) c199_76 (by decide) rfl ⟨fun q9 => s_iconst c199_102 rfl (s_istore c199_103 rfl ((H.1 q9))), fun q9 => s_aload_n c199_79 rfl (s_iload c199_80 rfl (s_iload_n c199_82 rfl (s_cVi c199_83 m199_398 F198 K198 rfl (Nat.le_of_ble_eq_true rfl) rfl S198_69 rfl (H.2 q9))))⟩)
theorem b199_86 {d : Nat} {h : HP} {Q : PV → HP → Prop} {v1 v2 v3 v4 s0 : Int} (H : ((s0 = 0) → X d 199 95 [some (P 69), some (I v1), some (I v2), some (I v3), some (I v4)] [I v2] h Q) ∧ (¬ (s0 = 0) → X d 199 95 [some (P 69), some (I v1), some (I v2), some (I v3), some (I v4)] [I v4] h Q)) : X d 199 86 [some (P 69), some (I v1), some (I v2), some (I v3), some (I v4)] [I s0] h Q :=
  s_if 94 (s0 = 0) c199_86 (by decide) rfl ⟨fun q10 => s_iload_n c199_94 rfl ((H.1 q10)), fun q10 => s_iload c199_89 rfl (s_goto 95 c199_91 (by decide) ((H.2 q10)))⟩
theorem b199_95 {d : Nat} {h : HP} {Q : PV → HP → Prop} {v1 v2 v3 v4 s0 : Int} (H : X d 199 74 [some (P 69), some (I v1), some (I s0), some (I v3), some (I (w32 (v4 + (-1))))] [] h Q) : X d 199 95 [some (P 69), some (I v1), some (I v2), some (I v3), some (I v4)] [I s0] h Q :=
  s_istore_n c199_95 rfl (s_iinc c199_96 rfl rfl rfl (s_goto 74 c199_99 (by decide) (H)))
-- WarmSideModel.age(IIIZ)I
theorem c200_0 : cdA 200 0 = some (.aload_n 0) := by decide +kernel
theorem c200_1 : cdA 200 1 = some (.iload_n 1) := by decide +kernel
theorem c200_2 : cdA 200 2 = some (.invokevirtual 191) := by decide +kernel
theorem m200_191 : mthR (moN 200) 191 = 139 := by decide +kernel
theorem c200_12 : cdA 200 12 = some (.ifCond .ne 9) := by decide +kernel
theorem c200_21 : cdA 200 21 = some (.iload_n 3) := by decide +kernel
theorem c200_22 : cdA 200 22 = some (.ifCond .ge 10) := by decide +kernel
theorem c200_32 : cdA 200 32 = some (.iload_n 3) := by decide +kernel
theorem c200_33 : cdA 200 33 = some (.sipush 600) := by decide +kernel
theorem c200_36 : cdA 200 36 = some (.if_icmp .le 10) := by decide +kernel
theorem c200_46 : cdA 200 46 = some (.iconst 0) := by decide +kernel
theorem c200_47 : cdA 200 47 = some (.istore 5) := by decide +kernel
theorem c200_39 : cdA 200 39 = some (.aload_n 0) := by decide +kernel
theorem c200_40 : cdA 200 40 = some (.bipush (-6)) := by decide +kernel
theorem c200_42 : cdA 200 42 = some (.invokevirtual 187) := by decide +kernel
theorem m200_187 : mthR (moN 200) 187 = 138 := by decide +kernel
theorem c200_25 : cdA 200 25 = some (.aload_n 0) := by decide +kernel
theorem c200_26 : cdA 200 26 = some (.bipush (-4)) := by decide +kernel
theorem c200_28 : cdA 200 28 = some (.invokevirtual 187) := by decide +kernel
theorem c200_15 : cdA 200 15 = some (.aload_n 0) := by decide +kernel
theorem c200_16 : cdA 200 16 = some (.iconst (-1)) := by decide +kernel
theorem c200_17 : cdA 200 17 = some (.invokevirtual 187) := by decide +kernel
theorem c200_20 : cdA 200 20 = some (.ireturn) := by decide +kernel
theorem R200 : mK 200 = 0 := by decide +kernel
theorem c200_31 : cdA 200 31 = some (.ireturn) := by decide +kernel
theorem c200_45 : cdA 200 45 = some (.ireturn) := by decide +kernel
theorem c200_49 : cdA 200 49 = some (.iload 5) := by decide +kernel
theorem c200_51 : cdA 200 51 = some (.bipush 10) := by decide +kernel
theorem c200_53 : cdA 200 53 = some (.if_icmp .ge 34) := by decide +kernel
theorem c200_87 : cdA 200 87 = some (.bipush (-9)) := by decide +kernel
theorem c200_89 : cdA 200 89 = some (.ireturn) := by decide +kernel
theorem c200_56 : cdA 200 56 = some (.aload_n 0) := by decide +kernel
theorem c200_57 : cdA 200 57 = some (.iload_n 1) := by decide +kernel
theorem c200_58 : cdA 200 58 = some (.iload_n 2) := by decide +kernel
theorem c200_59 : cdA 200 59 = some (.iload 5) := by decide +kernel
theorem c200_61 : cdA 200 61 = some (.iload 4) := by decide +kernel
theorem c200_63 : cdA 200 63 = some (.ifCond .ne 7) := by decide +kernel
theorem c200_70 : cdA 200 70 = some (.iconst 0) := by decide +kernel
theorem c200_66 : cdA 200 66 = some (.iconst 1) := by decide +kernel
theorem c200_67 : cdA 200 67 = some (.goto 4) := by decide +kernel
theorem c200_5 : cdA 200 5 = some (.ifCond .eq 10) := by decide +kernel
theorem c200_8 : cdA 200 8 = some (.iload_n 2) := by decide +kernel
theorem c200_9 : cdA 200 9 = some (.invokestatic 199) := by decide +kernel
theorem m200_199 : mthR (moN 200) 199 = 140 := by decide +kernel
theorem c200_71 : cdA 200 71 = some (.invokevirtual 376) := by decide +kernel
theorem m200_376 : mthR (moN 200) 376 = 196 := by decide +kernel
theorem c200_74 : cdA 200 74 = some (.iload_n 3) := by decide +kernel
theorem c200_75 : cdA 200 75 = some (.if_icmp .le 6) := by decide +kernel
theorem c200_81 : cdA 200 81 = some (.iinc 5 1) := by decide +kernel
theorem c200_84 : cdA 200 84 = some (.goto (-35)) := by decide +kernel
theorem c200_78 : cdA 200 78 = some (.iload 5) := by decide +kernel
theorem c200_80 : cdA 200 80 = some (.ireturn) := by decide +kernel
theorem b200_0 {d : Nat} {h : HP} {Q : PV → HP → Prop} {v1 v2 v3 v4 : Int} (H : X d 136 0 [some (P 69), some (I v1)] [] h (fun r h' => X (d + 1) 200 5 [some (P 69), some (I v1), some (I v2), some (I v3), some (I v4), none] [r] h' Q)) : X (d + 1) 200 0 [some (P 69), some (I v1), some (I v2), some (I v3), some (I v4), none] [] h Q :=
  s_aload_n c200_0 rfl (s_iload_n c200_1 rfl (s_cVi c200_2 m200_191 F136 K136 rfl (Nat.le_of_ble_eq_true rfl) rfl S136_69 rfl H))
theorem b200_12 {d : Nat} {h : HP} {Q : PV → HP → Prop} {v1 v2 v3 v4 s0 : Int} (H : ((¬ s0 = 0) → (((0 ≤ v3) → (((v3 ≤ 600) → X (d + 1) 200 49 [some (P 69), some (I v1), some (I v2), some (I v3), some (I v4), some (I 0)] [] h Q) ∧ (¬ (v3 ≤ 600) → X d 135 0 [some (P 69), some (I (-6))] [] h (fun r h' => X (d + 1) 200 45 [some (P 69), some (I v1), some (I v2), some (I v3), some (I v4), none] [r] h' Q)))) ∧ (¬ (0 ≤ v3) → X d 135 0 [some (P 69), some (I (-4))] [] h (fun r h' => X (d + 1) 200 31 [some (P 69), some (I v1), some (I v2), some (I v3), some (I v4), none] [r] h' Q)))) ∧ (¬ (¬ s0 = 0) → X (d + 1) 200 15 [some (P 69), some (I v1), some (I v2), some (I v3), some (I v4), none] [] h Q)) : X (d + 1) 200 12 [some (P 69), some (I v1), some (I v2), some (I v3), some (I v4), none] [I s0] h Q :=
  s_if 21 (¬ s0 = 0) c200_12 (by decide) rfl ⟨fun q1 => s_iload_n c200_21 rfl (s_if 32 (0 ≤ v3) c200_22 (by decide) rfl ⟨fun q2 => s_iload_n c200_32 rfl (s_sipush c200_33 ⟨by decide, by decide⟩ (s_ifc 46 (v3 ≤ 600) c200_36 (by decide) rfl ⟨fun q3 => s_iconst c200_46 rfl (s_istore c200_47 rfl ((((H.1 q1).1 q2).1 q3))), fun q3 => s_aload_n c200_39 rfl (s_bipush c200_40 ⟨by decide, by decide⟩ (s_cVi c200_42 m200_187 F135 K135 rfl (Nat.le_of_ble_eq_true rfl) rfl S135_69 rfl (((H.1 q1).1 q2).2 q3)))⟩)), fun q2 => s_aload_n c200_25 rfl (s_bipush c200_26 ⟨by decide, by decide⟩ (s_cVi c200_28 m200_187 F135 K135 rfl (Nat.le_of_ble_eq_true rfl) rfl S135_69 rfl ((H.1 q1).2 q2)))⟩), fun q1 => (H.2 q1)⟩
theorem b200_15 {d : Nat} {h : HP} {Q : PV → HP → Prop} {v1 v2 v3 v4 : Int} (H : X d 135 0 [some (P 69), some (I (-1))] [] h (fun r h' => X (d + 1) 200 20 [some (P 69), some (I v1), some (I v2), some (I v3), some (I v4), none] [r] h' Q)) : X (d + 1) 200 15 [some (P 69), some (I v1), some (I v2), some (I v3), some (I v4), none] [] h Q :=
  s_aload_n c200_15 rfl (s_iconst c200_16 rfl (s_cVi c200_17 m200_187 F135 K135 rfl (Nat.le_of_ble_eq_true rfl) rfl S135_69 rfl H))
theorem b200_20 {d : Nat} {h : HP} {Q : PV → HP → Prop} {v1 v2 v3 v4 s0 : Int} (H : Q (I s0) h) : X d 200 20 [some (P 69), some (I v1), some (I v2), some (I v3), some (I v4), none] [I s0] h Q :=
  s_retI c200_20 R200 H
theorem b200_31 {d : Nat} {h : HP} {Q : PV → HP → Prop} {v1 v2 v3 v4 s0 : Int} (H : Q (I s0) h) : X d 200 31 [some (P 69), some (I v1), some (I v2), some (I v3), some (I v4), none] [I s0] h Q :=
  s_retI c200_31 R200 H
theorem b200_45 {d : Nat} {h : HP} {Q : PV → HP → Prop} {v1 v2 v3 v4 s0 : Int} (H : Q (I s0) h) : X d 200 45 [some (P 69), some (I v1), some (I v2), some (I v3), some (I v4), none] [I s0] h Q :=
  s_retI c200_45 R200 H
theorem b200_49 {d : Nat} {h : HP} {Q : PV → HP → Prop} {v1 v2 v3 v4 v5 : Int} (H : ((10 ≤ v5) → Q (I (-9)) h) ∧ (¬ (10 ≤ v5) → (((¬ v4 = 0) → X d 200 71 [some (P 69), some (I v1), some (I v2), some (I v3), some (I v4), some (I v5)] [I 0, I v5, I v2, I v1, P 69] h Q) ∧ (¬ (¬ v4 = 0) → X d 200 71 [some (P 69), some (I v1), some (I v2), some (I v3), some (I v4), some (I v5)] [I 1, I v5, I v2, I v1, P 69] h Q)))) : X d 200 49 [some (P 69), some (I v1), some (I v2), some (I v3), some (I v4), some (I v5)] [] h Q :=
  s_iload c200_49 rfl (s_bipush c200_51 ⟨by decide, by decide⟩ (s_ifc 87 (10 ≤ v5) c200_53 (by decide) rfl ⟨fun q4 => s_bipush c200_87 ⟨by decide, by decide⟩ (s_retI c200_89 R200 (H.1 q4)), fun q4 => s_aload_n c200_56 rfl (s_iload_n c200_57 rfl (s_iload_n c200_58 rfl (s_iload c200_59 rfl (s_iload c200_61 rfl (s_if 70 (¬ v4 = 0) c200_63 (by decide) rfl ⟨fun q5 => s_iconst c200_70 rfl (((H.2 q4).1 q5)), fun q5 => s_iconst c200_66 rfl (s_goto 71 c200_67 (by decide) (((H.2 q4).2 q5)))⟩)))))⟩))
theorem b200_5 {d : Nat} {h : HP} {Q : PV → HP → Prop} {v1 v2 v3 v4 s0 : Int} (H : ((s0 = 0) → X (d + 1) 200 15 [some (P 69), some (I v1), some (I v2), some (I v3), some (I v4), none] [] h Q) ∧ (¬ (s0 = 0) → X d 137 0 [some (I v2)] [] h (fun r h' => X (d + 1) 200 12 [some (P 69), some (I v1), some (I v2), some (I v3), some (I v4), none] [r] h' Q))) : X (d + 1) 200 5 [some (P 69), some (I v1), some (I v2), some (I v3), some (I v4), none] [I s0] h Q :=
  s_if 15 (s0 = 0) c200_5 (by decide) rfl ⟨fun q6 => (H.1 q6), fun q6 => s_iload_n c200_8 rfl (s_cSi c200_9 m200_199 F137 K137 rfl (Nat.le_of_ble_eq_true rfl) rfl rfl (H.2 q6))⟩
theorem b200_71 {d : Nat} {h : HP} {Q : PV → HP → Prop} {v1 v2 v3 v4 v5 s1 s2 s3 s4 : Int} (H : X d 193 0 [some (P 69), some (I s1), some (I s2), some (I s3), some (I s4), none] [] h (fun r h' => X (d + 1) 200 74 [some (P 69), some (I v1), some (I v2), some (I v3), some (I v4), some (I v5)] [r] h' Q)) : X (d + 1) 200 71 [some (P 69), some (I v1), some (I v2), some (I v3), some (I v4), some (I v5)] [I s4, I s3, I s2, I s1, P 69] h Q :=
  s_cVi c200_71 m200_376 F193 K193 rfl (Nat.le_of_ble_eq_true rfl) rfl S193_69 rfl H
theorem b200_74 {d : Nat} {h : HP} {Q : PV → HP → Prop} {v1 v2 v3 v4 v5 s0 : Int} (H : ((s0 ≤ v3) → X d 200 49 [some (P 69), some (I v1), some (I v2), some (I v3), some (I v4), some (I (w32 (v5 + 1)))] [] h Q) ∧ (¬ (s0 ≤ v3) → Q (I v5) h)) : X d 200 74 [some (P 69), some (I v1), some (I v2), some (I v3), some (I v4), some (I v5)] [I s0] h Q :=
  s_iload_n c200_74 rfl (s_ifc 81 (s0 ≤ v3) c200_75 (by decide) rfl ⟨fun q7 => s_iinc c200_81 rfl rfl rfl (s_goto 49 c200_84 (by decide) ((H.1 q7))), fun q7 => s_iload c200_78 rfl (s_retI c200_80 R200 (H.2 q7))⟩)
-- WarmSideModel.changeBy(IIII)I
theorem c201_0 : cdA 201 0 = some (.aload_n 0) := by decide +kernel
theorem c201_1 : cdA 201 1 = some (.iload_n 3) := by decide +kernel
theorem c201_2 : cdA 201 2 = some (.invokevirtual 328) := by decide +kernel
theorem m201_328 : mthR (moN 201) 328 = 180 := by decide +kernel
theorem c201_10 : cdA 201 10 = some (.istore 5) := by decide +kernel
theorem c201_12 : cdA 201 12 = some (.aload_n 0) := by decide +kernel
theorem c201_13 : cdA 201 13 = some (.getfield 123) := by decide +kernel
theorem f201_123 : fldR (moN 201) 123 = some (12, 63) := by decide +kernel
theorem c201_16 : cdA 201 16 = some (.iload_n 1) := by decide +kernel
theorem c201_17 : cdA 201 17 = some (.iload 4) := by decide +kernel
theorem c201_19 : cdA 201 19 = some (.iastore) := by decide +kernel
theorem c201_20 : cdA 201 20 = some (.aload_n 0) := by decide +kernel
theorem c201_21 : cdA 201 21 = some (.iload_n 2) := by decide +kernel
theorem c201_22 : cdA 201 22 = some (.invokevirtual 366) := by decide +kernel
theorem m201_366 : mthR (moN 201) 366 = 190 := by decide +kernel
theorem c201_25 : cdA 201 25 = some (.iload 5) := by decide +kernel
theorem c201_27 : cdA 201 27 = some (.isub) := by decide +kernel
theorem c201_28 : cdA 201 28 = some (.ireturn) := by decide +kernel
theorem R201 : mK 201 = 0 := by decide +kernel
theorem c201_5 : cdA 201 5 = some (.aload_n 0) := by decide +kernel
theorem c201_6 : cdA 201 6 = some (.iload_n 2) := by decide +kernel
theorem c201_7 : cdA 201 7 = some (.invokevirtual 366) := by decide +kernel
theorem b201_0 {d : Nat} {h : HP} {Q : PV → HP → Prop} {v1 v2 v3 v4 : Int} (H : X d 177 0 [some (P 69), some (I v3), none] [] h (fun _ h' => X (d + 1) 201 5 [some (P 69), some (I v1), some (I v2), some (I v3), some (I v4), none] [] h' Q)) : X (d + 1) 201 0 [some (P 69), some (I v1), some (I v2), some (I v3), some (I v4), none] [] h Q :=
  s_aload_n c201_0 rfl (s_iload_n c201_1 rfl (s_cVv c201_2 m201_328 F177 K177 rfl (Nat.le_of_ble_eq_true rfl) rfl S177_69 rfl H))
theorem b201_10 {d : Nat} {h : HP} {Q : PV → HP → Prop} {v1 v2 v3 v4 s0 : Int} (H : (0 ≤ v1 ∧ v1 < 20) ∧ X d 187 0 [some (P 69), some (I v2)] [] (up2 h 106 v1.toNat v4) (fun r h' => X (d + 1) 201 25 [some (P 69), some (I v1), some (I v2), some (I v3), some (I v4), some (I s0)] [r] h' Q)) : X (d + 1) 201 10 [some (P 69), some (I v1), some (I v2), some (I v3), some (I v4), none] [I s0] h Q :=
  s_istore c201_10 rfl (s_aload_n c201_12 rfl (s_getP 106 c201_13 f201_123 t12_63 sh_69 g_69_63 (by decide) (by decide) (s_iload_n c201_16 rfl (s_iload c201_17 rfl (s_iast c201_19 sh_106 ⟨H.1, s_aload_n c201_20 rfl (s_iload_n c201_21 rfl (s_cVi c201_22 m201_366 F187 K187 rfl (Nat.le_of_ble_eq_true rfl) rfl S187_69 rfl H.2))⟩)))))
theorem b201_25 {d : Nat} {h : HP} {Q : PV → HP → Prop} {v1 v2 v3 v4 v5 s0 : Int} (H : Q (I (w32 (s0 - v5))) h) : X d 201 25 [some (P 69), some (I v1), some (I v2), some (I v3), some (I v4), some (I v5)] [I s0] h Q :=
  s_iload c201_25 rfl (s_isub c201_27 (s_retI c201_28 R201 H))
theorem b201_5 {d : Nat} {h : HP} {Q : PV → HP → Prop} {v1 v2 v3 v4 : Int} (H : X d 187 0 [some (P 69), some (I v2)] [] h (fun r h' => X (d + 1) 201 10 [some (P 69), some (I v1), some (I v2), some (I v3), some (I v4), none] [r] h' Q)) : X (d + 1) 201 5 [some (P 69), some (I v1), some (I v2), some (I v3), some (I v4), none] [] h Q :=
  s_aload_n c201_5 rfl (s_iload_n c201_6 rfl (s_cVi c201_7 m201_366 F187 K187 rfl (Nat.le_of_ble_eq_true rfl) rfl S187_69 rfl H))
-- WarmSideModel.bolt(IIII)I
theorem c202_0 : cdA 202 0 = some (.iload_n 1) := by decide +kernel
theorem c202_1 : cdA 202 1 = some (.ifCond .lt 26) := by decide +kernel
theorem c202_4 : cdA 202 4 = some (.iload_n 1) := by decide +kernel
theorem c202_5 : cdA 202 5 = some (.aload_n 0) := by decide +kernel
theorem c202_6 : cdA 202 6 = some (.getfield 219) := by decide +kernel
theorem f202_219 : fldR (moN 202) 219 = some (12, 17) := by decide +kernel
theorem c202_9 : cdA 202 9 = some (.if_icmp .ge 18) := by decide +kernel
theorem c202_12 : cdA 202 12 = some (.aload_n 0) := by decide +kernel
theorem c202_13 : cdA 202 13 = some (.iload_n 2) := by decide +kernel
theorem c202_14 : cdA 202 14 = some (.invokevirtual 191) := by decide +kernel
theorem m202_191 : mthR (moN 202) 191 = 139 := by decide +kernel
theorem c202_102 : cdA 202 102 = some (.ireturn) := by decide +kernel
theorem R202 : mK 202 = 0 := by decide +kernel
theorem c202_17 : cdA 202 17 = some (.ifCond .eq 10) := by decide +kernel
theorem c202_20 : cdA 202 20 = some (.iload_n 3) := by decide +kernel
theorem c202_21 : cdA 202 21 = some (.invokestatic 199) := by decide +kernel
theorem m202_199 : mthR (moN 202) 199 = 140 := by decide +kernel
theorem c202_24 : cdA 202 24 = some (.ifCond .ne 13) := by decide +kernel
theorem c202_37 : cdA 202 37 = some (.iload 4) := by decide +kernel
theorem c202_39 : cdA 202 39 = some (.iconst 0) := by decide +kernel
theorem c202_40 : cdA 202 40 = some (.iconst 1) := by decide +kernel
theorem c202_41 : cdA 202 41 = some (.invokestatic 183) := by decide +kernel
theorem m202_183 : mthR (moN 202) 183 = 137 := by decide +kernel
theorem c202_27 : cdA 202 27 = some (.ldc_w 404) := by decide +kernel
theorem k202_404 : cstR (moN 202) 404 = some 1000000000 := by decide +kernel
theorem c202_30 : cdA 202 30 = some (.aload_n 0) := by decide +kernel
theorem c202_31 : cdA 202 31 = some (.iconst (-1)) := by decide +kernel
theorem c202_32 : cdA 202 32 = some (.invokevirtual 187) := by decide +kernel
theorem m202_187 : mthR (moN 202) 187 = 138 := by decide +kernel
theorem c202_35 : cdA 202 35 = some (.isub) := by decide +kernel
theorem c202_36 : cdA 202 36 = some (.ireturn) := by decide +kernel
theorem c202_44 : cdA 202 44 = some (.ifCond .ne 14) := by decide +kernel
theorem c202_58 : cdA 202 58 = some (.aload_n 0) := by decide +kernel
theorem c202_59 : cdA 202 59 = some (.getfield 55) := by decide +kernel
theorem f202_55 : fldR (moN 202) 55 = some (12, 16) := by decide +kernel
theorem c202_62 : cdA 202 62 = some (.iload_n 1) := by decide +kernel
theorem c202_63 : cdA 202 63 = some (.iaload) := by decide +kernel
theorem c202_64 : cdA 202 64 = some (.bipush 99) := by decide +kernel
theorem c202_66 : cdA 202 66 = some (.if_icmp .ne 8) := by decide +kernel
theorem c202_74 : cdA 202 74 = some (.aload_n 0) := by decide +kernel
theorem c202_75 : cdA 202 75 = some (.getfield 55) := by decide +kernel
theorem c202_78 : cdA 202 78 = some (.iload_n 1) := by decide +kernel
theorem c202_79 : cdA 202 79 = some (.iaload) := by decide +kernel
theorem c202_80 : cdA 202 80 = some (.iconst 1) := by decide +kernel
theorem c202_81 : cdA 202 81 = some (.iadd) := by decide +kernel
theorem c202_69 : cdA 202 69 = some (.bipush 99) := by decide +kernel
theorem c202_71 : cdA 202 71 = some (.goto 11) := by decide +kernel
theorem c202_47 : cdA 202 47 = some (.ldc_w 404) := by decide +kernel
theorem c202_50 : cdA 202 50 = some (.aload_n 0) := by decide +kernel
theorem c202_51 : cdA 202 51 = some (.bipush (-2)) := by decide +kernel
theorem c202_53 : cdA 202 53 = some (.invokevirtual 187) := by decide +kernel
theorem c202_56 : cdA 202 56 = some (.isub) := by decide +kernel
theorem c202_57 : cdA 202 57 = some (.ireturn) := by decide +kernel
theorem c202_82 : cdA 202 82 = some (.istore 5) := by decide +kernel
theorem c202_84 : cdA 202 84 = some (.aload_n 0) := by decide +kernel
theorem c202_85 : cdA 202 85 = some (.iload_n 1) := by decide +kernel
theorem c202_86 : cdA 202 86 = some (.iload_n 2) := by decide +kernel
theorem c202_87 : cdA 202 87 = some (.iload_n 3) := by decide +kernel
theorem c202_88 : cdA 202 88 = some (.iload 4) := by decide +kernel
theorem c202_90 : cdA 202 90 = some (.ifCond .ne 8) := by decide +kernel
theorem c202_98 : cdA 202 98 = some (.iconst 0) := by decide +kernel
theorem c202_93 : cdA 202 93 = some (.iload 5) := by decide +kernel
theorem c202_95 : cdA 202 95 = some (.goto 4) := by decide +kernel
theorem c202_99 : cdA 202 99 = some (.invokevirtual 405) := by decide +kernel
theorem m202_405 : mthR (moN 202) 405 = 204 := by decide +kernel
theorem F201 : mF 201 4 6 true := by unfold mF; decide +kernel
theorem K201 : ¬ mK 201 = 4 := by decide +kernel
theorem S201_69 : SH0[69]? = some (.inl (moN 201)) := by decide +kernel
theorem b202_0 {d : Nat} {h : HP} {Q : PV → HP → Prop} {v1 v2 v3 v4 : Int} (H : ((v1 < 0) → X (d + 1) 202 27 [some (P 69), some (I v1), some (I v2), some (I v3), some (I v4), none] [] h Q) ∧ (¬ (v1 < 0) → ((((h 69 17) ≤ v1) → X (d + 1) 202 27 [some (P 69), some (I v1), some (I v2), some (I v3), some (I v4), none] [] h Q) ∧ (¬ ((h 69 17) ≤ v1) → X d 136 0 [some (P 69), some (I v2)] [] h (fun r h' => X (d + 1) 202 17 [some (P 69), some (I v1), some (I v2), some (I v3), some (I v4), none] [r] h' Q))))) : X (d + 1) 202 0 [some (P 69), some (I v1), some (I v2), some (I v3), some (I v4), none] [] h Q :=
  s_iload_n c202_0 rfl (s_if 27 (v1 < 0) c202_1 (by decide) rfl ⟨fun q1 => (H.1 q1), fun q1 => s_iload_n c202_4 rfl (s_aload_n c202_5 rfl (s_getI c202_6 f202_219 t12_17 sh_69 (s_ifc 27 ((h 69 17) ≤ v1) c202_9 (by decide) rfl ⟨fun q2 => ((H.2 q1).1 q2), fun q2 => s_aload_n c202_12 rfl (s_iload_n c202_13 rfl (s_cVi c202_14 m202_191 F136 K136 rfl (Nat.le_of_ble_eq_true rfl) rfl S136_69 rfl ((H.2 q1).2 q2)))⟩)))⟩)
theorem b202_102 {d : Nat} {h : HP} {Q : PV → HP → Prop} {v1 v2 v3 v4 v5 s0 : Int} (H : Q (I s0) h) : X d 202 102 [some (P 69), some (I v1), some (I v2), some (I v3), some (I v4), some (I v5)] [I s0] h Q :=
  s_retI c202_102 R202 H
theorem b202_17 {d : Nat} {h : HP} {Q : PV → HP → Prop} {v1 v2 v3 v4 s0 : Int} (H : ((s0 = 0) → X (d + 1) 202 27 [some (P 69), some (I v1), some (I v2), some (I v3), some (I v4), none] [] h Q) ∧ (¬ (s0 = 0) → X d 137 0 [some (I v3)] [] h (fun r h' => X (d + 1) 202 24 [some (P 69), some (I v1), some (I v2), some (I v3), some (I v4), none] [r] h' Q))) : X (d + 1) 202 17 [some (P 69), some (I v1), some (I v2), some (I v3), some (I v4), none] [I s0] h Q :=
  s_if 27 (s0 = 0) c202_17 (by decide) rfl ⟨fun q3 => (H.1 q3), fun q3 => s_iload_n c202_20 rfl (s_cSi c202_21 m202_199 F137 K137 rfl (Nat.le_of_ble_eq_true rfl) rfl rfl (H.2 q3))⟩
theorem b202_24 {d : Nat} {h : HP} {Q : PV → HP → Prop} {v1 v2 v3 v4 s0 : Int} (H : ((¬ s0 = 0) → X d 134 0 [some (I v4), some (I 0), some (I 1)] [] h (fun r h' => X (d + 1) 202 44 [some (P 69), some (I v1), some (I v2), some (I v3), some (I v4), none] [r] h' Q)) ∧ (¬ (¬ s0 = 0) → X (d + 1) 202 27 [some (P 69), some (I v1), some (I v2), some (I v3), some (I v4), none] [] h Q)) : X (d + 1) 202 24 [some (P 69), some (I v1), some (I v2), some (I v3), some (I v4), none] [I s0] h Q :=
  s_if 37 (¬ s0 = 0) c202_24 (by decide) rfl ⟨fun q4 => s_iload c202_37 rfl (s_iconst c202_39 rfl (s_iconst c202_40 rfl (s_cSi c202_41 m202_183 F134 K134 rfl (Nat.le_of_ble_eq_true rfl) rfl rfl (H.1 q4)))), fun q4 => (H.2 q4)⟩
theorem b202_27 {d : Nat} {h : HP} {Q : PV → HP → Prop} {v1 v2 v3 v4 : Int} (H : X d 135 0 [some (P 69), some (I (-1))] [] h (fun r h' => X (d + 1) 202 35 [some (P 69), some (I v1), some (I v2), some (I v3), some (I v4), none] [r, I 1000000000] h' Q)) : X (d + 1) 202 27 [some (P 69), some (I v1), some (I v2), some (I v3), some (I v4), none] [] h Q :=
  s_ldcw c202_27 k202_404 rfl (s_aload_n c202_30 rfl (s_iconst c202_31 rfl (s_cVi c202_32 m202_187 F135 K135 rfl (Nat.le_of_ble_eq_true rfl) rfl S135_69 rfl H)))
theorem b202_35 {d : Nat} {h : HP} {Q : PV → HP → Prop} {v1 v2 v3 v4 s0 s1 : Int} (H : Q (I (w32 (s0 - s1))) h) : X d 202 35 [some (P 69), some (I v1), some (I v2), some (I v3), some (I v4), none] [I s1, I s0] h Q :=
  s_isub c202_35 (s_retI c202_36 R202 H)
theorem b202_44 {d : Nat} {h : HP} {Q : PV → HP → Prop} {v1 v2 v3 v4 s0 : Int} (H : ((¬ s0 = 0) → ((0 ≤ v1 ∧ v1 < 20) ∧ (((¬ (h 85 v1.toNat) = 99) → ((0 ≤ v1 ∧ v1 < 20) ∧ X (d + 1) 202 82 [some (P 69), some (I v1), some (I v2), some (I v3), some (I v4), none] [I (w32 ((h 85 v1.toNat) + 1))] h Q)) ∧ (¬ (¬ (h 85 v1.toNat) = 99) → X (d + 1) 202 82 [some (P 69), some (I v1), some (I v2), some (I v3), some (I v4), none] [I 99] h Q)))) ∧ (¬ (¬ s0 = 0) → X d 135 0 [some (P 69), some (I (-2))] [] h (fun r h' => X (d + 1) 202 56 [some (P 69), some (I v1), some (I v2), some (I v3), some (I v4), none] [r, I 1000000000] h' Q))) : X (d + 1) 202 44 [some (P 69), some (I v1), some (I v2), some (I v3), some (I v4), none] [I s0] h Q :=
  s_if 58 (¬ s0 = 0) c202_44 (by decide) rfl ⟨fun q5 => s_aload_n c202_58 rfl (s_getP 85 c202_59 f202_55 t12_16 sh_69 g_69_16 (by decide) (by decide) (s_iload_n c202_62 rfl (s_iald c202_63 sh_85 ⟨(H.1 q5).1, s_bipush c202_64 ⟨by decide, by decide⟩ (s_ifc 74 (¬ (h 85 v1.toNat) = 99) c202_66 (by decide) rfl ⟨fun q6 => s_aload_n c202_74 rfl (s_getP 85 c202_75 f202_55 t12_16 sh_69 g_69_16 (by decide) (by decide) (s_iload_n c202_78 rfl (s_iald c202_79 sh_85 ⟨((H.1 q5).2.1 q6).1, s_iconst c202_80 rfl (s_iadd c202_81 (((H.1 q5).2.1 q6).2))⟩))), fun q6 => s_bipush c202_69 ⟨by decide, by decide⟩ (s_goto 82 c202_71 (by decide) (((H.1 q5).2.2 q6)))⟩)⟩))), fun q5 => s_ldcw c202_47 k202_404 rfl (s_aload_n c202_50 rfl (s_bipush c202_51 ⟨by decide, by decide⟩ (s_cVi c202_53 m202_187 F135 K135 rfl (Nat.le_of_ble_eq_true rfl) rfl S135_69 rfl (H.2 q5))))⟩
theorem b202_56 {d : Nat} {h : HP} {Q : PV → HP → Prop} {v1 v2 v3 v4 s0 s1 : Int} (H : Q (I (w32 (s0 - s1))) h) : X d 202 56 [some (P 69), some (I v1), some (I v2), some (I v3), some (I v4), none] [I s1, I s0] h Q :=
  s_isub c202_56 (s_retI c202_57 R202 H)
theorem b202_82 {d : Nat} {h : HP} {Q : PV → HP → Prop} {v1 v2 v3 v4 s0 : Int} (H : ((¬ v4 = 0) → X d 202 99 [some (P 69), some (I v1), some (I v2), some (I v3), some (I v4), some (I s0)] [I 0, I v3, I v2, I v1, P 69] h Q) ∧ (¬ (¬ v4 = 0) → X d 202 99 [some (P 69), some (I v1), some (I v2), some (I v3), some (I v4), some (I s0)] [I s0, I v3, I v2, I v1, P 69] h Q)) : X d 202 82 [some (P 69), some (I v1), some (I v2), some (I v3), some (I v4), none] [I s0] h Q :=
  s_istore c202_82 rfl (s_aload_n c202_84 rfl (s_iload_n c202_85 rfl (s_iload_n c202_86 rfl (s_iload_n c202_87 rfl (s_iload c202_88 rfl (s_if 98 (¬ v4 = 0) c202_90 (by decide) rfl ⟨fun q7 => s_iconst c202_98 rfl ((H.1 q7)), fun q7 => s_iload c202_93 rfl (s_goto 99 c202_95 (by decide) ((H.2 q7)))⟩))))))
theorem b202_99 {d : Nat} {h : HP} {Q : PV → HP → Prop} {v1 v2 v3 v4 v5 s1 s2 s3 s4 : Int} (H : X d 201 0 [some (P 69), some (I s1), some (I s2), some (I s3), some (I s4), none] [] h (fun r h' => X (d + 1) 202 102 [some (P 69), some (I v1), some (I v2), some (I v3), some (I v4), some (I v5)] [r] h' Q)) : X (d + 1) 202 99 [some (P 69), some (I v1), some (I v2), some (I v3), some (I v4), some (I v5)] [I s4, I s3, I s2, I s1, P 69] h Q :=
  s_cVi c202_99 m202_405 F201 K201 rfl (Nat.le_of_ble_eq_true rfl) rfl S201_69 rfl H
-- WarmSideModel.matters(II)I
theorem c203_0 : cdA 203 0 = some (.aload_n 0) := by decide +kernel
theorem c203_1 : cdA 203 1 = some (.iload_n 1) := by decide +kernel
theorem c203_2 : cdA 203 2 = some (.invokevirtual 191) := by decide +kernel
theorem m203_191 : mthR (moN 203) 191 = 139 := by decide +kernel
theorem c203_12 : cdA 203 12 = some (.ifCond .ne 9) := by decide +kernel
theorem c203_21 : cdA 203 21 = some (.bipush (-9)) := by decide +kernel
theorem c203_23 : cdA 203 23 = some (.istore_n 3) := by decide +kernel
theorem c203_24 : cdA 203 24 = some (.iconst (-1)) := by decide +kernel
theorem c203_25 : cdA 203 25 = some (.istore 4) := by decide +kernel
theorem c203_27 : cdA 203 27 = some (.iconst 0) := by decide +kernel
theorem c203_28 : cdA 203 28 = some (.istore 5) := by decide +kernel
theorem c203_15 : cdA 203 15 = some (.aload_n 0) := by decide +kernel
theorem c203_16 : cdA 203 16 = some (.iconst (-1)) := by decide +kernel
theorem c203_17 : cdA 203 17 = some (.invokevirtual 187) := by decide +kernel
theorem m203_187 : mthR (moN 203) 187 = 138 := by decide +kernel
theorem c203_20 : cdA 203 20 = some (.ireturn) := by decide +kernel
theorem R203 : mK 203 = 0 := by decide +kernel
theorem c203_30 : cdA 203 30 = some (.iload 5) := by decide +kernel
theorem c203_32 : cdA 203 32 = some (.aload_n 0) := by decide +kernel
theorem c203_33 : cdA 203 33 = some (.getfield 219) := by decide +kernel
theorem f203_219 : fldR (moN 203) 219 = some (12, 17) := by decide +kernel
theorem c203_36 : cdA 203 36 = some (.if_icmp .ge 49) := by decide +kernel
theorem c203_85 : cdA 203 85 = some (.iload_n 3) := by decide +kernel
theorem c203_86 : cdA 203 86 = some (.ireturn) := by decide +kernel
theorem c203_39 : cdA 203 39 = some (.aload_n 0) := by decide +kernel
theorem c203_40 : cdA 203 40 = some (.iload 5) := by decide +kernel
theorem c203_42 : cdA 203 42 = some (.iload_n 1) := by decide +kernel
theorem c203_43 : cdA 203 43 = some (.iload_n 2) := by decide +kernel
theorem c203_44 : cdA 203 44 = some (.iconst 0) := by decide +kernel
theorem c203_45 : cdA 203 45 = some (.invokevirtual 405) := by decide +kernel
theorem m203_405 : mthR (moN 203) 405 = 204 := by decide +kernel
theorem c203_48 : cdA 203 48 = some (.istore 6) := by decide +kernel
theorem c203_50 : cdA 203 50 = some (.iload 6) := by decide +kernel
theorem c203_52 : cdA 203 52 = some (.ifCond .ge 9) := by decide +kernel
theorem c203_61 : cdA 203 61 = some (.iload 6) := by decide +kernel
theorem c203_55 : cdA 203 55 = some (.iload 6) := by decide +kernel
theorem c203_57 : cdA 203 57 = some (.ineg) := by decide +kernel
theorem c203_58 : cdA 203 58 = some (.goto 5) := by decide +kernel
theorem c203_5 : cdA 203 5 = some (.ifCond .eq 10) := by decide +kernel
theorem c203_8 : cdA 203 8 = some (.iload_n 2) := by decide +kernel
theorem c203_9 : cdA 203 9 = some (.invokestatic 199) := by decide +kernel
theorem m203_199 : mthR (moN 203) 199 = 140 := by decide +kernel
theorem c203_63 : cdA 203 63 = some (.istore 6) := by decide +kernel
theorem c203_65 : cdA 203 65 = some (.iload 6) := by decide +kernel
theorem c203_67 : cdA 203 67 = some (.iload 4) := by decide +kernel
theorem c203_69 : cdA 203 69 = some (.if_icmp .le 10) := by decide +kernel
theorem c203_72 : cdA 203 72 = some (.iload 5) := by decide +kernel
theorem c203_74 : cdA 203 74 = some (.istore_n 3) := by decide +kernel
theorem c203_75 : cdA 203 75 = some (.iload 6) := by decide +kernel
theorem c203_77 : cdA 203 77 = some (.istore 4) := by decide +kernel
theorem c203_79 : cdA 203 79 = some (.iinc 5 1) := by decide +kernel
theorem c203_82 : cdA 203 82 = some (.goto (-52)) := by decide +kernel
theorem b203_0 {d : Nat} {h : HP} {Q : PV → HP → Prop} {v1 v2 : Int} (H : X d 136 0 [some (P 69), some (I v1)] [] h (fun r h' => X (d + 1) 203 5 [some (P 69), some (I v1), some (I v2), none, none, none, none] [r] h' Q)) : X (d + 1) 203 0 [some (P 69), some (I v1), some (I v2), none, none, none, none] [] h Q :=
  s_aload_n c203_0 rfl (s_iload_n c203_1 rfl (s_cVi c203_2 m203_191 F136 K136 rfl (Nat.le_of_ble_eq_true rfl) rfl S136_69 rfl H))
theorem b203_12 {d : Nat} {h : HP} {Q : PV → HP → Prop} {v1 v2 s0 : Int} (H : ((¬ s0 = 0) → X d 203 30 [some (P 69), some (I v1), some (I v2), some (I (-9)), some (I (-1)), some (I 0), none] [] h Q) ∧ (¬ (¬ s0 = 0) → X d 203 15 [some (P 69), some (I v1), some (I v2), none, none, none, none] [] h Q)) : X d 203 12 [some (P 69), some (I v1), some (I v2), none, none, none, none] [I s0] h Q :=
  s_if 21 (¬ s0 = 0) c203_12 (by decide) rfl ⟨fun q1 => s_bipush c203_21 ⟨by decide, by decide⟩ (s_istore_n c203_23 rfl (s_iconst c203_24 rfl (s_istore c203_25 rfl (s_iconst c203_27 rfl (s_istore c203_28 rfl ((H.1 q1))))))), fun q1 => (H.2 q1)⟩
theorem b203_15 {d : Nat} {h : HP} {Q : PV → HP → Prop} {v1 v2 : Int} (H : X d 135 0 [some (P 69), some (I (-1))] [] h (fun r h' => X (d + 1) 203 20 [some (P 69), some (I v1), some (I v2), none, none, none, none] [r] h' Q)) : X (d + 1) 203 15 [some (P 69), some (I v1), some (I v2), none, none, none, none] [] h Q :=
  s_aload_n c203_15 rfl (s_iconst c203_16 rfl (s_cVi c203_17 m203_187 F135 K135 rfl (Nat.le_of_ble_eq_true rfl) rfl S135_69 rfl H))
theorem b203_20 {d : Nat} {h : HP} {Q : PV → HP → Prop} {v1 v2 s0 : Int} (H : Q (I s0) h) : X d 203 20 [some (P 69), some (I v1), some (I v2), none, none, none, none] [I s0] h Q :=
  s_retI c203_20 R203 H
theorem b203_30 {d : Nat} {h : HP} {Q : PV → HP → Prop} {v1 v2 v3 v4 v5 : Int} (H : (((h 69 17) ≤ v5) → Q (I v3) h) ∧ (¬ ((h 69 17) ≤ v5) → X d 201 0 [some (P 69), some (I v5), some (I v1), some (I v2), some (I 0), none] [] h (fun r h' => X (d + 1) 203 48 [some (P 69), some (I v1), some (I v2), some (I v3), some (I v4), some (I v5), none] [r] h' Q))) : X (d + 1) 203 30 [some (P 69), some (I v1), some (I v2), some (I v3), some (I v4), some (I v5), none] [] h Q :=
  s_iload c203_30 rfl (s_aload_n c203_32 rfl (s_getI c203_33 f203_219 t12_17 sh_69 (s_ifc 85 ((h 69 17) ≤ v5) c203_36 (by decide) rfl ⟨fun q2 => s_iload_n c203_85 rfl (s_retI c203_86 R203 (H.1 q2)), fun q2 => s_aload_n c203_39 rfl (s_iload c203_40 rfl (s_iload_n c203_42 rfl (s_iload_n c203_43 rfl (s_iconst c203_44 rfl (s_cVi c203_45 m203_405 F201 K201 rfl (Nat.le_of_ble_eq_true rfl) rfl S201_69 rfl (H.2 q2))))))⟩)))
theorem b203_48 {d : Nat} {h : HP} {Q : PV → HP → Prop} {v1 v2 v3 v4 v5 s0 : Int} (H : ((0 ≤ s0) → X d 203 63 [some (P 69), some (I v1), some (I v2), some (I v3), some (I v4), some (I v5), some (I s0)] [I s0] h Q) ∧ (¬ (0 ≤ s0) → X d 203 63 [some (P 69), some (I v1), some (I v2), some (I v3), some (I v4), some (I v5), some (I s0)] [I (w32 (-s0))] h Q)) : X d 203 48 [some (P 69), some (I v1), some (I v2), some (I v3), some (I v4), some (I v5), none] [I s0] h Q :=
  s_istore c203_48 rfl (s_iload c203_50 rfl (s_if 61 (0 ≤ s0) c203_52 (by decide) rfl ⟨fun q3 => s_iload c203_61 rfl ((H.1 q3)), fun q3 => s_iload c203_55 rfl (s_ineg c203_57 (s_goto 63 c203_58 (by decide) ((H.2 q3))))⟩))
theorem b203_5 {d : Nat} {h : HP} {Q : PV → HP → Prop} {v1 v2 s0 : Int} (H : ((s0 = 0) → X (d + 1) 203 15 [some (P 69), some (I v1), some (I v2), none, none, none, none] [] h Q) ∧ (¬ (s0 = 0) → X d 137 0 [some (I v2)] [] h (fun r h' => X (d + 1) 203 12 [some (P 69), some (I v1), some (I v2), none, none, none, none] [r] h' Q))) : X (d + 1) 203 5 [some (P 69), some (I v1), some (I v2), none, none, none, none] [I s0] h Q :=
  s_if 15 (s0 = 0) c203_5 (by decide) rfl ⟨fun q4 => (H.1 q4), fun q4 => s_iload_n c203_8 rfl (s_cSi c203_9 m203_199 F137 K137 rfl (Nat.le_of_ble_eq_true rfl) rfl rfl (H.2 q4))⟩
theorem b203_63 {d : Nat} {h : HP} {Q : PV → HP → Prop} {v1 v2 v3 v4 v5 v6 s0 : Int} (H : ((s0 ≤ v4) → X d 203 79 [some (P 69), some (I v1), some (I v2), some (I v3), some (I v4), some (I v5), some (I s0)] [] h Q) ∧ (¬ (s0 ≤ v4) → X d 203 79 [some (P 69), some (I v1), some (I v2), some (I v5), some (I s0), some (I v5), some (I s0)] [] h Q)) : X d 203 63 [some (P 69), some (I v1), some (I v2), some (I v3), some (I v4), some (I v5), some (I v6)] [I s0] h Q :=
  s_istore c203_63 rfl (s_iload c203_65 rfl (s_iload c203_67 rfl (s_ifc 79 (s0 ≤ v4) c203_69 (by decide) rfl ⟨fun q5 => (H.1 q5), fun q5 => s_iload c203_72 rfl (s_istore_n c203_74 rfl (s_iload c203_75 rfl (s_istore c203_77 rfl ((H.2 q5)))))⟩)))
theorem b203_79 {d : Nat} {h : HP} {Q : PV → HP → Prop} {v1 v2 v3 v4 v5 v6 : Int} (H : X d 203 30 [some (P 69), some (I v1), some (I v2), some (I v3), some (I v4), some (I (w32 (v5 + 1))), none] [] h Q) : X d 203 79 [some (P 69), some (I v1), some (I v2), some (I v3), some (I v4), some (I v5), some (I v6)] [] h Q :=
  s_iinc c203_79 rfl rfl rfl (s_goto 30 c203_82 (by decide) (X_weak (A := [some (P 69), some (I v1), some (I v2), some (I v3), some (I v4), some (I (w32 (v5 + 1))), none]) (B := [some (P 69), some (I v1), some (I v2), some (I v3), some (I v4), some (I (w32 (v5 + 1))), some (I v6)]) ⟨Or.inl rfl, Or.inl rfl, Or.inl rfl, Or.inl rfl, Or.inl rfl, Or.inl rfl, Or.inr ⟨rfl, _, rfl, rfl⟩, trivial⟩ H))
-- WarmSideModel.test(IIIII)I
theorem c204_0 : cdA 204 0 = some (.aload_n 0) := by decide +kernel
theorem c204_1 : cdA 204 1 = some (.iload_n 1) := by decide +kernel
theorem c204_2 : cdA 204 2 = some (.invokevirtual 191) := by decide +kernel
theorem m204_191 : mthR (moN 204) 191 = 139 := by decide +kernel
theorem c204_13 : cdA 204 13 = some (.ifCond .ne 9) := by decide +kernel
theorem c204_22 : cdA 204 22 = some (.iload_n 2) := by decide +kernel
theorem c204_23 : cdA 204 23 = some (.ifCond .lt 13) := by decide +kernel
theorem c204_26 : cdA 204 26 = some (.iload 4) := by decide +kernel
theorem c204_28 : cdA 204 28 = some (.ifCond .lt 8) := by decide +kernel
theorem c204_31 : cdA 204 31 = some (.iload 5) := by decide +kernel
theorem c204_33 : cdA 204 33 = some (.ifCond .ge 10) := by decide +kernel
theorem c204_43 : cdA 204 43 = some (.iload_n 2) := by decide +kernel
theorem c204_44 : cdA 204 44 = some (.sipush 999) := by decide +kernel
theorem c204_47 : cdA 204 47 = some (.if_icmp .gt 27) := by decide +kernel
theorem c204_50 : cdA 204 50 = some (.iload 4) := by decide +kernel
theorem c204_52 : cdA 204 52 = some (.sipush 600) := by decide +kernel
theorem c204_55 : cdA 204 55 = some (.if_icmp .gt 19) := by decide +kernel
theorem c204_58 : cdA 204 58 = some (.iload 5) := by decide +kernel
theorem c204_60 : cdA 204 60 = some (.bipush 99) := by decide +kernel
theorem c204_62 : cdA 204 62 = some (.if_icmp .gt 12) := by decide +kernel
theorem c204_65 : cdA 204 65 = some (.aload_n 0) := by decide +kernel
theorem c204_66 : cdA 204 66 = some (.getfield 409) := by decide +kernel
theorem f204_409 : fldR (moN 204) 409 = some (12, 83) := by decide +kernel
theorem t12_83 : fcl 12 83 = 0 := by decide +kernel
theorem c204_69 : cdA 204 69 = some (.bipush 10) := by decide +kernel
theorem c204_71 : cdA 204 71 = some (.if_icmp .ne 10) := by decide +kernel
theorem c204_81 : cdA 204 81 = some (.aload_n 0) := by decide +kernel
theorem c204_82 : cdA 204 82 = some (.getfield 153) := by decide +kernel
theorem f204_153 : fldR (moN 204) 153 = some (12, 78) := by decide +kernel
theorem t12_78 : fcl 12 78 = 2 := by decide +kernel
theorem c204_85 : cdA 204 85 = some (.aload_n 0) := by decide +kernel
theorem c204_86 : cdA 204 86 = some (.getfield 409) := by decide +kernel
theorem c204_89 : cdA 204 89 = some (.iload_n 1) := by decide +kernel
theorem c204_90 : cdA 204 90 = some (.iastore) := by decide +kernel
theorem c204_91 : cdA 204 91 = some (.aload_n 0) := by decide +kernel
theorem c204_92 : cdA 204 92 = some (.getfield 156) := by decide +kernel
theorem f204_156 : fldR (moN 204) 156 = some (12, 79) := by decide +kernel
theorem t12_79 : fcl 12 79 = 2 := by decide +kernel
theorem c204_95 : cdA 204 95 = some (.aload_n 0) := by decide +kernel
theorem c204_96 : cdA 204 96 = some (.getfield 409) := by decide +kernel
theorem c204_99 : cdA 204 99 = some (.iload_n 2) := by decide +kernel
theorem c204_100 : cdA 204 100 = some (.iastore) := by decide +kernel
theorem c204_101 : cdA 204 101 = some (.aload_n 0) := by decide +kernel
theorem c204_102 : cdA 204 102 = some (.getfield 159) := by decide +kernel
theorem f204_159 : fldR (moN 204) 159 = some (12, 80) := by decide +kernel
theorem t12_80 : fcl 12 80 = 2 := by decide +kernel
theorem c204_105 : cdA 204 105 = some (.aload_n 0) := by decide +kernel
theorem c204_106 : cdA 204 106 = some (.getfield 409) := by decide +kernel
theorem c204_109 : cdA 204 109 = some (.iload_n 3) := by decide +kernel
theorem c204_110 : cdA 204 110 = some (.iastore) := by decide +kernel
theorem c204_111 : cdA 204 111 = some (.aload_n 0) := by decide +kernel
theorem c204_112 : cdA 204 112 = some (.getfield 162) := by decide +kernel
theorem f204_162 : fldR (moN 204) 162 = some (12, 81) := by decide +kernel
theorem t12_81 : fcl 12 81 = 2 := by decide +kernel
theorem c204_115 : cdA 204 115 = some (.aload_n 0) := by decide +kernel
theorem c204_116 : cdA 204 116 = some (.getfield 409) := by decide +kernel
theorem c204_119 : cdA 204 119 = some (.iload 4) := by decide +kernel
theorem c204_121 : cdA 204 121 = some (.iastore) := by decide +kernel
theorem c204_122 : cdA 204 122 = some (.aload_n 0) := by decide +kernel
theorem c204_123 : cdA 204 123 = some (.getfield 165) := by decide +kernel
theorem f204_165 : fldR (moN 204) 165 = some (12, 82) := by decide +kernel
theorem t12_82 : fcl 12 82 = 2 := by decide +kernel
theorem c204_126 : cdA 204 126 = some (.aload_n 0) := by decide +kernel
theorem c204_127 : cdA 204 127 = some (.getfield 409) := by decide +kernel
theorem c204_130 : cdA 204 130 = some (.iload 5) := by decide +kernel
theorem c204_132 : cdA 204 132 = some (.iastore) := by decide +kernel
theorem c204_133 : cdA 204 133 = some (.aload_n 0) := by decide +kernel
theorem c204_134 : cdA 204 134 = some (.dup) := by decide +kernel
theorem c204_135 : cdA 204 135 = some (.getfield 409) := by decide +kernel
theorem c204_138 : cdA 204 138 = some (.iconst 1) := by decide +kernel
theorem c204_139 : cdA 204 139 = some (.iadd) := by decide +kernel
theorem c204_140 : cdA 204 140 = some (.putfield 409) := by decide +kernel
theorem n12_83 : ffin 12 83 = false := by decide +kernel
theorem c204_143 : cdA 204 143 = some (.aload_n 0) := by decide +kernel
theorem c204_144 : cdA 204 144 = some (.getfield 409) := by decide +kernel
theorem c204_147 : cdA 204 147 = some (.ireturn) := by decide +kernel
theorem R204 : mK 204 = 0 := by decide +kernel
theorem c204_16 : cdA 204 16 = some (.aload_n 0) := by decide +kernel
theorem c204_17 : cdA 204 17 = some (.iconst (-1)) := by decide +kernel
theorem c204_18 : cdA 204 18 = some (.invokevirtual 187) := by decide +kernel
theorem m204_187 : mthR (moN 204) 187 = 138 := by decide +kernel
theorem c204_21 : cdA 204 21 = some (.ireturn) := by decide +kernel
theorem c204_36 : cdA 204 36 = some (.aload_n 0) := by decide +kernel
theorem c204_37 : cdA 204 37 = some (.bipush (-4)) := by decide +kernel
theorem c204_39 : cdA 204 39 = some (.invokevirtual 187) := by decide +kernel
theorem c204_42 : cdA 204 42 = some (.ireturn) := by decide +kernel
theorem c204_5 : cdA 204 5 = some (.ifCond .eq 11) := by decide +kernel
theorem c204_8 : cdA 204 8 = some (.aload_n 0) := by decide +kernel
theorem c204_9 : cdA 204 9 = some (.iload_n 3) := by decide +kernel
theorem c204_10 : cdA 204 10 = some (.invokevirtual 191) := by decide +kernel
theorem c204_74 : cdA 204 74 = some (.aload_n 0) := by decide +kernel
theorem c204_75 : cdA 204 75 = some (.bipush (-6)) := by decide +kernel
theorem c204_77 : cdA 204 77 = some (.invokevirtual 187) := by decide +kernel
theorem c204_80 : cdA 204 80 = some (.ireturn) := by decide +kernel
theorem b204_0 {d : Nat} {h : HP} {Q : PV → HP → Prop} {v1 v2 v3 v4 v5 : Int} (H : X d 136 0 [some (P 69), some (I v1)] [] h (fun r h' => X (d + 1) 204 5 [some (P 69), some (I v1), some (I v2), some (I v3), some (I v4), some (I v5)] [r] h' Q)) : X (d + 1) 204 0 [some (P 69), some (I v1), some (I v2), some (I v3), some (I v4), some (I v5)] [] h Q :=
  s_aload_n c204_0 rfl (s_iload_n c204_1 rfl (s_cVi c204_2 m204_191 F136 K136 rfl (Nat.le_of_ble_eq_true rfl) rfl S136_69 rfl H))
theorem b204_13 {d : Nat} {h : HP} {Q : PV → HP → Prop} {v1 v2 v3 v4 v5 s0 : Int} (H : ((¬ s0 = 0) → (((v2 < 0) → X d 204 36 [some (P 69), some (I v1), some (I v2), some (I v3), some (I v4), some (I v5)] [] h Q) ∧ (¬ (v2 < 0) → (((v4 < 0) → X d 204 36 [some (P 69), some (I v1), some (I v2), some (I v3), some (I v4), some (I v5)] [] h Q) ∧ (¬ (v4 < 0) → (((0 ≤ v5) → (((999 < v2) → X d 204 74 [some (P 69), some (I v1), some (I v2), some (I v3), some (I v4), some (I v5)] [] h Q) ∧ (¬ (999 < v2) → (((600 < v4) → X d 204 74 [some (P 69), some (I v1), some (I v2), some (I v3), some (I v4), some (I v5)] [] h Q) ∧ (¬ (600 < v4) → (((99 < v5) → X d 204 74 [some (P 69), some (I v1), some (I v2), some (I v3), some (I v4), some (I v5)] [] h Q) ∧ (¬ (99 < v5) → (((¬ (h 69 83) = 10) → ((0 ≤ (h 69 83) ∧ (h 69 83) < 10) ∧ ((0 ≤ (h 69 83) ∧ (h 69 83) < 10) ∧ ((0 ≤ (h 69 83) ∧ (h 69 83) < 10) ∧ ((0 ≤ (h 69 83) ∧ (h 69 83) < 10) ∧ ((0 ≤ (h 69 83) ∧ (h 69 83) < 10) ∧ Q (I (w32 ((h 69 83) + 1))) (up2 (up2 (up2 (up2 (up2 (up2 h 115 (h 69 83).toNat v1) 116 (h 69 83).toNat v2) 117 (h 69 83).toNat v3) 118 (h 69 83).toNat v4) 119 (h 69 83).toNat v5) 69 83 (w32 ((h 69 83) + 1))))))))) ∧ (¬ (¬ (h 69 83) = 10) → X d 204 74 [some (P 69), some (I v1), some (I v2), some (I v3), some (I v4), some (I v5)] [] h Q))))))))) ∧ (¬ (0 ≤ v5) → X d 204 36 [some (P 69), some (I v1), some (I v2), some (I v3), some (I v4), some (I v5)] [] h Q))))))) ∧ (¬ (¬ s0 = 0) → X d 204 16 [some (P 69), some (I v1), some (I v2), some (I v3), some (I v4), some (I v5)] [] h Q)) : X d 204 13 [some (P 69), some (I v1), some (I v2), some (I v3), some (I v4), some (I v5)] [I s0] h Q :=
  s_if 22 (¬ s0 = 0) c204_13 (by decide) rfl ⟨fun q1 => s_iload_n c204_22 rfl (s_if 36 (v2 < 0) c204_23 (by decide) rfl ⟨fun q2 => ((H.1 q1).1 q2), fun q2 => s_iload c204_26 rfl (s_if 36 (v4 < 0) c204_28 (by decide) rfl ⟨fun q3 => (((H.1 q1).2 q2).1 q3), fun q3 => s_iload c204_31 rfl (s_if 43 (0 ≤ v5) c204_33 (by decide) rfl ⟨fun q4 => s_iload_n c204_43 rfl (s_sipush c204_44 ⟨by decide, by decide⟩ (s_ifc 74 (999 < v2) c204_47 (by decide) rfl ⟨fun q5 => (((((H.1 q1).2 q2).2 q3).1 q4).1 q5), fun q5 => s_iload c204_50 rfl (s_sipush c204_52 ⟨by decide, by decide⟩ (s_ifc 74 (600 < v4) c204_55 (by decide) rfl ⟨fun q6 => ((((((H.1 q1).2 q2).2 q3).1 q4).2 q5).1 q6), fun q6 => s_iload c204_58 rfl (s_bipush c204_60 ⟨by decide, by decide⟩ (s_ifc 74 (99 < v5) c204_62 (by decide) rfl ⟨fun q7 => (((((((H.1 q1).2 q2).2 q3).1 q4).2 q5).2 q6).1 q7), fun q7 => s_aload_n c204_65 rfl (s_getI c204_66 f204_409 t12_83 sh_69 (s_bipush c204_69 ⟨by decide, by decide⟩ (s_ifc 81 (¬ (h 69 83) = 10) c204_71 (by decide) rfl ⟨fun q8 => s_aload_n c204_81 rfl (s_getP 115 c204_82 f204_153 t12_78 sh_69 g_69_78 (by decide) (by decide) (s_aload_n c204_85 rfl (s_getI c204_86 f204_409 t12_83 sh_69 (s_iload_n c204_89 rfl (s_iast c204_90 sh_115 ⟨((((((((H.1 q1).2 q2).2 q3).1 q4).2 q5).2 q6).2 q7).1 q8).1, s_aload_n c204_91 rfl (s_getP 116 c204_92 f204_156 t12_79 sh_69 g_69_79 (by decide) (by decide) (s_aload_n c204_95 rfl (s_getI c204_96 f204_409 t12_83 sh_69 (s_iload_n c204_99 rfl (s_iast c204_100 sh_116 ⟨((((((((H.1 q1).2 q2).2 q3).1 q4).2 q5).2 q6).2 q7).1 q8).2.1, s_aload_n c204_101 rfl (s_getP 117 c204_102 f204_159 t12_80 sh_69 g_69_80 (by decide) (by decide) (s_aload_n c204_105 rfl (s_getI c204_106 f204_409 t12_83 sh_69 (s_iload_n c204_109 rfl (s_iast c204_110 sh_117 ⟨((((((((H.1 q1).2 q2).2 q3).1 q4).2 q5).2 q6).2 q7).1 q8).2.2.1, s_aload_n c204_111 rfl (s_getP 118 c204_112 f204_162 t12_81 sh_69 g_69_81 (by decide) (by decide) (s_aload_n c204_115 rfl (s_getI c204_116 f204_409 t12_83 sh_69 (s_iload c204_119 rfl (s_iast c204_121 sh_118 ⟨((((((((H.1 q1).2 q2).2 q3).1 q4).2 q5).2 q6).2 q7).1 q8).2.2.2.1, s_aload_n c204_122 rfl (s_getP 119 c204_123 f204_165 t12_82 sh_69 g_69_82 (by decide) (by decide) (s_aload_n c204_126 rfl (s_getI c204_127 f204_409 t12_83 sh_69 (s_iload c204_130 rfl (s_iast c204_132 sh_119 ⟨((((((((H.1 q1).2 q2).2 q3).1 q4).2 q5).2 q6).2 q7).1 q8).2.2.2.2.1, s_aload_n c204_133 rfl (s_dupP c204_134 (s_getI c204_135 f204_409 t12_83 sh_69 (s_iconst c204_138 rfl (s_iadd c204_139 (s_putI c204_140 f204_409 t12_83 n12_83 sh_69 (s_aload_n c204_143 rfl (s_getI c204_144 f204_409 t12_83 sh_69 (s_retI c204_147 R204 ((((((((H.1 q1).2 q2).2 q3).1 q4).2 q5).2 q6).2 q7).1 q8).2.2.2.2.2))))))))⟩)))))⟩)))))⟩)))))⟩)))))⟩))))), fun q8 => ((((((((H.1 q1).2 q2).2 q3).1 q4).2 q5).2 q6).2 q7).2 q8)⟩)))⟩))⟩))⟩)), fun q4 => ((((H.1 q1).2 q2).2 q3).2 q4)⟩)⟩)⟩), fun q1 => (H.2 q1)⟩
theorem b204_16 {d : Nat} {h : HP} {Q : PV → HP → Prop} {v1 v2 v3 v4 v5 : Int} (H : X d 135 0 [some (P 69), some (I (-1))] [] h (fun r h' => X (d + 1) 204 21 [some (P 69), some (I v1), some (I v2), some (I v3), some (I v4), some (I v5)] [r] h' Q)) : X (d + 1) 204 16 [some (P 69), some (I v1), some (I v2), some (I v3), some (I v4), some (I v5)] [] h Q :=
  s_aload_n c204_16 rfl (s_iconst c204_17 rfl (s_cVi c204_18 m204_187 F135 K135 rfl (Nat.le_of_ble_eq_true rfl) rfl S135_69 rfl H))
theorem b204_21 {d : Nat} {h : HP} {Q : PV → HP → Prop} {v1 v2 v3 v4 v5 s0 : Int} (H : Q (I s0) h) : X d 204 21 [some (P 69), some (I v1), some (I v2), some (I v3), some (I v4), some (I v5)] [I s0] h Q :=
  s_retI c204_21 R204 H
theorem b204_36 {d : Nat} {h : HP} {Q : PV → HP → Prop} {v1 v2 v3 v4 v5 : Int} (H : X d 135 0 [some (P 69), some (I (-4))] [] h (fun r h' => X (d + 1) 204 42 [some (P 69), some (I v1), some (I v2), some (I v3), some (I v4), some (I v5)] [r] h' Q)) : X (d + 1) 204 36 [some (P 69), some (I v1), some (I v2), some (I v3), some (I v4), some (I v5)] [] h Q :=
  s_aload_n c204_36 rfl (s_bipush c204_37 ⟨by decide, by decide⟩ (s_cVi c204_39 m204_187 F135 K135 rfl (Nat.le_of_ble_eq_true rfl) rfl S135_69 rfl H))
theorem b204_42 {d : Nat} {h : HP} {Q : PV → HP → Prop} {v1 v2 v3 v4 v5 s0 : Int} (H : Q (I s0) h) : X d 204 42 [some (P 69), some (I v1), some (I v2), some (I v3), some (I v4), some (I v5)] [I s0] h Q :=
  s_retI c204_42 R204 H
theorem b204_5 {d : Nat} {h : HP} {Q : PV → HP → Prop} {v1 v2 v3 v4 v5 s0 : Int} (H : ((s0 = 0) → X (d + 1) 204 16 [some (P 69), some (I v1), some (I v2), some (I v3), some (I v4), some (I v5)] [] h Q) ∧ (¬ (s0 = 0) → X d 136 0 [some (P 69), some (I v3)] [] h (fun r h' => X (d + 1) 204 13 [some (P 69), some (I v1), some (I v2), some (I v3), some (I v4), some (I v5)] [r] h' Q))) : X (d + 1) 204 5 [some (P 69), some (I v1), some (I v2), some (I v3), some (I v4), some (I v5)] [I s0] h Q :=
  s_if 16 (s0 = 0) c204_5 (by decide) rfl ⟨fun q9 => (H.1 q9), fun q9 => s_aload_n c204_8 rfl (s_iload_n c204_9 rfl (s_cVi c204_10 m204_191 F136 K136 rfl (Nat.le_of_ble_eq_true rfl) rfl S136_69 rfl (H.2 q9)))⟩
theorem b204_74 {d : Nat} {h : HP} {Q : PV → HP → Prop} {v1 v2 v3 v4 v5 : Int} (H : X d 135 0 [some (P 69), some (I (-6))] [] h (fun r h' => X (d + 1) 204 80 [some (P 69), some (I v1), some (I v2), some (I v3), some (I v4), some (I v5)] [r] h' Q)) : X (d + 1) 204 74 [some (P 69), some (I v1), some (I v2), some (I v3), some (I v4), some (I v5)] [] h Q :=
  s_aload_n c204_74 rfl (s_bipush c204_75 ⟨by decide, by decide⟩ (s_cVi c204_77 m204_187 F135 K135 rfl (Nat.le_of_ble_eq_true rfl) rfl S135_69 rfl H))
theorem b204_80 {d : Nat} {h : HP} {Q : PV → HP → Prop} {v1 v2 v3 v4 v5 s0 : Int} (H : Q (I s0) h) : X d 204 80 [some (P 69), some (I v1), some (I v2), some (I v3), some (I v4), some (I v5)] [I s0] h Q :=
  s_retI c204_80 R204 H
-- WarmSideModel.canBalance(I)I
theorem c205_0 : cdA 205 0 = some (.iload_n 1) := by decide +kernel
theorem c205_1 : cdA 205 1 = some (.aload_n 0) := by decide +kernel
theorem c205_2 : cdA 205 2 = some (.getfield 412) := by decide +kernel
theorem f205_412 : fldR (moN 205) 412 = some (12, 85) := by decide +kernel
theorem t12_85 : fcl 12 85 = 0 := by decide +kernel
theorem c205_5 : cdA 205 5 = some (.if_icmp .ne 10) := by decide +kernel
theorem c205_15 : cdA 205 15 = some (.iconst 0) := by decide +kernel
theorem c205_8 : cdA 205 8 = some (.aload_n 0) := by decide +kernel
theorem c205_9 : cdA 205 9 = some (.getfield 415) := by decide +kernel
theorem f205_415 : fldR (moN 205) 415 = some (12, 84) := by decide +kernel
theorem t12_84 : fcl 12 84 = 0 := by decide +kernel
theorem c205_12 : cdA 205 12 = some (.goto 4) := by decide +kernel
theorem c205_16 : cdA 205 16 = some (.aload_n 0) := by decide +kernel
theorem c205_17 : cdA 205 17 = some (.iload_n 1) := by decide +kernel
theorem c205_18 : cdA 205 18 = some (.invokevirtual 351) := by decide +kernel
theorem m205_351 : mthR (moN 205) 351 = 184 := by decide +kernel
theorem c205_21 : cdA 205 21 = some (.iadd) := by decide +kernel
theorem c205_22 : cdA 205 22 = some (.aload_n 0) := by decide +kernel
theorem c205_23 : cdA 205 23 = some (.iload_n 1) := by decide +kernel
theorem c205_24 : cdA 205 24 = some (.invokevirtual 341) := by decide +kernel
theorem m205_341 : mthR (moN 205) 341 = 183 := by decide +kernel
theorem c205_27 : cdA 205 27 = some (.isub) := by decide +kernel
theorem c205_28 : cdA 205 28 = some (.ireturn) := by decide +kernel
theorem R205 : mK 205 = 0 := by decide +kernel
theorem b205_0 {d : Nat} {h : HP} {Q : PV → HP → Prop} {v1 : Int} (H : ((¬ v1 = (h 69 85)) → X d 205 16 [some (P 69), some (I v1)] [I 0] h Q) ∧ (¬ (¬ v1 = (h 69 85)) → X d 205 16 [some (P 69), some (I v1)] [I (h 69 84)] h Q)) : X d 205 0 [some (P 69), some (I v1)] [] h Q :=
  s_iload_n c205_0 rfl (s_aload_n c205_1 rfl (s_getI c205_2 f205_412 t12_85 sh_69 (s_ifc 15 (¬ v1 = (h 69 85)) c205_5 (by decide) rfl ⟨fun q1 => s_iconst c205_15 rfl ((H.1 q1)), fun q1 => s_aload_n c205_8 rfl (s_getI c205_9 f205_415 t12_84 sh_69 (s_goto 16 c205_12 (by decide) ((H.2 q1))))⟩)))
theorem b205_16 {d : Nat} {h : HP} {Q : PV → HP → Prop} {v1 s0 : Int} (H : X d 181 0 [some (P 69), some (I v1), none, none, none] [] h (fun r h' => X (d + 1) 205 21 [some (P 69), some (I v1)] [r, I s0] h' Q)) : X (d + 1) 205 16 [some (P 69), some (I v1)] [I s0] h Q :=
  s_aload_n c205_16 rfl (s_iload_n c205_17 rfl (s_cVi c205_18 m205_351 F181 K181 rfl (Nat.le_of_ble_eq_true rfl) rfl S181_69 rfl H))
theorem b205_21 {d : Nat} {h : HP} {Q : PV → HP → Prop} {v1 s0 s1 : Int} (H : X d 180 0 [some (P 69), some (I v1), none, none] [] h (fun r h' => X (d + 1) 205 27 [some (P 69), some (I v1)] [r, I (w32 (s0 + s1))] h' Q)) : X (d + 1) 205 21 [some (P 69), some (I v1)] [I s1, I s0] h Q :=
  s_iadd c205_21 (s_aload_n c205_22 rfl (s_iload_n c205_23 rfl (s_cVi c205_24 m205_341 F180 K180 rfl (Nat.le_of_ble_eq_true rfl) rfl S180_69 rfl H)))
theorem b205_27 {d : Nat} {h : HP} {Q : PV → HP → Prop} {v1 s0 s1 : Int} (H : Q (I (w32 (s0 - s1))) h) : X d 205 27 [some (P 69), some (I v1)] [I s1, I s0] h Q :=
  s_isub c205_27 (s_retI c205_28 R205 H)
-- WarmSideModel.canRest(III)I
theorem c206_0 : cdA 206 0 = some (.aload_n 0) := by decide +kernel
theorem c206_1 : cdA 206 1 = some (.iconst 0) := by decide +kernel
theorem c206_2 : cdA 206 2 = some (.invokevirtual 328) := by decide +kernel
theorem m206_328 : mthR (moN 206) 328 = 180 := by decide +kernel
theorem c206_107 : cdA 206 107 = some (.ifCond .ge 20) := by decide +kernel
theorem c206_110 : cdA 206 110 = some (.aload_n 0) := by decide +kernel
theorem c206_111 : cdA 206 111 = some (.getfield 120) := by decide +kernel
theorem f206_120 : fldR (moN 206) 120 = some (12, 54) := by decide +kernel
theorem c206_114 : cdA 206 114 = some (.iload 5) := by decide +kernel
theorem c206_116 : cdA 206 116 = some (.dup2) := by decide +kernel
theorem c206_117 : cdA 206 117 = some (.iaload) := by decide +kernel
theorem c206_118 : cdA 206 118 = some (.iconst 1) := by decide +kernel
theorem c206_119 : cdA 206 119 = some (.isub) := by decide +kernel
theorem c206_120 : cdA 206 120 = some (.iastore) := by decide +kernel
theorem c206_121 : cdA 206 121 = some (.iconst 1) := by decide +kernel
theorem c206_122 : cdA 206 122 = some (.istore 4) := by decide +kernel
theorem c206_124 : cdA 206 124 = some (.goto (-33)) := by decide +kernel
theorem c206_127 : cdA 206 127 = some (.iinc 5 1) := by decide +kernel
theorem c206_130 : cdA 206 130 = some (.goto (-48)) := by decide +kernel
theorem c206_5 : cdA 206 5 = some (.iconst 0) := by decide +kernel
theorem c206_6 : cdA 206 6 = some (.istore 4) := by decide +kernel
theorem c206_71 : cdA 206 71 = some (.iload 4) := by decide +kernel
theorem c206_73 : cdA 206 73 = some (.ifCond .eq 63) := by decide +kernel
theorem c206_136 : cdA 206 136 = some (.aload_n 0) := by decide +kernel
theorem c206_137 : cdA 206 137 = some (.getfield 120) := by decide +kernel
theorem c206_140 : cdA 206 140 = some (.aload_n 0) := by decide +kernel
theorem c206_141 : cdA 206 141 = some (.getfield 159) := by decide +kernel
theorem f206_159 : fldR (moN 206) 159 = some (12, 80) := by decide +kernel
theorem c206_144 : cdA 206 144 = some (.iload_n 1) := by decide +kernel
theorem c206_145 : cdA 206 145 = some (.iaload) := by decide +kernel
theorem c206_146 : cdA 206 146 = some (.iaload) := by decide +kernel
theorem c206_147 : cdA 206 147 = some (.ireturn) := by decide +kernel
theorem R206 : mK 206 = 0 := by decide +kernel
theorem c206_76 : cdA 206 76 = some (.iconst 0) := by decide +kernel
theorem c206_77 : cdA 206 77 = some (.istore 4) := by decide +kernel
theorem c206_79 : cdA 206 79 = some (.iconst 0) := by decide +kernel
theorem c206_80 : cdA 206 80 = some (.istore 5) := by decide +kernel
theorem c206_8 : cdA 206 8 = some (.iload 4) := by decide +kernel
theorem c206_10 : cdA 206 10 = some (.aload_n 0) := by decide +kernel
theorem c206_11 : cdA 206 11 = some (.getfield 180) := by decide +kernel
theorem f206_180 : fldR (moN 206) 180 = some (12, 9) := by decide +kernel
theorem c206_14 : cdA 206 14 = some (.if_icmp .ge 27) := by decide +kernel
theorem c206_41 : cdA 206 41 = some (.aload_n 0) := by decide +kernel
theorem c206_42 : cdA 206 42 = some (.getfield 123) := by decide +kernel
theorem f206_123 : fldR (moN 206) 123 = some (12, 63) := by decide +kernel
theorem c206_45 : cdA 206 45 = some (.iload_n 2) := by decide +kernel
theorem c206_46 : cdA 206 46 = some (.iload_n 3) := by decide +kernel
theorem c206_47 : cdA 206 47 = some (.iastore) := by decide +kernel
theorem c206_48 : cdA 206 48 = some (.aload_n 0) := by decide +kernel
theorem c206_49 : cdA 206 49 = some (.aload_n 0) := by decide +kernel
theorem c206_50 : cdA 206 50 = some (.getfield 156) := by decide +kernel
theorem f206_156 : fldR (moN 206) 156 = some (12, 79) := by decide +kernel
theorem c206_53 : cdA 206 53 = some (.iload_n 1) := by decide +kernel
theorem c206_54 : cdA 206 54 = some (.iaload) := by decide +kernel
theorem c206_55 : cdA 206 55 = some (.putfield 415) := by decide +kernel
theorem f206_415 : fldR (moN 206) 415 = some (12, 84) := by decide +kernel
theorem n12_84 : ffin 12 84 = false := by decide +kernel
theorem c206_58 : cdA 206 58 = some (.aload_n 0) := by decide +kernel
theorem c206_59 : cdA 206 59 = some (.aload_n 0) := by decide +kernel
theorem c206_60 : cdA 206 60 = some (.getfield 153) := by decide +kernel
theorem f206_153 : fldR (moN 206) 153 = some (12, 78) := by decide +kernel
theorem c206_63 : cdA 206 63 = some (.iload_n 1) := by decide +kernel
theorem c206_64 : cdA 206 64 = some (.iaload) := by decide +kernel
theorem c206_65 : cdA 206 65 = some (.putfield 412) := by decide +kernel
theorem f206_412 : fldR (moN 206) 412 = some (12, 85) := by decide +kernel
theorem n12_85 : ffin 12 85 = false := by decide +kernel
theorem c206_68 : cdA 206 68 = some (.iconst 1) := by decide +kernel
theorem c206_69 : cdA 206 69 = some (.istore 4) := by decide +kernel
theorem c206_17 : cdA 206 17 = some (.aload_n 0) := by decide +kernel
theorem c206_18 : cdA 206 18 = some (.getfield 138) := by decide +kernel
theorem f206_138 : fldR (moN 206) 138 = some (12, 68) := by decide +kernel
theorem c206_21 : cdA 206 21 = some (.iload 4) := by decide +kernel
theorem c206_23 : cdA 206 23 = some (.iconst 2) := by decide +kernel
theorem c206_24 : cdA 206 24 = some (.iastore) := by decide +kernel
theorem c206_25 : cdA 206 25 = some (.aload_n 0) := by decide +kernel
theorem c206_26 : cdA 206 26 = some (.getfield 120) := by decide +kernel
theorem c206_29 : cdA 206 29 = some (.iload 4) := by decide +kernel
theorem c206_31 : cdA 206 31 = some (.sipush 600) := by decide +kernel
theorem c206_34 : cdA 206 34 = some (.iastore) := by decide +kernel
theorem c206_35 : cdA 206 35 = some (.iinc 4 1) := by decide +kernel
theorem c206_38 : cdA 206 38 = some (.goto (-30)) := by decide +kernel
theorem c206_82 : cdA 206 82 = some (.iload 5) := by decide +kernel
theorem c206_84 : cdA 206 84 = some (.aload_n 0) := by decide +kernel
theorem c206_85 : cdA 206 85 = some (.getfield 180) := by decide +kernel
theorem c206_88 : cdA 206 88 = some (.if_icmp .ge 45) := by decide +kernel
theorem c206_133 : cdA 206 133 = some (.goto (-62)) := by decide +kernel
theorem c206_91 : cdA 206 91 = some (.aload_n 0) := by decide +kernel
theorem c206_92 : cdA 206 92 = some (.getfield 120) := by decide +kernel
theorem c206_95 : cdA 206 95 = some (.iload 5) := by decide +kernel
theorem c206_97 : cdA 206 97 = some (.iaload) := by decide +kernel
theorem c206_98 : cdA 206 98 = some (.ifCond .le 29) := by decide +kernel
theorem c206_101 : cdA 206 101 = some (.aload_n 0) := by decide +kernel
theorem c206_102 : cdA 206 102 = some (.iload 5) := by decide +kernel
theorem c206_104 : cdA 206 104 = some (.invokevirtual 418) := by decide +kernel
theorem m206_418 : mthR (moN 206) 418 = 208 := by decide +kernel
theorem F205 : mF 205 1 2 true := by unfold mF; decide +kernel
theorem K205 : ¬ mK 205 = 4 := by decide +kernel
theorem S205_69 : SH0[69]? = some (.inl (moN 205)) := by decide +kernel
theorem b206_0 {d : Nat} {h : HP} {Q : PV → HP → Prop} {v1 v2 v3 : Int} (H : X d 177 0 [some (P 69), some (I 0), none] [] h (fun _ h' => X (d + 1) 206 5 [some (P 69), some (I v1), some (I v2), some (I v3), none, none] [] h' Q)) : X (d + 1) 206 0 [some (P 69), some (I v1), some (I v2), some (I v3), none, none] [] h Q :=
  s_aload_n c206_0 rfl (s_iconst c206_1 rfl (s_cVv c206_2 m206_328 F177 K177 rfl (Nat.le_of_ble_eq_true rfl) rfl S177_69 rfl H))
theorem b206_107 {d : Nat} {h : HP} {Q : PV → HP → Prop} {v1 v2 v3 v4 v5 s0 : Int} (H : ((0 ≤ s0) → X d 206 127 [some (P 69), some (I v1), some (I v2), some (I v3), some (I v4), some (I v5)] [] h Q) ∧ (¬ (0 ≤ s0) → ((0 ≤ v5 ∧ v5 < 8) ∧ ((0 ≤ v5 ∧ v5 < 8) ∧ X d 206 91 [some (P 69), some (I v1), some (I v2), some (I v3), some (I 1), some (I v5)] [] (up2 h 105 v5.toNat (w32 ((h 105 v5.toNat) - 1))) Q)))) : X d 206 107 [some (P 69), some (I v1), some (I v2), some (I v3), some (I v4), some (I v5)] [I s0] h Q :=
  s_if 127 (0 ≤ s0) c206_107 (by decide) rfl ⟨fun q1 => (H.1 q1), fun q1 => s_aload_n c206_110 rfl (s_getP 105 c206_111 f206_120 t12_54 sh_69 g_69_54 (by decide) (by decide) (s_iload c206_114 rfl (s_dup2 c206_116 (s_iald c206_117 sh_105 ⟨(H.2 q1).1, s_iconst c206_118 rfl (s_isub c206_119 (s_iast c206_120 sh_105 ⟨(H.2 q1).2.1, s_iconst c206_121 rfl (s_istore c206_122 rfl (s_goto 91 c206_124 (by decide) ((H.2 q1).2.2)))⟩))⟩))))⟩
theorem b206_127 {d : Nat} {h : HP} {Q : PV → HP → Prop} {v1 v2 v3 v4 v5 : Int} (H : X d 206 82 [some (P 69), some (I v1), some (I v2), some (I v3), some (I v4), some (I (w32 (v5 + 1)))] [] h Q) : X d 206 127 [some (P 69), some (I v1), some (I v2), some (I v3), some (I v4), some (I v5)] [] h Q :=
  s_iinc c206_127 rfl rfl rfl (s_goto 82 c206_130 (by decide) (H))
theorem b206_5 {d : Nat} {h : HP} {Q : PV → HP → Prop} {v1 v2 v3 : Int} (H : X d 206 8 [some (P 69), some (I v1), some (I v2), some (I v3), some (I 0), none] [] h Q) : X d 206 5 [some (P 69), some (I v1), some (I v2), some (I v3), none, none] [] h Q :=
  s_iconst c206_5 rfl (s_istore c206_6 rfl (H))
theorem b206_71 {d : Nat} {h : HP} {Q : PV → HP → Prop} {v1 v2 v3 v4 : Int} (H : ((v4 = 0) → ((0 ≤ v1 ∧ v1 < 10) ∧ ((0 ≤ (h 117 v1.toNat) ∧ (h 117 v1.toNat) < 8) ∧ Q (I (h 105 (h 117 v1.toNat).toNat)) h))) ∧ (¬ (v4 = 0) → X d 206 82 [some (P 69), some (I v1), some (I v2), some (I v3), some (I 0), some (I 0)] [] h Q)) : X d 206 71 [some (P 69), some (I v1), some (I v2), some (I v3), some (I v4), none] [] h Q :=
  s_iload c206_71 rfl (s_if 136 (v4 = 0) c206_73 (by decide) rfl ⟨fun q2 => s_aload_n c206_136 rfl (s_getP 105 c206_137 f206_120 t12_54 sh_69 g_69_54 (by decide) (by decide) (s_aload_n c206_140 rfl (s_getP 117 c206_141 f206_159 t12_80 sh_69 g_69_80 (by decide) (by decide) (s_iload_n c206_144 rfl (s_iald c206_145 sh_117 ⟨(H.1 q2).1, s_iald c206_146 sh_105 ⟨(H.1 q2).2.1, s_retI c206_147 R206 (H.1 q2).2.2⟩⟩))))), fun q2 => s_iconst c206_76 rfl (s_istore c206_77 rfl (s_iconst c206_79 rfl (s_istore c206_80 rfl ((H.2 q2)))))⟩)
theorem b206_8 {d : Nat} {h : HP} {Q : PV → HP → Prop} {v1 v2 v3 v4 : Int} (H : (((h 69 9) ≤ v4) → ((0 ≤ v2 ∧ v2 < 20) ∧ ((0 ≤ v1 ∧ v1 < 10) ∧ ((0 ≤ v1 ∧ v1 < 10) ∧ X d 206 71 [some (P 69), some (I v1), some (I v2), some (I v3), some (I 1), none] [] (up2 (up2 (up2 h 106 v2.toNat v3) 69 84 (h 116 v1.toNat)) 69 85 (h 115 v1.toNat)) Q)))) ∧ (¬ ((h 69 9) ≤ v4) → ((0 ≤ v4 ∧ v4 < 8) ∧ ((0 ≤ v4 ∧ v4 < 8) ∧ X d 206 8 [some (P 69), some (I v1), some (I v2), some (I v3), some (I (w32 (v4 + 1))), none] [] (up2 (up2 h 111 v4.toNat 2) 105 v4.toNat 600) Q)))) : X d 206 8 [some (P 69), some (I v1), some (I v2), some (I v3), some (I v4), none] [] h Q :=
  s_iload c206_8 rfl (s_aload_n c206_10 rfl (s_getI c206_11 f206_180 t12_9 sh_69 (s_ifc 41 ((h 69 9) ≤ v4) c206_14 (by decide) rfl ⟨fun q3 => s_aload_n c206_41 rfl (s_getP 106 c206_42 f206_123 t12_63 sh_69 g_69_63 (by decide) (by decide) (s_iload_n c206_45 rfl (s_iload_n c206_46 rfl (s_iast c206_47 sh_106 ⟨(H.1 q3).1, s_aload_n c206_48 rfl (s_aload_n c206_49 rfl (s_getP 116 c206_50 f206_156 t12_79 sh_69 g_69_79 (by decide) (by decide) (s_iload_n c206_53 rfl (s_iald c206_54 sh_116 ⟨(H.1 q3).2.1, s_putI c206_55 f206_415 t12_84 n12_84 sh_69 (s_aload_n c206_58 rfl (s_aload_n c206_59 rfl (s_getP 115 c206_60 f206_153 t12_78 sh_69 g_69_78 (by decide) (by decide) (s_iload_n c206_63 rfl (s_iald c206_64 sh_115 ⟨(H.1 q3).2.2.1, s_putI c206_65 f206_412 t12_85 n12_85 sh_69 (s_iconst c206_68 rfl (s_istore c206_69 rfl ((H.1 q3).2.2.2)))⟩)))))⟩))))⟩)))), fun q3 => s_aload_n c206_17 rfl (s_getP 111 c206_18 f206_138 t12_68 sh_69 g_69_68 (by decide) (by decide) (s_iload c206_21 rfl (s_iconst c206_23 rfl (s_iast c206_24 sh_111 ⟨(H.2 q3).1, s_aload_n c206_25 rfl (s_getP 105 c206_26 f206_120 t12_54 sh_69 g_69_54 (by decide) (by decide) (s_iload c206_29 rfl (s_sipush c206_31 ⟨by decide, by decide⟩ (s_iast c206_34 sh_105 ⟨(H.2 q3).2.1, s_iinc c206_35 rfl rfl rfl (s_goto 8 c206_38 (by decide) ((H.2 q3).2.2))⟩))))⟩))))⟩)))
theorem b206_82 {d : Nat} {h : HP} {Q : PV → HP → Prop} {v1 v2 v3 v4 v5 : Int} (H : (((h 69 9) ≤ v5) → X d 206 71 [some (P 69), some (I v1), some (I v2), some (I v3), some (I v4), none] [] h Q) ∧ (¬ ((h 69 9) ≤ v5) → X d 206 91 [some (P 69), some (I v1), some (I v2), some (I v3), some (I v4), some (I v5)] [] h Q)) : X d 206 82 [some (P 69), some (I v1), some (I v2), some (I v3), some (I v4), some (I v5)] [] h Q :=
  s_iload c206_82 rfl (s_aload_n c206_84 rfl (s_getI c206_85 f206_180 t12_9 sh_69 (s_ifc 133 ((h 69 9) ≤ v5) c206_88 (by decide) rfl ⟨fun q4 => s_goto 71 c206_133 (by decide) (X_weak (A := [some (P 69), some (I v1), some (I v2), some (I v3), some (I v4), none]) (B := [some (P 69), some (I v1), some (I v2), some (I v3), some (I v4), some (I v5)]) ⟨Or.inl rfl, Or.inl rfl, Or.inl rfl, Or.inl rfl, Or.inl rfl, Or.inr ⟨rfl, _, rfl, rfl⟩, trivial⟩ (H.1 q4)), fun q4 => (H.2 q4)⟩)))
theorem b206_91 {d : Nat} {h : HP} {Q : PV → HP → Prop} {v1 v2 v3 v4 v5 : Int} (H : (0 ≤ v5 ∧ v5 < 8) ∧ ((((h 105 v5.toNat) ≤ 0) → X (d + 1) 206 127 [some (P 69), some (I v1), some (I v2), some (I v3), some (I v4), some (I v5)] [] h Q) ∧ (¬ ((h 105 v5.toNat) ≤ 0) → X d 205 0 [some (P 69), some (I v5)] [] h (fun r h' => X (d + 1) 206 107 [some (P 69), some (I v1), some (I v2), some (I v3), some (I v4), some (I v5)] [r] h' Q)))) : X (d + 1) 206 91 [some (P 69), some (I v1), some (I v2), some (I v3), some (I v4), some (I v5)] [] h Q :=
  s_aload_n c206_91 rfl (s_getP 105 c206_92 f206_120 t12_54 sh_69 g_69_54 (by decide) (by decide) (s_iload c206_95 rfl (s_iald c206_97 sh_105 ⟨H.1, s_if 127 ((h 105 v5.toNat) ≤ 0) c206_98 (by decide) rfl ⟨fun q5 => (H.2.1 q5), fun q5 => s_aload_n c206_101 rfl (s_iload c206_102 rfl (s_cVi c206_104 m206_418 F205 K205 rfl (Nat.le_of_ble_eq_true rfl) rfl S205_69 rfl (H.2.2 q5)))⟩⟩)))
-- WarmSideModel.fits(II)I
theorem c207_0 : cdA 207 0 = some (.iload_n 1) := by decide +kernel
theorem c207_1 : cdA 207 1 = some (.ifCond .lt 11) := by decide +kernel
theorem c207_4 : cdA 207 4 = some (.iload_n 1) := by decide +kernel
theorem c207_5 : cdA 207 5 = some (.aload_n 0) := by decide +kernel
theorem c207_6 : cdA 207 6 = some (.getfield 219) := by decide +kernel
theorem f207_219 : fldR (moN 207) 219 = some (12, 17) := by decide +kernel
theorem c207_9 : cdA 207 9 = some (.if_icmp .lt 9) := by decide +kernel
theorem c207_18 : cdA 207 18 = some (.iload_n 2) := by decide +kernel
theorem c207_19 : cdA 207 19 = some (.iconst 0) := by decide +kernel
theorem c207_20 : cdA 207 20 = some (.iconst 2) := by decide +kernel
theorem c207_21 : cdA 207 21 = some (.invokestatic 183) := by decide +kernel
theorem m207_183 : mthR (moN 207) 183 = 137 := by decide +kernel
theorem c207_113 : cdA 207 113 = some (.istore 7) := by decide +kernel
theorem c207_115 : cdA 207 115 = some (.iinc 8 1) := by decide +kernel
theorem c207_118 : cdA 207 118 = some (.goto (-58)) := by decide +kernel
theorem c207_12 : cdA 207 12 = some (.aload_n 0) := by decide +kernel
theorem c207_13 : cdA 207 13 = some (.iconst (-1)) := by decide +kernel
theorem c207_14 : cdA 207 14 = some (.invokevirtual 187) := by decide +kernel
theorem m207_187 : mthR (moN 207) 187 = 138 := by decide +kernel
theorem c207_121 : cdA 207 121 = some (.iload 7) := by decide +kernel
theorem c207_123 : cdA 207 123 = some (.ifCond .eq 13) := by decide +kernel
theorem c207_126 : cdA 207 126 = some (.iload 4) := by decide +kernel
theorem c207_128 : cdA 207 128 = some (.ifCond .ge 8) := by decide +kernel
theorem c207_131 : cdA 207 131 = some (.iload 6) := by decide +kernel
theorem c207_133 : cdA 207 133 = some (.goto 5) := by decide +kernel
theorem c207_136 : cdA 207 136 = some (.iload 4) := by decide +kernel
theorem c207_138 : cdA 207 138 = some (.istore 4) := by decide +kernel
theorem c207_140 : cdA 207 140 = some (.iload 7) := by decide +kernel
theorem c207_142 : cdA 207 142 = some (.ifCond .eq 8) := by decide +kernel
theorem c207_150 : cdA 207 150 = some (.iload 5) := by decide +kernel
theorem c207_145 : cdA 207 145 = some (.iload 6) := by decide +kernel
theorem c207_147 : cdA 207 147 = some (.goto 5) := by decide +kernel
theorem c207_152 : cdA 207 152 = some (.istore 5) := by decide +kernel
theorem c207_154 : cdA 207 154 = some (.iload_n 3) := by decide +kernel
theorem c207_155 : cdA 207 155 = some (.iload 7) := by decide +kernel
theorem c207_157 : cdA 207 157 = some (.ifCond .eq 7) := by decide +kernel
theorem c207_164 : cdA 207 164 = some (.iconst 0) := by decide +kernel
theorem c207_160 : cdA 207 160 = some (.iconst 1) := by decide +kernel
theorem c207_161 : cdA 207 161 = some (.goto 4) := by decide +kernel
theorem c207_165 : cdA 207 165 = some (.iadd) := by decide +kernel
theorem c207_166 : cdA 207 166 = some (.istore_n 3) := by decide +kernel
theorem c207_167 : cdA 207 167 = some (.iinc 6 1) := by decide +kernel
theorem c207_170 : cdA 207 170 = some (.goto (-123)) := by decide +kernel
theorem c207_17 : cdA 207 17 = some (.ireturn) := by decide +kernel
theorem R207 : mK 207 = 0 := by decide +kernel
theorem c207_24 : cdA 207 24 = some (.ifCond .ne 10) := by decide +kernel
theorem c207_34 : cdA 207 34 = some (.iconst 0) := by decide +kernel
theorem c207_35 : cdA 207 35 = some (.istore_n 3) := by decide +kernel
theorem c207_36 : cdA 207 36 = some (.bipush (-9)) := by decide +kernel
theorem c207_38 : cdA 207 38 = some (.istore 4) := by decide +kernel
theorem c207_40 : cdA 207 40 = some (.bipush (-9)) := by decide +kernel
theorem c207_42 : cdA 207 42 = some (.istore 5) := by decide +kernel
theorem c207_44 : cdA 207 44 = some (.iconst 1) := by decide +kernel
theorem c207_45 : cdA 207 45 = some (.istore 6) := by decide +kernel
theorem c207_27 : cdA 207 27 = some (.aload_n 0) := by decide +kernel
theorem c207_28 : cdA 207 28 = some (.bipush (-2)) := by decide +kernel
theorem c207_30 : cdA 207 30 = some (.invokevirtual 187) := by decide +kernel
theorem c207_33 : cdA 207 33 = some (.ireturn) := by decide +kernel
theorem c207_47 : cdA 207 47 = some (.iload 6) := by decide +kernel
theorem c207_49 : cdA 207 49 = some (.bipush 40) := by decide +kernel
theorem c207_51 : cdA 207 51 = some (.if_icmp .gt 122) := by decide +kernel
theorem c207_173 : cdA 207 173 = some (.iload_n 2) := by decide +kernel
theorem c207_174 : cdA 207 174 = some (.ifCond .ne 7) := by decide +kernel
theorem c207_181 : cdA 207 181 = some (.iload_n 2) := by decide +kernel
theorem c207_182 : cdA 207 182 = some (.iconst 1) := by decide +kernel
theorem c207_183 : cdA 207 183 = some (.if_icmp .ne 8) := by decide +kernel
theorem c207_191 : cdA 207 191 = some (.iload 5) := by decide +kernel
theorem c207_193 : cdA 207 193 = some (.ireturn) := by decide +kernel
theorem c207_186 : cdA 207 186 = some (.iload 4) := by decide +kernel
theorem c207_188 : cdA 207 188 = some (.goto 5) := by decide +kernel
theorem c207_177 : cdA 207 177 = some (.iload_n 3) := by decide +kernel
theorem c207_178 : cdA 207 178 = some (.goto 15) := by decide +kernel
theorem c207_54 : cdA 207 54 = some (.iconst 1) := by decide +kernel
theorem c207_55 : cdA 207 55 = some (.istore 7) := by decide +kernel
theorem c207_57 : cdA 207 57 = some (.iconst 0) := by decide +kernel
theorem c207_58 : cdA 207 58 = some (.istore 8) := by decide +kernel
theorem c207_60 : cdA 207 60 = some (.iload 8) := by decide +kernel
theorem c207_62 : cdA 207 62 = some (.aload_n 0) := by decide +kernel
theorem c207_63 : cdA 207 63 = some (.getfield 409) := by decide +kernel
theorem f207_409 : fldR (moN 207) 409 = some (12, 83) := by decide +kernel
theorem c207_66 : cdA 207 66 = some (.if_icmp .ge 55) := by decide +kernel
theorem c207_69 : cdA 207 69 = some (.iload 7) := by decide +kernel
theorem c207_71 : cdA 207 71 = some (.ifCond .eq 50) := by decide +kernel
theorem c207_74 : cdA 207 74 = some (.aload_n 0) := by decide +kernel
theorem c207_75 : cdA 207 75 = some (.iload 8) := by decide +kernel
theorem c207_77 : cdA 207 77 = some (.iload_n 1) := by decide +kernel
theorem c207_78 : cdA 207 78 = some (.iload 6) := by decide +kernel
theorem c207_80 : cdA 207 80 = some (.invokevirtual 421) := by decide +kernel
theorem m207_421 : mthR (moN 207) 421 = 209 := by decide +kernel
theorem F206 : mF 206 3 6 true := by unfold mF; decide +kernel
theorem K206 : ¬ mK 206 = 4 := by decide +kernel
theorem S206_69 : SH0[69]? = some (.inl (moN 206)) := by decide +kernel
theorem c207_83 : cdA 207 83 = some (.aload_n 0) := by decide +kernel
theorem c207_84 : cdA 207 84 = some (.getfield 162) := by decide +kernel
theorem f207_162 : fldR (moN 207) 162 = some (12, 81) := by decide +kernel
theorem c207_87 : cdA 207 87 = some (.iload 8) := by decide +kernel
theorem c207_89 : cdA 207 89 = some (.iaload) := by decide +kernel
theorem c207_90 : cdA 207 90 = some (.isub) := by decide +kernel
theorem c207_91 : cdA 207 91 = some (.istore 9) := by decide +kernel
theorem c207_93 : cdA 207 93 = some (.iload 9) := by decide +kernel
theorem c207_95 : cdA 207 95 = some (.aload_n 0) := by decide +kernel
theorem c207_96 : cdA 207 96 = some (.getfield 165) := by decide +kernel
theorem f207_165 : fldR (moN 207) 165 = some (12, 82) := by decide +kernel
theorem c207_99 : cdA 207 99 = some (.iload 8) := by decide +kernel
theorem c207_101 : cdA 207 101 = some (.iaload) := by decide +kernel
theorem c207_102 : cdA 207 102 = some (.ineg) := by decide +kernel
theorem c207_103 : cdA 207 103 = some (.aload_n 0) := by decide +kernel
theorem c207_104 : cdA 207 104 = some (.getfield 165) := by decide +kernel
theorem c207_107 : cdA 207 107 = some (.iload 8) := by decide +kernel
theorem c207_109 : cdA 207 109 = some (.iaload) := by decide +kernel
theorem c207_110 : cdA 207 110 = some (.invokestatic 183) := by decide +kernel
theorem b207_0 {d : Nat} {h : HP} {Q : PV → HP → Prop} {v1 v2 : Int} (H : ((v1 < 0) → X (d + 1) 207 12 [some (P 69), some (I v1), some (I v2), none, none, none, none, none, none, none] [] h Q) ∧ (¬ (v1 < 0) → (((v1 < (h 69 17)) → X d 134 0 [some (I v2), some (I 0), some (I 2)] [] h (fun r h' => X (d + 1) 207 24 [some (P 69), some (I v1), some (I v2), none, none, none, none, none, none, none] [r] h' Q)) ∧ (¬ (v1 < (h 69 17)) → X (d + 1) 207 12 [some (P 69), some (I v1), some (I v2), none, none, none, none, none, none, none] [] h Q)))) : X (d + 1) 207 0 [some (P 69), some (I v1), some (I v2), none, none, none, none, none, none, none] [] h Q :=
  s_iload_n c207_0 rfl (s_if 12 (v1 < 0) c207_1 (by decide) rfl ⟨fun q1 => (H.1 q1), fun q1 => s_iload_n c207_4 rfl (s_aload_n c207_5 rfl (s_getI c207_6 f207_219 t12_17 sh_69 (s_ifc 18 (v1 < (h 69 17)) c207_9 (by decide) rfl ⟨fun q2 => s_iload_n c207_18 rfl (s_iconst c207_19 rfl (s_iconst c207_20 rfl (s_cSi c207_21 m207_183 F134 K134 rfl (Nat.le_of_ble_eq_true rfl) rfl rfl ((H.2 q1).1 q2)))), fun q2 => ((H.2 q1).2 q2)⟩)))⟩)
theorem b207_113 {d : Nat} {h : HP} {Q : PV → HP → Prop} {v1 v2 v3 v4 v5 v6 v7 v8 v9 s0 : Int} (H : X d 207 60 [some (P 69), some (I v1), some (I v2), some (I v3), some (I v4), some (I v5), some (I v6), some (I s0), some (I (w32 (v8 + 1))), none] [] h Q) : X d 207 113 [some (P 69), some (I v1), some (I v2), some (I v3), some (I v4), some (I v5), some (I v6), some (I v7), some (I v8), some (I v9)] [I s0] h Q :=
  s_istore c207_113 rfl (s_iinc c207_115 rfl rfl rfl (s_goto 60 c207_118 (by decide) (X_weak (A := [some (P 69), some (I v1), some (I v2), some (I v3), some (I v4), some (I v5), some (I v6), some (I s0), some (I (w32 (v8 + 1))), none]) (B := [some (P 69), some (I v1), some (I v2), some (I v3), some (I v4), some (I v5), some (I v6), some (I s0), some (I (w32 (v8 + 1))), some (I v9)]) ⟨Or.inl rfl, Or.inl rfl, Or.inl rfl, Or.inl rfl, Or.inl rfl, Or.inl rfl, Or.inl rfl, Or.inl rfl, Or.inl rfl, Or.inr ⟨rfl, _, rfl, rfl⟩, trivial⟩ H)))
theorem b207_12 {d : Nat} {h : HP} {Q : PV → HP → Prop} {v1 v2 : Int} (H : X d 135 0 [some (P 69), some (I (-1))] [] h (fun r h' => X (d + 1) 207 17 [some (P 69), some (I v1), some (I v2), none, none, none, none, none, none, none] [r] h' Q)) : X (d + 1) 207 12 [some (P 69), some (I v1), some (I v2), none, none, none, none, none, none, none] [] h Q :=
  s_aload_n c207_12 rfl (s_iconst c207_13 rfl (s_cVi c207_14 m207_187 F135 K135 rfl (Nat.le_of_ble_eq_true rfl) rfl S135_69 rfl H))
theorem b207_121 {d : Nat} {h : HP} {Q : PV → HP → Prop} {v1 v2 v3 v4 v5 v6 v7 v8 : Int} (H : ((v7 = 0) → X d 207 136 [some (P 69), some (I v1), some (I v2), some (I v3), some (I v4), some (I v5), some (I v6), some (I v7), some (I v8), none] [] h Q) ∧ (¬ (v7 = 0) → (((0 ≤ v4) → X d 207 136 [some (P 69), some (I v1), some (I v2), some (I v3), some (I v4), some (I v5), some (I v6), some (I v7), some (I v8), none] [] h Q) ∧ (¬ (0 ≤ v4) → X d 207 138 [some (P 69), some (I v1), some (I v2), some (I v3), some (I v4), some (I v5), some (I v6), some (I v7), some (I v8), none] [I v6] h Q)))) : X d 207 121 [some (P 69), some (I v1), some (I v2), some (I v3), some (I v4), some (I v5), some (I v6), some (I v7), some (I v8), none] [] h Q :=
  s_iload c207_121 rfl (s_if 136 (v7 = 0) c207_123 (by decide) rfl ⟨fun q3 => (H.1 q3), fun q3 => s_iload c207_126 rfl (s_if 136 (0 ≤ v4) c207_128 (by decide) rfl ⟨fun q4 => ((H.2 q3).1 q4), fun q4 => s_iload c207_131 rfl (s_goto 138 c207_133 (by decide) (((H.2 q3).2 q4)))⟩)⟩)
theorem b207_136 {d : Nat} {h : HP} {Q : PV → HP → Prop} {v1 v2 v3 v4 v5 v6 v7 v8 : Int} (H : X d 207 138 [some (P 69), some (I v1), some (I v2), some (I v3), some (I v4), some (I v5), some (I v6), some (I v7), some (I v8), none] [I v4] h Q) : X d 207 136 [some (P 69), some (I v1), some (I v2), some (I v3), some (I v4), some (I v5), some (I v6), some (I v7), some (I v8), none] [] h Q :=
  s_iload c207_136 rfl (H)
theorem b207_138 {d : Nat} {h : HP} {Q : PV → HP → Prop} {v1 v2 v3 v4 v5 v6 v7 v8 s0 : Int} (H : ((v7 = 0) → X d 207 152 [some (P 69), some (I v1), some (I v2), some (I v3), some (I s0), some (I v5), some (I v6), some (I v7), some (I v8), none] [I v5] h Q) ∧ (¬ (v7 = 0) → X d 207 152 [some (P 69), some (I v1), some (I v2), some (I v3), some (I s0), some (I v5), some (I v6), some (I v7), some (I v8), none] [I v6] h Q)) : X d 207 138 [some (P 69), some (I v1), some (I v2), some (I v3), some (I v4), some (I v5), some (I v6), some (I v7), some (I v8), none] [I s0] h Q :=
  s_istore c207_138 rfl (s_iload c207_140 rfl (s_if 150 (v7 = 0) c207_142 (by decide) rfl ⟨fun q5 => s_iload c207_150 rfl ((H.1 q5)), fun q5 => s_iload c207_145 rfl (s_goto 152 c207_147 (by decide) ((H.2 q5)))⟩))
theorem b207_152 {d : Nat} {h : HP} {Q : PV → HP → Prop} {v1 v2 v3 v4 v5 v6 v7 v8 s0 : Int} (H : ((v7 = 0) → X d 207 165 [some (P 69), some (I v1), some (I v2), some (I v3), some (I v4), some (I s0), some (I v6), some (I v7), some (I v8), none] [I 0, I v3] h Q) ∧ (¬ (v7 = 0) → X d 207 165 [some (P 69), some (I v1), some (I v2), some (I v3), some (I v4), some (I s0), some (I v6), some (I v7), some (I v8), none] [I 1, I v3] h Q)) : X d 207 152 [some (P 69), some (I v1), some (I v2), some (I v3), some (I v4), some (I v5), some (I v6), some (I v7), some (I v8), none] [I s0] h Q :=
  s_istore c207_152 rfl (s_iload_n c207_154 rfl (s_iload c207_155 rfl (s_if 164 (v7 = 0) c207_157 (by decide) rfl ⟨fun q6 => s_iconst c207_164 rfl ((H.1 q6)), fun q6 => s_iconst c207_160 rfl (s_goto 165 c207_161 (by decide) ((H.2 q6)))⟩)))
theorem b207_165 {d : Nat} {h : HP} {Q : PV → HP → Prop} {v1 v2 v3 v4 v5 v6 v7 v8 s0 s1 : Int} (H : X d 207 47 [some (P 69), some (I v1), some (I v2), some (I (w32 (s0 + s1))), some (I v4), some (I v5), some (I (w32 (v6 + 1))), none, none, none] [] h Q) : X d 207 165 [some (P 69), some (I v1), some (I v2), some (I v3), some (I v4), some (I v5), some (I v6), some (I v7), some (I v8), none] [I s1, I s0] h Q :=
  s_iadd c207_165 (s_istore_n c207_166 rfl (s_iinc c207_167 rfl rfl rfl (s_goto 47 c207_170 (by decide) (X_weak (A := [some (P 69), some (I v1), some (I v2), some (I (w32 (s0 + s1))), some (I v4), some (I v5), some (I (w32 (v6 + 1))), none, none, none]) (B := [some (P 69), some (I v1), some (I v2), some (I (w32 (s0 + s1))), some (I v4), some (I v5), some (I (w32 (v6 + 1))), some (I v7), some (I v8), none]) ⟨Or.inl rfl, Or.inl rfl, Or.inl rfl, Or.inl rfl, Or.inl rfl, Or.inl rfl, Or.inl rfl, Or.inr ⟨rfl, _, rfl, rfl⟩, Or.inr ⟨rfl, _, rfl, rfl⟩, Or.inl rfl, trivial⟩ H))))
theorem b207_17 {d : Nat} {h : HP} {Q : PV → HP → Prop} {v1 v2 s0 : Int} (H : Q (I s0) h) : X d 207 17 [some (P 69), some (I v1), some (I v2), none, none, none, none, none, none, none] [I s0] h Q :=
  s_retI c207_17 R207 H
theorem b207_24 {d : Nat} {h : HP} {Q : PV → HP → Prop} {v1 v2 s0 : Int} (H : ((¬ s0 = 0) → X (d + 1) 207 47 [some (P 69), some (I v1), some (I v2), some (I 0), some (I (-9)), some (I (-9)), some (I 1), none, none, none] [] h Q) ∧ (¬ (¬ s0 = 0) → X d 135 0 [some (P 69), some (I (-2))] [] h (fun r h' => X (d + 1) 207 33 [some (P 69), some (I v1), some (I v2), none, none, none, none, none, none, none] [r] h' Q))) : X (d + 1) 207 24 [some (P 69), some (I v1), some (I v2), none, none, none, none, none, none, none] [I s0] h Q :=
  s_if 34 (¬ s0 = 0) c207_24 (by decide) rfl ⟨fun q7 => s_iconst c207_34 rfl (s_istore_n c207_35 rfl (s_bipush c207_36 ⟨by decide, by decide⟩ (s_istore c207_38 rfl (s_bipush c207_40 ⟨by decide, by decide⟩ (s_istore c207_42 rfl (s_iconst c207_44 rfl (s_istore c207_45 rfl ((H.1 q7))))))))), fun q7 => s_aload_n c207_27 rfl (s_bipush c207_28 ⟨by decide, by decide⟩ (s_cVi c207_30 m207_187 F135 K135 rfl (Nat.le_of_ble_eq_true rfl) rfl S135_69 rfl (H.2 q7)))⟩
theorem b207_33 {d : Nat} {h : HP} {Q : PV → HP → Prop} {v1 v2 s0 : Int} (H : Q (I s0) h) : X d 207 33 [some (P 69), some (I v1), some (I v2), none, none, none, none, none, none, none] [I s0] h Q :=
  s_retI c207_33 R207 H
theorem b207_47 {d : Nat} {h : HP} {Q : PV → HP → Prop} {v1 v2 v3 v4 v5 v6 : Int} (H : ((40 < v6) → (((¬ v2 = 0) → (((¬ v2 = 1) → Q (I v5) h) ∧ (¬ (¬ v2 = 1) → Q (I v4) h))) ∧ (¬ (¬ v2 = 0) → Q (I v3) h))) ∧ (¬ (40 < v6) → X d 207 60 [some (P 69), some (I v1), some (I v2), some (I v3), some (I v4), some (I v5), some (I v6), some (I 1), some (I 0), none] [] h Q)) : X d 207 47 [some (P 69), some (I v1), some (I v2), some (I v3), some (I v4), some (I v5), some (I v6), none, none, none] [] h Q :=
  s_iload c207_47 rfl (s_bipush c207_49 ⟨by decide, by decide⟩ (s_ifc 173 (40 < v6) c207_51 (by decide) rfl ⟨fun q8 => s_iload_n c207_173 rfl (s_if 181 (¬ v2 = 0) c207_174 (by decide) rfl ⟨fun q9 => s_iload_n c207_181 rfl (s_iconst c207_182 rfl (s_ifc 191 (¬ v2 = 1) c207_183 (by decide) rfl ⟨fun q10 => s_iload c207_191 rfl (s_retI c207_193 R207 (((H.1 q8).1 q9).1 q10)), fun q10 => s_iload c207_186 rfl (s_goto 193 c207_188 (by decide) (s_retI c207_193 R207 (((H.1 q8).1 q9).2 q10)))⟩)), fun q9 => s_iload_n c207_177 rfl (s_goto 193 c207_178 (by decide) (s_retI c207_193 R207 ((H.1 q8).2 q9)))⟩), fun q8 => s_iconst c207_54 rfl (s_istore c207_55 rfl (s_iconst c207_57 rfl (s_istore c207_58 rfl ((H.2 q8)))))⟩))
theorem b207_60 {d : Nat} {h : HP} {Q : PV → HP → Prop} {v1 v2 v3 v4 v5 v6 v7 v8 : Int} (H : (((h 69 83) ≤ v8) → X (d + 1) 207 121 [some (P 69), some (I v1), some (I v2), some (I v3), some (I v4), some (I v5), some (I v6), some (I v7), some (I v8), none] [] h Q) ∧ (¬ ((h 69 83) ≤ v8) → (((v7 = 0) → X (d + 1) 207 121 [some (P 69), some (I v1), some (I v2), some (I v3), some (I v4), some (I v5), some (I v6), some (I v7), some (I v8), none] [] h Q) ∧ (¬ (v7 = 0) → X d 206 0 [some (P 69), some (I v8), some (I v1), some (I v6), none, none] [] h (fun r h' => X (d + 1) 207 83 [some (P 69), some (I v1), some (I v2), some (I v3), some (I v4), some (I v5), some (I v6), some (I v7), some (I v8), none] [r] h' Q))))) : X (d + 1) 207 60 [some (P 69), some (I v1), some (I v2), some (I v3), some (I v4), some (I v5), some (I v6), some (I v7), some (I v8), none] [] h Q :=
  s_iload c207_60 rfl (s_aload_n c207_62 rfl (s_getI c207_63 f207_409 t12_83 sh_69 (s_ifc 121 ((h 69 83) ≤ v8) c207_66 (by decide) rfl ⟨fun q11 => (H.1 q11), fun q11 => s_iload c207_69 rfl (s_if 121 (v7 = 0) c207_71 (by decide) rfl ⟨fun q12 => ((H.2 q11).1 q12), fun q12 => s_aload_n c207_74 rfl (s_iload c207_75 rfl (s_iload_n c207_77 rfl (s_iload c207_78 rfl (s_cVi c207_80 m207_421 F206 K206 rfl (Nat.le_of_ble_eq_true rfl) rfl S206_69 rfl ((H.2 q11).2 q12)))))⟩)⟩)))
theorem b207_83 {d : Nat} {h : HP} {Q : PV → HP → Prop} {v1 v2 v3 v4 v5 v6 v7 v8 s0 : Int} (H : (0 ≤ v8 ∧ v8 < 10) ∧ ((0 ≤ v8 ∧ v8 < 10) ∧ ((0 ≤ v8 ∧ v8 < 10) ∧ X d 134 0 [some (I (w32 (s0 - (h 118 v8.toNat)))), some (I (w32 (-(h 119 v8.toNat)))), some (I (h 119 v8.toNat))] [] h (fun r h' => X (d + 1) 207 113 [some (P 69), some (I v1), some (I v2), some (I v3), some (I v4), some (I v5), some (I v6), some (I v7), some (I v8), some (I (w32 (s0 - (h 118 v8.toNat))))] [r] h' Q)))) : X (d + 1) 207 83 [some (P 69), some (I v1), some (I v2), some (I v3), some (I v4), some (I v5), some (I v6), some (I v7), some (I v8), none] [I s0] h Q :=
  s_aload_n c207_83 rfl (s_getP 118 c207_84 f207_162 t12_81 sh_69 g_69_81 (by decide) (by decide) (s_iload c207_87 rfl (s_iald c207_89 sh_118 ⟨H.1, s_isub c207_90 (s_istore c207_91 rfl (s_iload c207_93 rfl (s_aload_n c207_95 rfl (s_getP 119 c207_96 f207_165 t12_82 sh_69 g_69_82 (by decide) (by decide) (s_iload c207_99 rfl (s_iald c207_101 sh_119 ⟨H.2.1, s_ineg c207_102 (s_aload_n c207_103 rfl (s_getP 119 c207_104 f207_165 t12_82 sh_69 g_69_82 (by decide) (by decide) (s_iload c207_107 rfl (s_iald c207_109 sh_119 ⟨H.2.2.1, s_cSi c207_110 m207_183 F134 K134 rfl (Nat.le_of_ble_eq_true rfl) rfl rfl H.2.2.2⟩))))⟩))))))⟩)))
-- WarmSideModel.countOf(I)I
theorem c208_0 : cdA 208 0 = some (.iconst 0) := by decide +kernel
theorem c208_1 : cdA 208 1 = some (.istore_n 1) := by decide +kernel
theorem c208_2 : cdA 208 2 = some (.iconst 0) := by decide +kernel
theorem c208_3 : cdA 208 3 = some (.istore_n 2) := by decide +kernel
theorem c208_4 : cdA 208 4 = some (.iload_n 2) := by decide +kernel
theorem c208_5 : cdA 208 5 = some (.bipush 31) := by decide +kernel
theorem c208_7 : cdA 208 7 = some (.if_icmp .ge 17) := by decide +kernel
theorem c208_24 : cdA 208 24 = some (.iload_n 1) := by decide +kernel
theorem c208_25 : cdA 208 25 = some (.ireturn) := by decide +kernel
theorem R208 : mK 208 = 0 := by decide +kernel
theorem c208_10 : cdA 208 10 = some (.iload_n 1) := by decide +kernel
theorem c208_11 : cdA 208 11 = some (.iload_n 0) := by decide +kernel
theorem c208_12 : cdA 208 12 = some (.iload_n 2) := by decide +kernel
theorem c208_13 : cdA 208 13 = some (.ishr) := by decide +kernel
theorem c208_14 : cdA 208 14 = some (.iconst 1) := by decide +kernel
theorem c208_15 : cdA 208 15 = some (.iand) := by decide +kernel
theorem c208_16 : cdA 208 16 = some (.iadd) := by decide +kernel
theorem c208_17 : cdA 208 17 = some (.istore_n 1) := by decide +kernel
theorem c208_18 : cdA 208 18 = some (.iinc 2 1) := by decide +kernel
theorem c208_21 : cdA 208 21 = some (.goto (-17)) := by decide +kernel
theorem b208_0 {d : Nat} {h : HP} {Q : PV → HP → Prop} {v0 : Int} (H : X d 208 4 [some (I v0), some (I 0), some (I 0)] [] h Q) : X d 208 0 [some (I v0), none, none] [] h Q :=
  s_iconst c208_0 rfl (s_istore_n c208_1 rfl (s_iconst c208_2 rfl (s_istore_n c208_3 rfl (H))))
theorem b208_4 {d : Nat} {h : HP} {Q : PV → HP → Prop} {v0 v1 v2 : Int} (H : ((31 ≤ v2) → Q (I v1) h) ∧ (¬ (31 ≤ v2) → X d 208 4 [some (I v0), some (I (w32 (v1 + (bAnd (bShr v0 v2) 1)))), some (I (w32 (v2 + 1)))] [] h Q)) : X d 208 4 [some (I v0), some (I v1), some (I v2)] [] h Q :=
  s_iload_n c208_4 rfl (s_bipush c208_5 ⟨by decide, by decide⟩ (s_ifc 24 (31 ≤ v2) c208_7 (by decide) rfl ⟨fun q1 => s_iload_n c208_24 rfl (s_retI c208_25 R208 (H.1 q1)), fun q1 => s_iload_n c208_10 rfl (s_iload_n c208_11 rfl (s_iload_n c208_12 rfl (s_ishr c208_13 (s_iconst c208_14 rfl (s_iand c208_15 (s_iadd c208_16 (s_istore_n c208_17 rfl (s_iinc c208_18 rfl rfl rfl (s_goto 4 c208_21 (by decide) ((H.2 q1)))))))))))⟩))
-- WarmSideModel.places(II)V
theorem c209_0 : cdA 209 0 = some (.iload_n 1) := by decide +kernel
theorem c209_1 : cdA 209 1 = some (.aload_n 0) := by decide +kernel
theorem c209_2 : cdA 209 2 = some (.getfield 425) := by decide +kernel
theorem f209_425 : fldR (moN 209) 425 = some (12, 87) := by decide +kernel
theorem t12_87 : fcl 12 87 = 0 := by decide +kernel
theorem c209_5 : cdA 209 5 = some (.if_icmp .ne 136) := by decide +kernel
theorem c209_141 : cdA 209 141 = some (.iconst 0) := by decide +kernel
theorem c209_142 : cdA 209 142 = some (.istore_n 3) := by decide +kernel
theorem c209_8 : cdA 209 8 = some (.iconst 0) := by decide +kernel
theorem c209_9 : cdA 209 9 = some (.istore_n 3) := by decide +kernel
theorem c209_10 : cdA 209 10 = some (.iload_n 3) := by decide +kernel
theorem c209_11 : cdA 209 11 = some (.aload_n 0) := by decide +kernel
theorem c209_12 : cdA 209 12 = some (.getfield 425) := by decide +kernel
theorem c209_15 : cdA 209 15 = some (.if_icmp .ge 26) := by decide +kernel
theorem c209_41 : cdA 209 41 = some (.aload_n 0) := by decide +kernel
theorem c209_42 : cdA 209 42 = some (.invokevirtual 363) := by decide +kernel
theorem m209_363 : mthR (moN 209) 363 = 189 := by decide +kernel
theorem c209_18 : cdA 209 18 = some (.aload_n 0) := by decide +kernel
theorem c209_19 : cdA 209 19 = some (.getfield 132) := by decide +kernel
theorem f209_132 : fldR (moN 209) 132 = some (12, 66) := by decide +kernel
theorem c209_22 : cdA 209 22 = some (.aload_n 0) := by decide +kernel
theorem c209_23 : cdA 209 23 = some (.getfield 168) := by decide +kernel
theorem f209_168 : fldR (moN 209) 168 = some (12, 86) := by decide +kernel
theorem t12_86 : fcl 12 86 = 2 := by decide +kernel
theorem c209_26 : cdA 209 26 = some (.iload_n 3) := by decide +kernel
theorem c209_27 : cdA 209 27 = some (.iaload) := by decide +kernel
theorem c209_28 : cdA 209 28 = some (.aload_n 0) := by decide +kernel
theorem c209_29 : cdA 209 29 = some (.getfield 171) := by decide +kernel
theorem f209_171 : fldR (moN 209) 171 = some (12, 88) := by decide +kernel
theorem t12_88 : fcl 12 88 = 2 := by decide +kernel
theorem c209_32 : cdA 209 32 = some (.iload_n 3) := by decide +kernel
theorem c209_33 : cdA 209 33 = some (.iaload) := by decide +kernel
theorem c209_34 : cdA 209 34 = some (.iastore) := by decide +kernel
theorem c209_35 : cdA 209 35 = some (.iinc 3 1) := by decide +kernel
theorem c209_38 : cdA 209 38 = some (.goto (-28)) := by decide +kernel
theorem c209_103 : cdA 209 103 = some (.aload_n 0) := by decide +kernel
theorem c209_104 : cdA 209 104 = some (.iload_n 3) := by decide +kernel
theorem c209_105 : cdA 209 105 = some (.putfield 428) := by decide +kernel
theorem f209_428 : fldR (moN 209) 428 = some (12, 90) := by decide +kernel
theorem t12_90 : fcl 12 90 = 0 := by decide +kernel
theorem n12_90 : ffin 12 90 = false := by decide +kernel
theorem c209_108 : cdA 209 108 = some (.iconst 0) := by decide +kernel
theorem c209_109 : cdA 209 109 = some (.istore 4) := by decide +kernel
theorem c209_111 : cdA 209 111 = some (.iload 4) := by decide +kernel
theorem c209_113 : cdA 209 113 = some (.aload_n 0) := by decide +kernel
theorem c209_114 : cdA 209 114 = some (.getfield 425) := by decide +kernel
theorem c209_117 : cdA 209 117 = some (.if_icmp .ge 23) := by decide +kernel
theorem c209_140 : cdA 209 140 = some (.return_) := by decide +kernel
theorem R209 : mK 209 = 4 := by decide +kernel
theorem c209_120 : cdA 209 120 = some (.aload_n 0) := by decide +kernel
theorem c209_121 : cdA 209 121 = some (.getfield 174) := by decide +kernel
theorem f209_174 : fldR (moN 209) 174 = some (12, 89) := by decide +kernel
theorem t12_89 : fcl 12 89 = 2 := by decide +kernel
theorem c209_124 : cdA 209 124 = some (.iload 4) := by decide +kernel
theorem c209_126 : cdA 209 126 = some (.aload_n 0) := by decide +kernel
theorem c209_127 : cdA 209 127 = some (.getfield 171) := by decide +kernel
theorem c209_130 : cdA 209 130 = some (.iload 4) := by decide +kernel
theorem c209_132 : cdA 209 132 = some (.iaload) := by decide +kernel
theorem c209_133 : cdA 209 133 = some (.iastore) := by decide +kernel
theorem c209_134 : cdA 209 134 = some (.iinc 4 1) := by decide +kernel
theorem c209_137 : cdA 209 137 = some (.goto (-26)) := by decide +kernel
theorem c209_143 : cdA 209 143 = some (.iload_n 3) := by decide +kernel
theorem c209_144 : cdA 209 144 = some (.aload_n 0) := by decide +kernel
theorem c209_145 : cdA 209 145 = some (.getfield 180) := by decide +kernel
theorem f209_180 : fldR (moN 209) 180 = some (12, 9) := by decide +kernel
theorem c209_148 : cdA 209 148 = some (.if_icmp .ge 39) := by decide +kernel
theorem c209_187 : cdA 209 187 = some (.return_) := by decide +kernel
theorem c209_151 : cdA 209 151 = some (.iload_n 2) := by decide +kernel
theorem c209_152 : cdA 209 152 = some (.iload_n 3) := by decide +kernel
theorem c209_153 : cdA 209 153 = some (.ishr) := by decide +kernel
theorem c209_154 : cdA 209 154 = some (.iconst 1) := by decide +kernel
theorem c209_155 : cdA 209 155 = some (.iand) := by decide +kernel
theorem c209_156 : cdA 209 156 = some (.iconst 1) := by decide +kernel
theorem c209_157 : cdA 209 157 = some (.if_icmp .ne 24) := by decide +kernel
theorem c209_160 : cdA 209 160 = some (.aload_n 0) := by decide +kernel
theorem c209_161 : cdA 209 161 = some (.getfield 171) := by decide +kernel
theorem c209_164 : cdA 209 164 = some (.iload_n 1) := by decide +kernel
theorem c209_165 : cdA 209 165 = some (.iload_n 3) := by decide +kernel
theorem c209_166 : cdA 209 166 = some (.iastore) := by decide +kernel
theorem c209_167 : cdA 209 167 = some (.aload_n 0) := by decide +kernel
theorem c209_168 : cdA 209 168 = some (.iload_n 1) := by decide +kernel
theorem c209_169 : cdA 209 169 = some (.iconst 1) := by decide +kernel
theorem c209_170 : cdA 209 170 = some (.iadd) := by decide +kernel
theorem c209_171 : cdA 209 171 = some (.iload_n 2) := by decide +kernel
theorem c209_172 : cdA 209 172 = some (.iconst 1) := by decide +kernel
theorem c209_173 : cdA 209 173 = some (.iload_n 3) := by decide +kernel
theorem c209_174 : cdA 209 174 = some (.ishl) := by decide +kernel
theorem c209_175 : cdA 209 175 = some (.iconst (-1)) := by decide +kernel
theorem c209_176 : cdA 209 176 = some (.ixor) := by decide +kernel
theorem c209_177 : cdA 209 177 = some (.iand) := by decide +kernel
theorem c209_178 : cdA 209 178 = some (.invokevirtual 431) := by decide +kernel
theorem m209_431 : mthR (moN 209) 431 = 212 := by decide +kernel
theorem F209 : mF 209 2 5 true := by unfold mF; decide +kernel
theorem K209 : mK 209 = 4 := by decide +kernel
theorem S209_69 : SH0[69]? = some (.inl (moN 209)) := by decide +kernel
theorem c209_181 : cdA 209 181 = some (.iinc 3 1) := by decide +kernel
theorem c209_184 : cdA 209 184 = some (.goto (-41)) := by decide +kernel
theorem c209_45 : cdA 209 45 = some (.iconst 0) := by decide +kernel
theorem c209_46 : cdA 209 46 = some (.istore_n 3) := by decide +kernel
theorem c209_47 : cdA 209 47 = some (.iconst 0) := by decide +kernel
theorem c209_48 : cdA 209 48 = some (.istore 4) := by decide +kernel
theorem c209_50 : cdA 209 50 = some (.iload 4) := by decide +kernel
theorem c209_52 : cdA 209 52 = some (.aload_n 0) := by decide +kernel
theorem c209_53 : cdA 209 53 = some (.getfield 180) := by decide +kernel
theorem c209_56 : cdA 209 56 = some (.if_icmp .ge 32) := by decide +kernel
theorem c209_88 : cdA 209 88 = some (.aload_n 0) := by decide +kernel
theorem c209_89 : cdA 209 89 = some (.getfield 428) := by decide +kernel
theorem c209_92 : cdA 209 92 = some (.ifCond .lt 11) := by decide +kernel
theorem c209_95 : cdA 209 95 = some (.iload_n 3) := by decide +kernel
theorem c209_96 : cdA 209 96 = some (.aload_n 0) := by decide +kernel
theorem c209_97 : cdA 209 97 = some (.getfield 428) := by decide +kernel
theorem c209_100 : cdA 209 100 = some (.if_icmp .ge 40) := by decide +kernel
theorem c209_59 : cdA 209 59 = some (.aload_n 0) := by decide +kernel
theorem c209_60 : cdA 209 60 = some (.getfield 120) := by decide +kernel
theorem f209_120 : fldR (moN 209) 120 = some (12, 54) := by decide +kernel
theorem c209_63 : cdA 209 63 = some (.iload 4) := by decide +kernel
theorem c209_65 : cdA 209 65 = some (.iaload) := by decide +kernel
theorem c209_66 : cdA 209 66 = some (.iload_n 3) := by decide +kernel
theorem c209_67 : cdA 209 67 = some (.if_icmp .le 13) := by decide +kernel
theorem c209_80 : cdA 209 80 = some (.iload_n 3) := by decide +kernel
theorem c209_70 : cdA 209 70 = some (.aload_n 0) := by decide +kernel
theorem c209_71 : cdA 209 71 = some (.getfield 120) := by decide +kernel
theorem c209_74 : cdA 209 74 = some (.iload 4) := by decide +kernel
theorem c209_76 : cdA 209 76 = some (.iaload) := by decide +kernel
theorem c209_77 : cdA 209 77 = some (.goto 4) := by decide +kernel
theorem c209_81 : cdA 209 81 = some (.istore_n 3) := by decide +kernel
theorem c209_82 : cdA 209 82 = some (.iinc 4 1) := by decide +kernel
theorem c209_85 : cdA 209 85 = some (.goto (-35)) := by decide +kernel
theorem b209_0 {d : Nat} {h : HP} {Q : PV → HP → Prop} {v1 v2 : Int} (H : ((¬ v1 = (h 69 87)) → X d 209 143 [some (P 69), some (I v1), some (I v2), some (I 0), none] [] h Q) ∧ (¬ (¬ v1 = (h 69 87)) → X d 209 10 [some (P 69), some (I v1), some (I v2), some (I 0), none] [] h Q)) : X d 209 0 [some (P 69), some (I v1), some (I v2), none, none] [] h Q :=
  s_iload_n c209_0 rfl (s_aload_n c209_1 rfl (s_getI c209_2 f209_425 t12_87 sh_69 (s_ifc 141 (¬ v1 = (h 69 87)) c209_5 (by decide) rfl ⟨fun q1 => s_iconst c209_141 rfl (s_istore_n c209_142 rfl ((H.1 q1))), fun q1 => s_iconst c209_8 rfl (s_istore_n c209_9 rfl ((H.2 q1)))⟩)))
theorem b209_10 {d : Nat} {h : HP} {Q : PV → HP → Prop} {v1 v2 v3 : Int} (H : (((h 69 87) ≤ v3) → X d 186 0 [some (P 69), none, none] [] h (fun _ h' => X (d + 1) 209 45 [some (P 69), some (I v1), some (I v2), some (I v3), none] [] h' Q)) ∧ (¬ ((h 69 87) ≤ v3) → ((0 ≤ v3 ∧ v3 < 3) ∧ ((0 ≤ v3 ∧ v3 < 3) ∧ ((0 ≤ (h 120 v3.toNat) ∧ (h 120 v3.toNat) < 8) ∧ X (d + 1) 209 10 [some (P 69), some (I v1), some (I v2), some (I (w32 (v3 + 1))), none] [] (up2 h 109 (h 120 v3.toNat).toNat (h 121 v3.toNat)) Q))))) : X (d + 1) 209 10 [some (P 69), some (I v1), some (I v2), some (I v3), none] [] h Q :=
  s_iload_n c209_10 rfl (s_aload_n c209_11 rfl (s_getI c209_12 f209_425 t12_87 sh_69 (s_ifc 41 ((h 69 87) ≤ v3) c209_15 (by decide) rfl ⟨fun q2 => s_aload_n c209_41 rfl (s_cVv c209_42 m209_363 F186 K186 rfl (Nat.le_of_ble_eq_true rfl) rfl S186_69 rfl (H.1 q2)), fun q2 => s_aload_n c209_18 rfl (s_getP 109 c209_19 f209_132 t12_66 sh_69 g_69_66 (by decide) (by decide) (s_aload_n c209_22 rfl (s_getP 120 c209_23 f209_168 t12_86 sh_69 g_69_86 (by decide) (by decide) (s_iload_n c209_26 rfl (s_iald c209_27 sh_120 ⟨(H.2 q2).1, s_aload_n c209_28 rfl (s_getP 121 c209_29 f209_171 t12_88 sh_69 g_69_88 (by decide) (by decide) (s_iload_n c209_32 rfl (s_iald c209_33 sh_121 ⟨(H.2 q2).2.1, s_iast c209_34 sh_109 ⟨(H.2 q2).2.2.1, s_iinc c209_35 rfl rfl rfl (s_goto 10 c209_38 (by decide) ((H.2 q2).2.2.2))⟩⟩)))⟩)))))⟩)))
theorem b209_103 {d : Nat} {h : HP} {Q : PV → HP → Prop} {v1 v2 v3 v4 : Int} (H : X d 209 111 [some (P 69), some (I v1), some (I v2), some (I v3), some (I 0)] [] (up2 h 69 90 v3) Q) : X d 209 103 [some (P 69), some (I v1), some (I v2), some (I v3), some (I v4)] [] h Q :=
  s_aload_n c209_103 rfl (s_iload_n c209_104 rfl (s_putI c209_105 f209_428 t12_90 n12_90 sh_69 (s_iconst c209_108 rfl (s_istore c209_109 rfl (H)))))
theorem b209_111 {d : Nat} {h : HP} {Q : PV → HP → Prop} {v1 v2 v3 v4 : Int} (H : (((h 69 87) ≤ v4) → Q (I 0) h) ∧ (¬ ((h 69 87) ≤ v4) → ((0 ≤ v4 ∧ v4 < 3) ∧ ((0 ≤ v4 ∧ v4 < 3) ∧ X d 209 111 [some (P 69), some (I v1), some (I v2), some (I v3), some (I (w32 (v4 + 1)))] [] (up2 h 122 v4.toNat (h 121 v4.toNat)) Q)))) : X d 209 111 [some (P 69), some (I v1), some (I v2), some (I v3), some (I v4)] [] h Q :=
  s_iload c209_111 rfl (s_aload_n c209_113 rfl (s_getI c209_114 f209_425 t12_87 sh_69 (s_ifc 140 ((h 69 87) ≤ v4) c209_117 (by decide) rfl ⟨fun q3 => s_retV c209_140 R209 (H.1 q3), fun q3 => s_aload_n c209_120 rfl (s_getP 122 c209_121 f209_174 t12_89 sh_69 g_69_89 (by decide) (by decide) (s_iload c209_124 rfl (s_aload_n c209_126 rfl (s_getP 121 c209_127 f209_171 t12_88 sh_69 g_69_88 (by decide) (by decide) (s_iload c209_130 rfl (s_iald c209_132 sh_121 ⟨(H.2 q3).1, s_iast c209_133 sh_122 ⟨(H.2 q3).2.1, s_iinc c209_134 rfl rfl rfl (s_goto 111 c209_137 (by decide) ((H.2 q3).2.2))⟩⟩))))))⟩)))
theorem b209_143 {d : Nat} {h : HP} {Q : PV → HP → Prop} {v1 v2 v3 : Int} (H : (((h 69 9) ≤ v3) → Q (I 0) h) ∧ (¬ ((h 69 9) ≤ v3) → (((¬ (bAnd (bShr v2 v3) 1) = 1) → X (d + 1) 209 181 [some (P 69), some (I v1), some (I v2), some (I v3), none] [] h Q) ∧ (¬ (¬ (bAnd (bShr v2 v3) 1) = 1) → ((0 ≤ v1 ∧ v1 < 3) ∧ X d 209 0 [some (P 69), some (I (w32 (v1 + 1))), some (I (bAnd v2 (bXor (bShl 1 v3) (-1)))), none, none] [] (up2 h 121 v1.toNat v3) (fun _ h' => X (d + 1) 209 181 [some (P 69), some (I v1), some (I v2), some (I v3), none] [] h' Q)))))) : X (d + 1) 209 143 [some (P 69), some (I v1), some (I v2), some (I v3), none] [] h Q :=
  s_iload_n c209_143 rfl (s_aload_n c209_144 rfl (s_getI c209_145 f209_180 t12_9 sh_69 (s_ifc 187 ((h 69 9) ≤ v3) c209_148 (by decide) rfl ⟨fun q4 => s_retV c209_187 R209 (H.1 q4), fun q4 => s_iload_n c209_151 rfl (s_iload_n c209_152 rfl (s_ishr c209_153 (s_iconst c209_154 rfl (s_iand c209_155 (s_iconst c209_156 rfl (s_ifc 181 (¬ (bAnd (bShr v2 v3) 1) = 1) c209_157 (by decide) rfl ⟨fun q5 => ((H.2 q4).1 q5), fun q5 => s_aload_n c209_160 rfl (s_getP 121 c209_161 f209_171 t12_88 sh_69 g_69_88 (by decide) (by decide) (s_iload_n c209_164 rfl (s_iload_n c209_165 rfl (s_iast c209_166 sh_121 ⟨((H.2 q4).2 q5).1, s_aload_n c209_167 rfl (s_iload_n c209_168 rfl (s_iconst c209_169 rfl (s_iadd c209_170 (s_iload_n c209_171 rfl (s_iconst c209_172 rfl (s_iload_n c209_173 rfl (s_ishl c209_174 (s_iconst c209_175 rfl (s_ixor c209_176 (s_iand c209_177 (s_cVv c209_178 m209_431 F209 K209 rfl (Nat.le_of_ble_eq_true rfl) rfl S209_69 rfl ((H.2 q4).2 q5).2)))))))))))⟩))))⟩))))))⟩)))
theorem b209_181 {d : Nat} {h : HP} {Q : PV → HP → Prop} {v1 v2 v3 : Int} (H : X d 209 143 [some (P 69), some (I v1), some (I v2), some (I (w32 (v3 + 1))), none] [] h Q) : X d 209 181 [some (P 69), some (I v1), some (I v2), some (I v3), none] [] h Q :=
  s_iinc c209_181 rfl rfl rfl (s_goto 143 c209_184 (by decide) (H))
theorem b209_45 {d : Nat} {h : HP} {Q : PV → HP → Prop} {v1 v2 v3 : Int} (H : X d 209 50 [some (P 69), some (I v1), some (I v2), some (I 0), some (I 0)] [] h Q) : X d 209 45 [some (P 69), some (I v1), some (I v2), some (I v3), none] [] h Q :=
  s_iconst c209_45 rfl (s_istore_n c209_46 rfl (s_iconst c209_47 rfl (s_istore c209_48 rfl (H))))
theorem b209_50 {d : Nat} {h : HP} {Q : PV → HP → Prop} {v1 v2 v3 v4 : Int} (H : (((h 69 9) ≤ v4) → ((((h 69 90) < 0) → X d 209 103 [some (P 69), some (I v1), some (I v2), some (I v3), some (I v4)] [] h Q) ∧ (¬ ((h 69 90) < 0) → ((((h 69 90) ≤ v3) → Q (I 0) h) ∧ (¬ ((h 69 90) ≤ v3) → X d 209 103 [some (P 69), some (I v1), some (I v2), some (I v3), some (I v4)] [] h Q))))) ∧ (¬ ((h 69 9) ≤ v4) → ((0 ≤ v4 ∧ v4 < 8) ∧ ((((h 105 v4.toNat) ≤ v3) → X d 209 81 [some (P 69), some (I v1), some (I v2), some (I v3), some (I v4)] [I v3] h Q) ∧ (¬ ((h 105 v4.toNat) ≤ v3) → ((0 ≤ v4 ∧ v4 < 8) ∧ X d 209 81 [some (P 69), some (I v1), some (I v2), some (I v3), some (I v4)] [I (h 105 v4.toNat)] h Q)))))) : X d 209 50 [some (P 69), some (I v1), some (I v2), some (I v3), some (I v4)] [] h Q :=
  s_iload c209_50 rfl (s_aload_n c209_52 rfl (s_getI c209_53 f209_180 t12_9 sh_69 (s_ifc 88 ((h 69 9) ≤ v4) c209_56 (by decide) rfl ⟨fun q6 => s_aload_n c209_88 rfl (s_getI c209_89 f209_428 t12_90 sh_69 (s_if 103 ((h 69 90) < 0) c209_92 (by decide) rfl ⟨fun q7 => ((H.1 q6).1 q7), fun q7 => s_iload_n c209_95 rfl (s_aload_n c209_96 rfl (s_getI c209_97 f209_428 t12_90 sh_69 (s_ifc 140 ((h 69 90) ≤ v3) c209_100 (by decide) rfl ⟨fun q8 => s_retV c209_140 R209 (((H.1 q6).2 q7).1 q8), fun q8 => (((H.1 q6).2 q7).2 q8)⟩)))⟩)), fun q6 => s_aload_n c209_59 rfl (s_getP 105 c209_60 f209_120 t12_54 sh_69 g_69_54 (by decide) (by decide) (s_iload c209_63 rfl (s_iald c209_65 sh_105 ⟨(H.2 q6).1, s_iload_n c209_66 rfl (s_ifc 80 ((h 105 v4.toNat) ≤ v3) c209_67 (by decide) rfl ⟨fun q9 => s_iload_n c209_80 rfl (((H.2 q6).2.1 q9)), fun q9 => s_aload_n c209_70 rfl (s_getP 105 c209_71 f209_120 t12_54 sh_69 g_69_54 (by decide) (by decide) (s_iload c209_74 rfl (s_iald c209_76 sh_105 ⟨((H.2 q6).2.2 q9).1, s_goto 81 c209_77 (by decide) (((H.2 q6).2.2 q9).2)⟩)))⟩)⟩)))⟩)))
theorem b209_81 {d : Nat} {h : HP} {Q : PV → HP → Prop} {v1 v2 v3 v4 s0 : Int} (H : X d 209 50 [some (P 69), some (I v1), some (I v2), some (I s0), some (I (w32 (v4 + 1)))] [] h Q) : X d 209 81 [some (P 69), some (I v1), some (I v2), some (I v3), some (I v4)] [I s0] h Q :=
  s_istore_n c209_81 rfl (s_iinc c209_82 rfl rfl rfl (s_goto 50 c209_85 (by decide) (H)))
-- WarmSideModel.place(IIII)I
theorem c210_0 : cdA 210 0 = some (.iload_n 1) := by decide +kernel
theorem c210_1 : cdA 210 1 = some (.invokestatic 199) := by decide +kernel
theorem m210_199 : mthR (moN 210) 199 = 140 := by decide +kernel
theorem c210_124 : cdA 210 124 = some (.iinc 5 1) := by decide +kernel
theorem c210_127 : cdA 210 127 = some (.goto (-43)) := by decide +kernel
theorem c210_142 : cdA 210 142 = some (.aload_n 0) := by decide +kernel
theorem c210_143 : cdA 210 143 = some (.getfield 428) := by decide +kernel
theorem f210_428 : fldR (moN 210) 428 = some (12, 90) := by decide +kernel
theorem c210_146 : cdA 210 146 = some (.ifCond .lt 8) := by decide +kernel
theorem c210_154 : cdA 210 154 = some (.aload_n 0) := by decide +kernel
theorem c210_155 : cdA 210 155 = some (.getfield 428) := by decide +kernel
theorem c210_158 : cdA 210 158 = some (.ireturn) := by decide +kernel
theorem R210 : mK 210 = 0 := by decide +kernel
theorem c210_149 : cdA 210 149 = some (.iload 4) := by decide +kernel
theorem c210_151 : cdA 210 151 = some (.ifCond .ne 8) := by decide +kernel
theorem c210_159 : cdA 210 159 = some (.iload 4) := by decide +kernel
theorem c210_161 : cdA 210 161 = some (.aload_n 0) := by decide +kernel
theorem c210_162 : cdA 210 162 = some (.getfield 425) := by decide +kernel
theorem f210_425 : fldR (moN 210) 425 = some (12, 87) := by decide +kernel
theorem c210_165 : cdA 210 165 = some (.if_icmp .gt 15) := by decide +kernel
theorem c210_180 : cdA 210 180 = some (.bipush (-9)) := by decide +kernel
theorem c210_182 : cdA 210 182 = some (.ireturn) := by decide +kernel
theorem c210_168 : cdA 210 168 = some (.aload_n 0) := by decide +kernel
theorem c210_169 : cdA 210 169 = some (.getfield 174) := by decide +kernel
theorem f210_174 : fldR (moN 210) 174 = some (12, 89) := by decide +kernel
theorem c210_172 : cdA 210 172 = some (.iload 4) := by decide +kernel
theorem c210_174 : cdA 210 174 = some (.iconst 1) := by decide +kernel
theorem c210_175 : cdA 210 175 = some (.isub) := by decide +kernel
theorem c210_176 : cdA 210 176 = some (.iaload) := by decide +kernel
theorem c210_177 : cdA 210 177 = some (.goto 5) := by decide +kernel
theorem c210_33 : cdA 210 33 = some (.aload_n 0) := by decide +kernel
theorem c210_34 : cdA 210 34 = some (.iconst (-1)) := by decide +kernel
theorem c210_35 : cdA 210 35 = some (.invokevirtual 187) := by decide +kernel
theorem m210_187 : mthR (moN 210) 187 = 138 := by decide +kernel
theorem c210_38 : cdA 210 38 = some (.ireturn) := by decide +kernel
theorem c210_4 : cdA 210 4 = some (.ifCond .eq 29) := by decide +kernel
theorem c210_7 : cdA 210 7 = some (.iload_n 2) := by decide +kernel
theorem c210_8 : cdA 210 8 = some (.ifCond .lt 25) := by decide +kernel
theorem c210_11 : cdA 210 11 = some (.iload_n 2) := by decide +kernel
theorem c210_12 : cdA 210 12 = some (.aload_n 0) := by decide +kernel
theorem c210_13 : cdA 210 13 = some (.getfield 229) := by decide +kernel
theorem f210_229 : fldR (moN 210) 229 = some (12, 26) := by decide +kernel
theorem c210_16 : cdA 210 16 = some (.ishr) := by decide +kernel
theorem c210_17 : cdA 210 17 = some (.ifCond .ne 16) := by decide +kernel
theorem c210_20 : cdA 210 20 = some (.iload_n 3) := by decide +kernel
theorem c210_21 : cdA 210 21 = some (.ifCond .lt 12) := by decide +kernel
theorem c210_24 : cdA 210 24 = some (.iload_n 3) := by decide +kernel
theorem c210_25 : cdA 210 25 = some (.aload_n 0) := by decide +kernel
theorem c210_26 : cdA 210 26 = some (.getfield 180) := by decide +kernel
theorem f210_180 : fldR (moN 210) 180 = some (12, 9) := by decide +kernel
theorem c210_29 : cdA 210 29 = some (.ishr) := by decide +kernel
theorem c210_30 : cdA 210 30 = some (.ifCond .eq 9) := by decide +kernel
theorem c210_39 : cdA 210 39 = some (.iload 4) := by decide +kernel
theorem c210_41 : cdA 210 41 = some (.iconst 0) := by decide +kernel
theorem c210_42 : cdA 210 42 = some (.iconst 3) := by decide +kernel
theorem c210_43 : cdA 210 43 = some (.invokestatic 183) := by decide +kernel
theorem m210_183 : mthR (moN 210) 183 = 137 := by decide +kernel
theorem c210_46 : cdA 210 46 = some (.ifCond .ne 10) := by decide +kernel
theorem c210_56 : cdA 210 56 = some (.iload_n 2) := by decide +kernel
theorem c210_57 : cdA 210 57 = some (.invokestatic 435) := by decide +kernel
theorem m210_435 : mthR (moN 210) 435 = 211 := by decide +kernel
theorem F208 : mF 208 1 3 false := by unfold mF; decide +kernel
theorem K208 : ¬ mK 208 = 4 := by decide +kernel
theorem c210_49 : cdA 210 49 = some (.aload_n 0) := by decide +kernel
theorem c210_50 : cdA 210 50 = some (.bipush (-2)) := by decide +kernel
theorem c210_52 : cdA 210 52 = some (.invokevirtual 187) := by decide +kernel
theorem c210_55 : cdA 210 55 = some (.ireturn) := by decide +kernel
theorem c210_60 : cdA 210 60 = some (.iconst 3) := by decide +kernel
theorem c210_61 : cdA 210 61 = some (.if_icmp .le 10) := by decide +kernel
theorem c210_71 : cdA 210 71 = some (.aload_n 0) := by decide +kernel
theorem c210_72 : cdA 210 72 = some (.iload_n 1) := by decide +kernel
theorem c210_73 : cdA 210 73 = some (.invokevirtual 328) := by decide +kernel
theorem m210_328 : mthR (moN 210) 328 = 180 := by decide +kernel
theorem c210_64 : cdA 210 64 = some (.aload_n 0) := by decide +kernel
theorem c210_65 : cdA 210 65 = some (.bipush (-6)) := by decide +kernel
theorem c210_67 : cdA 210 67 = some (.invokevirtual 187) := by decide +kernel
theorem c210_70 : cdA 210 70 = some (.ireturn) := by decide +kernel
theorem c210_76 : cdA 210 76 = some (.aload_n 0) := by decide +kernel
theorem c210_77 : cdA 210 77 = some (.iconst 0) := by decide +kernel
theorem c210_78 : cdA 210 78 = some (.putfield 425) := by decide +kernel
theorem n12_87 : ffin 12 87 = false := by decide +kernel
theorem c210_81 : cdA 210 81 = some (.iconst 0) := by decide +kernel
theorem c210_82 : cdA 210 82 = some (.istore 5) := by decide +kernel
theorem c210_84 : cdA 210 84 = some (.iload 5) := by decide +kernel
theorem c210_86 : cdA 210 86 = some (.aload_n 0) := by decide +kernel
theorem c210_87 : cdA 210 87 = some (.getfield 229) := by decide +kernel
theorem c210_90 : cdA 210 90 = some (.if_icmp .ge 40) := by decide +kernel
theorem c210_130 : cdA 210 130 = some (.aload_n 0) := by decide +kernel
theorem c210_131 : cdA 210 131 = some (.bipush (-9)) := by decide +kernel
theorem c210_133 : cdA 210 133 = some (.putfield 428) := by decide +kernel
theorem c210_136 : cdA 210 136 = some (.aload_n 0) := by decide +kernel
theorem c210_137 : cdA 210 137 = some (.iconst 0) := by decide +kernel
theorem c210_138 : cdA 210 138 = some (.iload_n 3) := by decide +kernel
theorem c210_139 : cdA 210 139 = some (.invokevirtual 431) := by decide +kernel
theorem m210_431 : mthR (moN 210) 431 = 212 := by decide +kernel
theorem c210_93 : cdA 210 93 = some (.iload_n 2) := by decide +kernel
theorem c210_94 : cdA 210 94 = some (.iload 5) := by decide +kernel
theorem c210_96 : cdA 210 96 = some (.ishr) := by decide +kernel
theorem c210_97 : cdA 210 97 = some (.iconst 1) := by decide +kernel
theorem c210_98 : cdA 210 98 = some (.iand) := by decide +kernel
theorem c210_99 : cdA 210 99 = some (.iconst 1) := by decide +kernel
theorem c210_100 : cdA 210 100 = some (.if_icmp .ne 24) := by decide +kernel
theorem c210_103 : cdA 210 103 = some (.aload_n 0) := by decide +kernel
theorem c210_104 : cdA 210 104 = some (.getfield 168) := by decide +kernel
theorem f210_168 : fldR (moN 210) 168 = some (12, 86) := by decide +kernel
theorem c210_107 : cdA 210 107 = some (.aload_n 0) := by decide +kernel
theorem c210_108 : cdA 210 108 = some (.getfield 425) := by decide +kernel
theorem c210_111 : cdA 210 111 = some (.iload 5) := by decide +kernel
theorem c210_113 : cdA 210 113 = some (.iastore) := by decide +kernel
theorem c210_114 : cdA 210 114 = some (.aload_n 0) := by decide +kernel
theorem c210_115 : cdA 210 115 = some (.dup) := by decide +kernel
theorem c210_116 : cdA 210 116 = some (.getfield 425) := by decide +kernel
theorem c210_119 : cdA 210 119 = some (.iconst 1) := by decide +kernel
theorem c210_120 : cdA 210 120 = some (.iadd) := by decide +kernel
theorem c210_121 : cdA 210 121 = some (.putfield 425) := by decide +kernel
theorem b210_0 {d : Nat} {h : HP} {Q : PV → HP → Prop} {v1 v2 v3 v4 : Int} (H : X d 137 0 [some (I v1)] [] h (fun r h' => X (d + 1) 210 4 [some (P 69), some (I v1), some (I v2), some (I v3), some (I v4), none] [r] h' Q)) : X (d + 1) 210 0 [some (P 69), some (I v1), some (I v2), some (I v3), some (I v4), none] [] h Q :=
  s_iload_n c210_0 rfl (s_cSi c210_1 m210_199 F137 K137 rfl (Nat.le_of_ble_eq_true rfl) rfl rfl H)
theorem b210_124 {d : Nat} {h : HP} {Q : PV → HP → Prop} {v1 v2 v3 v4 v5 : Int} (H : X d 210 84 [some (P 69), some (I v1), some (I v2), some (I v3), some (I v4), some (I (w32 (v5 + 1)))] [] h Q) : X d 210 124 [some (P 69), some (I v1), some (I v2), some (I v3), some (I v4), some (I v5)] [] h Q :=
  s_iinc c210_124 rfl rfl rfl (s_goto 84 c210_127 (by decide) (H))
theorem b210_142 {d : Nat} {h : HP} {Q : PV → HP → Prop} {v1 v2 v3 v4 v5 : Int} (H : (((h 69 90) < 0) → Q (I (h 69 90)) h) ∧ (¬ ((h 69 90) < 0) → (((¬ v4 = 0) → ((((h 69 87) < v4) → Q (I (-9)) h) ∧ (¬ ((h 69 87) < v4) → ((0 ≤ (w32 (v4 - 1)) ∧ (w32 (v4 - 1)) < 3) ∧ Q (I (h 122 (w32 (v4 - 1)).toNat)) h)))) ∧ (¬ (¬ v4 = 0) → Q (I (h 69 90)) h)))) : X d 210 142 [some (P 69), some (I v1), some (I v2), some (I v3), some (I v4), some (I v5)] [] h Q :=
  s_aload_n c210_142 rfl (s_getI c210_143 f210_428 t12_90 sh_69 (s_if 154 ((h 69 90) < 0) c210_146 (by decide) rfl ⟨fun q1 => s_aload_n c210_154 rfl (s_getI c210_155 f210_428 t12_90 sh_69 (s_retI c210_158 R210 (H.1 q1))), fun q1 => s_iload c210_149 rfl (s_if 159 (¬ v4 = 0) c210_151 (by decide) rfl ⟨fun q2 => s_iload c210_159 rfl (s_aload_n c210_161 rfl (s_getI c210_162 f210_425 t12_87 sh_69 (s_ifc 180 ((h 69 87) < v4) c210_165 (by decide) rfl ⟨fun q3 => s_bipush c210_180 ⟨by decide, by decide⟩ (s_retI c210_182 R210 (((H.2 q1).1 q2).1 q3)), fun q3 => s_aload_n c210_168 rfl (s_getP 122 c210_169 f210_174 t12_89 sh_69 g_69_89 (by decide) (by decide) (s_iload c210_172 rfl (s_iconst c210_174 rfl (s_isub c210_175 (s_iald c210_176 sh_122 ⟨(((H.2 q1).1 q2).2 q3).1, s_goto 182 c210_177 (by decide) (s_retI c210_182 R210 (((H.2 q1).1 q2).2 q3).2)⟩)))))⟩))), fun q2 => s_aload_n c210_154 rfl (s_getI c210_155 f210_428 t12_90 sh_69 (s_retI c210_158 R210 ((H.2 q1).2 q2)))⟩)⟩))
theorem b210_33 {d : Nat} {h : HP} {Q : PV → HP → Prop} {v1 v2 v3 v4 : Int} (H : X d 135 0 [some (P 69), some (I (-1))] [] h (fun r h' => X (d + 1) 210 38 [some (P 69), some (I v1), some (I v2), some (I v3), some (I v4), none] [r] h' Q)) : X (d + 1) 210 33 [some (P 69), some (I v1), some (I v2), some (I v3), some (I v4), none] [] h Q :=
  s_aload_n c210_33 rfl (s_iconst c210_34 rfl (s_cVi c210_35 m210_187 F135 K135 rfl (Nat.le_of_ble_eq_true rfl) rfl S135_69 rfl H))
theorem b210_38 {d : Nat} {h : HP} {Q : PV → HP → Prop} {v1 v2 v3 v4 s0 : Int} (H : Q (I s0) h) : X d 210 38 [some (P 69), some (I v1), some (I v2), some (I v3), some (I v4), none] [I s0] h Q :=
  s_retI c210_38 R210 H
theorem b210_4 {d : Nat} {h : HP} {Q : PV → HP → Prop} {v1 v2 v3 v4 s0 : Int} (H : ((s0 = 0) → X (d + 1) 210 33 [some (P 69), some (I v1), some (I v2), some (I v3), some (I v4), none] [] h Q) ∧ (¬ (s0 = 0) → (((v2 < 0) → X (d + 1) 210 33 [some (P 69), some (I v1), some (I v2), some (I v3), some (I v4), none] [] h Q) ∧ (¬ (v2 < 0) → (((¬ (bShr v2 (h 69 26)) = 0) → X (d + 1) 210 33 [some (P 69), some (I v1), some (I v2), some (I v3), some (I v4), none] [] h Q) ∧ (¬ (¬ (bShr v2 (h 69 26)) = 0) → (((v3 < 0) → X (d + 1) 210 33 [some (P 69), some (I v1), some (I v2), some (I v3), some (I v4), none] [] h Q) ∧ (¬ (v3 < 0) → ((((bShr v3 (h 69 9)) = 0) → X d 134 0 [some (I v4), some (I 0), some (I 3)] [] h (fun r h' => X (d + 1) 210 46 [some (P 69), some (I v1), some (I v2), some (I v3), some (I v4), none] [r] h' Q)) ∧ (¬ ((bShr v3 (h 69 9)) = 0) → X (d + 1) 210 33 [some (P 69), some (I v1), some (I v2), some (I v3), some (I v4), none] [] h Q)))))))))) : X (d + 1) 210 4 [some (P 69), some (I v1), some (I v2), some (I v3), some (I v4), none] [I s0] h Q :=
  s_if 33 (s0 = 0) c210_4 (by decide) rfl ⟨fun q4 => (H.1 q4), fun q4 => s_iload_n c210_7 rfl (s_if 33 (v2 < 0) c210_8 (by decide) rfl ⟨fun q5 => ((H.2 q4).1 q5), fun q5 => s_iload_n c210_11 rfl (s_aload_n c210_12 rfl (s_getI c210_13 f210_229 t12_26 sh_69 (s_ishr c210_16 (s_if 33 (¬ (bShr v2 (h 69 26)) = 0) c210_17 (by decide) rfl ⟨fun q6 => (((H.2 q4).2 q5).1 q6), fun q6 => s_iload_n c210_20 rfl (s_if 33 (v3 < 0) c210_21 (by decide) rfl ⟨fun q7 => ((((H.2 q4).2 q5).2 q6).1 q7), fun q7 => s_iload_n c210_24 rfl (s_aload_n c210_25 rfl (s_getI c210_26 f210_180 t12_9 sh_69 (s_ishr c210_29 (s_if 39 ((bShr v3 (h 69 9)) = 0) c210_30 (by decide) rfl ⟨fun q8 => s_iload c210_39 rfl (s_iconst c210_41 rfl (s_iconst c210_42 rfl (s_cSi c210_43 m210_183 F134 K134 rfl (Nat.le_of_ble_eq_true rfl) rfl rfl (((((H.2 q4).2 q5).2 q6).2 q7).1 q8)))), fun q8 => (((((H.2 q4).2 q5).2 q6).2 q7).2 q8)⟩))))⟩)⟩))))⟩)⟩
theorem b210_46 {d : Nat} {h : HP} {Q : PV → HP → Prop} {v1 v2 v3 v4 s0 : Int} (H : ((¬ s0 = 0) → X d 208 0 [some (I v2), none, none] [] h (fun r h' => X (d + 1) 210 60 [some (P 69), some (I v1), some (I v2), some (I v3), some (I v4), none] [r] h' Q)) ∧ (¬ (¬ s0 = 0) → X d 135 0 [some (P 69), some (I (-2))] [] h (fun r h' => X (d + 1) 210 55 [some (P 69), some (I v1), some (I v2), some (I v3), some (I v4), none] [r] h' Q))) : X (d + 1) 210 46 [some (P 69), some (I v1), some (I v2), some (I v3), some (I v4), none] [I s0] h Q :=
  s_if 56 (¬ s0 = 0) c210_46 (by decide) rfl ⟨fun q9 => s_iload_n c210_56 rfl (s_cSi c210_57 m210_435 F208 K208 rfl (Nat.le_of_ble_eq_true rfl) rfl rfl (H.1 q9)), fun q9 => s_aload_n c210_49 rfl (s_bipush c210_50 ⟨by decide, by decide⟩ (s_cVi c210_52 m210_187 F135 K135 rfl (Nat.le_of_ble_eq_true rfl) rfl S135_69 rfl (H.2 q9)))⟩
theorem b210_55 {d : Nat} {h : HP} {Q : PV → HP → Prop} {v1 v2 v3 v4 s0 : Int} (H : Q (I s0) h) : X d 210 55 [some (P 69), some (I v1), some (I v2), some (I v3), some (I v4), none] [I s0] h Q :=
  s_retI c210_55 R210 H
theorem b210_60 {d : Nat} {h : HP} {Q : PV → HP → Prop} {v1 v2 v3 v4 s0 : Int} (H : ((s0 ≤ 3) → X d 177 0 [some (P 69), some (I v1), none] [] h (fun _ h' => X (d + 1) 210 76 [some (P 69), some (I v1), some (I v2), some (I v3), some (I v4), none] [] h' Q)) ∧ (¬ (s0 ≤ 3) → X d 135 0 [some (P 69), some (I (-6))] [] h (fun r h' => X (d + 1) 210 70 [some (P 69), some (I v1), some (I v2), some (I v3), some (I v4), none] [r] h' Q))) : X (d + 1) 210 60 [some (P 69), some (I v1), some (I v2), some (I v3), some (I v4), none] [I s0] h Q :=
  s_iconst c210_60 rfl (s_ifc 71 (s0 ≤ 3) c210_61 (by decide) rfl ⟨fun q10 => s_aload_n c210_71 rfl (s_iload_n c210_72 rfl (s_cVv c210_73 m210_328 F177 K177 rfl (Nat.le_of_ble_eq_true rfl) rfl S177_69 rfl (H.1 q10))), fun q10 => s_aload_n c210_64 rfl (s_bipush c210_65 ⟨by decide, by decide⟩ (s_cVi c210_67 m210_187 F135 K135 rfl (Nat.le_of_ble_eq_true rfl) rfl S135_69 rfl (H.2 q10)))⟩)
theorem b210_70 {d : Nat} {h : HP} {Q : PV → HP → Prop} {v1 v2 v3 v4 s0 : Int} (H : Q (I s0) h) : X d 210 70 [some (P 69), some (I v1), some (I v2), some (I v3), some (I v4), none] [I s0] h Q :=
  s_retI c210_70 R210 H
theorem b210_76 {d : Nat} {h : HP} {Q : PV → HP → Prop} {v1 v2 v3 v4 : Int} (H : X d 210 84 [some (P 69), some (I v1), some (I v2), some (I v3), some (I v4), some (I 0)] [] (up2 h 69 87 0) Q) : X d 210 76 [some (P 69), some (I v1), some (I v2), some (I v3), some (I v4), none] [] h Q :=
  s_aload_n c210_76 rfl (s_iconst c210_77 rfl (s_putI c210_78 f210_425 t12_87 n12_87 sh_69 (s_iconst c210_81 rfl (s_istore c210_82 rfl (H)))))
theorem b210_84 {d : Nat} {h : HP} {Q : PV → HP → Prop} {v1 v2 v3 v4 v5 : Int} (H : (((h 69 26) ≤ v5) → X d 209 0 [some (P 69), some (I 0), some (I v3), none, none] [] (up2 h 69 90 (-9)) (fun _ h' => X (d + 1) 210 142 [some (P 69), some (I v1), some (I v2), some (I v3), some (I v4), some (I v5)] [] h' Q)) ∧ (¬ ((h 69 26) ≤ v5) → (((¬ (bAnd (bShr v2 v5) 1) = 1) → X (d + 1) 210 124 [some (P 69), some (I v1), some (I v2), some (I v3), some (I v4), some (I v5)] [] h Q) ∧ (¬ (¬ (bAnd (bShr v2 v5) 1) = 1) → ((0 ≤ (h 69 87) ∧ (h 69 87) < 3) ∧ X (d + 1) 210 124 [some (P 69), some (I v1), some (I v2), some (I v3), some (I v4), some (I v5)] [] (up2 (up2 h 120 (h 69 87).toNat v5) 69 87 (w32 ((h 69 87) + 1))) Q))))) : X (d + 1) 210 84 [some (P 69), some (I v1), some (I v2), some (I v3), some (I v4), some (I v5)] [] h Q :=
  s_iload c210_84 rfl (s_aload_n c210_86 rfl (s_getI c210_87 f210_229 t12_26 sh_69 (s_ifc 130 ((h 69 26) ≤ v5) c210_90 (by decide) rfl ⟨fun q11 => s_aload_n c210_130 rfl (s_bipush c210_131 ⟨by decide, by decide⟩ (s_putI c210_133 f210_428 t12_90 n12_90 sh_69 (s_aload_n c210_136 rfl (s_iconst c210_137 rfl (s_iload_n c210_138 rfl (s_cVv c210_139 m210_431 F209 K209 rfl (Nat.le_of_ble_eq_true rfl) rfl S209_69 rfl (H.1 q11))))))), fun q11 => s_iload_n c210_93 rfl (s_iload c210_94 rfl (s_ishr c210_96 (s_iconst c210_97 rfl (s_iand c210_98 (s_iconst c210_99 rfl (s_ifc 124 (¬ (bAnd (bShr v2 v5) 1) = 1) c210_100 (by decide) rfl ⟨fun q12 => ((H.2 q11).1 q12), fun q12 => s_aload_n c210_103 rfl (s_getP 120 c210_104 f210_168 t12_86 sh_69 g_69_86 (by decide) (by decide) (s_aload_n c210_107 rfl (s_getI c210_108 f210_425 t12_87 sh_69 (s_iload c210_111 rfl (s_iast c210_113 sh_120 ⟨((H.2 q11).2 q12).1, s_aload_n c210_114 rfl (s_dupP c210_115 (s_getI c210_116 f210_425 t12_87 sh_69 (s_iconst c210_119 rfl (s_iadd c210_120 (s_putI c210_121 f210_425 t12_87 n12_87 sh_69 (((H.2 q11).2 q12).2))))))⟩)))))⟩))))))⟩)))
