/-! blocks of WarmSideModel, by program -/
-- WarmSideModel.marks(III)I
theorem c211_0 : cdA 211 0 = some (.aload_n 0) := by decide +kernel
theorem c211_1 : cdA 211 1 = some (.iload_n 1) := by decide +kernel
theorem c211_2 : cdA 211 2 = some (.invokevirtual 191) := by decide +kernel
theorem m211_191 : mthR (moN 211) 191 = 139 := by decide +kernel
theorem c211_13 : cdA 211 13 = some (.ireturn) := by decide +kernel
theorem R211 : mK 211 = 0 := by decide +kernel
theorem c211_23 : cdA 211 23 = some (.aload_n 0) := by decide +kernel
theorem c211_24 : cdA 211 24 = some (.bipush (-4)) := by decide +kernel
theorem c211_26 : cdA 211 26 = some (.invokevirtual 187) := by decide +kernel
theorem m211_187 : mthR (moN 211) 187 = 138 := by decide +kernel
theorem c211_29 : cdA 211 29 = some (.ireturn) := by decide +kernel
theorem c211_43 : cdA 211 43 = some (.ireturn) := by decide +kernel
theorem c211_5 : cdA 211 5 = some (.ifCond .ne 9) := by decide +kernel
theorem c211_14 : cdA 211 14 = some (.iload_n 2) := by decide +kernel
theorem c211_15 : cdA 211 15 = some (.ifCond .lt 8) := by decide +kernel
theorem c211_18 : cdA 211 18 = some (.iload_n 3) := by decide +kernel
theorem c211_19 : cdA 211 19 = some (.iload_n 2) := by decide +kernel
theorem c211_20 : cdA 211 20 = some (.if_icmp .ge 10) := by decide +kernel
theorem c211_30 : cdA 211 30 = some (.iload_n 3) := by decide +kernel
theorem c211_31 : cdA 211 31 = some (.sipush 600) := by decide +kernel
theorem c211_34 : cdA 211 34 = some (.if_icmp .le 10) := by decide +kernel
theorem c211_44 : cdA 211 44 = some (.aload_n 0) := by decide +kernel
theorem c211_45 : cdA 211 45 = some (.getfield 31) := by decide +kernel
theorem f211_31 : fldR (moN 211) 31 = some (12, 7) := by decide +kernel
theorem c211_48 : cdA 211 48 = some (.iload_n 1) := by decide +kernel
theorem c211_49 : cdA 211 49 = some (.iload_n 2) := by decide +kernel
theorem c211_50 : cdA 211 50 = some (.iastore) := by decide +kernel
theorem c211_51 : cdA 211 51 = some (.aload_n 0) := by decide +kernel
theorem c211_52 : cdA 211 52 = some (.getfield 34) := by decide +kernel
theorem f211_34 : fldR (moN 211) 34 = some (12, 8) := by decide +kernel
theorem c211_55 : cdA 211 55 = some (.iload_n 1) := by decide +kernel
theorem c211_56 : cdA 211 56 = some (.iload_n 3) := by decide +kernel
theorem c211_57 : cdA 211 57 = some (.iastore) := by decide +kernel
theorem c211_58 : cdA 211 58 = some (.iconst 1) := by decide +kernel
theorem c211_59 : cdA 211 59 = some (.ireturn) := by decide +kernel
theorem c211_37 : cdA 211 37 = some (.aload_n 0) := by decide +kernel
theorem c211_38 : cdA 211 38 = some (.bipush (-6)) := by decide +kernel
theorem c211_40 : cdA 211 40 = some (.invokevirtual 187) := by decide +kernel
theorem c211_8 : cdA 211 8 = some (.aload_n 0) := by decide +kernel
theorem c211_9 : cdA 211 9 = some (.iconst (-1)) := by decide +kernel
theorem c211_10 : cdA 211 10 = some (.invokevirtual 187) := by decide +kernel
theorem b211_0 {d : Nat} {h : HP} {Q : PV → HP → Prop} {v1 v2 v3 : Int} (H : X d 136 0 [some (P 69), some (I v1)] [] h (fun r h' => X (d + 1) 211 5 [some (P 69), some (I v1), some (I v2), some (I v3)] [r] h' Q)) : X (d + 1) 211 0 [some (P 69), some (I v1), some (I v2), some (I v3)] [] h Q :=
  s_aload_n c211_0 rfl (s_iload_n c211_1 rfl (s_cVi c211_2 m211_191 F136 K136 rfl (Nat.le_of_ble_eq_true rfl) rfl S136_69 rfl H))
theorem b211_13 {d : Nat} {h : HP} {Q : PV → HP → Prop} {v1 v2 v3 s0 : Int} (H : Q (I s0) h) : X d 211 13 [some (P 69), some (I v1), some (I v2), some (I v3)] [I s0] h Q :=
  s_retI c211_13 R211 H
theorem b211_23 {d : Nat} {h : HP} {Q : PV → HP → Prop} {v1 v2 v3 : Int} (H : X d 135 0 [some (P 69), some (I (-4))] [] h (fun r h' => X (d + 1) 211 29 [some (P 69), some (I v1), some (I v2), some (I v3)] [r] h' Q)) : X (d + 1) 211 23 [some (P 69), some (I v1), some (I v2), some (I v3)] [] h Q :=
  s_aload_n c211_23 rfl (s_bipush c211_24 ⟨by decide, by decide⟩ (s_cVi c211_26 m211_187 F135 K135 rfl (Nat.le_of_ble_eq_true rfl) rfl S135_69 rfl H))
theorem b211_29 {d : Nat} {h : HP} {Q : PV → HP → Prop} {v1 v2 v3 s0 : Int} (H : Q (I s0) h) : X d 211 29 [some (P 69), some (I v1), some (I v2), some (I v3)] [I s0] h Q :=
  s_retI c211_29 R211 H
theorem b211_43 {d : Nat} {h : HP} {Q : PV → HP → Prop} {v1 v2 v3 s0 : Int} (H : Q (I s0) h) : X d 211 43 [some (P 69), some (I v1), some (I v2), some (I v3)] [I s0] h Q :=
  s_retI c211_43 R211 H
theorem b211_5 {d : Nat} {h : HP} {Q : PV → HP → Prop} {v1 v2 v3 s0 : Int} (H : ((¬ s0 = 0) → (((v2 < 0) → X (d + 1) 211 23 [some (P 69), some (I v1), some (I v2), some (I v3)] [] h Q) ∧ (¬ (v2 < 0) → (((v2 ≤ v3) → (((v3 ≤ 600) → ((0 ≤ v1 ∧ v1 < 8) ∧ ((0 ≤ v1 ∧ v1 < 8) ∧ Q (I 1) (up2 (up2 h 77 v1.toNat v2) 78 v1.toNat v3)))) ∧ (¬ (v3 ≤ 600) → X d 135 0 [some (P 69), some (I (-6))] [] h (fun r h' => X (d + 1) 211 43 [some (P 69), some (I v1), some (I v2), some (I v3)] [r] h' Q)))) ∧ (¬ (v2 ≤ v3) → X (d + 1) 211 23 [some (P 69), some (I v1), some (I v2), some (I v3)] [] h Q))))) ∧ (¬ (¬ s0 = 0) → X d 135 0 [some (P 69), some (I (-1))] [] h (fun r h' => X (d + 1) 211 13 [some (P 69), some (I v1), some (I v2), some (I v3)] [r] h' Q))) : X (d + 1) 211 5 [some (P 69), some (I v1), some (I v2), some (I v3)] [I s0] h Q :=
  s_if 14 (¬ s0 = 0) c211_5 (by decide) rfl ⟨fun q1 => s_iload_n c211_14 rfl (s_if 23 (v2 < 0) c211_15 (by decide) rfl ⟨fun q2 => ((H.1 q1).1 q2), fun q2 => s_iload_n c211_18 rfl (s_iload_n c211_19 rfl (s_ifc 30 (v2 ≤ v3) c211_20 (by decide) rfl ⟨fun q3 => s_iload_n c211_30 rfl (s_sipush c211_31 ⟨by decide, by decide⟩ (s_ifc 44 (v3 ≤ 600) c211_34 (by decide) rfl ⟨fun q4 => s_aload_n c211_44 rfl (s_getP 77 c211_45 f211_31 t12_7 sh_69 g_69_7 (by decide) (by decide) (s_iload_n c211_48 rfl (s_iload_n c211_49 rfl (s_iast c211_50 sh_77 ⟨((((H.1 q1).2 q2).1 q3).1 q4).1, s_aload_n c211_51 rfl (s_getP 78 c211_52 f211_34 t12_8 sh_69 g_69_8 (by decide) (by decide) (s_iload_n c211_55 rfl (s_iload_n c211_56 rfl (s_iast c211_57 sh_78 ⟨((((H.1 q1).2 q2).1 q3).1 q4).2.1, s_iconst c211_58 rfl (s_retI c211_59 R211 ((((H.1 q1).2 q2).1 q3).1 q4).2.2)⟩))))⟩)))), fun q4 => s_aload_n c211_37 rfl (s_bipush c211_38 ⟨by decide, by decide⟩ (s_cVi c211_40 m211_187 F135 K135 rfl (Nat.le_of_ble_eq_true rfl) rfl S135_69 rfl ((((H.1 q1).2 q2).1 q3).2 q4)))⟩)), fun q3 => (((H.1 q1).2 q2).2 q3)⟩))⟩), fun q1 => s_aload_n c211_8 rfl (s_iconst c211_9 rfl (s_cVi c211_10 m211_187 F135 K135 rfl (Nat.le_of_ble_eq_true rfl) rfl S135_69 rfl (H.2 q1)))⟩
-- WarmSideModel.fails(IZI)I
theorem c212_0 : cdA 212 0 = some (.aload_n 0) := by decide +kernel
theorem c212_1 : cdA 212 1 = some (.iload_n 1) := by decide +kernel
theorem c212_2 : cdA 212 2 = some (.invokevirtual 235) := by decide +kernel
theorem m212_235 : mthR (moN 212) 235 = 161 := by decide +kernel
theorem c212_12 : cdA 212 12 = some (.ifCond .ne 9) := by decide +kernel
theorem c212_21 : cdA 212 21 = some (.aload_n 0) := by decide +kernel
theorem c212_22 : cdA 212 22 = some (.iload_n 3) := by decide +kernel
theorem c212_23 : cdA 212 23 = some (.invokevirtual 328) := by decide +kernel
theorem m212_328 : mthR (moN 212) 328 = 180 := by decide +kernel
theorem c212_15 : cdA 212 15 = some (.aload_n 0) := by decide +kernel
theorem c212_16 : cdA 212 16 = some (.iconst (-1)) := by decide +kernel
theorem c212_17 : cdA 212 17 = some (.invokevirtual 187) := by decide +kernel
theorem m212_187 : mthR (moN 212) 187 = 138 := by decide +kernel
theorem c212_20 : cdA 212 20 = some (.ireturn) := by decide +kernel
theorem R212 : mK 212 = 0 := by decide +kernel
theorem c212_26 : cdA 212 26 = some (.aload_n 0) := by decide +kernel
theorem c212_27 : cdA 212 27 = some (.getfield 135) := by decide +kernel
theorem f212_135 : fldR (moN 212) 135 = some (12, 67) := by decide +kernel
theorem c212_30 : cdA 212 30 = some (.iload_n 1) := by decide +kernel
theorem c212_31 : cdA 212 31 = some (.iload_n 2) := by decide +kernel
theorem c212_32 : cdA 212 32 = some (.bastore) := by decide +kernel
theorem c212_33 : cdA 212 33 = some (.aload_n 0) := by decide +kernel
theorem c212_34 : cdA 212 34 = some (.invokevirtual 363) := by decide +kernel
theorem m212_363 : mthR (moN 212) 363 = 189 := by decide +kernel
theorem c212_37 : cdA 212 37 = some (.iconst 0) := by decide +kernel
theorem c212_38 : cdA 212 38 = some (.istore 4) := by decide +kernel
theorem c212_40 : cdA 212 40 = some (.iload 4) := by decide +kernel
theorem c212_42 : cdA 212 42 = some (.aload_n 0) := by decide +kernel
theorem c212_43 : cdA 212 43 = some (.getfield 180) := by decide +kernel
theorem f212_180 : fldR (moN 212) 180 = some (12, 9) := by decide +kernel
theorem c212_46 : cdA 212 46 = some (.if_icmp .ge 39) := by decide +kernel
theorem c212_85 : cdA 212 85 = some (.bipush (-9)) := by decide +kernel
theorem c212_87 : cdA 212 87 = some (.ireturn) := by decide +kernel
theorem c212_49 : cdA 212 49 = some (.aload_n 0) := by decide +kernel
theorem c212_50 : cdA 212 50 = some (.getfield 120) := by decide +kernel
theorem f212_120 : fldR (moN 212) 120 = some (12, 54) := by decide +kernel
theorem c212_53 : cdA 212 53 = some (.iload 4) := by decide +kernel
theorem c212_55 : cdA 212 55 = some (.iaload) := by decide +kernel
theorem c212_56 : cdA 212 56 = some (.aload_n 0) := by decide +kernel
theorem c212_57 : cdA 212 57 = some (.getfield 31) := by decide +kernel
theorem f212_31 : fldR (moN 212) 31 = some (12, 7) := by decide +kernel
theorem c212_60 : cdA 212 60 = some (.iload 4) := by decide +kernel
theorem c212_62 : cdA 212 62 = some (.iaload) := by decide +kernel
theorem c212_63 : cdA 212 63 = some (.aload_n 0) := by decide +kernel
theorem c212_64 : cdA 212 64 = some (.getfield 34) := by decide +kernel
theorem f212_34 : fldR (moN 212) 34 = some (12, 8) := by decide +kernel
theorem c212_67 : cdA 212 67 = some (.iload 4) := by decide +kernel
theorem c212_69 : cdA 212 69 = some (.iaload) := by decide +kernel
theorem c212_70 : cdA 212 70 = some (.invokestatic 183) := by decide +kernel
theorem m212_183 : mthR (moN 212) 183 = 137 := by decide +kernel
theorem c212_5 : cdA 212 5 = some (.ifCond .eq 10) := by decide +kernel
theorem c212_8 : cdA 212 8 = some (.iload_n 3) := by decide +kernel
theorem c212_9 : cdA 212 9 = some (.invokestatic 199) := by decide +kernel
theorem m212_199 : mthR (moN 212) 199 = 140 := by decide +kernel
theorem c212_73 : cdA 212 73 = some (.ifCond .ne 6) := by decide +kernel
theorem c212_79 : cdA 212 79 = some (.iinc 4 1) := by decide +kernel
theorem c212_82 : cdA 212 82 = some (.goto (-42)) := by decide +kernel
theorem c212_76 : cdA 212 76 = some (.iload 4) := by decide +kernel
theorem c212_78 : cdA 212 78 = some (.ireturn) := by decide +kernel
theorem b212_0 {d : Nat} {h : HP} {Q : PV → HP → Prop} {v1 v2 v3 : Int} (H : X d 158 0 [some (P 69), some (I v1)] [] h (fun r h' => X (d + 1) 212 5 [some (P 69), some (I v1), some (I v2), some (I v3), none] [r] h' Q)) : X (d + 1) 212 0 [some (P 69), some (I v1), some (I v2), some (I v3), none] [] h Q :=
  s_aload_n c212_0 rfl (s_iload_n c212_1 rfl (s_cVi c212_2 m212_235 F158 K158 rfl (Nat.le_of_ble_eq_true rfl) rfl S158_69 rfl H))
theorem b212_12 {d : Nat} {h : HP} {Q : PV → HP → Prop} {v1 v2 v3 s0 : Int} (H : ((¬ s0 = 0) → X d 177 0 [some (P 69), some (I v3), none] [] h (fun _ h' => X (d + 1) 212 26 [some (P 69), some (I v1), some (I v2), some (I v3), none] [] h' Q)) ∧ (¬ (¬ s0 = 0) → X (d + 1) 212 15 [some (P 69), some (I v1), some (I v2), some (I v3), none] [] h Q)) : X (d + 1) 212 12 [some (P 69), some (I v1), some (I v2), some (I v3), none] [I s0] h Q :=
  s_if 21 (¬ s0 = 0) c212_12 (by decide) rfl ⟨fun q1 => s_aload_n c212_21 rfl (s_iload_n c212_22 rfl (s_cVv c212_23 m212_328 F177 K177 rfl (Nat.le_of_ble_eq_true rfl) rfl S177_69 rfl (H.1 q1))), fun q1 => (H.2 q1)⟩
theorem b212_15 {d : Nat} {h : HP} {Q : PV → HP → Prop} {v1 v2 v3 : Int} (H : X d 135 0 [some (P 69), some (I (-1))] [] h (fun r h' => X (d + 1) 212 20 [some (P 69), some (I v1), some (I v2), some (I v3), none] [r] h' Q)) : X (d + 1) 212 15 [some (P 69), some (I v1), some (I v2), some (I v3), none] [] h Q :=
  s_aload_n c212_15 rfl (s_iconst c212_16 rfl (s_cVi c212_17 m212_187 F135 K135 rfl (Nat.le_of_ble_eq_true rfl) rfl S135_69 rfl H))
theorem b212_20 {d : Nat} {h : HP} {Q : PV → HP → Prop} {v1 v2 v3 s0 : Int} (H : Q (I s0) h) : X d 212 20 [some (P 69), some (I v1), some (I v2), some (I v3), none] [I s0] h Q :=
  s_retI c212_20 R212 H
theorem b212_26 {d : Nat} {h : HP} {Q : PV → HP → Prop} {v1 v2 v3 : Int} (H : (0 ≤ v1 ∧ v1 < 4) ∧ (v2 = 0 ∨ v2 = 1) ∧ X d 186 0 [some (P 69), none, none] [] (up2 h 110 v1.toNat v2) (fun _ h' => X (d + 1) 212 37 [some (P 69), some (I v1), some (I v2), some (I v3), none] [] h' Q)) : X (d + 1) 212 26 [some (P 69), some (I v1), some (I v2), some (I v3), none] [] h Q :=
  s_aload_n c212_26 rfl (s_getP 110 c212_27 f212_135 t12_67 sh_69 g_69_67 (by decide) (by decide) (s_iload_n c212_30 rfl (s_iload_n c212_31 rfl (s_bast c212_32 sh_110 ⟨H.1, H.2.1, s_aload_n c212_33 rfl (s_cVv c212_34 m212_363 F186 K186 rfl (Nat.le_of_ble_eq_true rfl) rfl S186_69 rfl H.2.2)⟩))))
theorem b212_37 {d : Nat} {h : HP} {Q : PV → HP → Prop} {v1 v2 v3 : Int} (H : X d 212 40 [some (P 69), some (I v1), some (I v2), some (I v3), some (I 0)] [] h Q) : X d 212 37 [some (P 69), some (I v1), some (I v2), some (I v3), none] [] h Q :=
  s_iconst c212_37 rfl (s_istore c212_38 rfl (H))
theorem b212_40 {d : Nat} {h : HP} {Q : PV → HP → Prop} {v1 v2 v3 v4 : Int} (H : (((h 69 9) ≤ v4) → Q (I (-9)) h) ∧ (¬ ((h 69 9) ≤ v4) → ((0 ≤ v4 ∧ v4 < 8) ∧ ((0 ≤ v4 ∧ v4 < 8) ∧ ((0 ≤ v4 ∧ v4 < 8) ∧ X d 134 0 [some (I (h 105 v4.toNat)), some (I (h 77 v4.toNat)), some (I (h 78 v4.toNat))] [] h (fun r h' => X (d + 1) 212 73 [some (P 69), some (I v1), some (I v2), some (I v3), some (I v4)] [r] h' Q)))))) : X (d + 1) 212 40 [some (P 69), some (I v1), some (I v2), some (I v3), some (I v4)] [] h Q :=
  s_iload c212_40 rfl (s_aload_n c212_42 rfl (s_getI c212_43 f212_180 t12_9 sh_69 (s_ifc 85 ((h 69 9) ≤ v4) c212_46 (by decide) rfl ⟨fun q2 => s_bipush c212_85 ⟨by decide, by decide⟩ (s_retI c212_87 R212 (H.1 q2)), fun q2 => s_aload_n c212_49 rfl (s_getP 105 c212_50 f212_120 t12_54 sh_69 g_69_54 (by decide) (by decide) (s_iload c212_53 rfl (s_iald c212_55 sh_105 ⟨(H.2 q2).1, s_aload_n c212_56 rfl (s_getP 77 c212_57 f212_31 t12_7 sh_69 g_69_7 (by decide) (by decide) (s_iload c212_60 rfl (s_iald c212_62 sh_77 ⟨(H.2 q2).2.1, s_aload_n c212_63 rfl (s_getP 78 c212_64 f212_34 t12_8 sh_69 g_69_8 (by decide) (by decide) (s_iload c212_67 rfl (s_iald c212_69 sh_78 ⟨(H.2 q2).2.2.1, s_cSi c212_70 m212_183 F134 K134 rfl (Nat.le_of_ble_eq_true rfl) rfl rfl (H.2 q2).2.2.2⟩)))⟩)))⟩)))⟩)))
theorem b212_5 {d : Nat} {h : HP} {Q : PV → HP → Prop} {v1 v2 v3 s0 : Int} (H : ((s0 = 0) → X (d + 1) 212 15 [some (P 69), some (I v1), some (I v2), some (I v3), none] [] h Q) ∧ (¬ (s0 = 0) → X d 137 0 [some (I v3)] [] h (fun r h' => X (d + 1) 212 12 [some (P 69), some (I v1), some (I v2), some (I v3), none] [r] h' Q))) : X (d + 1) 212 5 [some (P 69), some (I v1), some (I v2), some (I v3), none] [I s0] h Q :=
  s_if 15 (s0 = 0) c212_5 (by decide) rfl ⟨fun q3 => (H.1 q3), fun q3 => s_iload_n c212_8 rfl (s_cSi c212_9 m212_199 F137 K137 rfl (Nat.le_of_ble_eq_true rfl) rfl rfl (H.2 q3))⟩
theorem b212_73 {d : Nat} {h : HP} {Q : PV → HP → Prop} {v1 v2 v3 v4 s0 : Int} (H : ((¬ s0 = 0) → X d 212 40 [some (P 69), some (I v1), some (I v2), some (I v3), some (I (w32 (v4 + 1)))] [] h Q) ∧ (¬ (¬ s0 = 0) → Q (I v4) h)) : X d 212 73 [some (P 69), some (I v1), some (I v2), some (I v3), some (I v4)] [I s0] h Q :=
  s_if 79 (¬ s0 = 0) c212_73 (by decide) rfl ⟨fun q4 => s_iinc c212_79 rfl rfl rfl (s_goto 40 c212_82 (by decide) ((H.1 q4))), fun q4 => s_iload c212_76 rfl (s_retI c212_78 R212 (H.2 q4))⟩
-- WarmSideModel.freeze(I)I
theorem c213_0 : cdA 213 0 = some (.iload_n 1) := by decide +kernel
theorem c213_1 : cdA 213 1 = some (.ifCond .ge 10) := by decide +kernel
theorem c213_11 : cdA 213 11 = some (.iload_n 1) := by decide +kernel
theorem c213_12 : cdA 213 12 = some (.sipush 600) := by decide +kernel
theorem c213_15 : cdA 213 15 = some (.if_icmp .le 10) := by decide +kernel
theorem c213_25 : cdA 213 25 = some (.aload_n 0) := by decide +kernel
theorem c213_26 : cdA 213 26 = some (.getfield 92) := by decide +kernel
theorem f213_92 : fldR (moN 213) 92 = some (12, 37) := by decide +kernel
theorem t12_37 : fcl 12 37 = 0 := by decide +kernel
theorem c213_29 : cdA 213 29 = some (.istore_n 2) := by decide +kernel
theorem c213_30 : cdA 213 30 = some (.aload_n 0) := by decide +kernel
theorem c213_31 : cdA 213 31 = some (.iload_n 1) := by decide +kernel
theorem c213_32 : cdA 213 32 = some (.putfield 92) := by decide +kernel
theorem n12_37 : ffin 12 37 = false := by decide +kernel
theorem c213_35 : cdA 213 35 = some (.iload_n 2) := by decide +kernel
theorem c213_36 : cdA 213 36 = some (.ireturn) := by decide +kernel
theorem R213 : mK 213 = 0 := by decide +kernel
theorem c213_18 : cdA 213 18 = some (.aload_n 0) := by decide +kernel
theorem c213_19 : cdA 213 19 = some (.bipush (-6)) := by decide +kernel
theorem c213_21 : cdA 213 21 = some (.invokevirtual 187) := by decide +kernel
theorem m213_187 : mthR (moN 213) 187 = 138 := by decide +kernel
theorem c213_4 : cdA 213 4 = some (.aload_n 0) := by decide +kernel
theorem c213_5 : cdA 213 5 = some (.bipush (-4)) := by decide +kernel
theorem c213_7 : cdA 213 7 = some (.invokevirtual 187) := by decide +kernel
theorem c213_10 : cdA 213 10 = some (.ireturn) := by decide +kernel
theorem c213_24 : cdA 213 24 = some (.ireturn) := by decide +kernel
theorem b213_0 {d : Nat} {h : HP} {Q : PV → HP → Prop} {v1 : Int} (H : ((0 ≤ v1) → (((v1 ≤ 600) → Q (I (h 69 37)) (up2 h 69 37 v1)) ∧ (¬ (v1 ≤ 600) → X d 135 0 [some (P 69), some (I (-6))] [] h (fun r h' => X (d + 1) 213 24 [some (P 69), some (I v1), none] [r] h' Q)))) ∧ (¬ (0 ≤ v1) → X d 135 0 [some (P 69), some (I (-4))] [] h (fun r h' => X (d + 1) 213 10 [some (P 69), some (I v1), none] [r] h' Q))) : X (d + 1) 213 0 [some (P 69), some (I v1), none] [] h Q :=
  s_iload_n c213_0 rfl (s_if 11 (0 ≤ v1) c213_1 (by decide) rfl ⟨fun q1 => s_iload_n c213_11 rfl (s_sipush c213_12 ⟨by decide, by decide⟩ (s_ifc 25 (v1 ≤ 600) c213_15 (by decide) rfl ⟨fun q2 => s_aload_n c213_25 rfl (s_getI c213_26 f213_92 t12_37 sh_69 (s_istore_n c213_29 rfl (s_aload_n c213_30 rfl (s_iload_n c213_31 rfl (s_putI c213_32 f213_92 t12_37 n12_37 sh_69 (s_iload_n c213_35 rfl (s_retI c213_36 R213 ((H.1 q1).1 q2)))))))), fun q2 => s_aload_n c213_18 rfl (s_bipush c213_19 ⟨by decide, by decide⟩ (s_cVi c213_21 m213_187 F135 K135 rfl (Nat.le_of_ble_eq_true rfl) rfl S135_69 rfl ((H.1 q1).2 q2)))⟩)), fun q1 => s_aload_n c213_4 rfl (s_bipush c213_5 ⟨by decide, by decide⟩ (s_cVi c213_7 m213_187 F135 K135 rfl (Nat.le_of_ble_eq_true rfl) rfl S135_69 rfl (H.2 q1)))⟩)
theorem b213_10 {d : Nat} {h : HP} {Q : PV → HP → Prop} {v1 s0 : Int} (H : Q (I s0) h) : X d 213 10 [some (P 69), some (I v1), none] [I s0] h Q :=
  s_retI c213_10 R213 H
theorem b213_24 {d : Nat} {h : HP} {Q : PV → HP → Prop} {v1 s0 : Int} (H : Q (I s0) h) : X d 213 24 [some (P 69), some (I v1), none] [I s0] h Q :=
  s_retI c213_24 R213 H
-- WarmSideModel.findThaw(I)V
theorem c214_0 : cdA 214 0 = some (.aload_n 0) := by decide +kernel
theorem c214_1 : cdA 214 1 = some (.iload_n 1) := by decide +kernel
theorem c214_2 : cdA 214 2 = some (.invokevirtual 328) := by decide +kernel
theorem m214_328 : mthR (moN 214) 328 = 180 := by decide +kernel
theorem c214_106 : cdA 214 106 = some (.istore_n 2) := by decide +kernel
theorem c214_107 : cdA 214 107 = some (.iload_n 2) := by decide +kernel
theorem c214_108 : cdA 214 108 = some (.ifCond .eq 30) := by decide +kernel
theorem c214_111 : cdA 214 111 = some (.aload_n 0) := by decide +kernel
theorem c214_112 : cdA 214 112 = some (.getfield 126) := by decide +kernel
theorem f214_126 : fldR (moN 214) 126 = some (12, 64) := by decide +kernel
theorem c214_115 : cdA 214 115 = some (.iload_n 3) := by decide +kernel
theorem c214_116 : cdA 214 116 = some (.iconst 0) := by decide +kernel
theorem c214_117 : cdA 214 117 = some (.bastore) := by decide +kernel
theorem c214_118 : cdA 214 118 = some (.aload_n 0) := by decide +kernel
theorem c214_119 : cdA 214 119 = some (.getfield 177) := by decide +kernel
theorem f214_177 : fldR (moN 214) 177 = some (12, 91) := by decide +kernel
theorem t12_91 : fcl 12 91 = 2 := by decide +kernel
theorem c214_122 : cdA 214 122 = some (.aload_n 0) := by decide +kernel
theorem c214_123 : cdA 214 123 = some (.getfield 438) := by decide +kernel
theorem f214_438 : fldR (moN 214) 438 = some (12, 92) := by decide +kernel
theorem t12_92 : fcl 12 92 = 0 := by decide +kernel
theorem c214_126 : cdA 214 126 = some (.iload_n 3) := by decide +kernel
theorem c214_127 : cdA 214 127 = some (.iastore) := by decide +kernel
theorem c214_128 : cdA 214 128 = some (.aload_n 0) := by decide +kernel
theorem c214_129 : cdA 214 129 = some (.dup) := by decide +kernel
theorem c214_130 : cdA 214 130 = some (.getfield 438) := by decide +kernel
theorem c214_133 : cdA 214 133 = some (.iconst 1) := by decide +kernel
theorem c214_134 : cdA 214 134 = some (.iadd) := by decide +kernel
theorem c214_135 : cdA 214 135 = some (.putfield 438) := by decide +kernel
theorem n12_92 : ffin 12 92 = false := by decide +kernel
theorem c214_12 : cdA 214 12 = some (.iload_n 2) := by decide +kernel
theorem c214_13 : cdA 214 13 = some (.ifCond .eq 128) := by decide +kernel
theorem c214_141 : cdA 214 141 = some (.return_) := by decide +kernel
theorem R214 : mK 214 = 4 := by decide +kernel
theorem c214_16 : cdA 214 16 = some (.aload_n 0) := by decide +kernel
theorem c214_17 : cdA 214 17 = some (.invokevirtual 363) := by decide +kernel
theorem m214_363 : mthR (moN 214) 363 = 189 := by decide +kernel
theorem c214_138 : cdA 214 138 = some (.goto (-126)) := by decide +kernel
theorem c214_20 : cdA 214 20 = some (.bipush (-9)) := by decide +kernel
theorem c214_22 : cdA 214 22 = some (.istore_n 3) := by decide +kernel
theorem c214_23 : cdA 214 23 = some (.aload_n 0) := by decide +kernel
theorem c214_24 : cdA 214 24 = some (.getfield 226) := by decide +kernel
theorem f214_226 : fldR (moN 214) 226 = some (12, 22) := by decide +kernel
theorem c214_27 : cdA 214 27 = some (.iconst 1) := by decide +kernel
theorem c214_28 : cdA 214 28 = some (.isub) := by decide +kernel
theorem c214_29 : cdA 214 29 = some (.istore 4) := by decide +kernel
theorem c214_31 : cdA 214 31 = some (.iload 4) := by decide +kernel
theorem c214_33 : cdA 214 33 = some (.ifCond .lt 64) := by decide +kernel
theorem c214_97 : cdA 214 97 = some (.iload_n 3) := by decide +kernel
theorem c214_98 : cdA 214 98 = some (.ifCond .lt 7) := by decide +kernel
theorem c214_105 : cdA 214 105 = some (.iconst 0) := by decide +kernel
theorem c214_101 : cdA 214 101 = some (.iconst 1) := by decide +kernel
theorem c214_102 : cdA 214 102 = some (.goto 4) := by decide +kernel
theorem c214_36 : cdA 214 36 = some (.aload_n 0) := by decide +kernel
theorem c214_37 : cdA 214 37 = some (.getfield 126) := by decide +kernel
theorem c214_40 : cdA 214 40 = some (.iload 4) := by decide +kernel
theorem c214_42 : cdA 214 42 = some (.baload) := by decide +kernel
theorem c214_43 : cdA 214 43 = some (.ifCond .eq 46) := by decide +kernel
theorem c214_46 : cdA 214 46 = some (.aload_n 0) := by decide +kernel
theorem c214_47 : cdA 214 47 = some (.getfield 120) := by decide +kernel
theorem f214_120 : fldR (moN 214) 120 = some (12, 54) := by decide +kernel
theorem c214_50 : cdA 214 50 = some (.aload_n 0) := by decide +kernel
theorem c214_51 : cdA 214 51 = some (.getfield 58) := by decide +kernel
theorem f214_58 : fldR (moN 214) 58 = some (12, 18) := by decide +kernel
theorem c214_54 : cdA 214 54 = some (.iload 4) := by decide +kernel
theorem c214_56 : cdA 214 56 = some (.iaload) := by decide +kernel
theorem c214_57 : cdA 214 57 = some (.iaload) := by decide +kernel
theorem c214_58 : cdA 214 58 = some (.aload_n 0) := by decide +kernel
theorem c214_59 : cdA 214 59 = some (.getfield 92) := by decide +kernel
theorem f214_92 : fldR (moN 214) 92 = some (12, 37) := by decide +kernel
theorem c214_62 : cdA 214 62 = some (.if_icmp .lt 27) := by decide +kernel
theorem c214_65 : cdA 214 65 = some (.aload_n 0) := by decide +kernel
theorem c214_66 : cdA 214 66 = some (.getfield 120) := by decide +kernel
theorem c214_69 : cdA 214 69 = some (.aload_n 0) := by decide +kernel
theorem c214_70 : cdA 214 70 = some (.getfield 61) := by decide +kernel
theorem f214_61 : fldR (moN 214) 61 = some (12, 19) := by decide +kernel
theorem c214_73 : cdA 214 73 = some (.iload 4) := by decide +kernel
theorem c214_75 : cdA 214 75 = some (.iaload) := by decide +kernel
theorem c214_76 : cdA 214 76 = some (.iaload) := by decide +kernel
theorem c214_77 : cdA 214 77 = some (.aload_n 0) := by decide +kernel
theorem c214_78 : cdA 214 78 = some (.getfield 92) := by decide +kernel
theorem c214_81 : cdA 214 81 = some (.if_icmp .lt 8) := by decide +kernel
theorem c214_84 : cdA 214 84 = some (.iload 4) := by decide +kernel
theorem c214_86 : cdA 214 86 = some (.goto 4) := by decide +kernel
theorem c214_5 : cdA 214 5 = some (.aload_n 0) := by decide +kernel
theorem c214_6 : cdA 214 6 = some (.iconst 0) := by decide +kernel
theorem c214_7 : cdA 214 7 = some (.putfield 438) := by decide +kernel
theorem c214_10 : cdA 214 10 = some (.iconst 1) := by decide +kernel
theorem c214_11 : cdA 214 11 = some (.istore_n 2) := by decide +kernel
theorem c214_89 : cdA 214 89 = some (.iload_n 3) := by decide +kernel
theorem c214_90 : cdA 214 90 = some (.istore_n 3) := by decide +kernel
theorem c214_91 : cdA 214 91 = some (.iinc 4 (-1)) := by decide +kernel
theorem c214_94 : cdA 214 94 = some (.goto (-63)) := by decide +kernel
theorem b214_0 {d : Nat} {h : HP} {Q : PV → HP → Prop} {v1 : Int} (H : X d 177 0 [some (P 69), some (I v1), none] [] h (fun _ h' => X (d + 1) 214 5 [some (P 69), some (I v1), none, none, none] [] h' Q)) : X (d + 1) 214 0 [some (P 69), some (I v1), none, none, none] [] h Q :=
  s_aload_n c214_0 rfl (s_iload_n c214_1 rfl (s_cVv c214_2 m214_328 F177 K177 rfl (Nat.le_of_ble_eq_true rfl) rfl S177_69 rfl H))
theorem b214_106 {d : Nat} {h : HP} {Q : PV → HP → Prop} {v1 v2 v3 v4 s0 : Int} (H : ((s0 = 0) → X d 214 138 [some (P 69), some (I v1), some (I s0), some (I v3), some (I v4)] [] h Q) ∧ (¬ (s0 = 0) → ((0 ≤ v3 ∧ v3 < 8) ∧ ((0 ≤ (h 69 92) ∧ (h 69 92) < 8) ∧ X d 214 138 [some (P 69), some (I v1), some (I s0), some (I v3), some (I v4)] [] (up2 (up2 (up2 h 107 v3.toNat 0) 123 (h 69 92).toNat v3) 69 92 (w32 ((h 69 92) + 1))) Q)))) : X d 214 106 [some (P 69), some (I v1), some (I v2), some (I v3), some (I v4)] [I s0] h Q :=
  s_istore_n c214_106 rfl (s_iload_n c214_107 rfl (s_if 138 (s0 = 0) c214_108 (by decide) rfl ⟨fun q1 => (H.1 q1), fun q1 => s_aload_n c214_111 rfl (s_getP 107 c214_112 f214_126 t12_64 sh_69 g_69_64 (by decide) (by decide) (s_iload_n c214_115 rfl (s_iconst c214_116 rfl (s_bast c214_117 sh_107 ⟨(H.2 q1).1, (by decide), s_aload_n c214_118 rfl (s_getP 123 c214_119 f214_177 t12_91 sh_69 g_69_91 (by decide) (by decide) (s_aload_n c214_122 rfl (s_getI c214_123 f214_438 t12_92 sh_69 (s_iload_n c214_126 rfl (s_iast c214_127 sh_123 ⟨(H.2 q1).2.1, s_aload_n c214_128 rfl (s_dupP c214_129 (s_getI c214_130 f214_438 t12_92 sh_69 (s_iconst c214_133 rfl (s_iadd c214_134 (s_putI c214_135 f214_438 t12_92 n12_92 sh_69 ((H.2 q1).2.2))))))⟩)))))⟩))))⟩))
theorem b214_12 {d : Nat} {h : HP} {Q : PV → HP → Prop} {v1 v2 : Int} (H : ((v2 = 0) → Q (I 0) h) ∧ (¬ (v2 = 0) → X d 186 0 [some (P 69), none, none] [] h (fun _ h' => X (d + 1) 214 20 [some (P 69), some (I v1), some (I v2), none, none] [] h' Q))) : X (d + 1) 214 12 [some (P 69), some (I v1), some (I v2), none, none] [] h Q :=
  s_iload_n c214_12 rfl (s_if 141 (v2 = 0) c214_13 (by decide) rfl ⟨fun q2 => s_retV c214_141 R214 (H.1 q2), fun q2 => s_aload_n c214_16 rfl (s_cVv c214_17 m214_363 F186 K186 rfl (Nat.le_of_ble_eq_true rfl) rfl S186_69 rfl (H.2 q2))⟩)
theorem b214_138 {d : Nat} {h : HP} {Q : PV → HP → Prop} {v1 v2 v3 v4 : Int} (H : X d 214 12 [some (P 69), some (I v1), some (I v2), none, none] [] h Q) : X d 214 138 [some (P 69), some (I v1), some (I v2), some (I v3), some (I v4)] [] h Q :=
  s_goto 12 c214_138 (by decide) (X_weak (A := [some (P 69), some (I v1), some (I v2), none, none]) (B := [some (P 69), some (I v1), some (I v2), some (I v3), some (I v4)]) ⟨Or.inl rfl, Or.inl rfl, Or.inl rfl, Or.inr ⟨rfl, _, rfl, rfl⟩, Or.inr ⟨rfl, _, rfl, rfl⟩, trivial⟩ H)
theorem b214_20 {d : Nat} {h : HP} {Q : PV → HP → Prop} {v1 v2 : Int} (H : X d 214 31 [some (P 69), some (I v1), some (I v2), some (I (-9)), some (I (w32 ((h 69 22) - 1)))] [] h Q) : X d 214 20 [some (P 69), some (I v1), some (I v2), none, none] [] h Q :=
  s_bipush c214_20 ⟨by decide, by decide⟩ (s_istore_n c214_22 rfl (s_aload_n c214_23 rfl (s_getI c214_24 f214_226 t12_22 sh_69 (s_iconst c214_27 rfl (s_isub c214_28 (s_istore c214_29 rfl (H)))))))
theorem b214_31 {d : Nat} {h : HP} {Q : PV → HP → Prop} {v1 v2 v3 v4 : Int} (H : ((v4 < 0) → (((v3 < 0) → X d 214 106 [some (P 69), some (I v1), some (I v2), some (I v3), some (I v4)] [I 0] h Q) ∧ (¬ (v3 < 0) → X d 214 106 [some (P 69), some (I v1), some (I v2), some (I v3), some (I v4)] [I 1] h Q))) ∧ (¬ (v4 < 0) → ((0 ≤ v4 ∧ v4 < 8) ∧ ((((h 107 v4.toNat) = 0) → X d 214 89 [some (P 69), some (I v1), some (I v2), some (I v3), some (I v4)] [] h Q) ∧ (¬ ((h 107 v4.toNat) = 0) → ((0 ≤ v4 ∧ v4 < 8) ∧ ((0 ≤ (h 86 v4.toNat) ∧ (h 86 v4.toNat) < 8) ∧ ((((h 105 (h 86 v4.toNat).toNat) < (h 69 37)) → X d 214 89 [some (P 69), some (I v1), some (I v2), some (I v3), some (I v4)] [] h Q) ∧ (¬ ((h 105 (h 86 v4.toNat).toNat) < (h 69 37)) → ((0 ≤ v4 ∧ v4 < 8) ∧ ((0 ≤ (h 87 v4.toNat) ∧ (h 87 v4.toNat) < 8) ∧ ((((h 105 (h 87 v4.toNat).toNat) < (h 69 37)) → X d 214 89 [some (P 69), some (I v1), some (I v2), some (I v3), some (I v4)] [] h Q) ∧ (¬ ((h 105 (h 87 v4.toNat).toNat) < (h 69 37)) → X d 214 90 [some (P 69), some (I v1), some (I v2), some (I v3), some (I v4)] [I v4] h Q))))))))))))) : X d 214 31 [some (P 69), some (I v1), some (I v2), some (I v3), some (I v4)] [] h Q :=
  s_iload c214_31 rfl (s_if 97 (v4 < 0) c214_33 (by decide) rfl ⟨fun q3 => s_iload_n c214_97 rfl (s_if 105 (v3 < 0) c214_98 (by decide) rfl ⟨fun q4 => s_iconst c214_105 rfl (((H.1 q3).1 q4)), fun q4 => s_iconst c214_101 rfl (s_goto 106 c214_102 (by decide) (((H.1 q3).2 q4)))⟩), fun q3 => s_aload_n c214_36 rfl (s_getP 107 c214_37 f214_126 t12_64 sh_69 g_69_64 (by decide) (by decide) (s_iload c214_40 rfl (s_bald c214_42 sh_107 ⟨(H.2 q3).1, s_if 89 ((h 107 v4.toNat) = 0) c214_43 (by decide) rfl ⟨fun q5 => ((H.2 q3).2.1 q5), fun q5 => s_aload_n c214_46 rfl (s_getP 105 c214_47 f214_120 t12_54 sh_69 g_69_54 (by decide) (by decide) (s_aload_n c214_50 rfl (s_getP 86 c214_51 f214_58 t12_18 sh_69 g_69_18 (by decide) (by decide) (s_iload c214_54 rfl (s_iald c214_56 sh_86 ⟨((H.2 q3).2.2 q5).1, s_iald c214_57 sh_105 ⟨((H.2 q3).2.2 q5).2.1, s_aload_n c214_58 rfl (s_getI c214_59 f214_92 t12_37 sh_69 (s_ifc 89 ((h 105 (h 86 v4.toNat).toNat) < (h 69 37)) c214_62 (by decide) rfl ⟨fun q6 => (((H.2 q3).2.2 q5).2.2.1 q6), fun q6 => s_aload_n c214_65 rfl (s_getP 105 c214_66 f214_120 t12_54 sh_69 g_69_54 (by decide) (by decide) (s_aload_n c214_69 rfl (s_getP 87 c214_70 f214_61 t12_19 sh_69 g_69_19 (by decide) (by decide) (s_iload c214_73 rfl (s_iald c214_75 sh_87 ⟨(((H.2 q3).2.2 q5).2.2.2 q6).1, s_iald c214_76 sh_105 ⟨(((H.2 q3).2.2 q5).2.2.2 q6).2.1, s_aload_n c214_77 rfl (s_getI c214_78 f214_92 t12_37 sh_69 (s_ifc 89 ((h 105 (h 87 v4.toNat).toNat) < (h 69 37)) c214_81 (by decide) rfl ⟨fun q7 => ((((H.2 q3).2.2 q5).2.2.2 q6).2.2.1 q7), fun q7 => s_iload c214_84 rfl (s_goto 90 c214_86 (by decide) (((((H.2 q3).2.2 q5).2.2.2 q6).2.2.2 q7)))⟩))⟩⟩)))))⟩))⟩⟩)))))⟩⟩)))⟩)
theorem b214_5 {d : Nat} {h : HP} {Q : PV → HP → Prop} {v1 : Int} (H : X d 214 12 [some (P 69), some (I v1), some (I 1), none, none] [] (up2 h 69 92 0) Q) : X d 214 5 [some (P 69), some (I v1), none, none, none] [] h Q :=
  s_aload_n c214_5 rfl (s_iconst c214_6 rfl (s_putI c214_7 f214_438 t12_92 n12_92 sh_69 (s_iconst c214_10 rfl (s_istore_n c214_11 rfl (H)))))
theorem b214_89 {d : Nat} {h : HP} {Q : PV → HP → Prop} {v1 v2 v3 v4 : Int} (H : X d 214 90 [some (P 69), some (I v1), some (I v2), some (I v3), some (I v4)] [I v3] h Q) : X d 214 89 [some (P 69), some (I v1), some (I v2), some (I v3), some (I v4)] [] h Q :=
  s_iload_n c214_89 rfl (H)
theorem b214_90 {d : Nat} {h : HP} {Q : PV → HP → Prop} {v1 v2 v3 v4 s0 : Int} (H : X d 214 31 [some (P 69), some (I v1), some (I v2), some (I s0), some (I (w32 (v4 + (-1))))] [] h Q) : X d 214 90 [some (P 69), some (I v1), some (I v2), some (I v3), some (I v4)] [I s0] h Q :=
  s_istore_n c214_90 rfl (s_iinc c214_91 rfl rfl rfl (s_goto 31 c214_94 (by decide) (H)))
-- WarmSideModel.thaws(II)I
theorem c215_0 : cdA 215 0 = some (.iload_n 1) := by decide +kernel
theorem c215_1 : cdA 215 1 = some (.invokestatic 199) := by decide +kernel
theorem m215_199 : mthR (moN 215) 199 = 140 := by decide +kernel
theorem c215_12 : cdA 215 12 = some (.ireturn) := by decide +kernel
theorem R215 : mK 215 = 0 := by decide +kernel
theorem c215_23 : cdA 215 23 = some (.ireturn) := by decide +kernel
theorem c215_29 : cdA 215 29 = some (.iload_n 2) := by decide +kernel
theorem c215_30 : cdA 215 30 = some (.aload_n 0) := by decide +kernel
theorem c215_31 : cdA 215 31 = some (.getfield 438) := by decide +kernel
theorem f215_438 : fldR (moN 215) 438 = some (12, 92) := by decide +kernel
theorem c215_34 : cdA 215 34 = some (.if_icmp .ge 12) := by decide +kernel
theorem c215_46 : cdA 215 46 = some (.bipush (-9)) := by decide +kernel
theorem c215_48 : cdA 215 48 = some (.ireturn) := by decide +kernel
theorem c215_37 : cdA 215 37 = some (.aload_n 0) := by decide +kernel
theorem c215_38 : cdA 215 38 = some (.getfield 177) := by decide +kernel
theorem f215_177 : fldR (moN 215) 177 = some (12, 91) := by decide +kernel
theorem c215_41 : cdA 215 41 = some (.iload_n 2) := by decide +kernel
theorem c215_42 : cdA 215 42 = some (.iaload) := by decide +kernel
theorem c215_43 : cdA 215 43 = some (.goto 5) := by decide +kernel
theorem c215_4 : cdA 215 4 = some (.ifCond .ne 9) := by decide +kernel
theorem c215_13 : cdA 215 13 = some (.iload_n 2) := by decide +kernel
theorem c215_14 : cdA 215 14 = some (.ifCond .ge 10) := by decide +kernel
theorem c215_24 : cdA 215 24 = some (.aload_n 0) := by decide +kernel
theorem c215_25 : cdA 215 25 = some (.iload_n 1) := by decide +kernel
theorem c215_26 : cdA 215 26 = some (.invokevirtual 441) := by decide +kernel
theorem m215_441 : mthR (moN 215) 441 = 217 := by decide +kernel
theorem F214 : mF 214 1 5 true := by unfold mF; decide +kernel
theorem K214 : mK 214 = 4 := by decide +kernel
theorem S214_69 : SH0[69]? = some (.inl (moN 214)) := by decide +kernel
theorem c215_17 : cdA 215 17 = some (.aload_n 0) := by decide +kernel
theorem c215_18 : cdA 215 18 = some (.bipush (-4)) := by decide +kernel
theorem c215_20 : cdA 215 20 = some (.invokevirtual 187) := by decide +kernel
theorem m215_187 : mthR (moN 215) 187 = 138 := by decide +kernel
theorem c215_7 : cdA 215 7 = some (.aload_n 0) := by decide +kernel
theorem c215_8 : cdA 215 8 = some (.iconst (-1)) := by decide +kernel
theorem c215_9 : cdA 215 9 = some (.invokevirtual 187) := by decide +kernel
theorem b215_0 {d : Nat} {h : HP} {Q : PV → HP → Prop} {v1 v2 : Int} (H : X d 137 0 [some (I v1)] [] h (fun r h' => X (d + 1) 215 4 [some (P 69), some (I v1), some (I v2)] [r] h' Q)) : X (d + 1) 215 0 [some (P 69), some (I v1), some (I v2)] [] h Q :=
  s_iload_n c215_0 rfl (s_cSi c215_1 m215_199 F137 K137 rfl (Nat.le_of_ble_eq_true rfl) rfl rfl H)
theorem b215_12 {d : Nat} {h : HP} {Q : PV → HP → Prop} {v1 v2 s0 : Int} (H : Q (I s0) h) : X d 215 12 [some (P 69), some (I v1), some (I v2)] [I s0] h Q :=
  s_retI c215_12 R215 H
theorem b215_23 {d : Nat} {h : HP} {Q : PV → HP → Prop} {v1 v2 s0 : Int} (H : Q (I s0) h) : X d 215 23 [some (P 69), some (I v1), some (I v2)] [I s0] h Q :=
  s_retI c215_23 R215 H
theorem b215_29 {d : Nat} {h : HP} {Q : PV → HP → Prop} {v1 v2 : Int} (H : (((h 69 92) ≤ v2) → Q (I (-9)) h) ∧ (¬ ((h 69 92) ≤ v2) → ((0 ≤ v2 ∧ v2 < 8) ∧ Q (I (h 123 v2.toNat)) h))) : X d 215 29 [some (P 69), some (I v1), some (I v2)] [] h Q :=
  s_iload_n c215_29 rfl (s_aload_n c215_30 rfl (s_getI c215_31 f215_438 t12_92 sh_69 (s_ifc 46 ((h 69 92) ≤ v2) c215_34 (by decide) rfl ⟨fun q1 => s_bipush c215_46 ⟨by decide, by decide⟩ (s_retI c215_48 R215 (H.1 q1)), fun q1 => s_aload_n c215_37 rfl (s_getP 123 c215_38 f215_177 t12_91 sh_69 g_69_91 (by decide) (by decide) (s_iload_n c215_41 rfl (s_iald c215_42 sh_123 ⟨(H.2 q1).1, s_goto 48 c215_43 (by decide) (s_retI c215_48 R215 (H.2 q1).2)⟩)))⟩)))
theorem b215_4 {d : Nat} {h : HP} {Q : PV → HP → Prop} {v1 v2 s0 : Int} (H : ((¬ s0 = 0) → (((0 ≤ v2) → X d 214 0 [some (P 69), some (I v1), none, none, none] [] h (fun _ h' => X (d + 1) 215 29 [some (P 69), some (I v1), some (I v2)] [] h' Q)) ∧ (¬ (0 ≤ v2) → X d 135 0 [some (P 69), some (I (-4))] [] h (fun r h' => X (d + 1) 215 23 [some (P 69), some (I v1), some (I v2)] [r] h' Q)))) ∧ (¬ (¬ s0 = 0) → X d 135 0 [some (P 69), some (I (-1))] [] h (fun r h' => X (d + 1) 215 12 [some (P 69), some (I v1), some (I v2)] [r] h' Q))) : X (d + 1) 215 4 [some (P 69), some (I v1), some (I v2)] [I s0] h Q :=
  s_if 13 (¬ s0 = 0) c215_4 (by decide) rfl ⟨fun q2 => s_iload_n c215_13 rfl (s_if 24 (0 ≤ v2) c215_14 (by decide) rfl ⟨fun q3 => s_aload_n c215_24 rfl (s_iload_n c215_25 rfl (s_cVv c215_26 m215_441 F214 K214 rfl (Nat.le_of_ble_eq_true rfl) rfl S214_69 rfl ((H.1 q2).1 q3))), fun q3 => s_aload_n c215_17 rfl (s_bipush c215_18 ⟨by decide, by decide⟩ (s_cVi c215_20 m215_187 F135 K135 rfl (Nat.le_of_ble_eq_true rfl) rfl S135_69 rfl ((H.1 q2).2 q3)))⟩), fun q2 => s_aload_n c215_7 rfl (s_iconst c215_8 rfl (s_cVi c215_9 m215_187 F135 K135 rfl (Nat.le_of_ble_eq_true rfl) rfl S135_69 rfl (H.2 q2)))⟩
-- WarmSideModel.thaw(I)I
theorem c216_0 : cdA 216 0 = some (.iload_n 1) := by decide +kernel
theorem c216_1 : cdA 216 1 = some (.invokestatic 199) := by decide +kernel
theorem m216_199 : mthR (moN 216) 199 = 140 := by decide +kernel
theorem c216_12 : cdA 216 12 = some (.ireturn) := by decide +kernel
theorem R216 : mK 216 = 0 := by decide +kernel
theorem c216_18 : cdA 216 18 = some (.iconst 0) := by decide +kernel
theorem c216_19 : cdA 216 19 = some (.istore_n 2) := by decide +kernel
theorem c216_20 : cdA 216 20 = some (.iload_n 2) := by decide +kernel
theorem c216_21 : cdA 216 21 = some (.aload_n 0) := by decide +kernel
theorem c216_22 : cdA 216 22 = some (.getfield 438) := by decide +kernel
theorem f216_438 : fldR (moN 216) 438 = some (12, 92) := by decide +kernel
theorem c216_25 : cdA 216 25 = some (.if_icmp .ge 21) := by decide +kernel
theorem c216_46 : cdA 216 46 = some (.aload_n 0) := by decide +kernel
theorem c216_47 : cdA 216 47 = some (.invokevirtual 360) := by decide +kernel
theorem m216_360 : mthR (moN 216) 360 = 150 := by decide +kernel
theorem c216_28 : cdA 216 28 = some (.aload_n 0) := by decide +kernel
theorem c216_29 : cdA 216 29 = some (.getfield 67) := by decide +kernel
theorem f216_67 : fldR (moN 216) 67 = some (12, 21) := by decide +kernel
theorem c216_32 : cdA 216 32 = some (.aload_n 0) := by decide +kernel
theorem c216_33 : cdA 216 33 = some (.getfield 177) := by decide +kernel
theorem f216_177 : fldR (moN 216) 177 = some (12, 91) := by decide +kernel
theorem c216_36 : cdA 216 36 = some (.iload_n 2) := by decide +kernel
theorem c216_37 : cdA 216 37 = some (.iaload) := by decide +kernel
theorem c216_38 : cdA 216 38 = some (.iconst 0) := by decide +kernel
theorem c216_39 : cdA 216 39 = some (.bastore) := by decide +kernel
theorem c216_40 : cdA 216 40 = some (.iinc 2 1) := by decide +kernel
theorem c216_43 : cdA 216 43 = some (.goto (-23)) := by decide +kernel
theorem c216_4 : cdA 216 4 = some (.ifCond .ne 9) := by decide +kernel
theorem c216_13 : cdA 216 13 = some (.aload_n 0) := by decide +kernel
theorem c216_14 : cdA 216 14 = some (.iload_n 1) := by decide +kernel
theorem c216_15 : cdA 216 15 = some (.invokevirtual 441) := by decide +kernel
theorem m216_441 : mthR (moN 216) 441 = 217 := by decide +kernel
theorem c216_7 : cdA 216 7 = some (.aload_n 0) := by decide +kernel
theorem c216_8 : cdA 216 8 = some (.iconst (-1)) := by decide +kernel
theorem c216_9 : cdA 216 9 = some (.invokevirtual 187) := by decide +kernel
theorem m216_187 : mthR (moN 216) 187 = 138 := by decide +kernel
theorem c216_50 : cdA 216 50 = some (.aload_n 0) := by decide +kernel
theorem c216_51 : cdA 216 51 = some (.getfield 438) := by decide +kernel
theorem c216_54 : cdA 216 54 = some (.ireturn) := by decide +kernel
theorem b216_0 {d : Nat} {h : HP} {Q : PV → HP → Prop} {v1 : Int} (H : X d 137 0 [some (I v1)] [] h (fun r h' => X (d + 1) 216 4 [some (P 69), some (I v1), none] [r] h' Q)) : X (d + 1) 216 0 [some (P 69), some (I v1), none] [] h Q :=
  s_iload_n c216_0 rfl (s_cSi c216_1 m216_199 F137 K137 rfl (Nat.le_of_ble_eq_true rfl) rfl rfl H)
theorem b216_12 {d : Nat} {h : HP} {Q : PV → HP → Prop} {v1 s0 : Int} (H : Q (I s0) h) : X d 216 12 [some (P 69), some (I v1), none] [I s0] h Q :=
  s_retI c216_12 R216 H
theorem b216_18 {d : Nat} {h : HP} {Q : PV → HP → Prop} {v1 : Int} (H : X d 216 20 [some (P 69), some (I v1), some (I 0)] [] h Q) : X d 216 18 [some (P 69), some (I v1), none] [] h Q :=
  s_iconst c216_18 rfl (s_istore_n c216_19 rfl (H))
theorem b216_20 {d : Nat} {h : HP} {Q : PV → HP → Prop} {v1 v2 : Int} (H : (((h 69 92) ≤ v2) → X d 147 0 [some (P 69)] [] h (fun _ h' => X (d + 1) 216 50 [some (P 69), some (I v1), some (I v2)] [] h' Q)) ∧ (¬ ((h 69 92) ≤ v2) → ((0 ≤ v2 ∧ v2 < 8) ∧ ((0 ≤ (h 123 v2.toNat) ∧ (h 123 v2.toNat) < 8) ∧ X (d + 1) 216 20 [some (P 69), some (I v1), some (I (w32 (v2 + 1)))] [] (up2 h 89 (h 123 v2.toNat).toNat 0) Q)))) : X (d + 1) 216 20 [some (P 69), some (I v1), some (I v2)] [] h Q :=
  s_iload_n c216_20 rfl (s_aload_n c216_21 rfl (s_getI c216_22 f216_438 t12_92 sh_69 (s_ifc 46 ((h 69 92) ≤ v2) c216_25 (by decide) rfl ⟨fun q1 => s_aload_n c216_46 rfl (s_cVv c216_47 m216_360 F147 K147 rfl (Nat.le_of_ble_eq_true rfl) rfl S147_69 rfl (H.1 q1)), fun q1 => s_aload_n c216_28 rfl (s_getP 89 c216_29 f216_67 t12_21 sh_69 g_69_21 (by decide) (by decide) (s_aload_n c216_32 rfl (s_getP 123 c216_33 f216_177 t12_91 sh_69 g_69_91 (by decide) (by decide) (s_iload_n c216_36 rfl (s_iald c216_37 sh_123 ⟨(H.2 q1).1, s_iconst c216_38 rfl (s_bast c216_39 sh_89 ⟨(H.2 q1).2.1, (by decide), s_iinc c216_40 rfl rfl rfl (s_goto 20 c216_43 (by decide) ((H.2 q1).2.2))⟩)⟩)))))⟩)))
theorem b216_4 {d : Nat} {h : HP} {Q : PV → HP → Prop} {v1 s0 : Int} (H : ((¬ s0 = 0) → X d 214 0 [some (P 69), some (I v1), none, none, none] [] h (fun _ h' => X (d + 1) 216 18 [some (P 69), some (I v1), none] [] h' Q)) ∧ (¬ (¬ s0 = 0) → X d 135 0 [some (P 69), some (I (-1))] [] h (fun r h' => X (d + 1) 216 12 [some (P 69), some (I v1), none] [r] h' Q))) : X (d + 1) 216 4 [some (P 69), some (I v1), none] [I s0] h Q :=
  s_if 13 (¬ s0 = 0) c216_4 (by decide) rfl ⟨fun q2 => s_aload_n c216_13 rfl (s_iload_n c216_14 rfl (s_cVv c216_15 m216_441 F214 K214 rfl (Nat.le_of_ble_eq_true rfl) rfl S214_69 rfl (H.1 q2))), fun q2 => s_aload_n c216_7 rfl (s_iconst c216_8 rfl (s_cVi c216_9 m216_187 F135 K135 rfl (Nat.le_of_ble_eq_true rfl) rfl S135_69 rfl (H.2 q2)))⟩
theorem b216_50 {d : Nat} {h : HP} {Q : PV → HP → Prop} {v1 v2 : Int} (H : Q (I (h 69 92)) h) : X d 216 50 [some (P 69), some (I v1), some (I v2)] [] h Q :=
  s_aload_n c216_50 rfl (s_getI c216_51 f216_438 t12_92 sh_69 (s_retI c216_54 R216 H))
-- WarmSideModel.work(I)I
theorem c217_0 : cdA 217 0 = some (.iload_n 1) := by decide +kernel
theorem c217_1 : cdA 217 1 = some (.ifCond .lt 11) := by decide +kernel
theorem c217_4 : cdA 217 4 = some (.iload_n 1) := by decide +kernel
theorem c217_5 : cdA 217 5 = some (.aload_n 0) := by decide +kernel
theorem c217_6 : cdA 217 6 = some (.getfield 229) := by decide +kernel
theorem f217_229 : fldR (moN 217) 229 = some (12, 26) := by decide +kernel
theorem c217_9 : cdA 217 9 = some (.if_icmp .lt 9) := by decide +kernel
theorem c217_18 : cdA 217 18 = some (.aload_n 0) := by decide +kernel
theorem c217_19 : cdA 217 19 = some (.invokevirtual 395) := by decide +kernel
theorem m217_395 : mthR (moN 217) 395 = 199 := by decide +kernel
theorem c217_100 : cdA 217 100 = some (.aload_n 0) := by decide +kernel
theorem c217_101 : cdA 217 101 = some (.getfield 34) := by decide +kernel
theorem f217_34 : fldR (moN 217) 34 = some (12, 8) := by decide +kernel
theorem c217_104 : cdA 217 104 = some (.aload_n 0) := by decide +kernel
theorem c217_105 : cdA 217 105 = some (.getfield 71) := by decide +kernel
theorem f217_71 : fldR (moN 217) 71 = some (12, 23) := by decide +kernel
theorem c217_108 : cdA 217 108 = some (.iload_n 1) := by decide +kernel
theorem c217_109 : cdA 217 109 = some (.iaload) := by decide +kernel
theorem c217_110 : cdA 217 110 = some (.iaload) := by decide +kernel
theorem c217_111 : cdA 217 111 = some (.if_icmp .gt 7) := by decide +kernel
theorem c217_118 : cdA 217 118 = some (.iconst 0) := by decide +kernel
theorem c217_114 : cdA 217 114 = some (.iconst 1) := by decide +kernel
theorem c217_115 : cdA 217 115 = some (.goto 4) := by decide +kernel
theorem c217_119 : cdA 217 119 = some (.istore 4) := by decide +kernel
theorem c217_121 : cdA 217 121 = some (.iinc 5 1) := by decide +kernel
theorem c217_124 : cdA 217 124 = some (.goto (-50)) := by decide +kernel
theorem c217_12 : cdA 217 12 = some (.aload_n 0) := by decide +kernel
theorem c217_13 : cdA 217 13 = some (.iconst (-1)) := by decide +kernel
theorem c217_14 : cdA 217 14 = some (.invokevirtual 187) := by decide +kernel
theorem m217_187 : mthR (moN 217) 187 = 138 := by decide +kernel
theorem c217_127 : cdA 217 127 = some (.iload 4) := by decide +kernel
theorem c217_129 : cdA 217 129 = some (.ifCond .eq 7) := by decide +kernel
theorem c217_136 : cdA 217 136 = some (.iload_n 2) := by decide +kernel
theorem c217_132 : cdA 217 132 = some (.iload_n 3) := by decide +kernel
theorem c217_133 : cdA 217 133 = some (.goto 4) := by decide +kernel
theorem c217_137 : cdA 217 137 = some (.istore_n 2) := by decide +kernel
theorem c217_138 : cdA 217 138 = some (.iinc 3 1) := by decide +kernel
theorem c217_141 : cdA 217 141 = some (.goto (-109)) := by decide +kernel
theorem c217_154 : cdA 217 154 = some (.iload_n 2) := by decide +kernel
theorem c217_155 : cdA 217 155 = some (.ireturn) := by decide +kernel
theorem R217 : mK 217 = 0 := by decide +kernel
theorem c217_17 : cdA 217 17 = some (.ireturn) := by decide +kernel
theorem c217_22 : cdA 217 22 = some (.aload_n 0) := by decide +kernel
theorem c217_23 : cdA 217 23 = some (.iload_n 1) := by decide +kernel
theorem c217_24 : cdA 217 24 = some (.putfield 144) := by decide +kernel
theorem f217_144 : fldR (moN 217) 144 = some (12, 70) := by decide +kernel
theorem n12_70 : ffin 12 70 = false := by decide +kernel
theorem c217_27 : cdA 217 27 = some (.bipush (-9)) := by decide +kernel
theorem c217_29 : cdA 217 29 = some (.istore_n 2) := by decide +kernel
theorem c217_30 : cdA 217 30 = some (.iconst 0) := by decide +kernel
theorem c217_31 : cdA 217 31 = some (.istore_n 3) := by decide +kernel
theorem c217_32 : cdA 217 32 = some (.iload_n 3) := by decide +kernel
theorem c217_33 : cdA 217 33 = some (.sipush 4096) := by decide +kernel
theorem c217_36 : cdA 217 36 = some (.if_icmp .ge 108) := by decide +kernel
theorem c217_144 : cdA 217 144 = some (.aload_n 0) := by decide +kernel
theorem c217_145 : cdA 217 145 = some (.bipush (-9)) := by decide +kernel
theorem c217_147 : cdA 217 147 = some (.putfield 144) := by decide +kernel
theorem c217_150 : cdA 217 150 = some (.aload_n 0) := by decide +kernel
theorem c217_151 : cdA 217 151 = some (.invokevirtual 401) := by decide +kernel
theorem m217_401 : mthR (moN 217) 401 = 200 := by decide +kernel
theorem c217_39 : cdA 217 39 = some (.iload_n 2) := by decide +kernel
theorem c217_40 : cdA 217 40 = some (.ifCond .lt 14) := by decide +kernel
theorem c217_43 : cdA 217 43 = some (.iload_n 3) := by decide +kernel
theorem c217_44 : cdA 217 44 = some (.invokestatic 435) := by decide +kernel
theorem m217_435 : mthR (moN 217) 435 = 211 := by decide +kernel
theorem c217_47 : cdA 217 47 = some (.iload_n 2) := by decide +kernel
theorem c217_48 : cdA 217 48 = some (.invokestatic 435) := by decide +kernel
theorem c217_51 : cdA 217 51 = some (.if_icmp .le 87) := by decide +kernel
theorem c217_54 : cdA 217 54 = some (.aload_n 0) := by decide +kernel
theorem c217_55 : cdA 217 55 = some (.invokevirtual 401) := by decide +kernel
theorem c217_58 : cdA 217 58 = some (.aload_n 0) := by decide +kernel
theorem c217_59 : cdA 217 59 = some (.iconst 0) := by decide +kernel
theorem c217_60 : cdA 217 60 = some (.putfield 319) := by decide +kernel
theorem f217_319 : fldR (moN 217) 319 = some (12, 32) := by decide +kernel
theorem c217_63 : cdA 217 63 = some (.aload_n 0) := by decide +kernel
theorem c217_64 : cdA 217 64 = some (.iload_n 3) := by decide +kernel
theorem c217_65 : cdA 217 65 = some (.putfield 332) := by decide +kernel
theorem f217_332 : fldR (moN 217) 332 = some (12, 71) := by decide +kernel
theorem n12_71 : ffin 12 71 = false := by decide +kernel
theorem c217_68 : cdA 217 68 = some (.iconst 1) := by decide +kernel
theorem c217_69 : cdA 217 69 = some (.istore 4) := by decide +kernel
theorem c217_71 : cdA 217 71 = some (.iconst 0) := by decide +kernel
theorem c217_72 : cdA 217 72 = some (.istore 5) := by decide +kernel
theorem c217_74 : cdA 217 74 = some (.iload 5) := by decide +kernel
theorem c217_76 : cdA 217 76 = some (.bipush 12) := by decide +kernel
theorem c217_78 : cdA 217 78 = some (.if_icmp .ge 49) := by decide +kernel
theorem c217_81 : cdA 217 81 = some (.iload 4) := by decide +kernel
theorem c217_83 : cdA 217 83 = some (.ifCond .eq 44) := by decide +kernel
theorem c217_86 : cdA 217 86 = some (.aload_n 0) := by decide +kernel
theorem c217_87 : cdA 217 87 = some (.invokevirtual 357) := by decide +kernel
theorem m217_357 : mthR (moN 217) 357 = 185 := by decide +kernel
theorem c217_90 : cdA 217 90 = some (.aload_n 0) := by decide +kernel
theorem c217_91 : cdA 217 91 = some (.aload_n 0) := by decide +kernel
theorem c217_92 : cdA 217 92 = some (.getfield 71) := by decide +kernel
theorem c217_95 : cdA 217 95 = some (.iload_n 1) := by decide +kernel
theorem c217_96 : cdA 217 96 = some (.iaload) := by decide +kernel
theorem c217_97 : cdA 217 97 = some (.invokevirtual 322) := by decide +kernel
theorem m217_322 : mthR (moN 217) 322 = 178 := by decide +kernel
theorem b217_0 {d : Nat} {h : HP} {Q : PV → HP → Prop} {v1 : Int} (H : ((v1 < 0) → X (d + 1) 217 12 [some (P 69), some (I v1), none, none, none, none] [] h Q) ∧ (¬ (v1 < 0) → (((v1 < (h 69 26)) → X d 196 0 [some (P 69), none] [] h (fun _ h' => X (d + 1) 217 22 [some (P 69), some (I v1), none, none, none, none] [] h' Q)) ∧ (¬ (v1 < (h 69 26)) → X (d + 1) 217 12 [some (P 69), some (I v1), none, none, none, none] [] h Q)))) : X (d + 1) 217 0 [some (P 69), some (I v1), none, none, none, none] [] h Q :=
  s_iload_n c217_0 rfl (s_if 12 (v1 < 0) c217_1 (by decide) rfl ⟨fun q1 => (H.1 q1), fun q1 => s_iload_n c217_4 rfl (s_aload_n c217_5 rfl (s_getI c217_6 f217_229 t12_26 sh_69 (s_ifc 18 (v1 < (h 69 26)) c217_9 (by decide) rfl ⟨fun q2 => s_aload_n c217_18 rfl (s_cVv c217_19 m217_395 F196 K196 rfl (Nat.le_of_ble_eq_true rfl) rfl S196_69 rfl ((H.2 q1).1 q2)), fun q2 => ((H.2 q1).2 q2)⟩)))⟩)
theorem b217_100 {d : Nat} {h : HP} {Q : PV → HP → Prop} {v1 v2 v3 v4 v5 s0 : Int} (H : (0 ≤ v1 ∧ v1 < 8) ∧ ((0 ≤ (h 90 v1.toNat) ∧ (h 90 v1.toNat) < 8) ∧ ((((h 78 (h 90 v1.toNat).toNat) < s0) → X d 217 119 [some (P 69), some (I v1), some (I v2), some (I v3), some (I v4), some (I v5)] [I 0] h Q) ∧ (¬ ((h 78 (h 90 v1.toNat).toNat) < s0) → X d 217 119 [some (P 69), some (I v1), some (I v2), some (I v3), some (I v4), some (I v5)] [I 1] h Q)))) : X d 217 100 [some (P 69), some (I v1), some (I v2), some (I v3), some (I v4), some (I v5)] [I s0] h Q :=
  s_aload_n c217_100 rfl (s_getP 78 c217_101 f217_34 t12_8 sh_69 g_69_8 (by decide) (by decide) (s_aload_n c217_104 rfl (s_getP 90 c217_105 f217_71 t12_23 sh_69 g_69_23 (by decide) (by decide) (s_iload_n c217_108 rfl (s_iald c217_109 sh_90 ⟨H.1, s_iald c217_110 sh_78 ⟨H.2.1, s_ifc 118 ((h 78 (h 90 v1.toNat).toNat) < s0) c217_111 (by decide) rfl ⟨fun q3 => s_iconst c217_118 rfl ((H.2.2.1 q3)), fun q3 => s_iconst c217_114 rfl (s_goto 119 c217_115 (by decide) ((H.2.2.2 q3)))⟩⟩⟩)))))
theorem b217_119 {d : Nat} {h : HP} {Q : PV → HP → Prop} {v1 v2 v3 v4 v5 s0 : Int} (H : X d 217 74 [some (P 69), some (I v1), some (I v2), some (I v3), some (I s0), some (I (w32 (v5 + 1)))] [] h Q) : X d 217 119 [some (P 69), some (I v1), some (I v2), some (I v3), some (I v4), some (I v5)] [I s0] h Q :=
  s_istore c217_119 rfl (s_iinc c217_121 rfl rfl rfl (s_goto 74 c217_124 (by decide) (H)))
theorem b217_12 {d : Nat} {h : HP} {Q : PV → HP → Prop} {v1 : Int} (H : X d 135 0 [some (P 69), some (I (-1))] [] h (fun r h' => X (d + 1) 217 17 [some (P 69), some (I v1), none, none, none, none] [r] h' Q)) : X (d + 1) 217 12 [some (P 69), some (I v1), none, none, none, none] [] h Q :=
  s_aload_n c217_12 rfl (s_iconst c217_13 rfl (s_cVi c217_14 m217_187 F135 K135 rfl (Nat.le_of_ble_eq_true rfl) rfl S135_69 rfl H))
theorem b217_127 {d : Nat} {h : HP} {Q : PV → HP → Prop} {v1 v2 v3 v4 v5 : Int} (H : ((v4 = 0) → X d 217 137 [some (P 69), some (I v1), some (I v2), some (I v3), some (I v4), some (I v5)] [I v2] h Q) ∧ (¬ (v4 = 0) → X d 217 137 [some (P 69), some (I v1), some (I v2), some (I v3), some (I v4), some (I v5)] [I v3] h Q)) : X d 217 127 [some (P 69), some (I v1), some (I v2), some (I v3), some (I v4), some (I v5)] [] h Q :=
  s_iload c217_127 rfl (s_if 136 (v4 = 0) c217_129 (by decide) rfl ⟨fun q4 => s_iload_n c217_136 rfl ((H.1 q4)), fun q4 => s_iload_n c217_132 rfl (s_goto 137 c217_133 (by decide) ((H.2 q4)))⟩)
theorem b217_137 {d : Nat} {h : HP} {Q : PV → HP → Prop} {v1 v2 v3 v4 v5 s0 : Int} (H : X d 217 138 [some (P 69), some (I v1), some (I s0), some (I v3), none, none] [] h Q) : X d 217 137 [some (P 69), some (I v1), some (I v2), some (I v3), some (I v4), some (I v5)] [I s0] h Q :=
  s_istore_n c217_137 rfl (X_weak (A := [some (P 69), some (I v1), some (I s0), some (I v3), none, none]) (B := [some (P 69), some (I v1), some (I s0), some (I v3), some (I v4), some (I v5)]) ⟨Or.inl rfl, Or.inl rfl, Or.inl rfl, Or.inl rfl, Or.inr ⟨rfl, _, rfl, rfl⟩, Or.inr ⟨rfl, _, rfl, rfl⟩, trivial⟩ H)
theorem b217_138 {d : Nat} {h : HP} {Q : PV → HP → Prop} {v1 v2 v3 : Int} (H : X d 217 32 [some (P 69), some (I v1), some (I v2), some (I (w32 (v3 + 1))), none, none] [] h Q) : X d 217 138 [some (P 69), some (I v1), some (I v2), some (I v3), none, none] [] h Q :=
  s_iinc c217_138 rfl rfl rfl (s_goto 32 c217_141 (by decide) (H))
theorem b217_154 {d : Nat} {h : HP} {Q : PV → HP → Prop} {v1 v2 v3 : Int} (H : Q (I v2) h) : X d 217 154 [some (P 69), some (I v1), some (I v2), some (I v3), none, none] [] h Q :=
  s_iload_n c217_154 rfl (s_retI c217_155 R217 H)
theorem b217_17 {d : Nat} {h : HP} {Q : PV → HP → Prop} {v1 s0 : Int} (H : Q (I s0) h) : X d 217 17 [some (P 69), some (I v1), none, none, none, none] [I s0] h Q :=
  s_retI c217_17 R217 H
theorem b217_22 {d : Nat} {h : HP} {Q : PV → HP → Prop} {v1 : Int} (H : X d 217 32 [some (P 69), some (I v1), some (I (-9)), some (I 0), none, none] [] (up2 h 69 70 v1) Q) : X d 217 22 [some (P 69), some (I v1), none, none, none, none] [] h Q :=
  s_aload_n c217_22 rfl (s_iload_n c217_23 rfl (s_putI c217_24 f217_144 t12_70 n12_70 sh_69 (s_bipush c217_27 ⟨by decide, by decide⟩ (s_istore_n c217_29 rfl (s_iconst c217_30 rfl (s_istore_n c217_31 rfl (H)))))))
theorem b217_32 {d : Nat} {h : HP} {Q : PV → HP → Prop} {v1 v2 v3 : Int} (H : ((4096 ≤ v3) → X d 197 0 [some (P 69), none] [] (up2 h 69 70 (-9)) (fun _ h' => X (d + 1) 217 154 [some (P 69), some (I v1), some (I v2), some (I v3), none, none] [] h' Q)) ∧ (¬ (4096 ≤ v3) → (((v2 < 0) → X (d + 1) 217 54 [some (P 69), some (I v1), some (I v2), some (I v3), none, none] [] h Q) ∧ (¬ (v2 < 0) → X d 208 0 [some (I v3), none, none] [] h (fun r h' => X (d + 1) 217 47 [some (P 69), some (I v1), some (I v2), some (I v3), none, none] [r] h' Q))))) : X (d + 1) 217 32 [some (P 69), some (I v1), some (I v2), some (I v3), none, none] [] h Q :=
  s_iload_n c217_32 rfl (s_sipush c217_33 ⟨by decide, by decide⟩ (s_ifc 144 (4096 ≤ v3) c217_36 (by decide) rfl ⟨fun q5 => s_aload_n c217_144 rfl (s_bipush c217_145 ⟨by decide, by decide⟩ (s_putI c217_147 f217_144 t12_70 n12_70 sh_69 (s_aload_n c217_150 rfl (s_cVv c217_151 m217_401 F197 K197 rfl (Nat.le_of_ble_eq_true rfl) rfl S197_69 rfl (H.1 q5))))), fun q5 => s_iload_n c217_39 rfl (s_if 54 (v2 < 0) c217_40 (by decide) rfl ⟨fun q6 => ((H.2 q5).1 q6), fun q6 => s_iload_n c217_43 rfl (s_cSi c217_44 m217_435 F208 K208 rfl (Nat.le_of_ble_eq_true rfl) rfl rfl ((H.2 q5).2 q6))⟩)⟩))
theorem b217_47 {d : Nat} {h : HP} {Q : PV → HP → Prop} {v1 v2 v3 s0 : Int} (H : X d 208 0 [some (I v2), none, none] [] h (fun r h' => X (d + 1) 217 51 [some (P 69), some (I v1), some (I v2), some (I v3), none, none] [r, I s0] h' Q)) : X (d + 1) 217 47 [some (P 69), some (I v1), some (I v2), some (I v3), none, none] [I s0] h Q :=
  s_iload_n c217_47 rfl (s_cSi c217_48 m217_435 F208 K208 rfl (Nat.le_of_ble_eq_true rfl) rfl rfl H)
theorem b217_51 {d : Nat} {h : HP} {Q : PV → HP → Prop} {v1 v2 v3 s0 s1 : Int} (H : ((s0 ≤ s1) → X d 217 138 [some (P 69), some (I v1), some (I v2), some (I v3), none, none] [] h Q) ∧ (¬ (s0 ≤ s1) → X d 217 54 [some (P 69), some (I v1), some (I v2), some (I v3), none, none] [] h Q)) : X d 217 51 [some (P 69), some (I v1), some (I v2), some (I v3), none, none] [I s1, I s0] h Q :=
  s_ifc 138 (s0 ≤ s1) c217_51 (by decide) rfl ⟨fun q7 => (H.1 q7), fun q7 => (H.2 q7)⟩
theorem b217_54 {d : Nat} {h : HP} {Q : PV → HP → Prop} {v1 v2 v3 : Int} (H : X d 197 0 [some (P 69), none] [] h (fun _ h' => X (d + 1) 217 58 [some (P 69), some (I v1), some (I v2), some (I v3), none, none] [] h' Q)) : X (d + 1) 217 54 [some (P 69), some (I v1), some (I v2), some (I v3), none, none] [] h Q :=
  s_aload_n c217_54 rfl (s_cVv c217_55 m217_401 F197 K197 rfl (Nat.le_of_ble_eq_true rfl) rfl S197_69 rfl H)
theorem b217_58 {d : Nat} {h : HP} {Q : PV → HP → Prop} {v1 v2 v3 : Int} (H : X d 217 74 [some (P 69), some (I v1), some (I v2), some (I v3), some (I 1), some (I 0)] [] (up2 (up2 h 69 32 0) 69 71 v3) Q) : X d 217 58 [some (P 69), some (I v1), some (I v2), some (I v3), none, none] [] h Q :=
  s_aload_n c217_58 rfl (s_iconst c217_59 rfl (s_putI c217_60 f217_319 t12_32 n12_32 sh_69 (s_aload_n c217_63 rfl (s_iload_n c217_64 rfl (s_putI c217_65 f217_332 t12_71 n12_71 sh_69 (s_iconst c217_68 rfl (s_istore c217_69 rfl (s_iconst c217_71 rfl (s_istore c217_72 rfl (H))))))))))
theorem b217_74 {d : Nat} {h : HP} {Q : PV → HP → Prop} {v1 v2 v3 v4 v5 : Int} (H : ((12 ≤ v5) → X (d + 1) 217 127 [some (P 69), some (I v1), some (I v2), some (I v3), some (I v4), some (I v5)] [] h Q) ∧ (¬ (12 ≤ v5) → (((v4 = 0) → X (d + 1) 217 127 [some (P 69), some (I v1), some (I v2), some (I v3), some (I v4), some (I v5)] [] h Q) ∧ (¬ (v4 = 0) → X d 182 0 [some (P 69), none, none, none, none, none, none] [] h (fun _ h' => X (d + 1) 217 90 [some (P 69), some (I v1), some (I v2), some (I v3), some (I v4), some (I v5)] [] h' Q))))) : X (d + 1) 217 74 [some (P 69), some (I v1), some (I v2), some (I v3), some (I v4), some (I v5)] [] h Q :=
  s_iload c217_74 rfl (s_bipush c217_76 ⟨by decide, by decide⟩ (s_ifc 127 (12 ≤ v5) c217_78 (by decide) rfl ⟨fun q8 => (H.1 q8), fun q8 => s_iload c217_81 rfl (s_if 127 (v4 = 0) c217_83 (by decide) rfl ⟨fun q9 => ((H.2 q8).1 q9), fun q9 => s_aload_n c217_86 rfl (s_cVv c217_87 m217_357 F182 K182 rfl (Nat.le_of_ble_eq_true rfl) rfl S182_69 rfl ((H.2 q8).2 q9))⟩)⟩))
theorem b217_90 {d : Nat} {h : HP} {Q : PV → HP → Prop} {v1 v2 v3 v4 v5 : Int} (H : (0 ≤ v1 ∧ v1 < 8) ∧ X d 175 0 [some (P 69), some (I (h 90 v1.toNat)), none] [] h (fun r h' => X (d + 1) 217 100 [some (P 69), some (I v1), some (I v2), some (I v3), some (I v4), some (I v5)] [r] h' Q)) : X (d + 1) 217 90 [some (P 69), some (I v1), some (I v2), some (I v3), some (I v4), some (I v5)] [] h Q :=
  s_aload_n c217_90 rfl (s_aload_n c217_91 rfl (s_getP 90 c217_92 f217_71 t12_23 sh_69 g_69_23 (by decide) (by decide) (s_iload_n c217_95 rfl (s_iald c217_96 sh_90 ⟨H.1, s_cVi c217_97 m217_322 F175 K175 rfl (Nat.le_of_ble_eq_true rfl) rfl S175_69 rfl H.2⟩))))
-- WarmSideModel.restBy(III)I
theorem c218_0 : cdA 218 0 = some (.aload_n 0) := by decide +kernel
theorem c218_1 : cdA 218 1 = some (.iload_n 2) := by decide +kernel
theorem c218_2 : cdA 218 2 = some (.invokevirtual 328) := by decide +kernel
theorem m218_328 : mthR (moN 218) 328 = 180 := by decide +kernel
theorem c218_114 : cdA 218 114 = some (.iconst 0) := by decide +kernel
theorem c218_115 : cdA 218 115 = some (.bastore) := by decide +kernel
theorem c218_116 : cdA 218 116 = some (.iinc 4 1) := by decide +kernel
theorem c218_119 : cdA 218 119 = some (.goto (-43)) := by decide +kernel
theorem c218_127 : cdA 218 127 = some (.ireturn) := by decide +kernel
theorem R218 : mK 218 = 0 := by decide +kernel
theorem c218_21 : cdA 218 21 = some (.putfield 304) := by decide +kernel
theorem f218_304 : fldR (moN 218) 304 = some (12, 59) := by decide +kernel
theorem c218_24 : cdA 218 24 = some (.iconst 0) := by decide +kernel
theorem c218_25 : cdA 218 25 = some (.istore 4) := by decide +kernel
theorem c218_27 : cdA 218 27 = some (.iload 4) := by decide +kernel
theorem c218_29 : cdA 218 29 = some (.aload_n 0) := by decide +kernel
theorem c218_30 : cdA 218 30 = some (.getfield 229) := by decide +kernel
theorem f218_229 : fldR (moN 218) 229 = some (12, 26) := by decide +kernel
theorem c218_33 : cdA 218 33 = some (.if_icmp .ge 40) := by decide +kernel
theorem c218_73 : cdA 218 73 = some (.iconst 0) := by decide +kernel
theorem c218_74 : cdA 218 74 = some (.istore 4) := by decide +kernel
theorem c218_36 : cdA 218 36 = some (.aload_n 0) := by decide +kernel
theorem c218_37 : cdA 218 37 = some (.getfield 129) := by decide +kernel
theorem f218_129 : fldR (moN 218) 129 = some (12, 65) := by decide +kernel
theorem c218_40 : cdA 218 40 = some (.iload 4) := by decide +kernel
theorem c218_42 : cdA 218 42 = some (.aload_n 0) := by decide +kernel
theorem c218_43 : cdA 218 43 = some (.getfield 129) := by decide +kernel
theorem c218_46 : cdA 218 46 = some (.iload 4) := by decide +kernel
theorem c218_48 : cdA 218 48 = some (.baload) := by decide +kernel
theorem c218_49 : cdA 218 49 = some (.ifCond .eq 16) := by decide +kernel
theorem c218_52 : cdA 218 52 = some (.iload_n 3) := by decide +kernel
theorem c218_53 : cdA 218 53 = some (.iconst 1) := by decide +kernel
theorem c218_54 : cdA 218 54 = some (.ishr) := by decide +kernel
theorem c218_55 : cdA 218 55 = some (.iconst 1) := by decide +kernel
theorem c218_56 : cdA 218 56 = some (.iand) := by decide +kernel
theorem c218_57 : cdA 218 57 = some (.iconst 1) := by decide +kernel
theorem c218_58 : cdA 218 58 = some (.if_icmp .ne 7) := by decide +kernel
theorem c218_61 : cdA 218 61 = some (.iconst 1) := by decide +kernel
theorem c218_62 : cdA 218 62 = some (.goto 4) := by decide +kernel
theorem c218_5 : cdA 218 5 = some (.aload_n 0) := by decide +kernel
theorem c218_6 : cdA 218 6 = some (.iload_n 3) := by decide +kernel
theorem c218_7 : cdA 218 7 = some (.iconst 1) := by decide +kernel
theorem c218_8 : cdA 218 8 = some (.iand) := by decide +kernel
theorem c218_9 : cdA 218 9 = some (.iconst 1) := by decide +kernel
theorem c218_10 : cdA 218 10 = some (.if_icmp .ne 10) := by decide +kernel
theorem c218_20 : cdA 218 20 = some (.iconst 0) := by decide +kernel
theorem c218_13 : cdA 218 13 = some (.aload_n 0) := by decide +kernel
theorem c218_14 : cdA 218 14 = some (.getfield 304) := by decide +kernel
theorem c218_17 : cdA 218 17 = some (.goto 4) := by decide +kernel
theorem c218_65 : cdA 218 65 = some (.iconst 0) := by decide +kernel
theorem c218_66 : cdA 218 66 = some (.bastore) := by decide +kernel
theorem c218_67 : cdA 218 67 = some (.iinc 4 1) := by decide +kernel
theorem c218_70 : cdA 218 70 = some (.goto (-43)) := by decide +kernel
theorem c218_76 : cdA 218 76 = some (.iload 4) := by decide +kernel
theorem c218_78 : cdA 218 78 = some (.aload_n 0) := by decide +kernel
theorem c218_79 : cdA 218 79 = some (.getfield 232) := by decide +kernel
theorem f218_232 : fldR (moN 218) 232 = some (12, 30) := by decide +kernel
theorem c218_82 : cdA 218 82 = some (.if_icmp .ge 40) := by decide +kernel
theorem c218_122 : cdA 218 122 = some (.aload_n 0) := by decide +kernel
theorem c218_123 : cdA 218 123 = some (.iload_n 1) := by decide +kernel
theorem c218_124 : cdA 218 124 = some (.invokevirtual 366) := by decide +kernel
theorem m218_366 : mthR (moN 218) 366 = 190 := by decide +kernel
theorem c218_85 : cdA 218 85 = some (.aload_n 0) := by decide +kernel
theorem c218_86 : cdA 218 86 = some (.getfield 135) := by decide +kernel
theorem f218_135 : fldR (moN 218) 135 = some (12, 67) := by decide +kernel
theorem c218_89 : cdA 218 89 = some (.iload 4) := by decide +kernel
theorem c218_91 : cdA 218 91 = some (.aload_n 0) := by decide +kernel
theorem c218_92 : cdA 218 92 = some (.getfield 135) := by decide +kernel
theorem c218_95 : cdA 218 95 = some (.iload 4) := by decide +kernel
theorem c218_97 : cdA 218 97 = some (.baload) := by decide +kernel
theorem c218_98 : cdA 218 98 = some (.ifCond .eq 16) := by decide +kernel
theorem c218_101 : cdA 218 101 = some (.iload_n 3) := by decide +kernel
theorem c218_102 : cdA 218 102 = some (.iconst 2) := by decide +kernel
theorem c218_103 : cdA 218 103 = some (.ishr) := by decide +kernel
theorem c218_104 : cdA 218 104 = some (.iconst 1) := by decide +kernel
theorem c218_105 : cdA 218 105 = some (.iand) := by decide +kernel
theorem c218_106 : cdA 218 106 = some (.iconst 1) := by decide +kernel
theorem c218_107 : cdA 218 107 = some (.if_icmp .ne 7) := by decide +kernel
theorem c218_110 : cdA 218 110 = some (.iconst 1) := by decide +kernel
theorem c218_111 : cdA 218 111 = some (.goto 4) := by decide +kernel
theorem b218_0 {d : Nat} {h : HP} {Q : PV → HP → Prop} {v1 v2 v3 : Int} (H : X d 177 0 [some (P 69), some (I v2), none] [] h (fun _ h' => X (d + 1) 218 5 [some (P 69), some (I v1), some (I v2), some (I v3), none] [] h' Q)) : X (d + 1) 218 0 [some (P 69), some (I v1), some (I v2), some (I v3), none] [] h Q :=
  s_aload_n c218_0 rfl (s_iload_n c218_1 rfl (s_cVv c218_2 m218_328 F177 K177 rfl (Nat.le_of_ble_eq_true rfl) rfl S177_69 rfl H))
theorem b218_114 {d : Nat} {h : HP} {Q : PV → HP → Prop} {v1 v2 v3 v4 s1 : Int} (H : X d 218 115 [some (P 69), some (I v1), some (I v2), some (I v3), some (I v4)] [I 0, I s1, P 110] h Q) : X d 218 114 [some (P 69), some (I v1), some (I v2), some (I v3), some (I v4)] [I s1, P 110] h Q :=
  s_iconst c218_114 rfl (H)
theorem b218_115 {d : Nat} {h : HP} {Q : PV → HP → Prop} {v1 v2 v3 v4 s1 s2 : Int} (H : (0 ≤ s1 ∧ s1 < 4) ∧ (s2 = 0 ∨ s2 = 1) ∧ X d 218 76 [some (P 69), some (I v1), some (I v2), some (I v3), some (I (w32 (v4 + 1)))] [] (up2 h 110 s1.toNat s2) Q) : X d 218 115 [some (P 69), some (I v1), some (I v2), some (I v3), some (I v4)] [I s2, I s1, P 110] h Q :=
  s_bast c218_115 sh_110 ⟨H.1, H.2.1, s_iinc c218_116 rfl rfl rfl (s_goto 76 c218_119 (by decide) (H.2.2))⟩
theorem b218_127 {d : Nat} {h : HP} {Q : PV → HP → Prop} {v1 v2 v3 v4 s0 : Int} (H : Q (I s0) h) : X d 218 127 [some (P 69), some (I v1), some (I v2), some (I v3), some (I v4)] [I s0] h Q :=
  s_retI c218_127 R218 H
theorem b218_21 {d : Nat} {h : HP} {Q : PV → HP → Prop} {v1 v2 v3 s1 : Int} (H : X d 218 27 [some (P 69), some (I v1), some (I v2), some (I v3), some (I 0)] [] (up2 h 69 59 s1) Q) : X d 218 21 [some (P 69), some (I v1), some (I v2), some (I v3), none] [I s1, P 69] h Q :=
  s_putI c218_21 f218_304 t12_59 n12_59 sh_69 (s_iconst c218_24 rfl (s_istore c218_25 rfl (H)))
theorem b218_27 {d : Nat} {h : HP} {Q : PV → HP → Prop} {v1 v2 v3 v4 : Int} (H : (((h 69 26) ≤ v4) → X d 218 76 [some (P 69), some (I v1), some (I v2), some (I v3), some (I 0)] [] h Q) ∧ (¬ ((h 69 26) ≤ v4) → ((0 ≤ v4 ∧ v4 < 8) ∧ ((((h 108 v4.toNat) = 0) → X d 218 65 [some (P 69), some (I v1), some (I v2), some (I v3), some (I v4)] [I v4, P 108] h Q) ∧ (¬ ((h 108 v4.toNat) = 0) → (((¬ (bAnd (bShr v3 1) 1) = 1) → X d 218 65 [some (P 69), some (I v1), some (I v2), some (I v3), some (I v4)] [I v4, P 108] h Q) ∧ (¬ (¬ (bAnd (bShr v3 1) 1) = 1) → X d 218 66 [some (P 69), some (I v1), some (I v2), some (I v3), some (I v4)] [I 1, I v4, P 108] h Q))))))) : X d 218 27 [some (P 69), some (I v1), some (I v2), some (I v3), some (I v4)] [] h Q :=
  s_iload c218_27 rfl (s_aload_n c218_29 rfl (s_getI c218_30 f218_229 t12_26 sh_69 (s_ifc 73 ((h 69 26) ≤ v4) c218_33 (by decide) rfl ⟨fun q1 => s_iconst c218_73 rfl (s_istore c218_74 rfl ((H.1 q1))), fun q1 => s_aload_n c218_36 rfl (s_getP 108 c218_37 f218_129 t12_65 sh_69 g_69_65 (by decide) (by decide) (s_iload c218_40 rfl (s_aload_n c218_42 rfl (s_getP 108 c218_43 f218_129 t12_65 sh_69 g_69_65 (by decide) (by decide) (s_iload c218_46 rfl (s_bald c218_48 sh_108 ⟨(H.2 q1).1, s_if 65 ((h 108 v4.toNat) = 0) c218_49 (by decide) rfl ⟨fun q2 => ((H.2 q1).2.1 q2), fun q2 => s_iload_n c218_52 rfl (s_iconst c218_53 rfl (s_ishr c218_54 (s_iconst c218_55 rfl (s_iand c218_56 (s_iconst c218_57 rfl (s_ifc 65 (¬ (bAnd (bShr v3 1) 1) = 1) c218_58 (by decide) rfl ⟨fun q3 => (((H.2 q1).2.2 q2).1 q3), fun q3 => s_iconst c218_61 rfl (s_goto 66 c218_62 (by decide) ((((H.2 q1).2.2 q2).2 q3)))⟩))))))⟩⟩))))))⟩)))
theorem b218_5 {d : Nat} {h : HP} {Q : PV → HP → Prop} {v1 v2 v3 : Int} (H : ((¬ (bAnd v3 1) = 1) → X d 218 21 [some (P 69), some (I v1), some (I v2), some (I v3), none] [I 0, P 69] h Q) ∧ (¬ (¬ (bAnd v3 1) = 1) → X d 218 21 [some (P 69), some (I v1), some (I v2), some (I v3), none] [I (h 69 59), P 69] h Q)) : X d 218 5 [some (P 69), some (I v1), some (I v2), some (I v3), none] [] h Q :=
  s_aload_n c218_5 rfl (s_iload_n c218_6 rfl (s_iconst c218_7 rfl (s_iand c218_8 (s_iconst c218_9 rfl (s_ifc 20 (¬ (bAnd v3 1) = 1) c218_10 (by decide) rfl ⟨fun q4 => s_iconst c218_20 rfl ((H.1 q4)), fun q4 => s_aload_n c218_13 rfl (s_getI c218_14 f218_304 t12_59 sh_69 (s_goto 21 c218_17 (by decide) ((H.2 q4))))⟩)))))
theorem b218_65 {d : Nat} {h : HP} {Q : PV → HP → Prop} {v1 v2 v3 v4 s1 : Int} (H : X d 218 66 [some (P 69), some (I v1), some (I v2), some (I v3), some (I v4)] [I 0, I s1, P 108] h Q) : X d 218 65 [some (P 69), some (I v1), some (I v2), some (I v3), some (I v4)] [I s1, P 108] h Q :=
  s_iconst c218_65 rfl (H)
theorem b218_66 {d : Nat} {h : HP} {Q : PV → HP → Prop} {v1 v2 v3 v4 s1 s2 : Int} (H : (0 ≤ s1 ∧ s1 < 8) ∧ (s2 = 0 ∨ s2 = 1) ∧ X d 218 27 [some (P 69), some (I v1), some (I v2), some (I v3), some (I (w32 (v4 + 1)))] [] (up2 h 108 s1.toNat s2) Q) : X d 218 66 [some (P 69), some (I v1), some (I v2), some (I v3), some (I v4)] [I s2, I s1, P 108] h Q :=
  s_bast c218_66 sh_108 ⟨H.1, H.2.1, s_iinc c218_67 rfl rfl rfl (s_goto 27 c218_70 (by decide) (H.2.2))⟩
theorem b218_76 {d : Nat} {h : HP} {Q : PV → HP → Prop} {v1 v2 v3 v4 : Int} (H : (((h 69 30) ≤ v4) → X d 187 0 [some (P 69), some (I v1)] [] h (fun r h' => X (d + 1) 218 127 [some (P 69), some (I v1), some (I v2), some (I v3), some (I v4)] [r] h' Q)) ∧ (¬ ((h 69 30) ≤ v4) → ((0 ≤ v4 ∧ v4 < 4) ∧ ((((h 110 v4.toNat) = 0) → X (d + 1) 218 114 [some (P 69), some (I v1), some (I v2), some (I v3), some (I v4)] [I v4, P 110] h Q) ∧ (¬ ((h 110 v4.toNat) = 0) → (((¬ (bAnd (bShr v3 2) 1) = 1) → X (d + 1) 218 114 [some (P 69), some (I v1), some (I v2), some (I v3), some (I v4)] [I v4, P 110] h Q) ∧ (¬ (¬ (bAnd (bShr v3 2) 1) = 1) → X (d + 1) 218 115 [some (P 69), some (I v1), some (I v2), some (I v3), some (I v4)] [I 1, I v4, P 110] h Q))))))) : X (d + 1) 218 76 [some (P 69), some (I v1), some (I v2), some (I v3), some (I v4)] [] h Q :=
  s_iload c218_76 rfl (s_aload_n c218_78 rfl (s_getI c218_79 f218_232 t12_30 sh_69 (s_ifc 122 ((h 69 30) ≤ v4) c218_82 (by decide) rfl ⟨fun q5 => s_aload_n c218_122 rfl (s_iload_n c218_123 rfl (s_cVi c218_124 m218_366 F187 K187 rfl (Nat.le_of_ble_eq_true rfl) rfl S187_69 rfl (H.1 q5))), fun q5 => s_aload_n c218_85 rfl (s_getP 110 c218_86 f218_135 t12_67 sh_69 g_69_67 (by decide) (by decide) (s_iload c218_89 rfl (s_aload_n c218_91 rfl (s_getP 110 c218_92 f218_135 t12_67 sh_69 g_69_67 (by decide) (by decide) (s_iload c218_95 rfl (s_bald c218_97 sh_110 ⟨(H.2 q5).1, s_if 114 ((h 110 v4.toNat) = 0) c218_98 (by decide) rfl ⟨fun q6 => ((H.2 q5).2.1 q6), fun q6 => s_iload_n c218_101 rfl (s_iconst c218_102 rfl (s_ishr c218_103 (s_iconst c218_104 rfl (s_iand c218_105 (s_iconst c218_106 rfl (s_ifc 114 (¬ (bAnd (bShr v3 2) 1) = 1) c218_107 (by decide) rfl ⟨fun q7 => (((H.2 q5).2.2 q6).1 q7), fun q7 => s_iconst c218_110 rfl (s_goto 115 c218_111 (by decide) ((((H.2 q5).2.2 q6).2 q7)))⟩))))))⟩⟩))))))⟩)))
-- WarmSideModel.share(IIIZ)I
theorem c219_0 : cdA 219 0 = some (.aload_n 0) := by decide +kernel
theorem c219_1 : cdA 219 1 = some (.iload_n 1) := by decide +kernel
theorem c219_2 : cdA 219 2 = some (.invokevirtual 191) := by decide +kernel
theorem m219_191 : mthR (moN 219) 191 = 139 := by decide +kernel
theorem c219_106 : cdA 219 106 = some (.aload_n 0) := by decide +kernel
theorem c219_107 : cdA 219 107 = some (.iload_n 1) := by decide +kernel
theorem c219_108 : cdA 219 108 = some (.iload_n 2) := by decide +kernel
theorem c219_109 : cdA 219 109 = some (.iconst 0) := by decide +kernel
theorem c219_110 : cdA 219 110 = some (.invokevirtual 444) := by decide +kernel
theorem m219_444 : mthR (moN 219) 444 = 221 := by decide +kernel
theorem F218 : mF 218 3 5 true := by unfold mF; decide +kernel
theorem K218 : ¬ mK 218 = 4 := by decide +kernel
theorem S218_69 : SH0[69]? = some (.inl (moN 218)) := by decide +kernel
theorem c219_113 : cdA 219 113 = some (.isub) := by decide +kernel
theorem c219_114 : cdA 219 114 = some (.imul) := by decide +kernel
theorem c219_115 : cdA 219 115 = some (.iconst 2) := by decide +kernel
theorem c219_116 : cdA 219 116 = some (.aload_n 0) := by decide +kernel
theorem c219_117 : cdA 219 117 = some (.iload_n 1) := by decide +kernel
theorem c219_118 : cdA 219 118 = some (.iload_n 2) := by decide +kernel
theorem c219_119 : cdA 219 119 = some (.bipush 7) := by decide +kernel
theorem c219_121 : cdA 219 121 = some (.invokevirtual 444) := by decide +kernel
theorem c219_12 : cdA 219 12 = some (.ifCond .ne 13) := by decide +kernel
theorem c219_25 : cdA 219 25 = some (.iload_n 3) := by decide +kernel
theorem c219_26 : cdA 219 26 = some (.iconst 0) := by decide +kernel
theorem c219_27 : cdA 219 27 = some (.iconst 2) := by decide +kernel
theorem c219_28 : cdA 219 28 = some (.invokestatic 183) := by decide +kernel
theorem m219_183 : mthR (moN 219) 183 = 137 := by decide +kernel
theorem c219_124 : cdA 219 124 = some (.aload_n 0) := by decide +kernel
theorem c219_125 : cdA 219 125 = some (.iload_n 1) := by decide +kernel
theorem c219_126 : cdA 219 126 = some (.iload_n 2) := by decide +kernel
theorem c219_127 : cdA 219 127 = some (.iload 5) := by decide +kernel
theorem c219_129 : cdA 219 129 = some (.iload 6) := by decide +kernel
theorem c219_131 : cdA 219 131 = some (.ior) := by decide +kernel
theorem c219_132 : cdA 219 132 = some (.invokevirtual 444) := by decide +kernel
theorem c219_135 : cdA 219 135 = some (.isub) := by decide +kernel
theorem c219_136 : cdA 219 136 = some (.imul) := by decide +kernel
theorem c219_137 : cdA 219 137 = some (.iadd) := by decide +kernel
theorem c219_138 : cdA 219 138 = some (.istore 8) := by decide +kernel
theorem c219_140 : cdA 219 140 = some (.iload 8) := by decide +kernel
theorem c219_142 : cdA 219 142 = some (.aload_n 0) := by decide +kernel
theorem c219_143 : cdA 219 143 = some (.iload_n 1) := by decide +kernel
theorem c219_144 : cdA 219 144 = some (.iload_n 2) := by decide +kernel
theorem c219_145 : cdA 219 145 = some (.iload 7) := by decide +kernel
theorem c219_147 : cdA 219 147 = some (.iload 5) := by decide +kernel
theorem c219_149 : cdA 219 149 = some (.ior) := by decide +kernel
theorem c219_150 : cdA 219 150 = some (.invokevirtual 444) := by decide +kernel
theorem c219_15 : cdA 219 15 = some (.ldc_w 404) := by decide +kernel
theorem k219_404 : cstR (moN 219) 404 = some 1000000000 := by decide +kernel
theorem c219_18 : cdA 219 18 = some (.aload_n 0) := by decide +kernel
theorem c219_19 : cdA 219 19 = some (.iconst (-1)) := by decide +kernel
theorem c219_20 : cdA 219 20 = some (.invokevirtual 187) := by decide +kernel
theorem m219_187 : mthR (moN 219) 187 = 138 := by decide +kernel
theorem c219_153 : cdA 219 153 = some (.iadd) := by decide +kernel
theorem c219_154 : cdA 219 154 = some (.aload_n 0) := by decide +kernel
theorem c219_155 : cdA 219 155 = some (.iload_n 1) := by decide +kernel
theorem c219_156 : cdA 219 156 = some (.iload_n 2) := by decide +kernel
theorem c219_157 : cdA 219 157 = some (.iload 5) := by decide +kernel
theorem c219_159 : cdA 219 159 = some (.invokevirtual 444) := by decide +kernel
theorem c219_162 : cdA 219 162 = some (.isub) := by decide +kernel
theorem c219_163 : cdA 219 163 = some (.aload_n 0) := by decide +kernel
theorem c219_164 : cdA 219 164 = some (.iload_n 1) := by decide +kernel
theorem c219_165 : cdA 219 165 = some (.iload_n 2) := by decide +kernel
theorem c219_166 : cdA 219 166 = some (.iload 7) := by decide +kernel
theorem c219_168 : cdA 219 168 = some (.iload 6) := by decide +kernel
theorem c219_170 : cdA 219 170 = some (.ior) := by decide +kernel
theorem c219_171 : cdA 219 171 = some (.invokevirtual 444) := by decide +kernel
theorem c219_174 : cdA 219 174 = some (.iadd) := by decide +kernel
theorem c219_175 : cdA 219 175 = some (.aload_n 0) := by decide +kernel
theorem c219_176 : cdA 219 176 = some (.iload_n 1) := by decide +kernel
theorem c219_177 : cdA 219 177 = some (.iload_n 2) := by decide +kernel
theorem c219_178 : cdA 219 178 = some (.iload 6) := by decide +kernel
theorem c219_180 : cdA 219 180 = some (.invokevirtual 444) := by decide +kernel
theorem c219_183 : cdA 219 183 = some (.isub) := by decide +kernel
theorem c219_184 : cdA 219 184 = some (.ireturn) := by decide +kernel
theorem R219 : mK 219 = 0 := by decide +kernel
theorem c219_23 : cdA 219 23 = some (.isub) := by decide +kernel
theorem c219_24 : cdA 219 24 = some (.ireturn) := by decide +kernel
theorem c219_31 : cdA 219 31 = some (.ifCond .ne 14) := by decide +kernel
theorem c219_45 : cdA 219 45 = some (.iload 4) := by decide +kernel
theorem c219_47 : cdA 219 47 = some (.ifCond .ne 27) := by decide +kernel
theorem c219_74 : cdA 219 74 = some (.iconst 1) := by decide +kernel
theorem c219_75 : cdA 219 75 = some (.iload_n 3) := by decide +kernel
theorem c219_76 : cdA 219 76 = some (.iconst 1) := by decide +kernel
theorem c219_77 : cdA 219 77 = some (.iadd) := by decide +kernel
theorem c219_78 : cdA 219 78 = some (.iconst 3) := by decide +kernel
theorem c219_79 : cdA 219 79 = some (.irem) := by decide +kernel
theorem c219_80 : cdA 219 80 = some (.ishl) := by decide +kernel
theorem c219_81 : cdA 219 81 = some (.istore 5) := by decide +kernel
theorem c219_83 : cdA 219 83 = some (.iconst 1) := by decide +kernel
theorem c219_84 : cdA 219 84 = some (.iload_n 3) := by decide +kernel
theorem c219_85 : cdA 219 85 = some (.iconst 2) := by decide +kernel
theorem c219_86 : cdA 219 86 = some (.iadd) := by decide +kernel
theorem c219_87 : cdA 219 87 = some (.iconst 3) := by decide +kernel
theorem c219_88 : cdA 219 88 = some (.irem) := by decide +kernel
theorem c219_89 : cdA 219 89 = some (.ishl) := by decide +kernel
theorem c219_90 : cdA 219 90 = some (.istore 6) := by decide +kernel
theorem c219_92 : cdA 219 92 = some (.iconst 1) := by decide +kernel
theorem c219_93 : cdA 219 93 = some (.iload_n 3) := by decide +kernel
theorem c219_94 : cdA 219 94 = some (.ishl) := by decide +kernel
theorem c219_95 : cdA 219 95 = some (.istore 7) := by decide +kernel
theorem c219_97 : cdA 219 97 = some (.iconst 2) := by decide +kernel
theorem c219_98 : cdA 219 98 = some (.aload_n 0) := by decide +kernel
theorem c219_99 : cdA 219 99 = some (.iload_n 1) := by decide +kernel
theorem c219_100 : cdA 219 100 = some (.iload_n 2) := by decide +kernel
theorem c219_101 : cdA 219 101 = some (.iload 7) := by decide +kernel
theorem c219_103 : cdA 219 103 = some (.invokevirtual 444) := by decide +kernel
theorem c219_50 : cdA 219 50 = some (.aload_n 0) := by decide +kernel
theorem c219_51 : cdA 219 51 = some (.iload_n 1) := by decide +kernel
theorem c219_52 : cdA 219 52 = some (.iload_n 2) := by decide +kernel
theorem c219_53 : cdA 219 53 = some (.iconst 2) := by decide +kernel
theorem c219_54 : cdA 219 54 = some (.iload_n 3) := by decide +kernel
theorem c219_55 : cdA 219 55 = some (.ishl) := by decide +kernel
theorem c219_56 : cdA 219 56 = some (.iconst 1) := by decide +kernel
theorem c219_57 : cdA 219 57 = some (.isub) := by decide +kernel
theorem c219_58 : cdA 219 58 = some (.invokevirtual 444) := by decide +kernel
theorem c219_34 : cdA 219 34 = some (.ldc_w 404) := by decide +kernel
theorem c219_37 : cdA 219 37 = some (.aload_n 0) := by decide +kernel
theorem c219_38 : cdA 219 38 = some (.bipush (-2)) := by decide +kernel
theorem c219_40 : cdA 219 40 = some (.invokevirtual 187) := by decide +kernel
theorem c219_43 : cdA 219 43 = some (.isub) := by decide +kernel
theorem c219_44 : cdA 219 44 = some (.ireturn) := by decide +kernel
theorem c219_5 : cdA 219 5 = some (.ifCond .eq 10) := by decide +kernel
theorem c219_8 : cdA 219 8 = some (.iload_n 2) := by decide +kernel
theorem c219_9 : cdA 219 9 = some (.invokestatic 199) := by decide +kernel
theorem m219_199 : mthR (moN 219) 199 = 140 := by decide +kernel
theorem c219_61 : cdA 219 61 = some (.aload_n 0) := by decide +kernel
theorem c219_62 : cdA 219 62 = some (.iload_n 1) := by decide +kernel
theorem c219_63 : cdA 219 63 = some (.iload_n 2) := by decide +kernel
theorem c219_64 : cdA 219 64 = some (.iconst 1) := by decide +kernel
theorem c219_65 : cdA 219 65 = some (.iload_n 3) := by decide +kernel
theorem c219_66 : cdA 219 66 = some (.ishl) := by decide +kernel
theorem c219_67 : cdA 219 67 = some (.iconst 1) := by decide +kernel
theorem c219_68 : cdA 219 68 = some (.isub) := by decide +kernel
theorem c219_69 : cdA 219 69 = some (.invokevirtual 444) := by decide +kernel
theorem c219_72 : cdA 219 72 = some (.isub) := by decide +kernel
theorem c219_73 : cdA 219 73 = some (.ireturn) := by decide +kernel
theorem b219_0 {d : Nat} {h : HP} {Q : PV → HP → Prop} {v1 v2 v3 v4 : Int} (H : X d 136 0 [some (P 69), some (I v1)] [] h (fun r h' => X (d + 1) 219 5 [some (P 69), some (I v1), some (I v2), some (I v3), some (I v4), none, none, none, none] [r] h' Q)) : X (d + 1) 219 0 [some (P 69), some (I v1), some (I v2), some (I v3), some (I v4), none, none, none, none] [] h Q :=
  s_aload_n c219_0 rfl (s_iload_n c219_1 rfl (s_cVi c219_2 m219_191 F136 K136 rfl (Nat.le_of_ble_eq_true rfl) rfl S136_69 rfl H))
theorem b219_106 {d : Nat} {h : HP} {Q : PV → HP → Prop} {v1 v2 v3 v4 v5 v6 v7 s0 s1 : Int} (H : X d 218 0 [some (P 69), some (I v1), some (I v2), some (I 0), none] [] h (fun r h' => X (d + 1) 219 113 [some (P 69), some (I v1), some (I v2), some (I v3), some (I v4), some (I v5), some (I v6), some (I v7), none] [r, I s1, I s0] h' Q)) : X (d + 1) 219 106 [some (P 69), some (I v1), some (I v2), some (I v3), some (I v4), some (I v5), some (I v6), some (I v7), none] [I s1, I s0] h Q :=
  s_aload_n c219_106 rfl (s_iload_n c219_107 rfl (s_iload_n c219_108 rfl (s_iconst c219_109 rfl (s_cVi c219_110 m219_444 F218 K218 rfl (Nat.le_of_ble_eq_true rfl) rfl S218_69 rfl H))))
theorem b219_113 {d : Nat} {h : HP} {Q : PV → HP → Prop} {v1 v2 v3 v4 v5 v6 v7 s0 s1 s2 : Int} (H : X d 218 0 [some (P 69), some (I v1), some (I v2), some (I 7), none] [] h (fun r h' => X (d + 1) 219 124 [some (P 69), some (I v1), some (I v2), some (I v3), some (I v4), some (I v5), some (I v6), some (I v7), none] [r, I 2, I (w32 (s0 * (w32 (s1 - s2))))] h' Q)) : X (d + 1) 219 113 [some (P 69), some (I v1), some (I v2), some (I v3), some (I v4), some (I v5), some (I v6), some (I v7), none] [I s2, I s1, I s0] h Q :=
  s_isub c219_113 (s_imul c219_114 (s_iconst c219_115 rfl (s_aload_n c219_116 rfl (s_iload_n c219_117 rfl (s_iload_n c219_118 rfl (s_bipush c219_119 ⟨by decide, by decide⟩ (s_cVi c219_121 m219_444 F218 K218 rfl (Nat.le_of_ble_eq_true rfl) rfl S218_69 rfl H)))))))
theorem b219_12 {d : Nat} {h : HP} {Q : PV → HP → Prop} {v1 v2 v3 v4 s0 : Int} (H : ((¬ s0 = 0) → X d 134 0 [some (I v3), some (I 0), some (I 2)] [] h (fun r h' => X (d + 1) 219 31 [some (P 69), some (I v1), some (I v2), some (I v3), some (I v4), none, none, none, none] [r] h' Q)) ∧ (¬ (¬ s0 = 0) → X (d + 1) 219 15 [some (P 69), some (I v1), some (I v2), some (I v3), some (I v4), none, none, none, none] [] h Q)) : X (d + 1) 219 12 [some (P 69), some (I v1), some (I v2), some (I v3), some (I v4), none, none, none, none] [I s0] h Q :=
  s_if 25 (¬ s0 = 0) c219_12 (by decide) rfl ⟨fun q1 => s_iload_n c219_25 rfl (s_iconst c219_26 rfl (s_iconst c219_27 rfl (s_cSi c219_28 m219_183 F134 K134 rfl (Nat.le_of_ble_eq_true rfl) rfl rfl (H.1 q1)))), fun q1 => (H.2 q1)⟩
theorem b219_124 {d : Nat} {h : HP} {Q : PV → HP → Prop} {v1 v2 v3 v4 v5 v6 v7 s0 s1 s2 : Int} (H : X d 218 0 [some (P 69), some (I v1), some (I v2), some (I (bOr v5 v6)), none] [] h (fun r h' => X (d + 1) 219 135 [some (P 69), some (I v1), some (I v2), some (I v3), some (I v4), some (I v5), some (I v6), some (I v7), none] [r, I s2, I s1, I s0] h' Q)) : X (d + 1) 219 124 [some (P 69), some (I v1), some (I v2), some (I v3), some (I v4), some (I v5), some (I v6), some (I v7), none] [I s2, I s1, I s0] h Q :=
  s_aload_n c219_124 rfl (s_iload_n c219_125 rfl (s_iload_n c219_126 rfl (s_iload c219_127 rfl (s_iload c219_129 rfl (s_ior c219_131 (s_cVi c219_132 m219_444 F218 K218 rfl (Nat.le_of_ble_eq_true rfl) rfl S218_69 rfl H))))))
theorem b219_135 {d : Nat} {h : HP} {Q : PV → HP → Prop} {v1 v2 v3 v4 v5 v6 v7 s0 s1 s2 s3 : Int} (H : X d 218 0 [some (P 69), some (I v1), some (I v2), some (I (bOr v7 v5)), none] [] h (fun r h' => X (d + 1) 219 153 [some (P 69), some (I v1), some (I v2), some (I v3), some (I v4), some (I v5), some (I v6), some (I v7), some (I (w32 (s0 + (w32 (s1 * (w32 (s2 - s3)))))))] [r, I (w32 (s0 + (w32 (s1 * (w32 (s2 - s3))))))] h' Q)) : X (d + 1) 219 135 [some (P 69), some (I v1), some (I v2), some (I v3), some (I v4), some (I v5), some (I v6), some (I v7), none] [I s3, I s2, I s1, I s0] h Q :=
  s_isub c219_135 (s_imul c219_136 (s_iadd c219_137 (s_istore c219_138 rfl (s_iload c219_140 rfl (s_aload_n c219_142 rfl (s_iload_n c219_143 rfl (s_iload_n c219_144 rfl (s_iload c219_145 rfl (s_iload c219_147 rfl (s_ior c219_149 (s_cVi c219_150 m219_444 F218 K218 rfl (Nat.le_of_ble_eq_true rfl) rfl S218_69 rfl H)))))))))))
theorem b219_15 {d : Nat} {h : HP} {Q : PV → HP → Prop} {v1 v2 v3 v4 : Int} (H : X d 135 0 [some (P 69), some (I (-1))] [] h (fun r h' => X (d + 1) 219 23 [some (P 69), some (I v1), some (I v2), some (I v3), some (I v4), none, none, none, none] [r, I 1000000000] h' Q)) : X (d + 1) 219 15 [some (P 69), some (I v1), some (I v2), some (I v3), some (I v4), none, none, none, none] [] h Q :=
  s_ldcw c219_15 k219_404 rfl (s_aload_n c219_18 rfl (s_iconst c219_19 rfl (s_cVi c219_20 m219_187 F135 K135 rfl (Nat.le_of_ble_eq_true rfl) rfl S135_69 rfl H)))
theorem b219_153 {d : Nat} {h : HP} {Q : PV → HP → Prop} {v1 v2 v3 v4 v5 v6 v7 v8 s0 s1 : Int} (H : X d 218 0 [some (P 69), some (I v1), some (I v2), some (I v5), none] [] h (fun r h' => X (d + 1) 219 162 [some (P 69), some (I v1), some (I v2), some (I v3), some (I v4), some (I v5), some (I v6), some (I v7), some (I v8)] [r, I (w32 (s0 + s1))] h' Q)) : X (d + 1) 219 153 [some (P 69), some (I v1), some (I v2), some (I v3), some (I v4), some (I v5), some (I v6), some (I v7), some (I v8)] [I s1, I s0] h Q :=
  s_iadd c219_153 (s_aload_n c219_154 rfl (s_iload_n c219_155 rfl (s_iload_n c219_156 rfl (s_iload c219_157 rfl (s_cVi c219_159 m219_444 F218 K218 rfl (Nat.le_of_ble_eq_true rfl) rfl S218_69 rfl H)))))
theorem b219_162 {d : Nat} {h : HP} {Q : PV → HP → Prop} {v1 v2 v3 v4 v5 v6 v7 v8 s0 s1 : Int} (H : X d 218 0 [some (P 69), some (I v1), some (I v2), some (I (bOr v7 v6)), none] [] h (fun r h' => X (d + 1) 219 174 [some (P 69), some (I v1), some (I v2), some (I v3), some (I v4), some (I v5), some (I v6), some (I v7), some (I v8)] [r, I (w32 (s0 - s1))] h' Q)) : X (d + 1) 219 162 [some (P 69), some (I v1), some (I v2), some (I v3), some (I v4), some (I v5), some (I v6), some (I v7), some (I v8)] [I s1, I s0] h Q :=
  s_isub c219_162 (s_aload_n c219_163 rfl (s_iload_n c219_164 rfl (s_iload_n c219_165 rfl (s_iload c219_166 rfl (s_iload c219_168 rfl (s_ior c219_170 (s_cVi c219_171 m219_444 F218 K218 rfl (Nat.le_of_ble_eq_true rfl) rfl S218_69 rfl H)))))))
theorem b219_174 {d : Nat} {h : HP} {Q : PV → HP → Prop} {v1 v2 v3 v4 v5 v6 v7 v8 s0 s1 : Int} (H : X d 218 0 [some (P 69), some (I v1), some (I v2), some (I v6), none] [] h (fun r h' => X (d + 1) 219 183 [some (P 69), some (I v1), some (I v2), some (I v3), some (I v4), some (I v5), some (I v6), some (I v7), some (I v8)] [r, I (w32 (s0 + s1))] h' Q)) : X (d + 1) 219 174 [some (P 69), some (I v1), some (I v2), some (I v3), some (I v4), some (I v5), some (I v6), some (I v7), some (I v8)] [I s1, I s0] h Q :=
  s_iadd c219_174 (s_aload_n c219_175 rfl (s_iload_n c219_176 rfl (s_iload_n c219_177 rfl (s_iload c219_178 rfl (s_cVi c219_180 m219_444 F218 K218 rfl (Nat.le_of_ble_eq_true rfl) rfl S218_69 rfl H)))))
theorem b219_183 {d : Nat} {h : HP} {Q : PV → HP → Prop} {v1 v2 v3 v4 v5 v6 v7 v8 s0 s1 : Int} (H : Q (I (w32 (s0 - s1))) h) : X d 219 183 [some (P 69), some (I v1), some (I v2), some (I v3), some (I v4), some (I v5), some (I v6), some (I v7), some (I v8)] [I s1, I s0] h Q :=
  s_isub c219_183 (s_retI c219_184 R219 H)
theorem b219_23 {d : Nat} {h : HP} {Q : PV → HP → Prop} {v1 v2 v3 v4 s0 s1 : Int} (H : Q (I (w32 (s0 - s1))) h) : X d 219 23 [some (P 69), some (I v1), some (I v2), some (I v3), some (I v4), none, none, none, none] [I s1, I s0] h Q :=
  s_isub c219_23 (s_retI c219_24 R219 H)
theorem b219_31 {d : Nat} {h : HP} {Q : PV → HP → Prop} {v1 v2 v3 v4 s0 : Int} (H : ((¬ s0 = 0) → (((¬ v4 = 0) → X d 218 0 [some (P 69), some (I v1), some (I v2), some (I (bShl 1 v3)), none] [] h (fun r h' => X (d + 1) 219 106 [some (P 69), some (I v1), some (I v2), some (I v3), some (I v4), some (I (bShl 1 (Int.tmod (w32 (v3 + 1)) 3))), some (I (bShl 1 (Int.tmod (w32 (v3 + 2)) 3))), some (I (bShl 1 v3)), none] [r, I 2] h' Q)) ∧ (¬ (¬ v4 = 0) → X d 218 0 [some (P 69), some (I v1), some (I v2), some (I (w32 ((bShl 2 v3) - 1))), none] [] h (fun r h' => X (d + 1) 219 61 [some (P 69), some (I v1), some (I v2), some (I v3), some (I v4), none, none, none, none] [r] h' Q)))) ∧ (¬ (¬ s0 = 0) → X d 135 0 [some (P 69), some (I (-2))] [] h (fun r h' => X (d + 1) 219 43 [some (P 69), some (I v1), some (I v2), some (I v3), some (I v4), none, none, none, none] [r, I 1000000000] h' Q))) : X (d + 1) 219 31 [some (P 69), some (I v1), some (I v2), some (I v3), some (I v4), none, none, none, none] [I s0] h Q :=
  s_if 45 (¬ s0 = 0) c219_31 (by decide) rfl ⟨fun q2 => s_iload c219_45 rfl (s_if 74 (¬ v4 = 0) c219_47 (by decide) rfl ⟨fun q3 => s_iconst c219_74 rfl (s_iload_n c219_75 rfl (s_iconst c219_76 rfl (s_iadd c219_77 (s_iconst c219_78 rfl (s_irem c219_79 (by decide) (s_ishl c219_80 (s_istore c219_81 rfl (s_iconst c219_83 rfl (s_iload_n c219_84 rfl (s_iconst c219_85 rfl (s_iadd c219_86 (s_iconst c219_87 rfl (s_irem c219_88 (by decide) (s_ishl c219_89 (s_istore c219_90 rfl (s_iconst c219_92 rfl (s_iload_n c219_93 rfl (s_ishl c219_94 (s_istore c219_95 rfl (s_iconst c219_97 rfl (s_aload_n c219_98 rfl (s_iload_n c219_99 rfl (s_iload_n c219_100 rfl (s_iload c219_101 rfl (s_cVi c219_103 m219_444 F218 K218 rfl (Nat.le_of_ble_eq_true rfl) rfl S218_69 rfl ((H.1 q2).1 q3)))))))))))))))))))))))))), fun q3 => s_aload_n c219_50 rfl (s_iload_n c219_51 rfl (s_iload_n c219_52 rfl (s_iconst c219_53 rfl (s_iload_n c219_54 rfl (s_ishl c219_55 (s_iconst c219_56 rfl (s_isub c219_57 (s_cVi c219_58 m219_444 F218 K218 rfl (Nat.le_of_ble_eq_true rfl) rfl S218_69 rfl ((H.1 q2).2 q3)))))))))⟩), fun q2 => s_ldcw c219_34 k219_404 rfl (s_aload_n c219_37 rfl (s_bipush c219_38 ⟨by decide, by decide⟩ (s_cVi c219_40 m219_187 F135 K135 rfl (Nat.le_of_ble_eq_true rfl) rfl S135_69 rfl (H.2 q2))))⟩
theorem b219_43 {d : Nat} {h : HP} {Q : PV → HP → Prop} {v1 v2 v3 v4 s0 s1 : Int} (H : Q (I (w32 (s0 - s1))) h) : X d 219 43 [some (P 69), some (I v1), some (I v2), some (I v3), some (I v4), none, none, none, none] [I s1, I s0] h Q :=
  s_isub c219_43 (s_retI c219_44 R219 H)
theorem b219_5 {d : Nat} {h : HP} {Q : PV → HP → Prop} {v1 v2 v3 v4 s0 : Int} (H : ((s0 = 0) → X (d + 1) 219 15 [some (P 69), some (I v1), some (I v2), some (I v3), some (I v4), none, none, none, none] [] h Q) ∧ (¬ (s0 = 0) → X d 137 0 [some (I v2)] [] h (fun r h' => X (d + 1) 219 12 [some (P 69), some (I v1), some (I v2), some (I v3), some (I v4), none, none, none, none] [r] h' Q))) : X (d + 1) 219 5 [some (P 69), some (I v1), some (I v2), some (I v3), some (I v4), none, none, none, none] [I s0] h Q :=
  s_if 15 (s0 = 0) c219_5 (by decide) rfl ⟨fun q4 => (H.1 q4), fun q4 => s_iload_n c219_8 rfl (s_cSi c219_9 m219_199 F137 K137 rfl (Nat.le_of_ble_eq_true rfl) rfl rfl (H.2 q4))⟩
theorem b219_61 {d : Nat} {h : HP} {Q : PV → HP → Prop} {v1 v2 v3 v4 s0 : Int} (H : X d 218 0 [some (P 69), some (I v1), some (I v2), some (I (w32 ((bShl 1 v3) - 1))), none] [] h (fun r h' => X (d + 1) 219 72 [some (P 69), some (I v1), some (I v2), some (I v3), some (I v4), none, none, none, none] [r, I s0] h' Q)) : X (d + 1) 219 61 [some (P 69), some (I v1), some (I v2), some (I v3), some (I v4), none, none, none, none] [I s0] h Q :=
  s_aload_n c219_61 rfl (s_iload_n c219_62 rfl (s_iload_n c219_63 rfl (s_iconst c219_64 rfl (s_iload_n c219_65 rfl (s_ishl c219_66 (s_iconst c219_67 rfl (s_isub c219_68 (s_cVi c219_69 m219_444 F218 K218 rfl (Nat.le_of_ble_eq_true rfl) rfl S218_69 rfl H))))))))
theorem b219_72 {d : Nat} {h : HP} {Q : PV → HP → Prop} {v1 v2 v3 v4 s0 s1 : Int} (H : Q (I (w32 (s0 - s1))) h) : X d 219 72 [some (P 69), some (I v1), some (I v2), some (I v3), some (I v4), none, none, none, none] [I s1, I s0] h Q :=
  s_isub c219_72 (s_retI c219_73 R219 H)
-- WarmSideModel.count(I)I
theorem c220_0 : cdA 220 0 = some (.iload_n 1) := by decide +kernel
theorem c220_1 : cdA 220 1 = some (.bipush 11) := by decide +kernel
theorem c220_3 : cdA 220 3 = some (.bipush 16) := by decide +kernel
theorem c220_5 : cdA 220 5 = some (.invokestatic 183) := by decide +kernel
theorem m220_183 : mthR (moN 220) 183 = 137 := by decide +kernel
theorem c220_8 : cdA 220 8 = some (.ifCond .eq 13) := by decide +kernel
theorem c220_21 : cdA 220 21 = some (.iload_n 1) := by decide +kernel
theorem c220_22 : cdA 220 22 = some (.tableswitch 95 0 8 #[50, 55, 60, 65, 70, 75, 80, 85, 90]) := by decide +kernel
theorem c220_117 : cdA 220 117 = some (.bipush (-9)) := by decide +kernel
theorem c220_119 : cdA 220 119 = some (.ireturn) := by decide +kernel
theorem R220 : mK 220 = 0 := by decide +kernel
theorem c220_72 : cdA 220 72 = some (.aload_n 0) := by decide +kernel
theorem c220_73 : cdA 220 73 = some (.getfield 319) := by decide +kernel
theorem f220_319 : fldR (moN 220) 319 = some (12, 32) := by decide +kernel
theorem c220_76 : cdA 220 76 = some (.ireturn) := by decide +kernel
theorem c220_77 : cdA 220 77 = some (.aload_n 0) := by decide +kernel
theorem c220_78 : cdA 220 78 = some (.getfield 180) := by decide +kernel
theorem f220_180 : fldR (moN 220) 180 = some (12, 9) := by decide +kernel
theorem c220_81 : cdA 220 81 = some (.ireturn) := by decide +kernel
theorem c220_82 : cdA 220 82 = some (.aload_n 0) := by decide +kernel
theorem c220_83 : cdA 220 83 = some (.getfield 219) := by decide +kernel
theorem f220_219 : fldR (moN 220) 219 = some (12, 17) := by decide +kernel
theorem c220_86 : cdA 220 86 = some (.ireturn) := by decide +kernel
theorem c220_87 : cdA 220 87 = some (.aload_n 0) := by decide +kernel
theorem c220_88 : cdA 220 88 = some (.getfield 226) := by decide +kernel
theorem f220_226 : fldR (moN 220) 226 = some (12, 22) := by decide +kernel
theorem c220_91 : cdA 220 91 = some (.ireturn) := by decide +kernel
theorem c220_92 : cdA 220 92 = some (.aload_n 0) := by decide +kernel
theorem c220_93 : cdA 220 93 = some (.getfield 229) := by decide +kernel
theorem f220_229 : fldR (moN 220) 229 = some (12, 26) := by decide +kernel
theorem c220_96 : cdA 220 96 = some (.ireturn) := by decide +kernel
theorem c220_97 : cdA 220 97 = some (.aload_n 0) := by decide +kernel
theorem c220_98 : cdA 220 98 = some (.getfield 232) := by decide +kernel
theorem f220_232 : fldR (moN 220) 232 = some (12, 30) := by decide +kernel
theorem c220_101 : cdA 220 101 = some (.ireturn) := by decide +kernel
theorem c220_102 : cdA 220 102 = some (.aload_n 0) := by decide +kernel
theorem c220_103 : cdA 220 103 = some (.getfield 409) := by decide +kernel
theorem f220_409 : fldR (moN 220) 409 = some (12, 83) := by decide +kernel
theorem c220_106 : cdA 220 106 = some (.ireturn) := by decide +kernel
theorem c220_107 : cdA 220 107 = some (.aload_n 0) := by decide +kernel
theorem c220_108 : cdA 220 108 = some (.getfield 238) := by decide +kernel
theorem f220_238 : fldR (moN 220) 238 = some (12, 46) := by decide +kernel
theorem c220_111 : cdA 220 111 = some (.ireturn) := by decide +kernel
theorem c220_112 : cdA 220 112 = some (.aload_n 0) := by decide +kernel
theorem c220_113 : cdA 220 113 = some (.getfield 206) := by decide +kernel
theorem f220_206 : fldR (moN 220) 206 = some (12, 44) := by decide +kernel
theorem c220_116 : cdA 220 116 = some (.ireturn) := by decide +kernel
theorem c220_11 : cdA 220 11 = some (.aload_n 0) := by decide +kernel
theorem c220_12 : cdA 220 12 = some (.getfield 96) := by decide +kernel
theorem f220_96 : fldR (moN 220) 96 = some (12, 38) := by decide +kernel
theorem c220_15 : cdA 220 15 = some (.iload_n 1) := by decide +kernel
theorem c220_16 : cdA 220 16 = some (.bipush 10) := by decide +kernel
theorem c220_18 : cdA 220 18 = some (.isub) := by decide +kernel
theorem c220_19 : cdA 220 19 = some (.iaload) := by decide +kernel
theorem c220_20 : cdA 220 20 = some (.ireturn) := by decide +kernel
theorem b220_0 {d : Nat} {h : HP} {Q : PV → HP → Prop} {v1 : Int} (H : X d 134 0 [some (I v1), some (I 11), some (I 16)] [] h (fun r h' => X (d + 1) 220 8 [some (P 69), some (I v1)] [r] h' Q)) : X (d + 1) 220 0 [some (P 69), some (I v1)] [] h Q :=
  s_iload_n c220_0 rfl (s_bipush c220_1 ⟨by decide, by decide⟩ (s_bipush c220_3 ⟨by decide, by decide⟩ (s_cSi c220_5 m220_183 F134 K134 rfl (Nat.le_of_ble_eq_true rfl) rfl rfl H)))
theorem b220_8 {d : Nat} {h : HP} {Q : PV → HP → Prop} {v1 s0 : Int} (H : ((s0 = 0) → (((v1 < 0 ∨ 8 < v1) → Q (I (-9)) h) ∧ (v1 = 0 → Q (I (h 69 32)) h) ∧ (v1 = 1 → Q (I (h 69 9)) h) ∧ (v1 = 2 → Q (I (h 69 17)) h) ∧ (v1 = 3 → Q (I (h 69 22)) h) ∧ (v1 = 4 → Q (I (h 69 26)) h) ∧ (v1 = 5 → Q (I (h 69 30)) h) ∧ (v1 = 6 → Q (I (h 69 83)) h) ∧ (v1 = 7 → Q (I (h 69 46)) h) ∧ (v1 = 8 → Q (I (h 69 44)) h))) ∧ (¬ (s0 = 0) → ((0 ≤ (w32 (v1 - 10)) ∧ (w32 (v1 - 10)) < 7) ∧ Q (I (h 97 (w32 (v1 - 10)).toNat)) h))) : X d 220 8 [some (P 69), some (I v1)] [I s0] h Q :=
  s_if 21 (s0 = 0) c220_8 (by decide) rfl ⟨fun q1 => s_iload_n c220_21 rfl (s_tsw (x := v1) 117 c220_22 (by decide) (fun q2 => s_bipush c220_117 ⟨by decide, by decide⟩ (s_retI c220_119 R220 ((H.1 q1).1 q2))) (fun qn => by
    have qc : v1 = 0 ∨ v1 = 1 ∨ v1 = 2 ∨ v1 = 3 ∨ v1 = 4 ∨ v1 = 5 ∨ v1 = 6 ∨ v1 = 7 ∨ v1 = 8 := by omega
    rcases qc with q2 | q2 | q2 | q2 | q2 | q2 | q2 | q2 | q2
    · exact ⟨50, 72, by rw [q2]; rfl, by decide, s_aload_n c220_72 rfl (s_getI c220_73 f220_319 t12_32 sh_69 (s_retI c220_76 R220 ((H.1 q1).2.1 q2)))⟩
    · exact ⟨55, 77, by rw [q2]; rfl, by decide, s_aload_n c220_77 rfl (s_getI c220_78 f220_180 t12_9 sh_69 (s_retI c220_81 R220 ((H.1 q1).2.2.1 q2)))⟩
    · exact ⟨60, 82, by rw [q2]; rfl, by decide, s_aload_n c220_82 rfl (s_getI c220_83 f220_219 t12_17 sh_69 (s_retI c220_86 R220 ((H.1 q1).2.2.2.1 q2)))⟩
    · exact ⟨65, 87, by rw [q2]; rfl, by decide, s_aload_n c220_87 rfl (s_getI c220_88 f220_226 t12_22 sh_69 (s_retI c220_91 R220 ((H.1 q1).2.2.2.2.1 q2)))⟩
    · exact ⟨70, 92, by rw [q2]; rfl, by decide, s_aload_n c220_92 rfl (s_getI c220_93 f220_229 t12_26 sh_69 (s_retI c220_96 R220 ((H.1 q1).2.2.2.2.2.1 q2)))⟩
    · exact ⟨75, 97, by rw [q2]; rfl, by decide, s_aload_n c220_97 rfl (s_getI c220_98 f220_232 t12_30 sh_69 (s_retI c220_101 R220 ((H.1 q1).2.2.2.2.2.2.1 q2)))⟩
    · exact ⟨80, 102, by rw [q2]; rfl, by decide, s_aload_n c220_102 rfl (s_getI c220_103 f220_409 t12_83 sh_69 (s_retI c220_106 R220 ((H.1 q1).2.2.2.2.2.2.2.1 q2)))⟩
    · exact ⟨85, 107, by rw [q2]; rfl, by decide, s_aload_n c220_107 rfl (s_getI c220_108 f220_238 t12_46 sh_69 (s_retI c220_111 R220 ((H.1 q1).2.2.2.2.2.2.2.2.1 q2)))⟩
    · exact ⟨90, 112, by rw [q2]; rfl, by decide, s_aload_n c220_112 rfl (s_getI c220_113 f220_206 t12_44 sh_69 (s_retI c220_116 R220 ((H.1 q1).2.2.2.2.2.2.2.2.2 q2)))⟩
    )), fun q1 => s_aload_n c220_11 rfl (s_getP 97 c220_12 f220_96 t12_38 sh_69 g_69_38 (by decide) (by decide) (s_iload_n c220_15 rfl (s_bipush c220_16 ⟨by decide, by decide⟩ (s_isub c220_18 (s_iald c220_19 sh_97 ⟨(H.2 q1).1, s_retI c220_20 R220 (H.2 q1).2⟩)))))⟩
