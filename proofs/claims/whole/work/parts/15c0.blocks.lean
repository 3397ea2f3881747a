/-! blocks of WarmSide$Run, by program -/
-- WarmSide$Run.heed(I)V
theorem c43_0 : cdA 43 0 = some (.iconst 0) := by decide +kernel
theorem c43_1 : cdA 43 1 = some (.istore_n 2) := by decide +kernel
theorem c43_125 : cdA 43 125 = some (.ifCond .ne 6) := by decide +kernel
theorem c43_131 : cdA 43 131 = some (.aload_n 0) := by decide +kernel
theorem c43_132 : cdA 43 132 = some (.getfield 28) := by decide +kernel
theorem f43_28 : fldR (moN 43) 28 = some (6, 1) := by decide +kernel
theorem t6_1 : fcl 6 1 = 2 := by decide +kernel
theorem c43_135 : cdA 43 135 = some (.iconst 4) := by decide +kernel
theorem c43_136 : cdA 43 136 = some (.iload_n 2) := by decide +kernel
theorem c43_137 : cdA 43 137 = some (.iadd) := by decide +kernel
theorem c43_138 : cdA 43 138 = some (.aload_n 0) := by decide +kernel
theorem c43_139 : cdA 43 139 = some (.getfield 9) := by decide +kernel
theorem f43_9 : fldR (moN 43) 9 = some (6, 7) := by decide +kernel
theorem t6_7 : fcl 6 7 = 2 := by decide +kernel
theorem c43_142 : cdA 43 142 = some (.iload_n 1) := by decide +kernel
theorem c43_143 : cdA 43 143 = some (.invokevirtual 84) := by decide +kernel
theorem m43_84 : mthR (moN 43) 84 = 31 := by decide +kernel
theorem F28 : mF 28 3 7 true := by unfold mF; decide +kernel
theorem K28 : ¬ mK 28 = 4 := by decide +kernel
theorem S28_36 : SH0[36]? = some (.inl (moN 28)) := by decide +kernel
theorem c43_128 : cdA 43 128 = some (.goto 46) := by decide +kernel
theorem c43_146 : cdA 43 146 = some (.istore_n 3) := by decide +kernel
theorem c43_147 : cdA 43 147 = some (.iload_n 3) := by decide +kernel
theorem c43_148 : cdA 43 148 = some (.ifCond .lt 26) := by decide +kernel
theorem c43_151 : cdA 43 151 = some (.aload_n 0) := by decide +kernel
theorem c43_152 : cdA 43 152 = some (.getfield 24) := by decide +kernel
theorem f43_24 : fldR (moN 43) 24 = some (6, 0) := by decide +kernel
theorem t6_0 : fcl 6 0 = 2 := by decide +kernel
theorem c43_155 : cdA 43 155 = some (.getfield 32) := by decide +kernel
theorem f43_32 : fldR (moN 43) 32 = some (1, 0) := by decide +kernel
theorem c43_158 : cdA 43 158 = some (.iload_n 2) := by decide +kernel
theorem c43_159 : cdA 43 159 = some (.aload_n 0) := by decide +kernel
theorem c43_160 : cdA 43 160 = some (.getfield 24) := by decide +kernel
theorem c43_163 : cdA 43 163 = some (.getfield 32) := by decide +kernel
theorem c43_166 : cdA 43 166 = some (.iload_n 2) := by decide +kernel
theorem c43_167 : cdA 43 167 = some (.iload_n 3) := by decide +kernel
theorem c43_168 : cdA 43 168 = some (.invokevirtual 91) := by decide +kernel
theorem m43_91 : mthR (moN 43) 91 = 25 := by decide +kernel
theorem c43_171 : cdA 43 171 = some (.invokevirtual 95) := by decide +kernel
theorem m43_95 : mthR (moN 43) 95 = 26 := by decide +kernel
theorem c43_174 : cdA 43 174 = some (.iinc 2 1) := by decide +kernel
theorem c43_177 : cdA 43 177 = some (.goto (-92)) := by decide +kernel
theorem c43_2 : cdA 43 2 = some (.iload_n 2) := by decide +kernel
theorem c43_3 : cdA 43 3 = some (.aload_n 0) := by decide +kernel
theorem c43_4 : cdA 43 4 = some (.getfield 24) := by decide +kernel
theorem c43_7 : cdA 43 7 = some (.getfield 69) := by decide +kernel
theorem f43_69 : fldR (moN 43) 69 = some (1, 4) := by decide +kernel
theorem c43_10 : cdA 43 10 = some (.getfield 73) := by decide +kernel
theorem f43_73 : fldR (moN 43) 73 = some (3, 2) := by decide +kernel
theorem c43_13 : cdA 43 13 = some (.if_icmp .ge 70) := by decide +kernel
theorem c43_83 : cdA 43 83 = some (.iconst 0) := by decide +kernel
theorem c43_84 : cdA 43 84 = some (.istore_n 2) := by decide +kernel
theorem c43_16 : cdA 43 16 = some (.aload_n 0) := by decide +kernel
theorem c43_17 : cdA 43 17 = some (.getfield 24) := by decide +kernel
theorem c43_20 : cdA 43 20 = some (.getfield 69) := by decide +kernel
theorem c43_23 : cdA 43 23 = some (.getfield 76) := by decide +kernel
theorem f43_76 : fldR (moN 43) 76 = some (3, 5) := by decide +kernel
theorem c43_26 : cdA 43 26 = some (.iload_n 2) := by decide +kernel
theorem c43_27 : cdA 43 27 = some (.iaload) := by decide +kernel
theorem c43_28 : cdA 43 28 = some (.iconst 1) := by decide +kernel
theorem c43_29 : cdA 43 29 = some (.if_icmp .gt 48) := by decide +kernel
theorem c43_32 : cdA 43 32 = some (.aload_n 0) := by decide +kernel
theorem c43_33 : cdA 43 33 = some (.getfield 28) := by decide +kernel
theorem c43_36 : cdA 43 36 = some (.iload_n 2) := by decide +kernel
theorem c43_37 : cdA 43 37 = some (.invokevirtual 79) := by decide +kernel
theorem m43_79 : mthR (moN 43) 79 = 30 := by decide +kernel
theorem F27 : mF 27 1 2 true := by unfold mF; decide +kernel
theorem K27 : ¬ mK 27 = 4 := by decide +kernel
theorem S27_36 : SH0[36]? = some (.inl (moN 27)) := by decide +kernel
theorem c43_40 : cdA 43 40 = some (.ifCond .ne 6) := by decide +kernel
theorem c43_46 : cdA 43 46 = some (.aload_n 0) := by decide +kernel
theorem c43_47 : cdA 43 47 = some (.getfield 28) := by decide +kernel
theorem c43_50 : cdA 43 50 = some (.iload_n 2) := by decide +kernel
theorem c43_51 : cdA 43 51 = some (.aload_n 0) := by decide +kernel
theorem c43_52 : cdA 43 52 = some (.getfield 9) := by decide +kernel
theorem c43_55 : cdA 43 55 = some (.iload_n 1) := by decide +kernel
theorem c43_56 : cdA 43 56 = some (.invokevirtual 84) := by decide +kernel
theorem c43_43 : cdA 43 43 = some (.goto 34) := by decide +kernel
theorem c43_59 : cdA 43 59 = some (.istore_n 3) := by decide +kernel
theorem c43_60 : cdA 43 60 = some (.iload_n 3) := by decide +kernel
theorem c43_61 : cdA 43 61 = some (.ifCond .lt 16) := by decide +kernel
theorem c43_64 : cdA 43 64 = some (.aload_n 0) := by decide +kernel
theorem c43_65 : cdA 43 65 = some (.getfield 24) := by decide +kernel
theorem c43_68 : cdA 43 68 = some (.getfield 69) := by decide +kernel
theorem c43_71 : cdA 43 71 = some (.getfield 76) := by decide +kernel
theorem c43_74 : cdA 43 74 = some (.iload_n 2) := by decide +kernel
theorem c43_75 : cdA 43 75 = some (.iload_n 3) := by decide +kernel
theorem c43_76 : cdA 43 76 = some (.iastore) := by decide +kernel
theorem c43_77 : cdA 43 77 = some (.iinc 2 1) := by decide +kernel
theorem c43_80 : cdA 43 80 = some (.goto (-78)) := by decide +kernel
theorem c43_85 : cdA 43 85 = some (.iload_n 2) := by decide +kernel
theorem c43_86 : cdA 43 86 = some (.aload_n 0) := by decide +kernel
theorem c43_87 : cdA 43 87 = some (.getfield 24) := by decide +kernel
theorem c43_90 : cdA 43 90 = some (.getfield 32) := by decide +kernel
theorem c43_93 : cdA 43 93 = some (.getfield 38) := by decide +kernel
theorem f43_38 : fldR (moN 43) 38 = some (4, 0) := by decide +kernel
theorem c43_96 : cdA 43 96 = some (.if_icmp .ge 84) := by decide +kernel
theorem c43_180 : cdA 43 180 = some (.return_) := by decide +kernel
theorem R43 : mK 43 = 4 := by decide +kernel
theorem c43_99 : cdA 43 99 = some (.aload_n 0) := by decide +kernel
theorem c43_100 : cdA 43 100 = some (.getfield 24) := by decide +kernel
theorem c43_103 : cdA 43 103 = some (.getfield 32) := by decide +kernel
theorem c43_106 : cdA 43 106 = some (.getfield 88) := by decide +kernel
theorem f43_88 : fldR (moN 43) 88 = some (4, 6) := by decide +kernel
theorem c43_109 : cdA 43 109 = some (.iload_n 2) := by decide +kernel
theorem c43_110 : cdA 43 110 = some (.iaload) := by decide +kernel
theorem c43_111 : cdA 43 111 = some (.iconst 3) := by decide +kernel
theorem c43_112 : cdA 43 112 = some (.if_icmp .eq 62) := by decide +kernel
theorem c43_115 : cdA 43 115 = some (.aload_n 0) := by decide +kernel
theorem c43_116 : cdA 43 116 = some (.getfield 28) := by decide +kernel
theorem c43_119 : cdA 43 119 = some (.iconst 4) := by decide +kernel
theorem c43_120 : cdA 43 120 = some (.iload_n 2) := by decide +kernel
theorem c43_121 : cdA 43 121 = some (.iadd) := by decide +kernel
theorem c43_122 : cdA 43 122 = some (.invokevirtual 79) := by decide +kernel
theorem b43_0 {d : Nat} {h : HP} {Q : PV → HP → Prop} {v1 : Int} (H : X d 43 2 [some (P 52), some (I v1), some (I 0), none] [] h Q) : X d 43 0 [some (P 52), some (I v1), none, none] [] h Q :=
  s_iconst c43_0 rfl (s_istore_n c43_1 rfl (H))
theorem b43_125 {d : Nat} {h : HP} {Q : PV → HP → Prop} {v1 v2 s0 : Int} (H : ((¬ s0 = 0) → X d 28 0 [some (P 36), some (I (w32 (4 + v2))), some (P 53), some (I v1), none, none, none] [] h (fun r h' => X (d + 1) 43 146 [some (P 52), some (I v1), some (I v2), none] [r] h' Q)) ∧ (¬ (¬ s0 = 0) → X (d + 1) 43 174 [some (P 52), some (I v1), some (I v2), none] [] h Q)) : X (d + 1) 43 125 [some (P 52), some (I v1), some (I v2), none] [I s0] h Q :=
  s_if 131 (¬ s0 = 0) c43_125 (by decide) rfl ⟨fun q1 => s_aload_n c43_131 rfl (s_getP 36 c43_132 f43_28 t6_1 sh_52 g_52_1 (by decide) (by decide) (s_iconst c43_135 rfl (s_iload_n c43_136 rfl (s_iadd c43_137 (s_aload_n c43_138 rfl (s_getP 53 c43_139 f43_9 t6_7 sh_52 g_52_7 (by decide) (by decide) (s_iload_n c43_142 rfl (s_cVi c43_143 m43_84 F28 K28 rfl (Nat.le_of_ble_eq_true rfl) rfl S28_36 rfl (H.1 q1))))))))), fun q1 => s_goto 174 c43_128 (by decide) ((H.2 q1))⟩
theorem b43_146 {d : Nat} {h : HP} {Q : PV → HP → Prop} {v1 v2 s0 : Int} (H : ((s0 < 0) → X (d + 1) 43 174 [some (P 52), some (I v1), some (I v2), none] [] h Q) ∧ (¬ (s0 < 0) → X d 22 0 [some (P 2), some (I v2), some (I s0)] [] h (fun r h' => X (d + 1) 43 171 [some (P 52), some (I v1), some (I v2), some (I s0)] [r, I v2, P 2] h' Q))) : X (d + 1) 43 146 [some (P 52), some (I v1), some (I v2), none] [I s0] h Q :=
  s_istore_n c43_146 rfl (s_iload_n c43_147 rfl (s_if 174 (s0 < 0) c43_148 (by decide) rfl ⟨fun q2 => X_weak (A := [some (P 52), some (I v1), some (I v2), none]) (B := [some (P 52), some (I v1), some (I v2), some (I s0)]) ⟨Or.inl rfl, Or.inl rfl, Or.inl rfl, Or.inr ⟨rfl, _, rfl, rfl⟩, trivial⟩ (H.1 q2), fun q2 => s_aload_n c43_151 rfl (s_getP 1 c43_152 f43_24 t6_0 sh_52 g_52_0 (by decide) (by decide) (s_getP 2 c43_155 f43_32 t1_0 sh_1 g_1_0 (by decide) (by decide) (s_iload_n c43_158 rfl (s_aload_n c43_159 rfl (s_getP 1 c43_160 f43_24 t6_0 sh_52 g_52_0 (by decide) (by decide) (s_getP 2 c43_163 f43_32 t1_0 sh_1 g_1_0 (by decide) (by decide) (s_iload_n c43_166 rfl (s_iload_n c43_167 rfl (s_cVi c43_168 m43_91 F22 K22 rfl (Nat.le_of_ble_eq_true rfl) rfl S22_2 rfl (H.2 q2))))))))))⟩))
theorem b43_171 {d : Nat} {h : HP} {Q : PV → HP → Prop} {v1 v2 v3 s1 s2 : Int} (H : X d 23 0 [some (P 2), some (I s1), some (I s2)] [] h (fun _ h' => X (d + 1) 43 174 [some (P 52), some (I v1), some (I v2), some (I v3)] [] h' Q)) : X (d + 1) 43 171 [some (P 52), some (I v1), some (I v2), some (I v3)] [I s2, I s1, P 2] h Q :=
  s_cVv c43_171 m43_95 F23 K23 rfl (Nat.le_of_ble_eq_true rfl) rfl S23_2 rfl H
theorem b43_174 {d : Nat} {h : HP} {Q : PV → HP → Prop} {v1 v2 : Int} (H : X d 43 85 [some (P 52), some (I v1), some (I (w32 (v2 + 1))), none] [] h Q) : X d 43 174 [some (P 52), some (I v1), some (I v2), none] [] h Q :=
  s_iinc c43_174 rfl rfl rfl (s_goto 85 c43_177 (by decide) (H))
theorem b43_2 {d : Nat} {h : HP} {Q : PV → HP → Prop} {v1 v2 : Int} (H : (((h 26 2) ≤ v2) → X (d + 1) 43 85 [some (P 52), some (I v1), some (I 0), none] [] h Q) ∧ (¬ ((h 26 2) ≤ v2) → ((0 ≤ v2 ∧ v2 < 4) ∧ (((1 < (h 29 v2.toNat)) → X (d + 1) 43 77 [some (P 52), some (I v1), some (I v2), none] [] h Q) ∧ (¬ (1 < (h 29 v2.toNat)) → X d 27 0 [some (P 36), some (I v2)] [] h (fun r h' => X (d + 1) 43 40 [some (P 52), some (I v1), some (I v2), none] [r] h' Q)))))) : X (d + 1) 43 2 [some (P 52), some (I v1), some (I v2), none] [] h Q :=
  s_iload_n c43_2 rfl (s_aload_n c43_3 rfl (s_getP 1 c43_4 f43_24 t6_0 sh_52 g_52_0 (by decide) (by decide) (s_getP 26 c43_7 f43_69 t1_4 sh_1 g_1_4 (by decide) (by decide) (s_getI c43_10 f43_73 t3_2 sh_26 (s_ifc 83 ((h 26 2) ≤ v2) c43_13 (by decide) rfl ⟨fun q3 => s_iconst c43_83 rfl (s_istore_n c43_84 rfl ((H.1 q3))), fun q3 => s_aload_n c43_16 rfl (s_getP 1 c43_17 f43_24 t6_0 sh_52 g_52_0 (by decide) (by decide) (s_getP 26 c43_20 f43_69 t1_4 sh_1 g_1_4 (by decide) (by decide) (s_getP 29 c43_23 f43_76 t3_5 sh_26 g_26_5 (by decide) (by decide) (s_iload_n c43_26 rfl (s_iald c43_27 sh_29 ⟨(H.2 q3).1, s_iconst c43_28 rfl (s_ifc 77 (1 < (h 29 v2.toNat)) c43_29 (by decide) rfl ⟨fun q4 => ((H.2 q3).2.1 q4), fun q4 => s_aload_n c43_32 rfl (s_getP 36 c43_33 f43_28 t6_1 sh_52 g_52_1 (by decide) (by decide) (s_iload_n c43_36 rfl (s_cVi c43_37 m43_79 F27 K27 rfl (Nat.le_of_ble_eq_true rfl) rfl S27_36 rfl ((H.2 q3).2.2 q4))))⟩)⟩)))))⟩)))))
theorem b43_40 {d : Nat} {h : HP} {Q : PV → HP → Prop} {v1 v2 s0 : Int} (H : ((¬ s0 = 0) → X d 28 0 [some (P 36), some (I v2), some (P 53), some (I v1), none, none, none] [] h (fun r h' => X (d + 1) 43 59 [some (P 52), some (I v1), some (I v2), none] [r] h' Q)) ∧ (¬ (¬ s0 = 0) → X (d + 1) 43 77 [some (P 52), some (I v1), some (I v2), none] [] h Q)) : X (d + 1) 43 40 [some (P 52), some (I v1), some (I v2), none] [I s0] h Q :=
  s_if 46 (¬ s0 = 0) c43_40 (by decide) rfl ⟨fun q5 => s_aload_n c43_46 rfl (s_getP 36 c43_47 f43_28 t6_1 sh_52 g_52_1 (by decide) (by decide) (s_iload_n c43_50 rfl (s_aload_n c43_51 rfl (s_getP 53 c43_52 f43_9 t6_7 sh_52 g_52_7 (by decide) (by decide) (s_iload_n c43_55 rfl (s_cVi c43_56 m43_84 F28 K28 rfl (Nat.le_of_ble_eq_true rfl) rfl S28_36 rfl (H.1 q5))))))), fun q5 => s_goto 77 c43_43 (by decide) ((H.2 q5))⟩
theorem b43_59 {d : Nat} {h : HP} {Q : PV → HP → Prop} {v1 v2 s0 : Int} (H : ((s0 < 0) → X d 43 77 [some (P 52), some (I v1), some (I v2), none] [] h Q) ∧ (¬ (s0 < 0) → ((0 ≤ v2 ∧ v2 < 4) ∧ X d 43 77 [some (P 52), some (I v1), some (I v2), none] [] (up2 h 29 v2.toNat s0) Q))) : X d 43 59 [some (P 52), some (I v1), some (I v2), none] [I s0] h Q :=
  s_istore_n c43_59 rfl (s_iload_n c43_60 rfl (s_if 77 (s0 < 0) c43_61 (by decide) rfl ⟨fun q6 => X_weak (A := [some (P 52), some (I v1), some (I v2), none]) (B := [some (P 52), some (I v1), some (I v2), some (I s0)]) ⟨Or.inl rfl, Or.inl rfl, Or.inl rfl, Or.inr ⟨rfl, _, rfl, rfl⟩, trivial⟩ (H.1 q6), fun q6 => s_aload_n c43_64 rfl (s_getP 1 c43_65 f43_24 t6_0 sh_52 g_52_0 (by decide) (by decide) (s_getP 26 c43_68 f43_69 t1_4 sh_1 g_1_4 (by decide) (by decide) (s_getP 29 c43_71 f43_76 t3_5 sh_26 g_26_5 (by decide) (by decide) (s_iload_n c43_74 rfl (s_iload_n c43_75 rfl (s_iast c43_76 sh_29 ⟨(H.2 q6).1, X_weak (A := [some (P 52), some (I v1), some (I v2), none]) (B := [some (P 52), some (I v1), some (I v2), some (I s0)]) ⟨Or.inl rfl, Or.inl rfl, Or.inl rfl, Or.inr ⟨rfl, _, rfl, rfl⟩, trivial⟩ (H.2 q6).2⟩))))))⟩))
theorem b43_77 {d : Nat} {h : HP} {Q : PV → HP → Prop} {v1 v2 : Int} (H : X d 43 2 [some (P 52), some (I v1), some (I (w32 (v2 + 1))), none] [] h Q) : X d 43 77 [some (P 52), some (I v1), some (I v2), none] [] h Q :=
  s_iinc c43_77 rfl rfl rfl (s_goto 2 c43_80 (by decide) (H))
theorem b43_85 {d : Nat} {h : HP} {Q : PV → HP → Prop} {v1 v2 : Int} (H : (((h 2 0) ≤ v2) → Q (I 0) h) ∧ (¬ ((h 2 0) ≤ v2) → ((0 ≤ v2 ∧ v2 < 8) ∧ ((((h 8 v2.toNat) = 3) → X (d + 1) 43 174 [some (P 52), some (I v1), some (I v2), none] [] h Q) ∧ (¬ ((h 8 v2.toNat) = 3) → X d 27 0 [some (P 36), some (I (w32 (4 + v2)))] [] h (fun r h' => X (d + 1) 43 125 [some (P 52), some (I v1), some (I v2), none] [r] h' Q)))))) : X (d + 1) 43 85 [some (P 52), some (I v1), some (I v2), none] [] h Q :=
  s_iload_n c43_85 rfl (s_aload_n c43_86 rfl (s_getP 1 c43_87 f43_24 t6_0 sh_52 g_52_0 (by decide) (by decide) (s_getP 2 c43_90 f43_32 t1_0 sh_1 g_1_0 (by decide) (by decide) (s_getI c43_93 f43_38 t4_0 sh_2 (s_ifc 180 ((h 2 0) ≤ v2) c43_96 (by decide) rfl ⟨fun q7 => s_retV c43_180 R43 (H.1 q7), fun q7 => s_aload_n c43_99 rfl (s_getP 1 c43_100 f43_24 t6_0 sh_52 g_52_0 (by decide) (by decide) (s_getP 2 c43_103 f43_32 t1_0 sh_1 g_1_0 (by decide) (by decide) (s_getP 8 c43_106 f43_88 t4_6 sh_2 g_2_6 (by decide) (by decide) (s_iload_n c43_109 rfl (s_iald c43_110 sh_8 ⟨(H.2 q7).1, s_iconst c43_111 rfl (s_ifc 174 ((h 8 v2.toNat) = 3) c43_112 (by decide) rfl ⟨fun q8 => ((H.2 q7).2.1 q8), fun q8 => s_aload_n c43_115 rfl (s_getP 36 c43_116 f43_28 t6_1 sh_52 g_52_1 (by decide) (by decide) (s_iconst c43_119 rfl (s_iload_n c43_120 rfl (s_iadd c43_121 (s_cVi c43_122 m43_79 F27 K27 rfl (Nat.le_of_ble_eq_true rfl) rfl S27_36 rfl ((H.2 q7).2.2 q8))))))⟩)⟩)))))⟩)))))
-- WarmSide$Run.make(LWarmSide$Makers;)V
theorem c45_0 : cdA 45 0 = some (.aload_n 1) := by decide +kernel
theorem c45_1 : cdA 45 1 = some (.invokevirtual 138) := by decide +kernel
theorem m45_138 : mthR (moN 45) 138 = 21 := by decide +kernel
theorem c45_4 : cdA 45 4 = some (.istore_n 2) := by decide +kernel
theorem c45_5 : cdA 45 5 = some (.iconst 0) := by decide +kernel
theorem c45_6 : cdA 45 6 = some (.istore_n 3) := by decide +kernel
theorem c45_61 : cdA 45 61 = some (.iinc 3 1) := by decide +kernel
theorem c45_64 : cdA 45 64 = some (.goto (-57)) := by decide +kernel
theorem c45_7 : cdA 45 7 = some (.iload_n 3) := by decide +kernel
theorem c45_8 : cdA 45 8 = some (.aload_n 1) := by decide +kernel
theorem c45_9 : cdA 45 9 = some (.getfield 73) := by decide +kernel
theorem f45_73 : fldR (moN 45) 73 = some (3, 2) := by decide +kernel
theorem c45_12 : cdA 45 12 = some (.if_icmp .ge 55) := by decide +kernel
theorem c45_67 : cdA 45 67 = some (.return_) := by decide +kernel
theorem R45 : mK 45 = 4 := by decide +kernel
theorem c45_15 : cdA 45 15 = some (.iload_n 2) := by decide +kernel
theorem c45_16 : cdA 45 16 = some (.iload_n 3) := by decide +kernel
theorem c45_17 : cdA 45 17 = some (.ishr) := by decide +kernel
theorem c45_18 : cdA 45 18 = some (.iconst 1) := by decide +kernel
theorem c45_19 : cdA 45 19 = some (.iand) := by decide +kernel
theorem c45_20 : cdA 45 20 = some (.ifCond .ne 6) := by decide +kernel
theorem c45_26 : cdA 45 26 = some (.aload_n 0) := by decide +kernel
theorem c45_27 : cdA 45 27 = some (.getfield 15) := by decide +kernel
theorem f45_15 : fldR (moN 45) 15 = some (6, 8) := by decide +kernel
theorem t6_8 : fcl 6 8 = 2 := by decide +kernel
theorem c45_30 : cdA 45 30 = some (.aload_n 1) := by decide +kernel
theorem c45_31 : cdA 45 31 = some (.getfield 142) := by decide +kernel
theorem f45_142 : fldR (moN 45) 142 = some (3, 3) := by decide +kernel
theorem c45_34 : cdA 45 34 = some (.iload_n 3) := by decide +kernel
theorem c45_35 : cdA 45 35 = some (.iaload) := by decide +kernel
theorem c45_36 : cdA 45 36 = some (.dup2) := by decide +kernel
theorem c45_37 : cdA 45 37 = some (.iaload) := by decide +kernel
theorem c45_38 : cdA 45 38 = some (.aload_n 1) := by decide +kernel
theorem c45_39 : cdA 45 39 = some (.getfield 145) := by decide +kernel
theorem f45_145 : fldR (moN 45) 145 = some (3, 4) := by decide +kernel
theorem c45_42 : cdA 45 42 = some (.iload_n 3) := by decide +kernel
theorem c45_43 : cdA 45 43 = some (.iaload) := by decide +kernel
theorem c45_44 : cdA 45 44 = some (.iadd) := by decide +kernel
theorem c45_45 : cdA 45 45 = some (.iastore) := by decide +kernel
theorem c45_46 : cdA 45 46 = some (.aload_n 0) := by decide +kernel
theorem c45_47 : cdA 45 47 = some (.dup) := by decide +kernel
theorem c45_48 : cdA 45 48 = some (.getfield 111) := by decide +kernel
theorem f45_111 : fldR (moN 45) 111 = some (6, 3) := by decide +kernel
theorem t6_3 : fcl 6 3 = 0 := by decide +kernel
theorem c45_51 : cdA 45 51 = some (.aload_n 1) := by decide +kernel
theorem c45_52 : cdA 45 52 = some (.getfield 145) := by decide +kernel
theorem c45_55 : cdA 45 55 = some (.iload_n 3) := by decide +kernel
theorem c45_56 : cdA 45 56 = some (.iaload) := by decide +kernel
theorem c45_57 : cdA 45 57 = some (.iadd) := by decide +kernel
theorem c45_58 : cdA 45 58 = some (.putfield 111) := by decide +kernel
theorem n6_3 : ffin 6 3 = false := by decide +kernel
theorem c45_23 : cdA 45 23 = some (.goto 38) := by decide +kernel
theorem b45a_0 {d : Nat} {h : HP} {Q : PV → HP → Prop} (H : X d 18 0 [some (P 22), none, none] [] h (fun r h' => X (d + 1) 45 4 [some (P 52), some (P 22), none, none] [r] h' Q)) : X (d + 1) 45 0 [some (P 52), some (P 22), none, none] [] h Q :=
  s_aload_n c45_0 rfl (s_cVi c45_1 m45_138 F18 K18 rfl (Nat.le_of_ble_eq_true rfl) rfl S18_22 rfl H)
theorem b45a_4 {d : Nat} {h : HP} {Q : PV → HP → Prop} {s0 : Int} (H : X d 45 7 [some (P 52), some (P 22), some (I s0), some (I 0)] [] h Q) : X d 45 4 [some (P 52), some (P 22), none, none] [I s0] h Q :=
  s_istore_n c45_4 rfl (s_iconst c45_5 rfl (s_istore_n c45_6 rfl (H)))
theorem b45a_61 {d : Nat} {h : HP} {Q : PV → HP → Prop} {v2 v3 : Int} (H : X d 45 7 [some (P 52), some (P 22), some (I v2), some (I (w32 (v3 + 1)))] [] h Q) : X d 45 61 [some (P 52), some (P 22), some (I v2), some (I v3)] [] h Q :=
  s_iinc c45_61 rfl rfl rfl (s_goto 7 c45_64 (by decide) (H))
theorem b45a_7 {d : Nat} {h : HP} {Q : PV → HP → Prop} {v2 v3 : Int} (H : (((h 22 2) ≤ v3) → Q (I 0) h) ∧ (¬ ((h 22 2) ≤ v3) → (((¬ (bAnd (bShr v2 v3) 1) = 0) → ((0 ≤ v3 ∧ v3 < 8) ∧ ((0 ≤ (h 23 v3.toNat) ∧ (h 23 v3.toNat) < 8) ∧ ((0 ≤ v3 ∧ v3 < 8) ∧ ((0 ≤ (h 23 v3.toNat) ∧ (h 23 v3.toNat) < 8) ∧ ((0 ≤ v3 ∧ v3 < 8) ∧ X d 45 61 [some (P 52), some (P 22), some (I v2), some (I v3)] [] (up2 (up2 h 54 (h 23 v3.toNat).toNat (w32 ((h 54 (h 23 v3.toNat).toNat) + (h 24 v3.toNat)))) 52 3 (w32 ((h 52 3) + (h 24 v3.toNat)))) Q)))))) ∧ (¬ (¬ (bAnd (bShr v2 v3) 1) = 0) → X d 45 61 [some (P 52), some (P 22), some (I v2), some (I v3)] [] h Q)))) : X d 45 7 [some (P 52), some (P 22), some (I v2), some (I v3)] [] h Q :=
  s_iload_n c45_7 rfl (s_aload_n c45_8 rfl (s_getI c45_9 f45_73 t3_2 sh_22 (s_ifc 67 ((h 22 2) ≤ v3) c45_12 (by decide) rfl ⟨fun q1 => s_retV c45_67 R45 (H.1 q1), fun q1 => s_iload_n c45_15 rfl (s_iload_n c45_16 rfl (s_ishr c45_17 (s_iconst c45_18 rfl (s_iand c45_19 (s_if 26 (¬ (bAnd (bShr v2 v3) 1) = 0) c45_20 (by decide) rfl ⟨fun q2 => s_aload_n c45_26 rfl (s_getP 54 c45_27 f45_15 t6_8 sh_52 g_52_8 (by decide) (by decide) (s_aload_n c45_30 rfl (s_getP 23 c45_31 f45_142 t3_3 sh_22 g_22_3 (by decide) (by decide) (s_iload_n c45_34 rfl (s_iald c45_35 sh_23 ⟨((H.2 q1).1 q2).1, s_dup2 c45_36 (s_iald c45_37 sh_54 ⟨((H.2 q1).1 q2).2.1, s_aload_n c45_38 rfl (s_getP 24 c45_39 f45_145 t3_4 sh_22 g_22_4 (by decide) (by decide) (s_iload_n c45_42 rfl (s_iald c45_43 sh_24 ⟨((H.2 q1).1 q2).2.2.1, s_iadd c45_44 (s_iast c45_45 sh_54 ⟨((H.2 q1).1 q2).2.2.2.1, s_aload_n c45_46 rfl (s_dupP c45_47 (s_getI c45_48 f45_111 t6_3 sh_52 (s_aload_n c45_51 rfl (s_getP 24 c45_52 f45_145 t3_4 sh_22 g_22_4 (by decide) (by decide) (s_iload_n c45_55 rfl (s_iald c45_56 sh_24 ⟨((H.2 q1).1 q2).2.2.2.2.1, s_iadd c45_57 (s_putI c45_58 f45_111 t6_3 n6_3 sh_52 (((H.2 q1).1 q2).2.2.2.2.2))⟩))))))⟩)⟩)))⟩)⟩))))), fun q2 => s_goto 61 c45_23 (by decide) (((H.2 q1).2 q2))⟩)))))⟩)))
-- WarmSide$Run.make(LWarmSide$Makers;)V
theorem b45b_0 {d : Nat} {h : HP} {Q : PV → HP → Prop} (H : X d 18 0 [some (P 26), none, none] [] h (fun r h' => X (d + 1) 45 4 [some (P 52), some (P 26), none, none] [r] h' Q)) : X (d + 1) 45 0 [some (P 52), some (P 26), none, none] [] h Q :=
  s_aload_n c45_0 rfl (s_cVi c45_1 m45_138 F18 K18 rfl (Nat.le_of_ble_eq_true rfl) rfl S18_26 rfl H)
theorem b45b_4 {d : Nat} {h : HP} {Q : PV → HP → Prop} {s0 : Int} (H : X d 45 7 [some (P 52), some (P 26), some (I s0), some (I 0)] [] h Q) : X d 45 4 [some (P 52), some (P 26), none, none] [I s0] h Q :=
  s_istore_n c45_4 rfl (s_iconst c45_5 rfl (s_istore_n c45_6 rfl (H)))
theorem b45b_61 {d : Nat} {h : HP} {Q : PV → HP → Prop} {v2 v3 : Int} (H : X d 45 7 [some (P 52), some (P 26), some (I v2), some (I (w32 (v3 + 1)))] [] h Q) : X d 45 61 [some (P 52), some (P 26), some (I v2), some (I v3)] [] h Q :=
  s_iinc c45_61 rfl rfl rfl (s_goto 7 c45_64 (by decide) (H))
theorem b45b_7 {d : Nat} {h : HP} {Q : PV → HP → Prop} {v2 v3 : Int} (H : (((h 26 2) ≤ v3) → Q (I 0) h) ∧ (¬ ((h 26 2) ≤ v3) → (((¬ (bAnd (bShr v2 v3) 1) = 0) → ((0 ≤ v3 ∧ v3 < 4) ∧ ((0 ≤ (h 27 v3.toNat) ∧ (h 27 v3.toNat) < 8) ∧ ((0 ≤ v3 ∧ v3 < 4) ∧ ((0 ≤ (h 27 v3.toNat) ∧ (h 27 v3.toNat) < 8) ∧ ((0 ≤ v3 ∧ v3 < 4) ∧ X d 45 61 [some (P 52), some (P 26), some (I v2), some (I v3)] [] (up2 (up2 h 54 (h 27 v3.toNat).toNat (w32 ((h 54 (h 27 v3.toNat).toNat) + (h 28 v3.toNat)))) 52 3 (w32 ((h 52 3) + (h 28 v3.toNat)))) Q)))))) ∧ (¬ (¬ (bAnd (bShr v2 v3) 1) = 0) → X d 45 61 [some (P 52), some (P 26), some (I v2), some (I v3)] [] h Q)))) : X d 45 7 [some (P 52), some (P 26), some (I v2), some (I v3)] [] h Q :=
  s_iload_n c45_7 rfl (s_aload_n c45_8 rfl (s_getI c45_9 f45_73 t3_2 sh_26 (s_ifc 67 ((h 26 2) ≤ v3) c45_12 (by decide) rfl ⟨fun q1 => s_retV c45_67 R45 (H.1 q1), fun q1 => s_iload_n c45_15 rfl (s_iload_n c45_16 rfl (s_ishr c45_17 (s_iconst c45_18 rfl (s_iand c45_19 (s_if 26 (¬ (bAnd (bShr v2 v3) 1) = 0) c45_20 (by decide) rfl ⟨fun q2 => s_aload_n c45_26 rfl (s_getP 54 c45_27 f45_15 t6_8 sh_52 g_52_8 (by decide) (by decide) (s_aload_n c45_30 rfl (s_getP 27 c45_31 f45_142 t3_3 sh_26 g_26_3 (by decide) (by decide) (s_iload_n c45_34 rfl (s_iald c45_35 sh_27 ⟨((H.2 q1).1 q2).1, s_dup2 c45_36 (s_iald c45_37 sh_54 ⟨((H.2 q1).1 q2).2.1, s_aload_n c45_38 rfl (s_getP 28 c45_39 f45_145 t3_4 sh_26 g_26_4 (by decide) (by decide) (s_iload_n c45_42 rfl (s_iald c45_43 sh_28 ⟨((H.2 q1).1 q2).2.2.1, s_iadd c45_44 (s_iast c45_45 sh_54 ⟨((H.2 q1).1 q2).2.2.2.1, s_aload_n c45_46 rfl (s_dupP c45_47 (s_getI c45_48 f45_111 t6_3 sh_52 (s_aload_n c45_51 rfl (s_getP 28 c45_52 f45_145 t3_4 sh_26 g_26_4 (by decide) (by decide) (s_iload_n c45_55 rfl (s_iald c45_56 sh_28 ⟨((H.2 q1).1 q2).2.2.2.2.1, s_iadd c45_57 (s_putI c45_58 f45_111 t6_3 n6_3 sh_52 (((H.2 q1).1 q2).2.2.2.2.2))⟩))))))⟩)⟩)))⟩)⟩))))), fun q2 => s_goto 61 c45_23 (by decide) (((H.2 q1).2 q2))⟩)))))⟩)))
-- WarmSide$Run.exchange(I)V
theorem c44_0 : cdA 44 0 = some (.aload_n 0) := by decide +kernel
theorem c44_1 : cdA 44 1 = some (.getfield 24) := by decide +kernel
theorem f44_24 : fldR (moN 44) 24 = some (6, 0) := by decide +kernel
theorem c44_4 : cdA 44 4 = some (.getfield 99) := by decide +kernel
theorem f44_99 : fldR (moN 44) 99 = some (1, 5) := by decide +kernel
theorem c44_7 : cdA 44 7 = some (.getfield 103) := by decide +kernel
theorem f44_103 : fldR (moN 44) 103 = some (8, 5) := by decide +kernel
theorem c44_10 : cdA 44 10 = some (.istore_n 2) := by decide +kernel
theorem c44_11 : cdA 44 11 = some (.aload_n 0) := by decide +kernel
theorem c44_12 : cdA 44 12 = some (.iconst 0) := by decide +kernel
theorem c44_13 : cdA 44 13 = some (.putfield 108) := by decide +kernel
theorem f44_108 : fldR (moN 44) 108 = some (6, 2) := by decide +kernel
theorem t6_2 : fcl 6 2 = 0 := by decide +kernel
theorem n6_2 : ffin 6 2 = false := by decide +kernel
theorem c44_16 : cdA 44 16 = some (.aload_n 0) := by decide +kernel
theorem c44_17 : cdA 44 17 = some (.iconst 0) := by decide +kernel
theorem c44_18 : cdA 44 18 = some (.putfield 111) := by decide +kernel
theorem f44_111 : fldR (moN 44) 111 = some (6, 3) := by decide +kernel
theorem c44_21 : cdA 44 21 = some (.iconst 0) := by decide +kernel
theorem c44_22 : cdA 44 22 = some (.istore_n 3) := by decide +kernel
theorem c44_100 : cdA 44 100 = some (.iastore) := by decide +kernel
theorem c44_101 : cdA 44 101 = some (.aload_n 0) := by decide +kernel
theorem c44_102 : cdA 44 102 = some (.getfield 15) := by decide +kernel
theorem f44_15 : fldR (moN 44) 15 = some (6, 8) := by decide +kernel
theorem c44_105 : cdA 44 105 = some (.iload_n 3) := by decide +kernel
theorem c44_106 : cdA 44 106 = some (.iload 4) := by decide +kernel
theorem c44_108 : cdA 44 108 = some (.aload_n 0) := by decide +kernel
theorem c44_109 : cdA 44 109 = some (.getfield 18) := by decide +kernel
theorem f44_18 : fldR (moN 44) 18 = some (6, 9) := by decide +kernel
theorem t6_9 : fcl 6 9 = 2 := by decide +kernel
theorem c44_112 : cdA 44 112 = some (.iload_n 3) := by decide +kernel
theorem c44_113 : cdA 44 113 = some (.iaload) := by decide +kernel
theorem c44_114 : cdA 44 114 = some (.isub) := by decide +kernel
theorem c44_115 : cdA 44 115 = some (.iastore) := by decide +kernel
theorem c44_116 : cdA 44 116 = some (.aload_n 0) := by decide +kernel
theorem c44_117 : cdA 44 117 = some (.dup) := by decide +kernel
theorem c44_118 : cdA 44 118 = some (.getfield 108) := by decide +kernel
theorem c44_121 : cdA 44 121 = some (.iload 4) := by decide +kernel
theorem c44_123 : cdA 44 123 = some (.iadd) := by decide +kernel
theorem c44_124 : cdA 44 124 = some (.putfield 108) := by decide +kernel
theorem c44_127 : cdA 44 127 = some (.iinc 3 1) := by decide +kernel
theorem c44_130 : cdA 44 130 = some (.goto (-107)) := by decide +kernel
theorem c44_144 : cdA 44 144 = some (.aload_n 0) := by decide +kernel
theorem c44_145 : cdA 44 145 = some (.aload_n 0) := by decide +kernel
theorem c44_146 : cdA 44 146 = some (.getfield 24) := by decide +kernel
theorem c44_149 : cdA 44 149 = some (.getfield 69) := by decide +kernel
theorem f44_69 : fldR (moN 44) 69 = some (1, 4) := by decide +kernel
theorem c44_152 : cdA 44 152 = some (.invokevirtual 134) := by decide +kernel
theorem m44_134 : mthR (moN 44) 134 = 48 := by decide +kernel
theorem F45 : mF 45 1 4 true := by unfold mF; decide +kernel
theorem K45 : mK 45 = 4 := by decide +kernel
theorem S45_52 : SH0[52]? = some (.inl (moN 45)) := by decide +kernel
theorem c44_155 : cdA 44 155 = some (.return_) := by decide +kernel
theorem R44 : mK 44 = 4 := by decide +kernel
theorem c44_23 : cdA 44 23 = some (.iload_n 3) := by decide +kernel
theorem c44_24 : cdA 44 24 = some (.aload_n 0) := by decide +kernel
theorem c44_25 : cdA 44 25 = some (.getfield 24) := by decide +kernel
theorem c44_28 : cdA 44 28 = some (.getfield 32) := by decide +kernel
theorem f44_32 : fldR (moN 44) 32 = some (1, 0) := by decide +kernel
theorem c44_31 : cdA 44 31 = some (.getfield 38) := by decide +kernel
theorem f44_38 : fldR (moN 44) 38 = some (4, 0) := by decide +kernel
theorem c44_34 : cdA 44 34 = some (.if_icmp .ge 99) := by decide +kernel
theorem c44_133 : cdA 44 133 = some (.aload_n 0) := by decide +kernel
theorem c44_134 : cdA 44 134 = some (.aload_n 0) := by decide +kernel
theorem c44_135 : cdA 44 135 = some (.getfield 24) := by decide +kernel
theorem c44_138 : cdA 44 138 = some (.getfield 131) := by decide +kernel
theorem f44_131 : fldR (moN 44) 131 = some (1, 3) := by decide +kernel
theorem c44_141 : cdA 44 141 = some (.invokevirtual 134) := by decide +kernel
theorem c44_37 : cdA 44 37 = some (.aload_n 0) := by decide +kernel
theorem c44_38 : cdA 44 38 = some (.getfield 24) := by decide +kernel
theorem c44_41 : cdA 44 41 = some (.iload_n 3) := by decide +kernel
theorem c44_42 : cdA 44 42 = some (.aload_n 0) := by decide +kernel
theorem c44_43 : cdA 44 43 = some (.getfield 24) := by decide +kernel
theorem c44_46 : cdA 44 46 = some (.getfield 99) := by decide +kernel
theorem c44_49 : cdA 44 49 = some (.getfield 114) := by decide +kernel
theorem f44_114 : fldR (moN 44) 114 = some (8, 3) := by decide +kernel
theorem c44_52 : cdA 44 52 = some (.iload_n 1) := by decide +kernel
theorem c44_53 : cdA 44 53 = some (.iaload) := by decide +kernel
theorem c44_54 : cdA 44 54 = some (.iload_n 2) := by decide +kernel
theorem c44_55 : cdA 44 55 = some (.invokevirtual 117) := by decide +kernel
theorem m44_117 : mthR (moN 44) 117 = 12 := by decide +kernel
theorem c44_58 : cdA 44 58 = some (.istore 4) := by decide +kernel
theorem c44_60 : cdA 44 60 = some (.aload_n 0) := by decide +kernel
theorem c44_61 : cdA 44 61 = some (.getfield 18) := by decide +kernel
theorem c44_64 : cdA 44 64 = some (.iload_n 3) := by decide +kernel
theorem c44_65 : cdA 44 65 = some (.aload_n 0) := by decide +kernel
theorem c44_66 : cdA 44 66 = some (.getfield 24) := by decide +kernel
theorem c44_69 : cdA 44 69 = some (.iload_n 3) := by decide +kernel
theorem c44_70 : cdA 44 70 = some (.aload_n 0) := by decide +kernel
theorem c44_71 : cdA 44 71 = some (.getfield 9) := by decide +kernel
theorem f44_9 : fldR (moN 44) 9 = some (6, 7) := by decide +kernel
theorem c44_74 : cdA 44 74 = some (.iload_n 3) := by decide +kernel
theorem c44_75 : cdA 44 75 = some (.iaload) := by decide +kernel
theorem c44_76 : cdA 44 76 = some (.aload_n 0) := by decide +kernel
theorem c44_77 : cdA 44 77 = some (.getfield 24) := by decide +kernel
theorem c44_80 : cdA 44 80 = some (.getfield 32) := by decide +kernel
theorem c44_83 : cdA 44 83 = some (.getfield 121) := by decide +kernel
theorem f44_121 : fldR (moN 44) 121 = some (4, 7) := by decide +kernel
theorem c44_86 : cdA 44 86 = some (.iload_n 3) := by decide +kernel
theorem c44_87 : cdA 44 87 = some (.iaload) := by decide +kernel
theorem c44_88 : cdA 44 88 = some (.aload_n 0) := by decide +kernel
theorem c44_89 : cdA 44 89 = some (.getfield 24) := by decide +kernel
theorem c44_92 : cdA 44 92 = some (.iload_n 3) := by decide +kernel
theorem c44_93 : cdA 44 93 = some (.iload_n 2) := by decide +kernel
theorem c44_94 : cdA 44 94 = some (.invokevirtual 124) := by decide +kernel
theorem m44_124 : mthR (moN 44) 124 = 13 := by decide +kernel
theorem c44_97 : cdA 44 97 = some (.invokevirtual 127) := by decide +kernel
theorem m44_127 : mthR (moN 44) 127 = 14 := by decide +kernel
theorem b44_0 {d : Nat} {h : HP} {Q : PV → HP → Prop} {v1 : Int} (H : X d 44 23 [some (P 52), some (I v1), some (I (h 30 5)), some (I 0), none] [] (up2 (up2 h 52 2 0) 52 3 0) Q) : X d 44 0 [some (P 52), some (I v1), none, none, none] [] h Q :=
  s_aload_n c44_0 rfl (s_getP 1 c44_1 f44_24 t6_0 sh_52 g_52_0 (by decide) (by decide) (s_getP 30 c44_4 f44_99 t1_5 sh_1 g_1_5 (by decide) (by decide) (s_getI c44_7 f44_103 t8_5 sh_30 (s_istore_n c44_10 rfl (s_aload_n c44_11 rfl (s_iconst c44_12 rfl (s_putI c44_13 f44_108 t6_2 n6_2 sh_52 (s_aload_n c44_16 rfl (s_iconst c44_17 rfl (s_putI c44_18 f44_111 t6_3 n6_3 sh_52 (s_iconst c44_21 rfl (s_istore_n c44_22 rfl (H)))))))))))))
theorem b44_100 {d : Nat} {h : HP} {Q : PV → HP → Prop} {v1 v2 v3 v4 s1 s2 : Int} (H : (0 ≤ s1 ∧ s1 < 8) ∧ ((0 ≤ v3 ∧ v3 < 8) ∧ ((0 ≤ v3 ∧ v3 < 8) ∧ X d 44 23 [some (P 52), some (I v1), some (I v2), some (I (w32 (v3 + 1))), none] [] (up2 (up2 (up2 h 55 s1.toNat s2) 54 v3.toNat (w32 (v4 - ((up2 h 55 s1.toNat s2) 55 v3.toNat)))) 52 2 (w32 ((h 52 2) + v4))) Q))) : X d 44 100 [some (P 52), some (I v1), some (I v2), some (I v3), some (I v4)] [I s2, I s1, P 55] h Q :=
  s_iast c44_100 sh_55 ⟨H.1, s_aload_n c44_101 rfl (s_getP 54 c44_102 f44_15 t6_8 sh_52 g_52_8 (by decide) (by decide) (s_iload_n c44_105 rfl (s_iload c44_106 rfl (s_aload_n c44_108 rfl (s_getP 55 c44_109 f44_18 t6_9 sh_52 g_52_9 (by decide) (by decide) (s_iload_n c44_112 rfl (s_iald c44_113 sh_55 ⟨H.2.1, s_isub c44_114 (s_iast c44_115 sh_54 ⟨H.2.2.1, s_aload_n c44_116 rfl (s_dupP c44_117 (s_getI c44_118 f44_108 t6_2 sh_52 (s_iload c44_121 rfl (s_iadd c44_123 (s_putI c44_124 f44_108 t6_2 n6_2 sh_52 (s_iinc c44_127 rfl rfl rfl (s_goto 23 c44_130 (by decide) (X_weak (A := [some (P 52), some (I v1), some (I v2), some (I (w32 (v3 + 1))), none]) (B := [some (P 52), some (I v1), some (I v2), some (I (w32 (v3 + 1))), some (I v4)]) ⟨Or.inl rfl, Or.inl rfl, Or.inl rfl, Or.inl rfl, Or.inr ⟨rfl, _, rfl, rfl⟩, trivial⟩ H.2.2.2))))))))⟩)⟩)))))))⟩
theorem b44_144 {d : Nat} {h : HP} {Q : PV → HP → Prop} {v1 v2 v3 : Int} (H : X d 45 0 [some (P 52), some (P 26), none, none] [] h (fun _ h' => X (d + 1) 44 155 [some (P 52), some (I v1), some (I v2), some (I v3), none] [] h' Q)) : X (d + 1) 44 144 [some (P 52), some (I v1), some (I v2), some (I v3), none] [] h Q :=
  s_aload_n c44_144 rfl (s_aload_n c44_145 rfl (s_getP 1 c44_146 f44_24 t6_0 sh_52 g_52_0 (by decide) (by decide) (s_getP 26 c44_149 f44_69 t1_4 sh_1 g_1_4 (by decide) (by decide) (s_cVv c44_152 m44_134 F45 K45 rfl (Nat.le_of_ble_eq_true rfl) rfl S45_52 rfl H))))
theorem b44_155 {d : Nat} {h : HP} {Q : PV → HP → Prop} {v1 v2 v3 : Int} (H : Q (I 0) h) : X d 44 155 [some (P 52), some (I v1), some (I v2), some (I v3), none] [] h Q :=
  s_retV c44_155 R44 H
theorem b44_23 {d : Nat} {h : HP} {Q : PV → HP → Prop} {v1 v2 v3 : Int} (H : (((h 2 0) ≤ v3) → X d 45 0 [some (P 52), some (P 22), none, none] [] h (fun _ h' => X (d + 1) 44 144 [some (P 52), some (I v1), some (I v2), some (I v3), none] [] h' Q)) ∧ (¬ ((h 2 0) ≤ v3) → ((0 ≤ v1 ∧ v1 < 12) ∧ X d 9 0 [some (P 1), some (I v3), some (I (h 34 v1.toNat)), some (I v2), none] [] h (fun r h' => X (d + 1) 44 58 [some (P 52), some (I v1), some (I v2), some (I v3), none] [r] h' Q)))) : X (d + 1) 44 23 [some (P 52), some (I v1), some (I v2), some (I v3), none] [] h Q :=
  s_iload_n c44_23 rfl (s_aload_n c44_24 rfl (s_getP 1 c44_25 f44_24 t6_0 sh_52 g_52_0 (by decide) (by decide) (s_getP 2 c44_28 f44_32 t1_0 sh_1 g_1_0 (by decide) (by decide) (s_getI c44_31 f44_38 t4_0 sh_2 (s_ifc 133 ((h 2 0) ≤ v3) c44_34 (by decide) rfl ⟨fun q1 => s_aload_n c44_133 rfl (s_aload_n c44_134 rfl (s_getP 1 c44_135 f44_24 t6_0 sh_52 g_52_0 (by decide) (by decide) (s_getP 22 c44_138 f44_131 t1_3 sh_1 g_1_3 (by decide) (by decide) (s_cVv c44_141 m44_134 F45 K45 rfl (Nat.le_of_ble_eq_true rfl) rfl S45_52 rfl (H.1 q1))))), fun q1 => s_aload_n c44_37 rfl (s_getP 1 c44_38 f44_24 t6_0 sh_52 g_52_0 (by decide) (by decide) (s_iload_n c44_41 rfl (s_aload_n c44_42 rfl (s_getP 1 c44_43 f44_24 t6_0 sh_52 g_52_0 (by decide) (by decide) (s_getP 30 c44_46 f44_99 t1_5 sh_1 g_1_5 (by decide) (by decide) (s_getP 34 c44_49 f44_114 t8_3 sh_30 g_30_3 (by decide) (by decide) (s_iload_n c44_52 rfl (s_iald c44_53 sh_34 ⟨(H.2 q1).1, s_iload_n c44_54 rfl (s_cVi c44_55 m44_117 F9 K9 rfl (Nat.le_of_ble_eq_true rfl) rfl S9_1 rfl (H.2 q1).2)⟩))))))))⟩)))))
theorem b44_58 {d : Nat} {h : HP} {Q : PV → HP → Prop} {v1 v2 v3 s0 : Int} (H : (0 ≤ v3 ∧ v3 < 8) ∧ ((0 ≤ v3 ∧ v3 < 8) ∧ X d 10 0 [some (P 1), some (I v3), some (I v2)] [] h (fun r h' => X (d + 1) 44 97 [some (P 52), some (I v1), some (I v2), some (I v3), some (I s0)] [r, I (h 9 v3.toNat), I (h 53 v3.toNat), I v3, P 1, I v3, P 55] h' Q))) : X (d + 1) 44 58 [some (P 52), some (I v1), some (I v2), some (I v3), none] [I s0] h Q :=
  s_istore c44_58 rfl (s_aload_n c44_60 rfl (s_getP 55 c44_61 f44_18 t6_9 sh_52 g_52_9 (by decide) (by decide) (s_iload_n c44_64 rfl (s_aload_n c44_65 rfl (s_getP 1 c44_66 f44_24 t6_0 sh_52 g_52_0 (by decide) (by decide) (s_iload_n c44_69 rfl (s_aload_n c44_70 rfl (s_getP 53 c44_71 f44_9 t6_7 sh_52 g_52_7 (by decide) (by decide) (s_iload_n c44_74 rfl (s_iald c44_75 sh_53 ⟨H.1, s_aload_n c44_76 rfl (s_getP 1 c44_77 f44_24 t6_0 sh_52 g_52_0 (by decide) (by decide) (s_getP 2 c44_80 f44_32 t1_0 sh_1 g_1_0 (by decide) (by decide) (s_getP 9 c44_83 f44_121 t4_7 sh_2 g_2_7 (by decide) (by decide) (s_iload_n c44_86 rfl (s_iald c44_87 sh_9 ⟨H.2.1, s_aload_n c44_88 rfl (s_getP 1 c44_89 f44_24 t6_0 sh_52 g_52_0 (by decide) (by decide) (s_iload_n c44_92 rfl (s_iload_n c44_93 rfl (s_cVi c44_94 m44_124 F10 K10 rfl (Nat.le_of_ble_eq_true rfl) rfl S10_1 rfl H.2.2))))⟩)))))⟩))))))))))
theorem b44_97 {d : Nat} {h : HP} {Q : PV → HP → Prop} {v1 v2 v3 v4 s1 s3 s4 s5 s6 : Int} (H : X d 11 0 [some (P 1), some (I s3), some (I s4), some (I s5), some (I s6), none, none, none] [] h (fun r h' => X (d + 1) 44 100 [some (P 52), some (I v1), some (I v2), some (I v3), some (I v4)] [r, I s1, P 55] h' Q)) : X (d + 1) 44 97 [some (P 52), some (I v1), some (I v2), some (I v3), some (I v4)] [I s6, I s5, I s4, I s3, P 1, I s1, P 55] h Q :=
  s_cVi c44_97 m44_127 F11 K11 rfl (Nat.le_of_ble_eq_true rfl) rfl S11_1 rfl H
-- WarmSide$Run.lead(LWarmSide$Links;Z)V
theorem c46_0 : cdA 46 0 = some (.iconst 0) := by decide +kernel
theorem c46_1 : cdA 46 1 = some (.istore_n 3) := by decide +kernel
theorem c46_102 : cdA 46 102 = some (.iinc 3 1) := by decide +kernel
theorem c46_105 : cdA 46 105 = some (.goto (-103)) := by decide +kernel
theorem c46_2 : cdA 46 2 = some (.iload_n 3) := by decide +kernel
theorem c46_3 : cdA 46 3 = some (.aload_n 1) := by decide +kernel
theorem c46_4 : cdA 46 4 = some (.getfield 148) := by decide +kernel
theorem f46_148 : fldR (moN 46) 148 = some (2, 1) := by decide +kernel
theorem c46_7 : cdA 46 7 = some (.if_icmp .ge 101) := by decide +kernel
theorem c46_108 : cdA 46 108 = some (.return_) := by decide +kernel
theorem R46 : mK 46 = 4 := by decide +kernel
theorem c46_10 : cdA 46 10 = some (.aload_n 1) := by decide +kernel
theorem c46_11 : cdA 46 11 = some (.getfield 151) := by decide +kernel
theorem f46_151 : fldR (moN 46) 151 = some (2, 2) := by decide +kernel
theorem c46_14 : cdA 46 14 = some (.iload_n 3) := by decide +kernel
theorem c46_15 : cdA 46 15 = some (.iaload) := by decide +kernel
theorem c46_16 : cdA 46 16 = some (.istore 4) := by decide +kernel
theorem c46_18 : cdA 46 18 = some (.aload_n 1) := by decide +kernel
theorem c46_19 : cdA 46 19 = some (.getfield 154) := by decide +kernel
theorem f46_154 : fldR (moN 46) 154 = some (2, 3) := by decide +kernel
theorem c46_22 : cdA 46 22 = some (.iload_n 3) := by decide +kernel
theorem c46_23 : cdA 46 23 = some (.iaload) := by decide +kernel
theorem c46_24 : cdA 46 24 = some (.istore 5) := by decide +kernel
theorem c46_26 : cdA 46 26 = some (.aload_n 0) := by decide +kernel
theorem c46_27 : cdA 46 27 = some (.getfield 9) := by decide +kernel
theorem f46_9 : fldR (moN 46) 9 = some (6, 7) := by decide +kernel
theorem c46_30 : cdA 46 30 = some (.iload 4) := by decide +kernel
theorem c46_32 : cdA 46 32 = some (.iaload) := by decide +kernel
theorem c46_33 : cdA 46 33 = some (.aload_n 0) := by decide +kernel
theorem c46_34 : cdA 46 34 = some (.getfield 9) := by decide +kernel
theorem c46_37 : cdA 46 37 = some (.iload 5) := by decide +kernel
theorem c46_39 : cdA 46 39 = some (.iaload) := by decide +kernel
theorem c46_40 : cdA 46 40 = some (.isub) := by decide +kernel
theorem c46_41 : cdA 46 41 = some (.istore 6) := by decide +kernel
theorem c46_43 : cdA 46 43 = some (.iload_n 2) := by decide +kernel
theorem c46_44 : cdA 46 44 = some (.ifCond .eq 20) := by decide +kernel
theorem c46_47 : cdA 46 47 = some (.iload 6) := by decide +kernel
theorem c46_49 : cdA 46 49 = some (.ifCond .lt 53) := by decide +kernel
theorem c46_52 : cdA 46 52 = some (.aload_n 1) := by decide +kernel
theorem c46_53 : cdA 46 53 = some (.getfield 157) := by decide +kernel
theorem f46_157 : fldR (moN 46) 157 = some (2, 5) := by decide +kernel
theorem c46_56 : cdA 46 56 = some (.iload_n 3) := by decide +kernel
theorem c46_57 : cdA 46 57 = some (.iaload) := by decide +kernel
theorem c46_58 : cdA 46 58 = some (.ifCond .eq 6) := by decide +kernel
theorem c46_61 : cdA 46 61 = some (.goto 41) := by decide +kernel
theorem c46_64 : cdA 46 64 = some (.aload_n 0) := by decide +kernel
theorem c46_65 : cdA 46 65 = some (.getfield 15) := by decide +kernel
theorem f46_15 : fldR (moN 46) 15 = some (6, 8) := by decide +kernel
theorem c46_68 : cdA 46 68 = some (.iload 4) := by decide +kernel
theorem c46_70 : cdA 46 70 = some (.dup2) := by decide +kernel
theorem c46_71 : cdA 46 71 = some (.iaload) := by decide +kernel
theorem c46_72 : cdA 46 72 = some (.aload_n 1) := by decide +kernel
theorem c46_73 : cdA 46 73 = some (.getfield 160) := by decide +kernel
theorem f46_160 : fldR (moN 46) 160 = some (2, 4) := by decide +kernel
theorem c46_76 : cdA 46 76 = some (.iload_n 3) := by decide +kernel
theorem c46_77 : cdA 46 77 = some (.iaload) := by decide +kernel
theorem c46_78 : cdA 46 78 = some (.iload 6) := by decide +kernel
theorem c46_80 : cdA 46 80 = some (.imul) := by decide +kernel
theorem c46_81 : cdA 46 81 = some (.isub) := by decide +kernel
theorem c46_82 : cdA 46 82 = some (.iastore) := by decide +kernel
theorem c46_83 : cdA 46 83 = some (.aload_n 0) := by decide +kernel
theorem c46_84 : cdA 46 84 = some (.getfield 15) := by decide +kernel
theorem c46_87 : cdA 46 87 = some (.iload 5) := by decide +kernel
theorem c46_89 : cdA 46 89 = some (.dup2) := by decide +kernel
theorem c46_90 : cdA 46 90 = some (.iaload) := by decide +kernel
theorem c46_91 : cdA 46 91 = some (.aload_n 1) := by decide +kernel
theorem c46_92 : cdA 46 92 = some (.getfield 160) := by decide +kernel
theorem c46_95 : cdA 46 95 = some (.iload_n 3) := by decide +kernel
theorem c46_96 : cdA 46 96 = some (.iaload) := by decide +kernel
theorem c46_97 : cdA 46 97 = some (.iload 6) := by decide +kernel
theorem c46_99 : cdA 46 99 = some (.imul) := by decide +kernel
theorem c46_100 : cdA 46 100 = some (.iadd) := by decide +kernel
theorem c46_101 : cdA 46 101 = some (.iastore) := by decide +kernel
theorem b46a_0 {d : Nat} {h : HP} {Q : PV → HP → Prop} {v2 : Int} (H : X d 46 2 [some (P 52), some (P 12), some (I v2), some (I 0), none, none, none] [] h Q) : X d 46 0 [some (P 52), some (P 12), some (I v2), none, none, none, none] [] h Q :=
  s_iconst c46_0 rfl (s_istore_n c46_1 rfl (H))
theorem b46a_102 {d : Nat} {h : HP} {Q : PV → HP → Prop} {v2 v3 v4 v5 v6 : Int} (H : X d 46 2 [some (P 52), some (P 12), some (I v2), some (I (w32 (v3 + 1))), none, none, none] [] h Q) : X d 46 102 [some (P 52), some (P 12), some (I v2), some (I v3), some (I v4), some (I v5), some (I v6)] [] h Q :=
  s_iinc c46_102 rfl rfl rfl (s_goto 2 c46_105 (by decide) (X_weak (A := [some (P 52), some (P 12), some (I v2), some (I (w32 (v3 + 1))), none, none, none]) (B := [some (P 52), some (P 12), some (I v2), some (I (w32 (v3 + 1))), some (I v4), some (I v5), some (I v6)]) ⟨Or.inl rfl, Or.inl rfl, Or.inl rfl, Or.inl rfl, Or.inr ⟨rfl, _, rfl, rfl⟩, Or.inr ⟨rfl, _, rfl, rfl⟩, Or.inr ⟨rfl, _, rfl, rfl⟩, trivial⟩ H))
theorem b46a_2 {d : Nat} {h : HP} {Q : PV → HP → Prop} {v2 v3 : Int} (H : (((h 12 1) ≤ v3) → Q (I 0) h) ∧ (¬ ((h 12 1) ≤ v3) → ((0 ≤ v3 ∧ v3 < 20) ∧ ((0 ≤ v3 ∧ v3 < 20) ∧ ((0 ≤ (h 13 v3.toNat) ∧ (h 13 v3.toNat) < 8) ∧ ((0 ≤ (h 14 v3.toNat) ∧ (h 14 v3.toNat) < 8) ∧ (((v2 = 0) → X d 46 64 [some (P 52), some (P 12), some (I v2), some (I v3), some (I (h 13 v3.toNat)), some (I (h 14 v3.toNat)), some (I (w32 ((h 53 (h 13 v3.toNat).toNat) - (h 53 (h 14 v3.toNat).toNat))))] [] h Q) ∧ (¬ (v2 = 0) → ((((w32 ((h 53 (h 13 v3.toNat).toNat) - (h 53 (h 14 v3.toNat).toNat))) < 0) → X d 46 102 [some (P 52), some (P 12), some (I v2), some (I v3), some (I (h 13 v3.toNat)), some (I (h 14 v3.toNat)), some (I (w32 ((h 53 (h 13 v3.toNat).toNat) - (h 53 (h 14 v3.toNat).toNat))))] [] h Q) ∧ (¬ ((w32 ((h 53 (h 13 v3.toNat).toNat) - (h 53 (h 14 v3.toNat).toNat))) < 0) → ((0 ≤ v3 ∧ v3 < 20) ∧ ((((h 16 v3.toNat) = 0) → X d 46 64 [some (P 52), some (P 12), some (I v2), some (I v3), some (I (h 13 v3.toNat)), some (I (h 14 v3.toNat)), some (I (w32 ((h 53 (h 13 v3.toNat).toNat) - (h 53 (h 14 v3.toNat).toNat))))] [] h Q) ∧ (¬ ((h 16 v3.toNat) = 0) → X d 46 102 [some (P 52), some (P 12), some (I v2), some (I v3), some (I (h 13 v3.toNat)), some (I (h 14 v3.toNat)), some (I (w32 ((h 53 (h 13 v3.toNat).toNat) - (h 53 (h 14 v3.toNat).toNat))))] [] h Q))))))))))))) : X d 46 2 [some (P 52), some (P 12), some (I v2), some (I v3), none, none, none] [] h Q :=
  s_iload_n c46_2 rfl (s_aload_n c46_3 rfl (s_getI c46_4 f46_148 t2_1 sh_12 (s_ifc 108 ((h 12 1) ≤ v3) c46_7 (by decide) rfl ⟨fun q1 => s_retV c46_108 R46 (H.1 q1), fun q1 => s_aload_n c46_10 rfl (s_getP 13 c46_11 f46_151 t2_2 sh_12 g_12_2 (by decide) (by decide) (s_iload_n c46_14 rfl (s_iald c46_15 sh_13 ⟨(H.2 q1).1, s_istore c46_16 rfl (s_aload_n c46_18 rfl (s_getP 14 c46_19 f46_154 t2_3 sh_12 g_12_3 (by decide) (by decide) (s_iload_n c46_22 rfl (s_iald c46_23 sh_14 ⟨(H.2 q1).2.1, s_istore c46_24 rfl (s_aload_n c46_26 rfl (s_getP 53 c46_27 f46_9 t6_7 sh_52 g_52_7 (by decide) (by decide) (s_iload c46_30 rfl (s_iald c46_32 sh_53 ⟨(H.2 q1).2.2.1, s_aload_n c46_33 rfl (s_getP 53 c46_34 f46_9 t6_7 sh_52 g_52_7 (by decide) (by decide) (s_iload c46_37 rfl (s_iald c46_39 sh_53 ⟨(H.2 q1).2.2.2.1, s_isub c46_40 (s_istore c46_41 rfl (s_iload_n c46_43 rfl (s_if 64 (v2 = 0) c46_44 (by decide) rfl ⟨fun q2 => ((H.2 q1).2.2.2.2.1 q2), fun q2 => s_iload c46_47 rfl (s_if 102 ((w32 ((h 53 (h 13 v3.toNat).toNat) - (h 53 (h 14 v3.toNat).toNat))) < 0) c46_49 (by decide) rfl ⟨fun q3 => (((H.2 q1).2.2.2.2.2 q2).1 q3), fun q3 => s_aload_n c46_52 rfl (s_getP 16 c46_53 f46_157 t2_5 sh_12 g_12_5 (by decide) (by decide) (s_iload_n c46_56 rfl (s_iald c46_57 sh_16 ⟨(((H.2 q1).2.2.2.2.2 q2).2 q3).1, s_if 64 ((h 16 v3.toNat) = 0) c46_58 (by decide) rfl ⟨fun q4 => ((((H.2 q1).2.2.2.2.2 q2).2 q3).2.1 q4), fun q4 => s_goto 102 c46_61 (by decide) (((((H.2 q1).2.2.2.2.2 q2).2 q3).2.2 q4))⟩⟩)))⟩)⟩)))⟩)))⟩))))⟩))))⟩)))⟩)))
theorem b46a_64 {d : Nat} {h : HP} {Q : PV → HP → Prop} {v2 v3 v4 v5 v6 : Int} (H : (0 ≤ v4 ∧ v4 < 8) ∧ ((0 ≤ v3 ∧ v3 < 20) ∧ ((0 ≤ v4 ∧ v4 < 8) ∧ ((0 ≤ v5 ∧ v5 < 8) ∧ ((0 ≤ v3 ∧ v3 < 20) ∧ ((0 ≤ v5 ∧ v5 < 8) ∧ X d 46 102 [some (P 52), some (P 12), some (I v2), some (I v3), some (I v4), some (I v5), some (I v6)] [] (up2 (up2 h 54 v4.toNat (w32 ((h 54 v4.toNat) - (w32 ((h 15 v3.toNat) * v6))))) 54 v5.toNat (w32 (((up2 h 54 v4.toNat (w32 ((h 54 v4.toNat) - (w32 ((h 15 v3.toNat) * v6))))) 54 v5.toNat) + (w32 ((h 15 v3.toNat) * v6))))) Q)))))) : X d 46 64 [some (P 52), some (P 12), some (I v2), some (I v3), some (I v4), some (I v5), some (I v6)] [] h Q :=
  s_aload_n c46_64 rfl (s_getP 54 c46_65 f46_15 t6_8 sh_52 g_52_8 (by decide) (by decide) (s_iload c46_68 rfl (s_dup2 c46_70 (s_iald c46_71 sh_54 ⟨H.1, s_aload_n c46_72 rfl (s_getP 15 c46_73 f46_160 t2_4 sh_12 g_12_4 (by decide) (by decide) (s_iload_n c46_76 rfl (s_iald c46_77 sh_15 ⟨H.2.1, s_iload c46_78 rfl (s_imul c46_80 (s_isub c46_81 (s_iast c46_82 sh_54 ⟨H.2.2.1, s_aload_n c46_83 rfl (s_getP 54 c46_84 f46_15 t6_8 sh_52 g_52_8 (by decide) (by decide) (s_iload c46_87 rfl (s_dup2 c46_89 (s_iald c46_90 sh_54 ⟨H.2.2.2.1, s_aload_n c46_91 rfl (s_getP 15 c46_92 f46_160 t2_4 sh_12 g_12_4 (by decide) (by decide) (s_iload_n c46_95 rfl (s_iald c46_96 sh_15 ⟨H.2.2.2.2.1, s_iload c46_97 rfl (s_imul c46_99 (s_iadd c46_100 (s_iast c46_101 sh_54 ⟨H.2.2.2.2.2.1, H.2.2.2.2.2.2⟩)))⟩)))⟩))))⟩)))⟩)))⟩))))
-- WarmSide$Run.lead(LWarmSide$Links;Z)V
theorem b46b_0 {d : Nat} {h : HP} {Q : PV → HP → Prop} {v2 : Int} (H : X d 46 2 [some (P 52), some (P 17), some (I v2), some (I 0), none, none, none] [] h Q) : X d 46 0 [some (P 52), some (P 17), some (I v2), none, none, none, none] [] h Q :=
  s_iconst c46_0 rfl (s_istore_n c46_1 rfl (H))
theorem b46b_102 {d : Nat} {h : HP} {Q : PV → HP → Prop} {v2 v3 v4 v5 v6 : Int} (H : X d 46 2 [some (P 52), some (P 17), some (I v2), some (I (w32 (v3 + 1))), none, none, none] [] h Q) : X d 46 102 [some (P 52), some (P 17), some (I v2), some (I v3), some (I v4), some (I v5), some (I v6)] [] h Q :=
  s_iinc c46_102 rfl rfl rfl (s_goto 2 c46_105 (by decide) (X_weak (A := [some (P 52), some (P 17), some (I v2), some (I (w32 (v3 + 1))), none, none, none]) (B := [some (P 52), some (P 17), some (I v2), some (I (w32 (v3 + 1))), some (I v4), some (I v5), some (I v6)]) ⟨Or.inl rfl, Or.inl rfl, Or.inl rfl, Or.inl rfl, Or.inr ⟨rfl, _, rfl, rfl⟩, Or.inr ⟨rfl, _, rfl, rfl⟩, Or.inr ⟨rfl, _, rfl, rfl⟩, trivial⟩ H))
theorem b46b_2 {d : Nat} {h : HP} {Q : PV → HP → Prop} {v2 v3 : Int} (H : (((h 17 1) ≤ v3) → Q (I 0) h) ∧ (¬ ((h 17 1) ≤ v3) → ((0 ≤ v3 ∧ v3 < 8) ∧ ((0 ≤ v3 ∧ v3 < 8) ∧ ((0 ≤ (h 18 v3.toNat) ∧ (h 18 v3.toNat) < 8) ∧ ((0 ≤ (h 19 v3.toNat) ∧ (h 19 v3.toNat) < 8) ∧ (((v2 = 0) → X d 46 64 [some (P 52), some (P 17), some (I v2), some (I v3), some (I (h 18 v3.toNat)), some (I (h 19 v3.toNat)), some (I (w32 ((h 53 (h 18 v3.toNat).toNat) - (h 53 (h 19 v3.toNat).toNat))))] [] h Q) ∧ (¬ (v2 = 0) → ((((w32 ((h 53 (h 18 v3.toNat).toNat) - (h 53 (h 19 v3.toNat).toNat))) < 0) → X d 46 102 [some (P 52), some (P 17), some (I v2), some (I v3), some (I (h 18 v3.toNat)), some (I (h 19 v3.toNat)), some (I (w32 ((h 53 (h 18 v3.toNat).toNat) - (h 53 (h 19 v3.toNat).toNat))))] [] h Q) ∧ (¬ ((w32 ((h 53 (h 18 v3.toNat).toNat) - (h 53 (h 19 v3.toNat).toNat))) < 0) → ((0 ≤ v3 ∧ v3 < 8) ∧ ((((h 21 v3.toNat) = 0) → X d 46 64 [some (P 52), some (P 17), some (I v2), some (I v3), some (I (h 18 v3.toNat)), some (I (h 19 v3.toNat)), some (I (w32 ((h 53 (h 18 v3.toNat).toNat) - (h 53 (h 19 v3.toNat).toNat))))] [] h Q) ∧ (¬ ((h 21 v3.toNat) = 0) → X d 46 102 [some (P 52), some (P 17), some (I v2), some (I v3), some (I (h 18 v3.toNat)), some (I (h 19 v3.toNat)), some (I (w32 ((h 53 (h 18 v3.toNat).toNat) - (h 53 (h 19 v3.toNat).toNat))))] [] h Q))))))))))))) : X d 46 2 [some (P 52), some (P 17), some (I v2), some (I v3), none, none, none] [] h Q :=
  s_iload_n c46_2 rfl (s_aload_n c46_3 rfl (s_getI c46_4 f46_148 t2_1 sh_17 (s_ifc 108 ((h 17 1) ≤ v3) c46_7 (by decide) rfl ⟨fun q1 => s_retV c46_108 R46 (H.1 q1), fun q1 => s_aload_n c46_10 rfl (s_getP 18 c46_11 f46_151 t2_2 sh_17 g_17_2 (by decide) (by decide) (s_iload_n c46_14 rfl (s_iald c46_15 sh_18 ⟨(H.2 q1).1, s_istore c46_16 rfl (s_aload_n c46_18 rfl (s_getP 19 c46_19 f46_154 t2_3 sh_17 g_17_3 (by decide) (by decide) (s_iload_n c46_22 rfl (s_iald c46_23 sh_19 ⟨(H.2 q1).2.1, s_istore c46_24 rfl (s_aload_n c46_26 rfl (s_getP 53 c46_27 f46_9 t6_7 sh_52 g_52_7 (by decide) (by decide) (s_iload c46_30 rfl (s_iald c46_32 sh_53 ⟨(H.2 q1).2.2.1, s_aload_n c46_33 rfl (s_getP 53 c46_34 f46_9 t6_7 sh_52 g_52_7 (by decide) (by decide) (s_iload c46_37 rfl (s_iald c46_39 sh_53 ⟨(H.2 q1).2.2.2.1, s_isub c46_40 (s_istore c46_41 rfl (s_iload_n c46_43 rfl (s_if 64 (v2 = 0) c46_44 (by decide) rfl ⟨fun q2 => ((H.2 q1).2.2.2.2.1 q2), fun q2 => s_iload c46_47 rfl (s_if 102 ((w32 ((h 53 (h 18 v3.toNat).toNat) - (h 53 (h 19 v3.toNat).toNat))) < 0) c46_49 (by decide) rfl ⟨fun q3 => (((H.2 q1).2.2.2.2.2 q2).1 q3), fun q3 => s_aload_n c46_52 rfl (s_getP 21 c46_53 f46_157 t2_5 sh_17 g_17_5 (by decide) (by decide) (s_iload_n c46_56 rfl (s_iald c46_57 sh_21 ⟨(((H.2 q1).2.2.2.2.2 q2).2 q3).1, s_if 64 ((h 21 v3.toNat) = 0) c46_58 (by decide) rfl ⟨fun q4 => ((((H.2 q1).2.2.2.2.2 q2).2 q3).2.1 q4), fun q4 => s_goto 102 c46_61 (by decide) (((((H.2 q1).2.2.2.2.2 q2).2 q3).2.2 q4))⟩⟩)))⟩)⟩)))⟩)))⟩))))⟩))))⟩)))⟩)))
theorem b46b_64 {d : Nat} {h : HP} {Q : PV → HP → Prop} {v2 v3 v4 v5 v6 : Int} (H : (0 ≤ v4 ∧ v4 < 8) ∧ ((0 ≤ v3 ∧ v3 < 8) ∧ ((0 ≤ v4 ∧ v4 < 8) ∧ ((0 ≤ v5 ∧ v5 < 8) ∧ ((0 ≤ v3 ∧ v3 < 8) ∧ ((0 ≤ v5 ∧ v5 < 8) ∧ X d 46 102 [some (P 52), some (P 17), some (I v2), some (I v3), some (I v4), some (I v5), some (I v6)] [] (up2 (up2 h 54 v4.toNat (w32 ((h 54 v4.toNat) - (w32 ((h 20 v3.toNat) * v6))))) 54 v5.toNat (w32 (((up2 h 54 v4.toNat (w32 ((h 54 v4.toNat) - (w32 ((h 20 v3.toNat) * v6))))) 54 v5.toNat) + (w32 ((h 20 v3.toNat) * v6))))) Q)))))) : X d 46 64 [some (P 52), some (P 17), some (I v2), some (I v3), some (I v4), some (I v5), some (I v6)] [] h Q :=
  s_aload_n c46_64 rfl (s_getP 54 c46_65 f46_15 t6_8 sh_52 g_52_8 (by decide) (by decide) (s_iload c46_68 rfl (s_dup2 c46_70 (s_iald c46_71 sh_54 ⟨H.1, s_aload_n c46_72 rfl (s_getP 20 c46_73 f46_160 t2_4 sh_17 g_17_4 (by decide) (by decide) (s_iload_n c46_76 rfl (s_iald c46_77 sh_20 ⟨H.2.1, s_iload c46_78 rfl (s_imul c46_80 (s_isub c46_81 (s_iast c46_82 sh_54 ⟨H.2.2.1, s_aload_n c46_83 rfl (s_getP 54 c46_84 f46_15 t6_8 sh_52 g_52_8 (by decide) (by decide) (s_iload c46_87 rfl (s_dup2 c46_89 (s_iald c46_90 sh_54 ⟨H.2.2.2.1, s_aload_n c46_91 rfl (s_getP 20 c46_92 f46_160 t2_4 sh_17 g_17_4 (by decide) (by decide) (s_iload_n c46_95 rfl (s_iald c46_96 sh_20 ⟨H.2.2.2.2.1, s_iload c46_97 rfl (s_imul c46_99 (s_iadd c46_100 (s_iast c46_101 sh_54 ⟨H.2.2.2.2.2.1, H.2.2.2.2.2.2⟩)))⟩)))⟩))))⟩)))⟩)))⟩))))
-- WarmSide$Run.settleHeats()V
theorem c47_0 : cdA 47 0 = some (.aload_n 0) := by decide +kernel
theorem c47_1 : cdA 47 1 = some (.iconst 0) := by decide +kernel
theorem c47_2 : cdA 47 2 = some (.putfield 163) := by decide +kernel
theorem f47_163 : fldR (moN 47) 163 = some (6, 4) := by decide +kernel
theorem t6_4 : fcl 6 4 = 0 := by decide +kernel
theorem n6_4 : ffin 6 4 = false := by decide +kernel
theorem c47_5 : cdA 47 5 = some (.iconst 0) := by decide +kernel
theorem c47_6 : cdA 47 6 = some (.istore_n 1) := by decide +kernel
theorem c47_62 : cdA 47 62 = some (.goto 9) := by decide +kernel
theorem c47_7 : cdA 47 7 = some (.iload_n 1) := by decide +kernel
theorem c47_8 : cdA 47 8 = some (.aload_n 0) := by decide +kernel
theorem c47_9 : cdA 47 9 = some (.getfield 24) := by decide +kernel
theorem f47_24 : fldR (moN 47) 24 = some (6, 0) := by decide +kernel
theorem c47_12 : cdA 47 12 = some (.getfield 32) := by decide +kernel
theorem f47_32 : fldR (moN 47) 32 = some (1, 0) := by decide +kernel
theorem c47_15 : cdA 47 15 = some (.getfield 38) := by decide +kernel
theorem f47_38 : fldR (moN 47) 38 = some (4, 0) := by decide +kernel
theorem c47_18 : cdA 47 18 = some (.if_icmp .ge 80) := by decide +kernel
theorem c47_98 : cdA 47 98 = some (.return_) := by decide +kernel
theorem R47 : mK 47 = 4 := by decide +kernel
theorem c47_21 : cdA 47 21 = some (.aload_n 0) := by decide +kernel
theorem c47_22 : cdA 47 22 = some (.getfield 24) := by decide +kernel
theorem c47_25 : cdA 47 25 = some (.getfield 32) := by decide +kernel
theorem c47_28 : cdA 47 28 = some (.getfield 166) := by decide +kernel
theorem f47_166 : fldR (moN 47) 166 = some (4, 5) := by decide +kernel
theorem c47_31 : cdA 47 31 = some (.iload_n 1) := by decide +kernel
theorem c47_32 : cdA 47 32 = some (.iaload) := by decide +kernel
theorem c47_33 : cdA 47 33 = some (.aload_n 0) := by decide +kernel
theorem c47_34 : cdA 47 34 = some (.getfield 15) := by decide +kernel
theorem f47_15 : fldR (moN 47) 15 = some (6, 8) := by decide +kernel
theorem c47_37 : cdA 47 37 = some (.iload_n 1) := by decide +kernel
theorem c47_38 : cdA 47 38 = some (.iaload) := by decide +kernel
theorem c47_39 : cdA 47 39 = some (.iadd) := by decide +kernel
theorem c47_40 : cdA 47 40 = some (.istore_n 2) := by decide +kernel
theorem c47_41 : cdA 47 41 = some (.aload_n 0) := by decide +kernel
theorem c47_42 : cdA 47 42 = some (.dup) := by decide +kernel
theorem c47_43 : cdA 47 43 = some (.getfield 163) := by decide +kernel
theorem c47_46 : cdA 47 46 = some (.iload_n 2) := by decide +kernel
theorem c47_47 : cdA 47 47 = some (.ifCond .ge 18) := by decide +kernel
theorem c47_65 : cdA 47 65 = some (.aload_n 0) := by decide +kernel
theorem c47_66 : cdA 47 66 = some (.getfield 18) := by decide +kernel
theorem f47_18 : fldR (moN 47) 18 = some (6, 9) := by decide +kernel
theorem c47_69 : cdA 47 69 = some (.iload_n 1) := by decide +kernel
theorem c47_70 : cdA 47 70 = some (.iaload) := by decide +kernel
theorem c47_50 : cdA 47 50 = some (.iconst 0) := by decide +kernel
theorem c47_51 : cdA 47 51 = some (.aload_n 0) := by decide +kernel
theorem c47_52 : cdA 47 52 = some (.getfield 18) := by decide +kernel
theorem c47_55 : cdA 47 55 = some (.iload_n 1) := by decide +kernel
theorem c47_56 : cdA 47 56 = some (.iaload) := by decide +kernel
theorem c47_57 : cdA 47 57 = some (.iload_n 2) := by decide +kernel
theorem c47_58 : cdA 47 58 = some (.iadd) := by decide +kernel
theorem c47_59 : cdA 47 59 = some (.invokestatic 169) := by decide +kernel
theorem m47_169 : mthR (moN 47) 169 = 227 := by decide +kernel
theorem c47_71 : cdA 47 71 = some (.iadd) := by decide +kernel
theorem c47_72 : cdA 47 72 = some (.putfield 163) := by decide +kernel
theorem c47_75 : cdA 47 75 = some (.aload_n 0) := by decide +kernel
theorem c47_76 : cdA 47 76 = some (.getfield 24) := by decide +kernel
theorem c47_79 : cdA 47 79 = some (.getfield 32) := by decide +kernel
theorem c47_82 : cdA 47 82 = some (.getfield 166) := by decide +kernel
theorem c47_85 : cdA 47 85 = some (.iload_n 1) := by decide +kernel
theorem c47_86 : cdA 47 86 = some (.iconst 0) := by decide +kernel
theorem c47_87 : cdA 47 87 = some (.iload_n 2) := by decide +kernel
theorem c47_88 : cdA 47 88 = some (.invokestatic 169) := by decide +kernel
theorem c47_91 : cdA 47 91 = some (.iastore) := by decide +kernel
theorem c47_92 : cdA 47 92 = some (.iinc 1 1) := by decide +kernel
theorem c47_95 : cdA 47 95 = some (.goto (-88)) := by decide +kernel
theorem b47_0 {d : Nat} {h : HP} {Q : PV → HP → Prop} (H : X d 47 7 [some (P 52), some (I 0), none] [] (up2 h 52 4 0) Q) : X d 47 0 [some (P 52), none, none] [] h Q :=
  s_aload_n c47_0 rfl (s_iconst c47_1 rfl (s_putI c47_2 f47_163 t6_4 n6_4 sh_52 (s_iconst c47_5 rfl (s_istore_n c47_6 rfl (H)))))
theorem b47_62 {d : Nat} {h : HP} {Q : PV → HP → Prop} {v1 v2 s1 s2 : Int} (H : X d 47 71 [some (P 52), some (I v1), some (I v2)] [I s2, I s1, P 52] h Q) : X d 47 62 [some (P 52), some (I v1), some (I v2)] [I s2, I s1, P 52] h Q :=
  s_goto 71 c47_62 (by decide) (H)
theorem b47_7 {d : Nat} {h : HP} {Q : PV → HP → Prop} {v1 : Int} (H : (((h 2 0) ≤ v1) → Q (I 0) h) ∧ (¬ ((h 2 0) ≤ v1) → ((0 ≤ v1 ∧ v1 < 8) ∧ ((0 ≤ v1 ∧ v1 < 8) ∧ (((0 ≤ (w32 ((h 7 v1.toNat) + (h 54 v1.toNat)))) → ((0 ≤ v1 ∧ v1 < 8) ∧ X (d + 1) 47 71 [some (P 52), some (I v1), some (I (w32 ((h 7 v1.toNat) + (h 54 v1.toNat))))] [I (h 55 v1.toNat), I (h 52 4), P 52] h Q)) ∧ (¬ (0 ≤ (w32 ((h 7 v1.toNat) + (h 54 v1.toNat)))) → ((0 ≤ v1 ∧ v1 < 8) ∧ X d 224 0 [some (I 0), some (I (w32 ((h 55 v1.toNat) + (w32 ((h 7 v1.toNat) + (h 54 v1.toNat))))))] [] h (fun r h' => X (d + 1) 47 62 [some (P 52), some (I v1), some (I (w32 ((h 7 v1.toNat) + (h 54 v1.toNat))))] [r, I (h 52 4), P 52] h' Q)))))))) : X (d + 1) 47 7 [some (P 52), some (I v1), none] [] h Q :=
  s_iload_n c47_7 rfl (s_aload_n c47_8 rfl (s_getP 1 c47_9 f47_24 t6_0 sh_52 g_52_0 (by decide) (by decide) (s_getP 2 c47_12 f47_32 t1_0 sh_1 g_1_0 (by decide) (by decide) (s_getI c47_15 f47_38 t4_0 sh_2 (s_ifc 98 ((h 2 0) ≤ v1) c47_18 (by decide) rfl ⟨fun q1 => s_retV c47_98 R47 (H.1 q1), fun q1 => s_aload_n c47_21 rfl (s_getP 1 c47_22 f47_24 t6_0 sh_52 g_52_0 (by decide) (by decide) (s_getP 2 c47_25 f47_32 t1_0 sh_1 g_1_0 (by decide) (by decide) (s_getP 7 c47_28 f47_166 t4_5 sh_2 g_2_5 (by decide) (by decide) (s_iload_n c47_31 rfl (s_iald c47_32 sh_7 ⟨(H.2 q1).1, s_aload_n c47_33 rfl (s_getP 54 c47_34 f47_15 t6_8 sh_52 g_52_8 (by decide) (by decide) (s_iload_n c47_37 rfl (s_iald c47_38 sh_54 ⟨(H.2 q1).2.1, s_iadd c47_39 (s_istore_n c47_40 rfl (s_aload_n c47_41 rfl (s_dupP c47_42 (s_getI c47_43 f47_163 t6_4 sh_52 (s_iload_n c47_46 rfl (s_if 65 (0 ≤ (w32 ((h 7 v1.toNat) + (h 54 v1.toNat)))) c47_47 (by decide) rfl ⟨fun q2 => s_aload_n c47_65 rfl (s_getP 55 c47_66 f47_18 t6_9 sh_52 g_52_9 (by decide) (by decide) (s_iload_n c47_69 rfl (s_iald c47_70 sh_55 ⟨((H.2 q1).2.2.1 q2).1, ((H.2 q1).2.2.1 q2).2⟩))), fun q2 => s_iconst c47_50 rfl (s_aload_n c47_51 rfl (s_getP 55 c47_52 f47_18 t6_9 sh_52 g_52_9 (by decide) (by decide) (s_iload_n c47_55 rfl (s_iald c47_56 sh_55 ⟨((H.2 q1).2.2.2 q2).1, s_iload_n c47_57 rfl (s_iadd c47_58 (s_cSi c47_59 m47_169 F224 K224 rfl (Nat.le_of_ble_eq_true rfl) rfl rfl ((H.2 q1).2.2.2 q2).2))⟩))))⟩))))))⟩)))⟩)))))⟩)))))
theorem b47_71 {d : Nat} {h : HP} {Q : PV → HP → Prop} {v1 v2 s1 s2 : Int} (H : X d 224 0 [some (I 0), some (I v2)] [] (up2 h 52 4 (w32 (s1 + s2))) (fun r h' => X (d + 1) 47 91 [some (P 52), some (I v1), some (I v2)] [r, I v1, P 7] h' Q)) : X (d + 1) 47 71 [some (P 52), some (I v1), some (I v2)] [I s2, I s1, P 52] h Q :=
  s_iadd c47_71 (s_putI c47_72 f47_163 t6_4 n6_4 sh_52 (s_aload_n c47_75 rfl (s_getP 1 c47_76 f47_24 t6_0 sh_52 g_52_0 (by decide) (by decide) (s_getP 2 c47_79 f47_32 t1_0 sh_1 g_1_0 (by decide) (by decide) (s_getP 7 c47_82 f47_166 t4_5 sh_2 g_2_5 (by decide) (by decide) (s_iload_n c47_85 rfl (s_iconst c47_86 rfl (s_iload_n c47_87 rfl (s_cSi c47_88 m47_169 F224 K224 rfl (Nat.le_of_ble_eq_true rfl) rfl rfl H)))))))))
theorem b47_91 {d : Nat} {h : HP} {Q : PV → HP → Prop} {v1 v2 s1 s2 : Int} (H : (0 ≤ s1 ∧ s1 < 8) ∧ X d 47 7 [some (P 52), some (I (w32 (v1 + 1))), none] [] (up2 h 7 s1.toNat s2) Q) : X d 47 91 [some (P 52), some (I v1), some (I v2)] [I s2, I s1, P 7] h Q :=
  s_iast c47_91 sh_7 ⟨H.1, s_iinc c47_92 rfl rfl rfl (s_goto 7 c47_95 (by decide) (X_weak (A := [some (P 52), some (I (w32 (v1 + 1))), none]) (B := [some (P 52), some (I (w32 (v1 + 1))), some (I v2)]) ⟨Or.inl rfl, Or.inl rfl, Or.inr ⟨rfl, _, rfl, rfl⟩, trivial⟩ H.2))⟩
-- WarmSide$Run.pass(I)V
theorem c42_0 : cdA 42 0 = some (.iconst 0) := by decide +kernel
theorem c42_1 : cdA 42 1 = some (.istore_n 2) := by decide +kernel
theorem c42_2 : cdA 42 2 = some (.iload_n 2) := by decide +kernel
theorem c42_3 : cdA 42 3 = some (.aload_n 0) := by decide +kernel
theorem c42_4 : cdA 42 4 = some (.getfield 24) := by decide +kernel
theorem f42_24 : fldR (moN 42) 24 = some (6, 0) := by decide +kernel
theorem c42_7 : cdA 42 7 = some (.getfield 32) := by decide +kernel
theorem f42_32 : fldR (moN 42) 32 = some (1, 0) := by decide +kernel
theorem c42_10 : cdA 42 10 = some (.getfield 38) := by decide +kernel
theorem f42_38 : fldR (moN 42) 38 = some (4, 0) := by decide +kernel
theorem c42_13 : cdA 42 13 = some (.if_icmp .ge 26) := by decide +kernel
theorem c42_39 : cdA 42 39 = some (.aload_n 0) := by decide +kernel
theorem c42_40 : cdA 42 40 = some (.iload_n 1) := by decide +kernel
theorem c42_41 : cdA 42 41 = some (.invokevirtual 48) := by decide +kernel
theorem m42_48 : mthR (moN 42) 48 = 46 := by decide +kernel
theorem F43 : mF 43 1 4 true := by unfold mF; decide +kernel
theorem K43 : mK 43 = 4 := by decide +kernel
theorem S43_52 : SH0[52]? = some (.inl (moN 43)) := by decide +kernel
theorem c42_16 : cdA 42 16 = some (.aload_n 0) := by decide +kernel
theorem c42_17 : cdA 42 17 = some (.getfield 9) := by decide +kernel
theorem f42_9 : fldR (moN 42) 9 = some (6, 7) := by decide +kernel
theorem c42_20 : cdA 42 20 = some (.iload_n 2) := by decide +kernel
theorem c42_21 : cdA 42 21 = some (.aload_n 0) := by decide +kernel
theorem c42_22 : cdA 42 22 = some (.getfield 24) := by decide +kernel
theorem c42_25 : cdA 42 25 = some (.getfield 32) := by decide +kernel
theorem c42_28 : cdA 42 28 = some (.iload_n 2) := by decide +kernel
theorem c42_29 : cdA 42 29 = some (.invokevirtual 44) := by decide +kernel
theorem m42_44 : mthR (moN 42) 44 = 24 := by decide +kernel
theorem F21 : mF 21 1 3 true := by unfold mF; decide +kernel
theorem K21 : ¬ mK 21 = 4 := by decide +kernel
theorem S21_2 : SH0[2]? = some (.inl (moN 21)) := by decide +kernel
theorem c42_32 : cdA 42 32 = some (.iastore) := by decide +kernel
theorem c42_33 : cdA 42 33 = some (.iinc 2 1) := by decide +kernel
theorem c42_36 : cdA 42 36 = some (.goto (-34)) := by decide +kernel
theorem c42_44 : cdA 42 44 = some (.aload_n 0) := by decide +kernel
theorem c42_45 : cdA 42 45 = some (.iload_n 1) := by decide +kernel
theorem c42_46 : cdA 42 46 = some (.invokevirtual 52) := by decide +kernel
theorem m42_52 : mthR (moN 42) 52 = 47 := by decide +kernel
theorem F44 : mF 44 1 5 true := by unfold mF; decide +kernel
theorem K44 : mK 44 = 4 := by decide +kernel
theorem S44_52 : SH0[52]? = some (.inl (moN 44)) := by decide +kernel
theorem c42_49 : cdA 42 49 = some (.aload_n 0) := by decide +kernel
theorem c42_50 : cdA 42 50 = some (.aload_n 0) := by decide +kernel
theorem c42_51 : cdA 42 51 = some (.getfield 24) := by decide +kernel
theorem c42_54 : cdA 42 54 = some (.getfield 55) := by decide +kernel
theorem f42_55 : fldR (moN 42) 55 = some (1, 1) := by decide +kernel
theorem c42_57 : cdA 42 57 = some (.iconst 0) := by decide +kernel
theorem c42_58 : cdA 42 58 = some (.invokevirtual 59) := by decide +kernel
theorem m42_59 : mthR (moN 42) 59 = 49 := by decide +kernel
theorem F46 : mF 46 2 7 true := by unfold mF; decide +kernel
theorem K46 : mK 46 = 4 := by decide +kernel
theorem S46_52 : SH0[52]? = some (.inl (moN 46)) := by decide +kernel
theorem c42_61 : cdA 42 61 = some (.aload_n 0) := by decide +kernel
theorem c42_62 : cdA 42 62 = some (.aload_n 0) := by decide +kernel
theorem c42_63 : cdA 42 63 = some (.getfield 24) := by decide +kernel
theorem c42_66 : cdA 42 66 = some (.getfield 63) := by decide +kernel
theorem f42_63 : fldR (moN 42) 63 = some (1, 2) := by decide +kernel
theorem c42_69 : cdA 42 69 = some (.iconst 1) := by decide +kernel
theorem c42_70 : cdA 42 70 = some (.invokevirtual 59) := by decide +kernel
theorem c42_73 : cdA 42 73 = some (.aload_n 0) := by decide +kernel
theorem c42_74 : cdA 42 74 = some (.invokevirtual 66) := by decide +kernel
theorem m42_66 : mthR (moN 42) 66 = 50 := by decide +kernel
theorem F47 : mF 47 0 3 true := by unfold mF; decide +kernel
theorem K47 : mK 47 = 4 := by decide +kernel
theorem S47_52 : SH0[52]? = some (.inl (moN 47)) := by decide +kernel
theorem c42_77 : cdA 42 77 = some (.return_) := by decide +kernel
theorem R42 : mK 42 = 4 := by decide +kernel
theorem b42_0 {d : Nat} {h : HP} {Q : PV → HP → Prop} {v1 : Int} (H : X d 42 2 [some (P 52), some (I v1), some (I 0)] [] h Q) : X d 42 0 [some (P 52), some (I v1), none] [] h Q :=
  s_iconst c42_0 rfl (s_istore_n c42_1 rfl (H))
theorem b42_2 {d : Nat} {h : HP} {Q : PV → HP → Prop} {v1 v2 : Int} (H : (((h 2 0) ≤ v2) → X d 43 0 [some (P 52), some (I v1), none, none] [] h (fun _ h' => X (d + 1) 42 44 [some (P 52), some (I v1), some (I v2)] [] h' Q)) ∧ (¬ ((h 2 0) ≤ v2) → X d 21 0 [some (P 2), some (I v2), none] [] h (fun r h' => X (d + 1) 42 32 [some (P 52), some (I v1), some (I v2)] [r, I v2, P 53] h' Q))) : X (d + 1) 42 2 [some (P 52), some (I v1), some (I v2)] [] h Q :=
  s_iload_n c42_2 rfl (s_aload_n c42_3 rfl (s_getP 1 c42_4 f42_24 t6_0 sh_52 g_52_0 (by decide) (by decide) (s_getP 2 c42_7 f42_32 t1_0 sh_1 g_1_0 (by decide) (by decide) (s_getI c42_10 f42_38 t4_0 sh_2 (s_ifc 39 ((h 2 0) ≤ v2) c42_13 (by decide) rfl ⟨fun q1 => s_aload_n c42_39 rfl (s_iload_n c42_40 rfl (s_cVv c42_41 m42_48 F43 K43 rfl (Nat.le_of_ble_eq_true rfl) rfl S43_52 rfl (H.1 q1))), fun q1 => s_aload_n c42_16 rfl (s_getP 53 c42_17 f42_9 t6_7 sh_52 g_52_7 (by decide) (by decide) (s_iload_n c42_20 rfl (s_aload_n c42_21 rfl (s_getP 1 c42_22 f42_24 t6_0 sh_52 g_52_0 (by decide) (by decide) (s_getP 2 c42_25 f42_32 t1_0 sh_1 g_1_0 (by decide) (by decide) (s_iload_n c42_28 rfl (s_cVi c42_29 m42_44 F21 K21 rfl (Nat.le_of_ble_eq_true rfl) rfl S21_2 rfl (H.2 q1))))))))⟩)))))
theorem b42_32 {d : Nat} {h : HP} {Q : PV → HP → Prop} {v1 v2 s1 s2 : Int} (H : (0 ≤ s1 ∧ s1 < 8) ∧ X d 42 2 [some (P 52), some (I v1), some (I (w32 (v2 + 1)))] [] (up2 h 53 s1.toNat s2) Q) : X d 42 32 [some (P 52), some (I v1), some (I v2)] [I s2, I s1, P 53] h Q :=
  s_iast c42_32 sh_53 ⟨H.1, s_iinc c42_33 rfl rfl rfl (s_goto 2 c42_36 (by decide) (H.2))⟩
theorem b42_44 {d : Nat} {h : HP} {Q : PV → HP → Prop} {v1 v2 : Int} (H : X d 44 0 [some (P 52), some (I v1), none, none, none] [] h (fun _ h' => X (d + 1) 42 49 [some (P 52), some (I v1), some (I v2)] [] h' Q)) : X (d + 1) 42 44 [some (P 52), some (I v1), some (I v2)] [] h Q :=
  s_aload_n c42_44 rfl (s_iload_n c42_45 rfl (s_cVv c42_46 m42_52 F44 K44 rfl (Nat.le_of_ble_eq_true rfl) rfl S44_52 rfl H))
theorem b42_49 {d : Nat} {h : HP} {Q : PV → HP → Prop} {v1 v2 : Int} (H : X d 46 0 [some (P 52), some (P 12), some (I 0), none, none, none, none] [] h (fun _ h' => X (d + 1) 42 61 [some (P 52), some (I v1), some (I v2)] [] h' Q)) : X (d + 1) 42 49 [some (P 52), some (I v1), some (I v2)] [] h Q :=
  s_aload_n c42_49 rfl (s_aload_n c42_50 rfl (s_getP 1 c42_51 f42_24 t6_0 sh_52 g_52_0 (by decide) (by decide) (s_getP 12 c42_54 f42_55 t1_1 sh_1 g_1_1 (by decide) (by decide) (s_iconst c42_57 rfl (s_cVv c42_58 m42_59 F46 K46 rfl (Nat.le_of_ble_eq_true rfl) rfl S46_52 rfl H)))))
theorem b42_61 {d : Nat} {h : HP} {Q : PV → HP → Prop} {v1 v2 : Int} (H : X d 46 0 [some (P 52), some (P 17), some (I 1), none, none, none, none] [] h (fun _ h' => X (d + 1) 42 73 [some (P 52), some (I v1), some (I v2)] [] h' Q)) : X (d + 1) 42 61 [some (P 52), some (I v1), some (I v2)] [] h Q :=
  s_aload_n c42_61 rfl (s_aload_n c42_62 rfl (s_getP 1 c42_63 f42_24 t6_0 sh_52 g_52_0 (by decide) (by decide) (s_getP 17 c42_66 f42_63 t1_2 sh_1 g_1_2 (by decide) (by decide) (s_iconst c42_69 rfl (s_cVv c42_70 m42_59 F46 K46 rfl (Nat.le_of_ble_eq_true rfl) rfl S46_52 rfl H)))))
theorem b42_73 {d : Nat} {h : HP} {Q : PV → HP → Prop} {v1 v2 : Int} (H : X d 47 0 [some (P 52), none, none] [] h (fun _ h' => X (d + 1) 42 77 [some (P 52), some (I v1), some (I v2)] [] h' Q)) : X (d + 1) 42 73 [some (P 52), some (I v1), some (I v2)] [] h Q :=
  s_aload_n c42_73 rfl (s_cVv c42_74 m42_66 F47 K47 rfl (Nat.le_of_ble_eq_true rfl) rfl S47_52 rfl H)
theorem b42_77 {d : Nat} {h : HP} {Q : PV → HP → Prop} {v1 v2 : Int} (H : Q (I 0) h) : X d 42 77 [some (P 52), some (I v1), some (I v2)] [] h Q :=
  s_retV c42_77 R42 H
-- WarmSide$Run.sameRows(II)Z
theorem c50_0 : cdA 50 0 = some (.iconst 0) := by decide +kernel
theorem c50_1 : cdA 50 1 = some (.istore_n 3) := by decide +kernel
theorem c50_2 : cdA 50 2 = some (.iload_n 3) := by decide +kernel
theorem c50_3 : cdA 50 3 = some (.bipush 9) := by decide +kernel
theorem c50_5 : cdA 50 5 = some (.if_icmp .ge 30) := by decide +kernel
theorem c50_35 : cdA 50 35 = some (.iconst 1) := by decide +kernel
theorem c50_36 : cdA 50 36 = some (.ireturn) := by decide +kernel
theorem R50 : mK 50 = 3 := by decide +kernel
theorem c50_8 : cdA 50 8 = some (.aload_n 0) := by decide +kernel
theorem c50_9 : cdA 50 9 = some (.getfield 21) := by decide +kernel
theorem f50_21 : fldR (moN 50) 21 = some (6, 10) := by decide +kernel
theorem t6_10 : fcl 6 10 = 2 := by decide +kernel
theorem c50_12 : cdA 50 12 = some (.iload_n 1) := by decide +kernel
theorem c50_13 : cdA 50 13 = some (.iload_n 3) := by decide +kernel
theorem c50_14 : cdA 50 14 = some (.iadd) := by decide +kernel
theorem c50_15 : cdA 50 15 = some (.iaload) := by decide +kernel
theorem c50_16 : cdA 50 16 = some (.aload_n 0) := by decide +kernel
theorem c50_17 : cdA 50 17 = some (.getfield 21) := by decide +kernel
theorem c50_20 : cdA 50 20 = some (.iload_n 2) := by decide +kernel
theorem c50_21 : cdA 50 21 = some (.iload_n 3) := by decide +kernel
theorem c50_22 : cdA 50 22 = some (.iadd) := by decide +kernel
theorem c50_23 : cdA 50 23 = some (.iaload) := by decide +kernel
theorem c50_24 : cdA 50 24 = some (.if_icmp .eq 5) := by decide +kernel
theorem c50_29 : cdA 50 29 = some (.iinc 3 1) := by decide +kernel
theorem c50_32 : cdA 50 32 = some (.goto (-30)) := by decide +kernel
theorem c50_27 : cdA 50 27 = some (.iconst 0) := by decide +kernel
theorem c50_28 : cdA 50 28 = some (.ireturn) := by decide +kernel
theorem b50_0 {d : Nat} {h : HP} {Q : PV → HP → Prop} {v1 v2 : Int} (H : X d 50 2 [some (P 52), some (I v1), some (I v2), some (I 0)] [] h Q) : X d 50 0 [some (P 52), some (I v1), some (I v2), none] [] h Q :=
  s_iconst c50_0 rfl (s_istore_n c50_1 rfl (H))
theorem b50_2 {d : Nat} {h : HP} {Q : PV → HP → Prop} {v1 v2 v3 : Int} (H : ((9 ≤ v3) → Q (I 1) h) ∧ (¬ (9 ≤ v3) → ((0 ≤ (w32 (v1 + v3)) ∧ (w32 (v1 + v3)) < 549) ∧ ((0 ≤ (w32 (v2 + v3)) ∧ (w32 (v2 + v3)) < 549) ∧ ((((h 56 (w32 (v1 + v3)).toNat) = (h 56 (w32 (v2 + v3)).toNat)) → X d 50 2 [some (P 52), some (I v1), some (I v2), some (I (w32 (v3 + 1)))] [] h Q) ∧ (¬ ((h 56 (w32 (v1 + v3)).toNat) = (h 56 (w32 (v2 + v3)).toNat)) → Q (I 0) h)))))) : X d 50 2 [some (P 52), some (I v1), some (I v2), some (I v3)] [] h Q :=
  s_iload_n c50_2 rfl (s_bipush c50_3 ⟨by decide, by decide⟩ (s_ifc 35 (9 ≤ v3) c50_5 (by decide) rfl ⟨fun q1 => s_iconst c50_35 rfl (s_retZ c50_36 R50 ⟨by decide, (H.1 q1)⟩), fun q1 => s_aload_n c50_8 rfl (s_getP 56 c50_9 f50_21 t6_10 sh_52 g_52_10 (by decide) (by decide) (s_iload_n c50_12 rfl (s_iload_n c50_13 rfl (s_iadd c50_14 (s_iald c50_15 sh_56 ⟨(H.2 q1).1, s_aload_n c50_16 rfl (s_getP 56 c50_17 f50_21 t6_10 sh_52 g_52_10 (by decide) (by decide) (s_iload_n c50_20 rfl (s_iload_n c50_21 rfl (s_iadd c50_22 (s_iald c50_23 sh_56 ⟨(H.2 q1).2.1, s_ifc 29 ((h 56 (w32 (v1 + v3)).toNat) = (h 56 (w32 (v2 + v3)).toNat)) c50_24 (by decide) rfl ⟨fun q2 => s_iinc c50_29 rfl rfl rfl (s_goto 2 c50_32 (by decide) (((H.2 q1).2.2.1 q2))), fun q2 => s_iconst c50_27 rfl (s_retZ c50_28 R50 ⟨by decide, ((H.2 q1).2.2.2 q2)⟩)⟩⟩)))))⟩)))))⟩))
-- WarmSide$Run.alike(I)I
theorem c49_0 : cdA 49 0 = some (.iconst 0) := by decide +kernel
theorem c49_1 : cdA 49 1 = some (.istore_n 2) := by decide +kernel
theorem c49_19 : cdA 49 19 = some (.ifCond .eq 5) := by decide +kernel
theorem c49_24 : cdA 49 24 = some (.iinc 2 1) := by decide +kernel
theorem c49_27 : cdA 49 27 = some (.goto (-25)) := by decide +kernel
theorem c49_22 : cdA 49 22 = some (.iload_n 2) := by decide +kernel
theorem c49_23 : cdA 49 23 = some (.ireturn) := by decide +kernel
theorem R49 : mK 49 = 0 := by decide +kernel
theorem c49_2 : cdA 49 2 = some (.iload_n 2) := by decide +kernel
theorem c49_3 : cdA 49 3 = some (.iload_n 1) := by decide +kernel
theorem c49_4 : cdA 49 4 = some (.if_icmp .ge 26) := by decide +kernel
theorem c49_30 : cdA 49 30 = some (.iconst (-1)) := by decide +kernel
theorem c49_31 : cdA 49 31 = some (.ireturn) := by decide +kernel
theorem c49_7 : cdA 49 7 = some (.aload_n 0) := by decide +kernel
theorem c49_8 : cdA 49 8 = some (.iload_n 2) := by decide +kernel
theorem c49_9 : cdA 49 9 = some (.bipush 9) := by decide +kernel
theorem c49_11 : cdA 49 11 = some (.imul) := by decide +kernel
theorem c49_12 : cdA 49 12 = some (.iload_n 1) := by decide +kernel
theorem c49_13 : cdA 49 13 = some (.bipush 9) := by decide +kernel
theorem c49_15 : cdA 49 15 = some (.imul) := by decide +kernel
theorem c49_16 : cdA 49 16 = some (.invokevirtual 186) := by decide +kernel
theorem m49_186 : mthR (moN 49) 186 = 53 := by decide +kernel
theorem F50 : mF 50 2 4 true := by unfold mF; decide +kernel
theorem K50 : ¬ mK 50 = 4 := by decide +kernel
theorem S50_52 : SH0[52]? = some (.inl (moN 50)) := by decide +kernel
theorem b49_0 {d : Nat} {h : HP} {Q : PV → HP → Prop} {v1 : Int} (H : X d 49 2 [some (P 52), some (I v1), some (I 0)] [] h Q) : X d 49 0 [some (P 52), some (I v1), none] [] h Q :=
  s_iconst c49_0 rfl (s_istore_n c49_1 rfl (H))
theorem b49_19 {d : Nat} {h : HP} {Q : PV → HP → Prop} {v1 v2 s0 : Int} (H : ((s0 = 0) → X d 49 2 [some (P 52), some (I v1), some (I (w32 (v2 + 1)))] [] h Q) ∧ (¬ (s0 = 0) → Q (I v2) h)) : X d 49 19 [some (P 52), some (I v1), some (I v2)] [I s0] h Q :=
  s_if 24 (s0 = 0) c49_19 (by decide) rfl ⟨fun q1 => s_iinc c49_24 rfl rfl rfl (s_goto 2 c49_27 (by decide) ((H.1 q1))), fun q1 => s_iload_n c49_22 rfl (s_retI c49_23 R49 (H.2 q1))⟩
theorem b49_2 {d : Nat} {h : HP} {Q : PV → HP → Prop} {v1 v2 : Int} (H : ((v1 ≤ v2) → Q (I (-1)) h) ∧ (¬ (v1 ≤ v2) → X d 50 0 [some (P 52), some (I (w32 (v2 * 9))), some (I (w32 (v1 * 9))), none] [] h (fun r h' => X (d + 1) 49 19 [some (P 52), some (I v1), some (I v2)] [r] h' Q))) : X (d + 1) 49 2 [some (P 52), some (I v1), some (I v2)] [] h Q :=
  s_iload_n c49_2 rfl (s_iload_n c49_3 rfl (s_ifc 30 (v1 ≤ v2) c49_4 (by decide) rfl ⟨fun q2 => s_iconst c49_30 rfl (s_retI c49_31 R49 (H.1 q2)), fun q2 => s_aload_n c49_7 rfl (s_iload_n c49_8 rfl (s_bipush c49_9 ⟨by decide, by decide⟩ (s_imul c49_11 (s_iload_n c49_12 rfl (s_bipush c49_13 ⟨by decide, by decide⟩ (s_imul c49_15 (s_cVi c49_16 m49_186 F50 K50 rfl (Nat.le_of_ble_eq_true rfl) rfl S50_52 rfl (H.2 q2))))))))⟩))
-- WarmSide$Run.keep(I)V
theorem c51_0 : cdA 51 0 = some (.iload_n 1) := by decide +kernel
theorem c51_1 : cdA 51 1 = some (.bipush 9) := by decide +kernel
theorem c51_3 : cdA 51 3 = some (.imul) := by decide +kernel
theorem c51_4 : cdA 51 4 = some (.istore_n 2) := by decide +kernel
theorem c51_5 : cdA 51 5 = some (.aload_n 0) := by decide +kernel
theorem c51_6 : cdA 51 6 = some (.getfield 24) := by decide +kernel
theorem f51_24 : fldR (moN 51) 24 = some (6, 0) := by decide +kernel
theorem c51_9 : cdA 51 9 = some (.getfield 32) := by decide +kernel
theorem f51_32 : fldR (moN 51) 32 = some (1, 0) := by decide +kernel
theorem c51_12 : cdA 51 12 = some (.getfield 166) := by decide +kernel
theorem f51_166 : fldR (moN 51) 166 = some (4, 5) := by decide +kernel
theorem c51_15 : cdA 51 15 = some (.iconst 0) := by decide +kernel
theorem c51_16 : cdA 51 16 = some (.aload_n 0) := by decide +kernel
theorem c51_17 : cdA 51 17 = some (.getfield 21) := by decide +kernel
theorem f51_21 : fldR (moN 51) 21 = some (6, 10) := by decide +kernel
theorem c51_20 : cdA 51 20 = some (.iload_n 2) := by decide +kernel
theorem c51_21 : cdA 51 21 = some (.bipush 8) := by decide +kernel
theorem c51_23 : cdA 51 23 = some (.invokestatic 190) := by decide +kernel
theorem m51_190 : mthR (moN 51) 190 = 2 := by decide +kernel
theorem c51_26 : cdA 51 26 = some (.iconst 0) := by decide +kernel
theorem c51_27 : cdA 51 27 = some (.istore_n 3) := by decide +kernel
theorem c51_28 : cdA 51 28 = some (.iconst 0) := by decide +kernel
theorem c51_29 : cdA 51 29 = some (.istore 4) := by decide +kernel
theorem c51_31 : cdA 51 31 = some (.iload 4) := by decide +kernel
theorem c51_33 : cdA 51 33 = some (.iconst 4) := by decide +kernel
theorem c51_34 : cdA 51 34 = some (.if_icmp .ge 27) := by decide +kernel
theorem c51_61 : cdA 51 61 = some (.iconst 0) := by decide +kernel
theorem c51_62 : cdA 51 62 = some (.istore 4) := by decide +kernel
theorem c51_37 : cdA 51 37 = some (.iload_n 3) := by decide +kernel
theorem c51_38 : cdA 51 38 = some (.iconst 2) := by decide +kernel
theorem c51_39 : cdA 51 39 = some (.ishl) := by decide +kernel
theorem c51_40 : cdA 51 40 = some (.aload_n 0) := by decide +kernel
theorem c51_41 : cdA 51 41 = some (.getfield 24) := by decide +kernel
theorem c51_44 : cdA 51 44 = some (.getfield 69) := by decide +kernel
theorem f51_69 : fldR (moN 51) 69 = some (1, 4) := by decide +kernel
theorem c51_47 : cdA 51 47 = some (.getfield 76) := by decide +kernel
theorem f51_76 : fldR (moN 51) 76 = some (3, 5) := by decide +kernel
theorem c51_50 : cdA 51 50 = some (.iload 4) := by decide +kernel
theorem c51_52 : cdA 51 52 = some (.iaload) := by decide +kernel
theorem c51_53 : cdA 51 53 = some (.ior) := by decide +kernel
theorem c51_54 : cdA 51 54 = some (.istore_n 3) := by decide +kernel
theorem c51_55 : cdA 51 55 = some (.iinc 4 1) := by decide +kernel
theorem c51_58 : cdA 51 58 = some (.goto (-27)) := by decide +kernel
theorem c51_64 : cdA 51 64 = some (.iload 4) := by decide +kernel
theorem c51_66 : cdA 51 66 = some (.bipush 8) := by decide +kernel
theorem c51_68 : cdA 51 68 = some (.if_icmp .ge 29) := by decide +kernel
theorem c51_97 : cdA 51 97 = some (.aload_n 0) := by decide +kernel
theorem c51_98 : cdA 51 98 = some (.getfield 21) := by decide +kernel
theorem c51_101 : cdA 51 101 = some (.iload_n 2) := by decide +kernel
theorem c51_102 : cdA 51 102 = some (.bipush 8) := by decide +kernel
theorem c51_104 : cdA 51 104 = some (.iadd) := by decide +kernel
theorem c51_105 : cdA 51 105 = some (.iload_n 3) := by decide +kernel
theorem c51_106 : cdA 51 106 = some (.iastore) := by decide +kernel
theorem c51_107 : cdA 51 107 = some (.return_) := by decide +kernel
theorem R51 : mK 51 = 4 := by decide +kernel
theorem c51_71 : cdA 51 71 = some (.iload_n 3) := by decide +kernel
theorem c51_72 : cdA 51 72 = some (.iconst 2) := by decide +kernel
theorem c51_73 : cdA 51 73 = some (.ishl) := by decide +kernel
theorem c51_74 : cdA 51 74 = some (.aload_n 0) := by decide +kernel
theorem c51_75 : cdA 51 75 = some (.getfield 24) := by decide +kernel
theorem c51_78 : cdA 51 78 = some (.getfield 32) := by decide +kernel
theorem c51_81 : cdA 51 81 = some (.getfield 88) := by decide +kernel
theorem f51_88 : fldR (moN 51) 88 = some (4, 6) := by decide +kernel
theorem c51_84 : cdA 51 84 = some (.iload 4) := by decide +kernel
theorem c51_86 : cdA 51 86 = some (.iaload) := by decide +kernel
theorem c51_87 : cdA 51 87 = some (.iconst 3) := by decide +kernel
theorem c51_88 : cdA 51 88 = some (.iand) := by decide +kernel
theorem c51_89 : cdA 51 89 = some (.ior) := by decide +kernel
theorem c51_90 : cdA 51 90 = some (.istore_n 3) := by decide +kernel
theorem c51_91 : cdA 51 91 = some (.iinc 4 1) := by decide +kernel
theorem c51_94 : cdA 51 94 = some (.goto (-30)) := by decide +kernel
theorem b51_0 {d : Nat} {h : HP} {Q : PV → HP → Prop} {v1 : Int} (H : ((0 : Int) ≤ 0 ∧ (0 : Int) ≤ (w32 (v1 * 9)) ∧ (0 : Int) ≤ 8 ∧ 0 + 8 ≤ (8 : Int) ∧ (w32 (v1 * 9)) + 8 ≤ (549 : Int)) ∧ X d 51 31 [some (P 52), some (I v1), some (I (w32 (v1 * 9))), some (I 0), some (I 0)] [] (cpy h 7 56 0 (w32 (v1 * 9)).toNat 8) Q) : X d 51 0 [some (P 52), some (I v1), none, none, none] [] h Q :=
  s_iload_n c51_0 rfl (s_bipush c51_1 ⟨by decide, by decide⟩ (s_imul c51_3 (s_istore_n c51_4 rfl (s_aload_n c51_5 rfl (s_getP 1 c51_6 f51_24 t6_0 sh_52 g_52_0 (by decide) (by decide) (s_getP 2 c51_9 f51_32 t1_0 sh_1 g_1_0 (by decide) (by decide) (s_getP 7 c51_12 f51_166 t4_5 sh_2 g_2_5 (by decide) (by decide) (s_iconst c51_15 rfl (s_aload_n c51_16 rfl (s_getP 56 c51_17 f51_21 t6_10 sh_52 g_52_10 (by decide) (by decide) (s_iload_n c51_20 rfl (s_bipush c51_21 ⟨by decide, by decide⟩ (s_acp c51_23 m51_190 sh_7 sh_56 rfl ⟨H.1, s_iconst c51_26 rfl (s_istore_n c51_27 rfl (s_iconst c51_28 rfl (s_istore c51_29 rfl (H.2))))⟩)))))))))))))
theorem b51_31 {d : Nat} {h : HP} {Q : PV → HP → Prop} {v1 v2 v3 v4 : Int} (H : ((4 ≤ v4) → X d 51 64 [some (P 52), some (I v1), some (I v2), some (I v3), some (I 0)] [] h Q) ∧ (¬ (4 ≤ v4) → ((0 ≤ v4 ∧ v4 < 4) ∧ X d 51 31 [some (P 52), some (I v1), some (I v2), some (I (bOr (bShl v3 2) (h 29 v4.toNat))), some (I (w32 (v4 + 1)))] [] h Q))) : X d 51 31 [some (P 52), some (I v1), some (I v2), some (I v3), some (I v4)] [] h Q :=
  s_iload c51_31 rfl (s_iconst c51_33 rfl (s_ifc 61 (4 ≤ v4) c51_34 (by decide) rfl ⟨fun q1 => s_iconst c51_61 rfl (s_istore c51_62 rfl ((H.1 q1))), fun q1 => s_iload_n c51_37 rfl (s_iconst c51_38 rfl (s_ishl c51_39 (s_aload_n c51_40 rfl (s_getP 1 c51_41 f51_24 t6_0 sh_52 g_52_0 (by decide) (by decide) (s_getP 26 c51_44 f51_69 t1_4 sh_1 g_1_4 (by decide) (by decide) (s_getP 29 c51_47 f51_76 t3_5 sh_26 g_26_5 (by decide) (by decide) (s_iload c51_50 rfl (s_iald c51_52 sh_29 ⟨(H.2 q1).1, s_ior c51_53 (s_istore_n c51_54 rfl (s_iinc c51_55 rfl rfl rfl (s_goto 31 c51_58 (by decide) ((H.2 q1).2))))⟩))))))))⟩))
theorem b51_64 {d : Nat} {h : HP} {Q : PV → HP → Prop} {v1 v2 v3 v4 : Int} (H : ((8 ≤ v4) → ((0 ≤ (w32 (v2 + 8)) ∧ (w32 (v2 + 8)) < 549) ∧ Q (I 0) (up2 h 56 (w32 (v2 + 8)).toNat v3))) ∧ (¬ (8 ≤ v4) → ((0 ≤ v4 ∧ v4 < 8) ∧ X d 51 64 [some (P 52), some (I v1), some (I v2), some (I (bOr (bShl v3 2) (bAnd (h 8 v4.toNat) 3))), some (I (w32 (v4 + 1)))] [] h Q))) : X d 51 64 [some (P 52), some (I v1), some (I v2), some (I v3), some (I v4)] [] h Q :=
  s_iload c51_64 rfl (s_bipush c51_66 ⟨by decide, by decide⟩ (s_ifc 97 (8 ≤ v4) c51_68 (by decide) rfl ⟨fun q2 => s_aload_n c51_97 rfl (s_getP 56 c51_98 f51_21 t6_10 sh_52 g_52_10 (by decide) (by decide) (s_iload_n c51_101 rfl (s_bipush c51_102 ⟨by decide, by decide⟩ (s_iadd c51_104 (s_iload_n c51_105 rfl (s_iast c51_106 sh_56 ⟨(H.1 q2).1, s_retV c51_107 R51 (H.1 q2).2⟩)))))), fun q2 => s_iload_n c51_71 rfl (s_iconst c51_72 rfl (s_ishl c51_73 (s_aload_n c51_74 rfl (s_getP 1 c51_75 f51_24 t6_0 sh_52 g_52_0 (by decide) (by decide) (s_getP 2 c51_78 f51_32 t1_0 sh_1 g_1_0 (by decide) (by decide) (s_getP 8 c51_81 f51_88 t4_6 sh_2 g_2_6 (by decide) (by decide) (s_iload c51_84 rfl (s_iald c51_86 sh_8 ⟨(H.2 q2).1, s_iconst c51_87 rfl (s_iand c51_88 (s_ior c51_89 (s_istore_n c51_90 rfl (s_iinc c51_91 rfl rfl rfl (s_goto 64 c51_94 (by decide) ((H.2 q2).2))))))⟩))))))))⟩))
-- WarmSide$Run.restore(I)V
theorem c52_0 : cdA 52 0 = some (.iload_n 1) := by decide +kernel
theorem c52_1 : cdA 52 1 = some (.bipush 9) := by decide +kernel
theorem c52_3 : cdA 52 3 = some (.imul) := by decide +kernel
theorem c52_4 : cdA 52 4 = some (.istore_n 2) := by decide +kernel
theorem c52_5 : cdA 52 5 = some (.aload_n 0) := by decide +kernel
theorem c52_6 : cdA 52 6 = some (.getfield 21) := by decide +kernel
theorem f52_21 : fldR (moN 52) 21 = some (6, 10) := by decide +kernel
theorem c52_9 : cdA 52 9 = some (.iload_n 2) := by decide +kernel
theorem c52_10 : cdA 52 10 = some (.aload_n 0) := by decide +kernel
theorem c52_11 : cdA 52 11 = some (.getfield 24) := by decide +kernel
theorem f52_24 : fldR (moN 52) 24 = some (6, 0) := by decide +kernel
theorem c52_14 : cdA 52 14 = some (.getfield 32) := by decide +kernel
theorem f52_32 : fldR (moN 52) 32 = some (1, 0) := by decide +kernel
theorem c52_17 : cdA 52 17 = some (.getfield 166) := by decide +kernel
theorem f52_166 : fldR (moN 52) 166 = some (4, 5) := by decide +kernel
theorem c52_20 : cdA 52 20 = some (.iconst 0) := by decide +kernel
theorem c52_21 : cdA 52 21 = some (.bipush 8) := by decide +kernel
theorem c52_23 : cdA 52 23 = some (.invokestatic 190) := by decide +kernel
theorem m52_190 : mthR (moN 52) 190 = 2 := by decide +kernel
theorem c52_26 : cdA 52 26 = some (.aload_n 0) := by decide +kernel
theorem c52_27 : cdA 52 27 = some (.getfield 21) := by decide +kernel
theorem c52_30 : cdA 52 30 = some (.iload_n 2) := by decide +kernel
theorem c52_31 : cdA 52 31 = some (.bipush 8) := by decide +kernel
theorem c52_33 : cdA 52 33 = some (.iadd) := by decide +kernel
theorem c52_34 : cdA 52 34 = some (.iaload) := by decide +kernel
theorem c52_35 : cdA 52 35 = some (.istore_n 3) := by decide +kernel
theorem c52_36 : cdA 52 36 = some (.bipush 7) := by decide +kernel
theorem c52_38 : cdA 52 38 = some (.istore 4) := by decide +kernel
theorem c52_103 : cdA 52 103 = some (.iload 4) := by decide +kernel
theorem c52_105 : cdA 52 105 = some (.ifCond .lt 29) := by decide +kernel
theorem c52_134 : cdA 52 134 = some (.return_) := by decide +kernel
theorem R52 : mK 52 = 4 := by decide +kernel
theorem c52_108 : cdA 52 108 = some (.aload_n 0) := by decide +kernel
theorem c52_109 : cdA 52 109 = some (.getfield 24) := by decide +kernel
theorem c52_112 : cdA 52 112 = some (.getfield 69) := by decide +kernel
theorem f52_69 : fldR (moN 52) 69 = some (1, 4) := by decide +kernel
theorem c52_115 : cdA 52 115 = some (.getfield 76) := by decide +kernel
theorem f52_76 : fldR (moN 52) 76 = some (3, 5) := by decide +kernel
theorem c52_118 : cdA 52 118 = some (.iload 4) := by decide +kernel
theorem c52_120 : cdA 52 120 = some (.iload_n 3) := by decide +kernel
theorem c52_121 : cdA 52 121 = some (.iconst 3) := by decide +kernel
theorem c52_122 : cdA 52 122 = some (.iand) := by decide +kernel
theorem c52_123 : cdA 52 123 = some (.iastore) := by decide +kernel
theorem c52_124 : cdA 52 124 = some (.iload_n 3) := by decide +kernel
theorem c52_125 : cdA 52 125 = some (.iconst 2) := by decide +kernel
theorem c52_126 : cdA 52 126 = some (.ishr) := by decide +kernel
theorem c52_127 : cdA 52 127 = some (.istore_n 3) := by decide +kernel
theorem c52_128 : cdA 52 128 = some (.iinc 4 (-1)) := by decide +kernel
theorem c52_131 : cdA 52 131 = some (.goto (-28)) := by decide +kernel
theorem c52_40 : cdA 52 40 = some (.iload 4) := by decide +kernel
theorem c52_42 : cdA 52 42 = some (.ifCond .lt 58) := by decide +kernel
theorem c52_100 : cdA 52 100 = some (.iconst 3) := by decide +kernel
theorem c52_101 : cdA 52 101 = some (.istore 4) := by decide +kernel
theorem c52_45 : cdA 52 45 = some (.aload_n 0) := by decide +kernel
theorem c52_46 : cdA 52 46 = some (.getfield 24) := by decide +kernel
theorem c52_49 : cdA 52 49 = some (.getfield 32) := by decide +kernel
theorem c52_52 : cdA 52 52 = some (.getfield 88) := by decide +kernel
theorem f52_88 : fldR (moN 52) 88 = some (4, 6) := by decide +kernel
theorem c52_55 : cdA 52 55 = some (.iload 4) := by decide +kernel
theorem c52_57 : cdA 52 57 = some (.iaload) := by decide +kernel
theorem c52_58 : cdA 52 58 = some (.bipush (-9)) := by decide +kernel
theorem c52_60 : cdA 52 60 = some (.if_icmp .eq 30) := by decide +kernel
theorem c52_63 : cdA 52 63 = some (.aload_n 0) := by decide +kernel
theorem c52_64 : cdA 52 64 = some (.getfield 24) := by decide +kernel
theorem c52_67 : cdA 52 67 = some (.getfield 32) := by decide +kernel
theorem c52_70 : cdA 52 70 = some (.iload 4) := by decide +kernel
theorem c52_72 : cdA 52 72 = some (.aload_n 0) := by decide +kernel
theorem c52_73 : cdA 52 73 = some (.getfield 24) := by decide +kernel
theorem c52_76 : cdA 52 76 = some (.getfield 32) := by decide +kernel
theorem c52_79 : cdA 52 79 = some (.iload 4) := by decide +kernel
theorem c52_81 : cdA 52 81 = some (.iload_n 3) := by decide +kernel
theorem c52_82 : cdA 52 82 = some (.iconst 3) := by decide +kernel
theorem c52_83 : cdA 52 83 = some (.iand) := by decide +kernel
theorem c52_84 : cdA 52 84 = some (.invokevirtual 91) := by decide +kernel
theorem m52_91 : mthR (moN 52) 91 = 25 := by decide +kernel
theorem c52_87 : cdA 52 87 = some (.invokevirtual 95) := by decide +kernel
theorem m52_95 : mthR (moN 52) 95 = 26 := by decide +kernel
theorem c52_90 : cdA 52 90 = some (.iload_n 3) := by decide +kernel
theorem c52_91 : cdA 52 91 = some (.iconst 2) := by decide +kernel
theorem c52_92 : cdA 52 92 = some (.ishr) := by decide +kernel
theorem c52_93 : cdA 52 93 = some (.istore_n 3) := by decide +kernel
theorem c52_94 : cdA 52 94 = some (.iinc 4 (-1)) := by decide +kernel
theorem c52_97 : cdA 52 97 = some (.goto (-57)) := by decide +kernel
theorem b52_0 {d : Nat} {h : HP} {Q : PV → HP → Prop} {v1 : Int} (H : ((0 : Int) ≤ (w32 (v1 * 9)) ∧ (0 : Int) ≤ 0 ∧ (0 : Int) ≤ 8 ∧ (w32 (v1 * 9)) + 8 ≤ (549 : Int) ∧ 0 + 8 ≤ (8 : Int)) ∧ ((0 ≤ (w32 ((w32 (v1 * 9)) + 8)) ∧ (w32 ((w32 (v1 * 9)) + 8)) < 549) ∧ X d 52 40 [some (P 52), some (I v1), some (I (w32 (v1 * 9))), some (I (h 56 (w32 ((w32 (v1 * 9)) + 8)).toNat)), some (I 7)] [] (cpy h 56 7 (w32 (v1 * 9)).toNat 0 8) Q)) : X d 52 0 [some (P 52), some (I v1), none, none, none] [] h Q :=
  s_iload_n c52_0 rfl (s_bipush c52_1 ⟨by decide, by decide⟩ (s_imul c52_3 (s_istore_n c52_4 rfl (s_aload_n c52_5 rfl (s_getP 56 c52_6 f52_21 t6_10 sh_52 g_52_10 (by decide) (by decide) (s_iload_n c52_9 rfl (s_aload_n c52_10 rfl (s_getP 1 c52_11 f52_24 t6_0 sh_52 g_52_0 (by decide) (by decide) (s_getP 2 c52_14 f52_32 t1_0 sh_1 g_1_0 (by decide) (by decide) (s_getP 7 c52_17 f52_166 t4_5 sh_2 g_2_5 (by decide) (by decide) (s_iconst c52_20 rfl (s_bipush c52_21 ⟨by decide, by decide⟩ (s_acp c52_23 m52_190 sh_56 sh_7 rfl ⟨H.1, s_aload_n c52_26 rfl (s_getP 56 c52_27 f52_21 t6_10 sh_52 g_52_10 (by decide) (by decide) (s_iload_n c52_30 rfl (s_bipush c52_31 ⟨by decide, by decide⟩ (s_iadd c52_33 (s_iald c52_34 sh_56 ⟨H.2.1, s_istore_n c52_35 rfl (s_bipush c52_36 ⟨by decide, by decide⟩ (s_istore c52_38 rfl (H.2.2)))⟩)))))⟩)))))))))))))
theorem b52_103 {d : Nat} {h : HP} {Q : PV → HP → Prop} {v1 v2 v3 v4 : Int} (H : ((v4 < 0) → Q (I 0) h) ∧ (¬ (v4 < 0) → ((0 ≤ v4 ∧ v4 < 4) ∧ X d 52 103 [some (P 52), some (I v1), some (I v2), some (I (bShr v3 2)), some (I (w32 (v4 + (-1))))] [] (up2 h 29 v4.toNat (bAnd v3 3)) Q))) : X d 52 103 [some (P 52), some (I v1), some (I v2), some (I v3), some (I v4)] [] h Q :=
  s_iload c52_103 rfl (s_if 134 (v4 < 0) c52_105 (by decide) rfl ⟨fun q1 => s_retV c52_134 R52 (H.1 q1), fun q1 => s_aload_n c52_108 rfl (s_getP 1 c52_109 f52_24 t6_0 sh_52 g_52_0 (by decide) (by decide) (s_getP 26 c52_112 f52_69 t1_4 sh_1 g_1_4 (by decide) (by decide) (s_getP 29 c52_115 f52_76 t3_5 sh_26 g_26_5 (by decide) (by decide) (s_iload c52_118 rfl (s_iload_n c52_120 rfl (s_iconst c52_121 rfl (s_iand c52_122 (s_iast c52_123 sh_29 ⟨(H.2 q1).1, s_iload_n c52_124 rfl (s_iconst c52_125 rfl (s_ishr c52_126 (s_istore_n c52_127 rfl (s_iinc c52_128 rfl rfl rfl (s_goto 103 c52_131 (by decide) ((H.2 q1).2))))))⟩))))))))⟩)
theorem b52_40 {d : Nat} {h : HP} {Q : PV → HP → Prop} {v1 v2 v3 v4 : Int} (H : ((v4 < 0) → X (d + 1) 52 103 [some (P 52), some (I v1), some (I v2), some (I v3), some (I 3)] [] h Q) ∧ (¬ (v4 < 0) → ((0 ≤ v4 ∧ v4 < 8) ∧ ((((h 8 v4.toNat) = (-9)) → X (d + 1) 52 90 [some (P 52), some (I v1), some (I v2), some (I v3), some (I v4)] [] h Q) ∧ (¬ ((h 8 v4.toNat) = (-9)) → X d 22 0 [some (P 2), some (I v4), some (I (bAnd v3 3))] [] h (fun r h' => X (d + 1) 52 87 [some (P 52), some (I v1), some (I v2), some (I v3), some (I v4)] [r, I v4, P 2] h' Q)))))) : X (d + 1) 52 40 [some (P 52), some (I v1), some (I v2), some (I v3), some (I v4)] [] h Q :=
  s_iload c52_40 rfl (s_if 100 (v4 < 0) c52_42 (by decide) rfl ⟨fun q2 => s_iconst c52_100 rfl (s_istore c52_101 rfl ((H.1 q2))), fun q2 => s_aload_n c52_45 rfl (s_getP 1 c52_46 f52_24 t6_0 sh_52 g_52_0 (by decide) (by decide) (s_getP 2 c52_49 f52_32 t1_0 sh_1 g_1_0 (by decide) (by decide) (s_getP 8 c52_52 f52_88 t4_6 sh_2 g_2_6 (by decide) (by decide) (s_iload c52_55 rfl (s_iald c52_57 sh_8 ⟨(H.2 q2).1, s_bipush c52_58 ⟨by decide, by decide⟩ (s_ifc 90 ((h 8 v4.toNat) = (-9)) c52_60 (by decide) rfl ⟨fun q3 => ((H.2 q2).2.1 q3), fun q3 => s_aload_n c52_63 rfl (s_getP 1 c52_64 f52_24 t6_0 sh_52 g_52_0 (by decide) (by decide) (s_getP 2 c52_67 f52_32 t1_0 sh_1 g_1_0 (by decide) (by decide) (s_iload c52_70 rfl (s_aload_n c52_72 rfl (s_getP 1 c52_73 f52_24 t6_0 sh_52 g_52_0 (by decide) (by decide) (s_getP 2 c52_76 f52_32 t1_0 sh_1 g_1_0 (by decide) (by decide) (s_iload c52_79 rfl (s_iload_n c52_81 rfl (s_iconst c52_82 rfl (s_iand c52_83 (s_cVi c52_84 m52_91 F22 K22 rfl (Nat.le_of_ble_eq_true rfl) rfl S22_2 rfl ((H.2 q2).2.2 q3))))))))))))⟩)⟩)))))⟩)
theorem b52_87 {d : Nat} {h : HP} {Q : PV → HP → Prop} {v1 v2 v3 v4 s1 s2 : Int} (H : X d 23 0 [some (P 2), some (I s1), some (I s2)] [] h (fun _ h' => X (d + 1) 52 90 [some (P 52), some (I v1), some (I v2), some (I v3), some (I v4)] [] h' Q)) : X (d + 1) 52 87 [some (P 52), some (I v1), some (I v2), some (I v3), some (I v4)] [I s2, I s1, P 2] h Q :=
  s_cVv c52_87 m52_95 F23 K23 rfl (Nat.le_of_ble_eq_true rfl) rfl S23_2 rfl H
theorem b52_90 {d : Nat} {h : HP} {Q : PV → HP → Prop} {v1 v2 v3 v4 : Int} (H : X d 52 40 [some (P 52), some (I v1), some (I v2), some (I (bShr v3 2)), some (I (w32 (v4 + (-1))))] [] h Q) : X d 52 90 [some (P 52), some (I v1), some (I v2), some (I v3), some (I v4)] [] h Q :=
  s_iload_n c52_90 rfl (s_iconst c52_91 rfl (s_ishr c52_92 (s_istore_n c52_93 rfl (s_iinc c52_94 rfl rfl rfl (s_goto 40 c52_97 (by decide) (H))))))
-- WarmSide$Run.repeated(IZ)I
theorem c48_0 : cdA 48 0 = some (.aload_n 0) := by decide +kernel
theorem c48_1 : cdA 48 1 = some (.iconst 0) := by decide +kernel
theorem c48_2 : cdA 48 2 = some (.invokevirtual 174) := by decide +kernel
theorem m48_174 : mthR (moN 48) 174 = 54 := by decide +kernel
theorem F51 : mF 51 1 5 true := by unfold mF; decide +kernel
theorem K51 : mK 51 = 4 := by decide +kernel
theorem S51_52 : SH0[52]? = some (.inl (moN 51)) := by decide +kernel
theorem c48_11 : cdA 48 11 = some (.iload 4) := by decide +kernel
theorem c48_13 : cdA 48 13 = some (.bipush 60) := by decide +kernel
theorem c48_15 : cdA 48 15 = some (.if_icmp .gt 73) := by decide +kernel
theorem c48_18 : cdA 48 18 = some (.iload_n 3) := by decide +kernel
theorem c48_19 : cdA 48 19 = some (.bipush (-9)) := by decide +kernel
theorem c48_21 : cdA 48 21 = some (.if_icmp .ne 67) := by decide +kernel
theorem c48_24 : cdA 48 24 = some (.iconst 0) := by decide +kernel
theorem c48_25 : cdA 48 25 = some (.istore 5) := by decide +kernel
theorem c48_27 : cdA 48 27 = some (.iload 5) := by decide +kernel
theorem c48_29 : cdA 48 29 = some (.bipush 12) := by decide +kernel
theorem c48_31 : cdA 48 31 = some (.if_icmp .ge 20) := by decide +kernel
theorem c48_51 : cdA 48 51 = some (.aload_n 0) := by decide +kernel
theorem c48_52 : cdA 48 52 = some (.iload 4) := by decide +kernel
theorem c48_54 : cdA 48 54 = some (.invokevirtual 174) := by decide +kernel
theorem c48_34 : cdA 48 34 = some (.aload_n 0) := by decide +kernel
theorem c48_35 : cdA 48 35 = some (.iload_n 1) := by decide +kernel
theorem c48_36 : cdA 48 36 = some (.iload 5) := by decide +kernel
theorem c48_38 : cdA 48 38 = some (.iadd) := by decide +kernel
theorem c48_39 : cdA 48 39 = some (.bipush 12) := by decide +kernel
theorem c48_41 : cdA 48 41 = some (.irem) := by decide +kernel
theorem c48_42 : cdA 48 42 = some (.invokevirtual 177) := by decide +kernel
theorem m48_177 : mthR (moN 48) 177 = 45 := by decide +kernel
theorem F42 : mF 42 1 3 true := by unfold mF; decide +kernel
theorem K42 : mK 42 = 4 := by decide +kernel
theorem S42_52 : SH0[52]? = some (.inl (moN 42)) := by decide +kernel
theorem c48_45 : cdA 48 45 = some (.iinc 5 1) := by decide +kernel
theorem c48_48 : cdA 48 48 = some (.goto (-21)) := by decide +kernel
theorem c48_5 : cdA 48 5 = some (.bipush (-9)) := by decide +kernel
theorem c48_7 : cdA 48 7 = some (.istore_n 3) := by decide +kernel
theorem c48_8 : cdA 48 8 = some (.iconst 1) := by decide +kernel
theorem c48_9 : cdA 48 9 = some (.istore 4) := by decide +kernel
theorem c48_57 : cdA 48 57 = some (.aload_n 0) := by decide +kernel
theorem c48_58 : cdA 48 58 = some (.iload 4) := by decide +kernel
theorem c48_60 : cdA 48 60 = some (.invokevirtual 180) := by decide +kernel
theorem m48_180 : mthR (moN 48) 180 = 52 := by decide +kernel
theorem F49 : mF 49 1 3 true := by unfold mF; decide +kernel
theorem K49 : ¬ mK 49 = 4 := by decide +kernel
theorem S49_52 : SH0[52]? = some (.inl (moN 49)) := by decide +kernel
theorem c48_63 : cdA 48 63 = some (.istore 5) := by decide +kernel
theorem c48_65 : cdA 48 65 = some (.iload 5) := by decide +kernel
theorem c48_67 : cdA 48 67 = some (.ifCond .lt 15) := by decide +kernel
theorem c48_70 : cdA 48 70 = some (.iload_n 2) := by decide +kernel
theorem c48_71 : cdA 48 71 = some (.ifCond .eq 8) := by decide +kernel
theorem c48_79 : cdA 48 79 = some (.iload 5) := by decide +kernel
theorem c48_74 : cdA 48 74 = some (.iload 4) := by decide +kernel
theorem c48_76 : cdA 48 76 = some (.goto 5) := by decide +kernel
theorem c48_81 : cdA 48 81 = some (.istore_n 3) := by decide +kernel
theorem c48_82 : cdA 48 82 = some (.iinc 4 1) := by decide +kernel
theorem c48_85 : cdA 48 85 = some (.goto (-74)) := by decide +kernel
theorem c48_88 : cdA 48 88 = some (.aload_n 0) := by decide +kernel
theorem c48_89 : cdA 48 89 = some (.iconst 0) := by decide +kernel
theorem c48_90 : cdA 48 90 = some (.invokevirtual 183) := by decide +kernel
theorem m48_183 : mthR (moN 48) 183 = 55 := by decide +kernel
theorem F52 : mF 52 1 5 true := by unfold mF; decide +kernel
theorem K52 : mK 52 = 4 := by decide +kernel
theorem S52_52 : SH0[52]? = some (.inl (moN 52)) := by decide +kernel
theorem c48_93 : cdA 48 93 = some (.iload_n 3) := by decide +kernel
theorem c48_94 : cdA 48 94 = some (.ireturn) := by decide +kernel
theorem R48 : mK 48 = 0 := by decide +kernel
theorem b48_0 {d : Nat} {h : HP} {Q : PV → HP → Prop} {v1 v2 : Int} (H : X d 51 0 [some (P 52), some (I 0), none, none, none] [] h (fun _ h' => X (d + 1) 48 5 [some (P 52), some (I v1), some (I v2), none, none, none] [] h' Q)) : X (d + 1) 48 0 [some (P 52), some (I v1), some (I v2), none, none, none] [] h Q :=
  s_aload_n c48_0 rfl (s_iconst c48_1 rfl (s_cVv c48_2 m48_174 F51 K51 rfl (Nat.le_of_ble_eq_true rfl) rfl S51_52 rfl H))
theorem b48_11 {d : Nat} {h : HP} {Q : PV → HP → Prop} {v1 v2 v3 v4 : Int} (H : ((60 < v4) → X d 48 88 [some (P 52), some (I v1), some (I v2), some (I v3), some (I v4), none] [] h Q) ∧ (¬ (60 < v4) → (((¬ v3 = (-9)) → X d 48 88 [some (P 52), some (I v1), some (I v2), some (I v3), some (I v4), none] [] h Q) ∧ (¬ (¬ v3 = (-9)) → X d 48 27 [some (P 52), some (I v1), some (I v2), some (I v3), some (I v4), some (I 0)] [] h Q)))) : X d 48 11 [some (P 52), some (I v1), some (I v2), some (I v3), some (I v4), none] [] h Q :=
  s_iload c48_11 rfl (s_bipush c48_13 ⟨by decide, by decide⟩ (s_ifc 88 (60 < v4) c48_15 (by decide) rfl ⟨fun q1 => (H.1 q1), fun q1 => s_iload_n c48_18 rfl (s_bipush c48_19 ⟨by decide, by decide⟩ (s_ifc 88 (¬ v3 = (-9)) c48_21 (by decide) rfl ⟨fun q2 => ((H.2 q1).1 q2), fun q2 => s_iconst c48_24 rfl (s_istore c48_25 rfl (((H.2 q1).2 q2)))⟩))⟩))
theorem b48_27 {d : Nat} {h : HP} {Q : PV → HP → Prop} {v1 v2 v3 v4 v5 : Int} (H : ((12 ≤ v5) → X d 51 0 [some (P 52), some (I v4), none, none, none] [] h (fun _ h' => X (d + 1) 48 57 [some (P 52), some (I v1), some (I v2), some (I v3), some (I v4), some (I v5)] [] h' Q)) ∧ (¬ (12 ≤ v5) → X d 42 0 [some (P 52), some (I (Int.tmod (w32 (v1 + v5)) 12)), none] [] h (fun _ h' => X (d + 1) 48 45 [some (P 52), some (I v1), some (I v2), some (I v3), some (I v4), some (I v5)] [] h' Q))) : X (d + 1) 48 27 [some (P 52), some (I v1), some (I v2), some (I v3), some (I v4), some (I v5)] [] h Q :=
  s_iload c48_27 rfl (s_bipush c48_29 ⟨by decide, by decide⟩ (s_ifc 51 (12 ≤ v5) c48_31 (by decide) rfl ⟨fun q3 => s_aload_n c48_51 rfl (s_iload c48_52 rfl (s_cVv c48_54 m48_174 F51 K51 rfl (Nat.le_of_ble_eq_true rfl) rfl S51_52 rfl (H.1 q3))), fun q3 => s_aload_n c48_34 rfl (s_iload_n c48_35 rfl (s_iload c48_36 rfl (s_iadd c48_38 (s_bipush c48_39 ⟨by decide, by decide⟩ (s_irem c48_41 (by decide) (s_cVv c48_42 m48_177 F42 K42 rfl (Nat.le_of_ble_eq_true rfl) rfl S42_52 rfl (H.2 q3)))))))⟩))
theorem b48_45 {d : Nat} {h : HP} {Q : PV → HP → Prop} {v1 v2 v3 v4 v5 : Int} (H : X d 48 27 [some (P 52), some (I v1), some (I v2), some (I v3), some (I v4), some (I (w32 (v5 + 1)))] [] h Q) : X d 48 45 [some (P 52), some (I v1), some (I v2), some (I v3), some (I v4), some (I v5)] [] h Q :=
  s_iinc c48_45 rfl rfl rfl (s_goto 27 c48_48 (by decide) (H))
theorem b48_5 {d : Nat} {h : HP} {Q : PV → HP → Prop} {v1 v2 : Int} (H : X d 48 11 [some (P 52), some (I v1), some (I v2), some (I (-9)), some (I 1), none] [] h Q) : X d 48 5 [some (P 52), some (I v1), some (I v2), none, none, none] [] h Q :=
  s_bipush c48_5 ⟨by decide, by decide⟩ (s_istore_n c48_7 rfl (s_iconst c48_8 rfl (s_istore c48_9 rfl (H))))
theorem b48_57 {d : Nat} {h : HP} {Q : PV → HP → Prop} {v1 v2 v3 v4 v5 : Int} (H : X d 49 0 [some (P 52), some (I v4), none] [] h (fun r h' => X (d + 1) 48 63 [some (P 52), some (I v1), some (I v2), some (I v3), some (I v4), some (I v5)] [r] h' Q)) : X (d + 1) 48 57 [some (P 52), some (I v1), some (I v2), some (I v3), some (I v4), some (I v5)] [] h Q :=
  s_aload_n c48_57 rfl (s_iload c48_58 rfl (s_cVi c48_60 m48_180 F49 K49 rfl (Nat.le_of_ble_eq_true rfl) rfl S49_52 rfl H))
theorem b48_63 {d : Nat} {h : HP} {Q : PV → HP → Prop} {v1 v2 v3 v4 v5 s0 : Int} (H : ((s0 < 0) → X d 48 82 [some (P 52), some (I v1), some (I v2), some (I v3), some (I v4), some (I s0)] [] h Q) ∧ (¬ (s0 < 0) → (((v2 = 0) → X d 48 81 [some (P 52), some (I v1), some (I v2), some (I v3), some (I v4), some (I s0)] [I s0] h Q) ∧ (¬ (v2 = 0) → X d 48 81 [some (P 52), some (I v1), some (I v2), some (I v3), some (I v4), some (I s0)] [I v4] h Q)))) : X d 48 63 [some (P 52), some (I v1), some (I v2), some (I v3), some (I v4), some (I v5)] [I s0] h Q :=
  s_istore c48_63 rfl (s_iload c48_65 rfl (s_if 82 (s0 < 0) c48_67 (by decide) rfl ⟨fun q4 => (H.1 q4), fun q4 => s_iload_n c48_70 rfl (s_if 79 (v2 = 0) c48_71 (by decide) rfl ⟨fun q5 => s_iload c48_79 rfl (((H.2 q4).1 q5)), fun q5 => s_iload c48_74 rfl (s_goto 81 c48_76 (by decide) (((H.2 q4).2 q5)))⟩)⟩))
theorem b48_81 {d : Nat} {h : HP} {Q : PV → HP → Prop} {v1 v2 v3 v4 v5 s0 : Int} (H : X d 48 82 [some (P 52), some (I v1), some (I v2), some (I s0), some (I v4), some (I v5)] [] h Q) : X d 48 81 [some (P 52), some (I v1), some (I v2), some (I v3), some (I v4), some (I v5)] [I s0] h Q :=
  s_istore_n c48_81 rfl (H)
theorem b48_82 {d : Nat} {h : HP} {Q : PV → HP → Prop} {v1 v2 v3 v4 v5 : Int} (H : X d 48 11 [some (P 52), some (I v1), some (I v2), some (I v3), some (I (w32 (v4 + 1))), none] [] h Q) : X d 48 82 [some (P 52), some (I v1), some (I v2), some (I v3), some (I v4), some (I v5)] [] h Q :=
  s_iinc c48_82 rfl rfl rfl (s_goto 11 c48_85 (by decide) (X_weak (A := [some (P 52), some (I v1), some (I v2), some (I v3), some (I (w32 (v4 + 1))), none]) (B := [some (P 52), some (I v1), some (I v2), some (I v3), some (I (w32 (v4 + 1))), some (I v5)]) ⟨Or.inl rfl, Or.inl rfl, Or.inl rfl, Or.inl rfl, Or.inl rfl, Or.inr ⟨rfl, _, rfl, rfl⟩, trivial⟩ H))
theorem b48_88 {d : Nat} {h : HP} {Q : PV → HP → Prop} {v1 v2 v3 v4 : Int} (H : X d 52 0 [some (P 52), some (I 0), none, none, none] [] h (fun _ h' => X (d + 1) 48 93 [some (P 52), some (I v1), some (I v2), some (I v3), some (I v4), none] [] h' Q)) : X (d + 1) 48 88 [some (P 52), some (I v1), some (I v2), some (I v3), some (I v4), none] [] h Q :=
  s_aload_n c48_88 rfl (s_iconst c48_89 rfl (s_cVv c48_90 m48_183 F52 K52 rfl (Nat.le_of_ble_eq_true rfl) rfl S52_52 rfl H))
theorem b48_93 {d : Nat} {h : HP} {Q : PV → HP → Prop} {v1 v2 v3 v4 : Int} (H : Q (I v3) h) : X d 48 93 [some (P 52), some (I v1), some (I v2), some (I v3), some (I v4), none] [] h Q :=
  s_iload_n c48_93 rfl (s_retI c48_94 R48 H)
-- WarmSide$Run.mayBeBetter(II)Z
theorem c55_0 : cdA 55 0 = some (.iload_n 2) := by decide +kernel
theorem c55_1 : cdA 55 1 = some (.sipush 4095) := by decide +kernel
theorem c55_4 : cdA 55 4 = some (.iload_n 1) := by decide +kernel
theorem c55_5 : cdA 55 5 = some (.ishr) := by decide +kernel
theorem c55_6 : cdA 55 6 = some (.iload_n 1) := by decide +kernel
theorem c55_7 : cdA 55 7 = some (.ishl) := by decide +kernel
theorem c55_8 : cdA 55 8 = some (.ior) := by decide +kernel
theorem c55_9 : cdA 55 9 = some (.istore_n 3) := by decide +kernel
theorem c55_10 : cdA 55 10 = some (.iload_n 3) := by decide +kernel
theorem c55_11 : cdA 55 11 = some (.invokestatic 209) := by decide +kernel
theorem m55_209 : mthR (moN 55) 209 = 225 := by decide +kernel
theorem F222 : mF 222 1 1 false := by unfold mF; decide +kernel
theorem K222 : ¬ mK 222 = 4 := by decide +kernel
theorem c55_14 : cdA 55 14 = some (.istore 4) := by decide +kernel
theorem c55_16 : cdA 55 16 = some (.iload 4) := by decide +kernel
theorem c55_18 : cdA 55 18 = some (.aload_n 0) := by decide +kernel
theorem c55_19 : cdA 55 19 = some (.getfield 199) := by decide +kernel
theorem f55_199 : fldR (moN 55) 199 = some (6, 6) := by decide +kernel
theorem t6_6 : fcl 6 6 = 0 := by decide +kernel
theorem c55_22 : cdA 55 22 = some (.if_icmp .gt 20) := by decide +kernel
theorem c55_42 : cdA 55 42 = some (.iconst 1) := by decide +kernel
theorem c55_43 : cdA 55 43 = some (.goto 4) := by decide +kernel
theorem c55_47 : cdA 55 47 = some (.ireturn) := by decide +kernel
theorem R55 : mK 55 = 3 := by decide +kernel
theorem c55_25 : cdA 55 25 = some (.iload 4) := by decide +kernel
theorem c55_27 : cdA 55 27 = some (.aload_n 0) := by decide +kernel
theorem c55_28 : cdA 55 28 = some (.getfield 199) := by decide +kernel
theorem c55_31 : cdA 55 31 = some (.if_icmp .ne 15) := by decide +kernel
theorem c55_46 : cdA 55 46 = some (.iconst 0) := by decide +kernel
theorem c55_34 : cdA 55 34 = some (.iload_n 3) := by decide +kernel
theorem c55_35 : cdA 55 35 = some (.aload_n 0) := by decide +kernel
theorem c55_36 : cdA 55 36 = some (.getfield 196) := by decide +kernel
theorem f55_196 : fldR (moN 55) 196 = some (6, 5) := by decide +kernel
theorem t6_5 : fcl 6 5 = 0 := by decide +kernel
theorem c55_39 : cdA 55 39 = some (.if_icmp .ge 7) := by decide +kernel
theorem b55_0 {d : Nat} {h : HP} {Q : PV → HP → Prop} {v1 v2 : Int} (H : X d 222 0 [some (I (bOr v2 (bShl (bShr 4095 v1) v1)))] [] h (fun r h' => X (d + 1) 55 14 [some (P 52), some (I v1), some (I v2), some (I (bOr v2 (bShl (bShr 4095 v1) v1))), none] [r] h' Q)) : X (d + 1) 55 0 [some (P 52), some (I v1), some (I v2), none, none] [] h Q :=
  s_iload_n c55_0 rfl (s_sipush c55_1 ⟨by decide, by decide⟩ (s_iload_n c55_4 rfl (s_ishr c55_5 (s_iload_n c55_6 rfl (s_ishl c55_7 (s_ior c55_8 (s_istore_n c55_9 rfl (s_iload_n c55_10 rfl (s_cSi c55_11 m55_209 F222 K222 rfl (Nat.le_of_ble_eq_true rfl) rfl rfl H)))))))))
theorem b55_14 {d : Nat} {h : HP} {Q : PV → HP → Prop} {v1 v2 v3 s0 : Int} (H : (((h 52 6) < s0) → Q (I 1) h) ∧ (¬ ((h 52 6) < s0) → (((¬ s0 = (h 52 6)) → Q (I 0) h) ∧ (¬ (¬ s0 = (h 52 6)) → ((((h 52 5) ≤ v3) → Q (I 0) h) ∧ (¬ ((h 52 5) ≤ v3) → Q (I 1) h)))))) : X d 55 14 [some (P 52), some (I v1), some (I v2), some (I v3), none] [I s0] h Q :=
  s_istore c55_14 rfl (s_iload c55_16 rfl (s_aload_n c55_18 rfl (s_getI c55_19 f55_199 t6_6 sh_52 (s_ifc 42 ((h 52 6) < s0) c55_22 (by decide) rfl ⟨fun q1 => s_iconst c55_42 rfl (s_goto 47 c55_43 (by decide) (s_retZ c55_47 R55 ⟨by decide, (H.1 q1)⟩)), fun q1 => s_iload c55_25 rfl (s_aload_n c55_27 rfl (s_getI c55_28 f55_199 t6_6 sh_52 (s_ifc 46 (¬ s0 = (h 52 6)) c55_31 (by decide) rfl ⟨fun q2 => s_iconst c55_46 rfl (s_retZ c55_47 R55 ⟨by decide, ((H.2 q1).1 q2)⟩), fun q2 => s_iload_n c55_34 rfl (s_aload_n c55_35 rfl (s_getI c55_36 f55_196 t6_5 sh_52 (s_ifc 46 ((h 52 5) ≤ v3) c55_39 (by decide) rfl ⟨fun q3 => s_iconst c55_46 rfl (s_retZ c55_47 R55 ⟨by decide, (((H.2 q1).2 q2).1 q3)⟩), fun q3 => s_iconst c55_42 rfl (s_goto 47 c55_43 (by decide) (s_retZ c55_47 R55 ⟨by decide, (((H.2 q1).2 q2).2 q3)⟩))⟩)))⟩)))⟩))))
-- WarmSide$Run.choose(III)V
theorem c54_0 : cdA 54 0 = some (.aload_n 0) := by decide +kernel
theorem c54_1 : cdA 54 1 = some (.iload_n 2) := by decide +kernel
theorem c54_2 : cdA 54 2 = some (.iload_n 3) := by decide +kernel
theorem c54_3 : cdA 54 3 = some (.invokevirtual 206) := by decide +kernel
theorem m54_206 : mthR (moN 54) 206 = 58 := by decide +kernel
theorem F55 : mF 55 2 5 true := by unfold mF; decide +kernel
theorem K55 : ¬ mK 55 = 4 := by decide +kernel
theorem S55_52 : SH0[52]? = some (.inl (moN 55)) := by decide +kernel
theorem c54_114 : cdA 54 114 = some (.aload_n 0) := by decide +kernel
theorem c54_115 : cdA 54 115 = some (.iload_n 1) := by decide +kernel
theorem c54_116 : cdA 54 116 = some (.iload_n 2) := by decide +kernel
theorem c54_117 : cdA 54 117 = some (.iconst 1) := by decide +kernel
theorem c54_118 : cdA 54 118 = some (.iadd) := by decide +kernel
theorem c54_119 : cdA 54 119 = some (.iload_n 3) := by decide +kernel
theorem c54_120 : cdA 54 120 = some (.iload 5) := by decide +kernel
theorem c54_122 : cdA 54 122 = some (.iload_n 2) := by decide +kernel
theorem c54_123 : cdA 54 123 = some (.ishl) := by decide +kernel
theorem c54_124 : cdA 54 124 = some (.ior) := by decide +kernel
theorem c54_125 : cdA 54 125 = some (.invokevirtual 202) := by decide +kernel
theorem m54_202 : mthR (moN 54) 202 = 57 := by decide +kernel
theorem F54 : mF 54 3 6 true := by unfold mF; decide +kernel
theorem K54 : mK 54 = 4 := by decide +kernel
theorem S54_52 : SH0[52]? = some (.inl (moN 54)) := by decide +kernel
theorem c54_128 : cdA 54 128 = some (.iinc 5 (-1)) := by decide +kernel
theorem c54_131 : cdA 54 131 = some (.goto (-84)) := by decide +kernel
theorem c54_26 : cdA 54 26 = some (.putfield 199) := by decide +kernel
theorem f54_199 : fldR (moN 54) 199 = some (6, 6) := by decide +kernel
theorem n6_6 : ffin 6 6 = false := by decide +kernel
theorem c54_29 : cdA 54 29 = some (.return_) := by decide +kernel
theorem R54 : mK 54 = 4 := by decide +kernel
theorem c54_47 : cdA 54 47 = some (.iload 5) := by decide +kernel
theorem c54_49 : cdA 54 49 = some (.ifCond .lt 85) := by decide +kernel
theorem c54_134 : cdA 54 134 = some (.return_) := by decide +kernel
theorem c54_52 : cdA 54 52 = some (.aload_n 0) := by decide +kernel
theorem c54_53 : cdA 54 53 = some (.iload_n 2) := by decide +kernel
theorem c54_54 : cdA 54 54 = some (.invokevirtual 183) := by decide +kernel
theorem m54_183 : mthR (moN 54) 183 = 55 := by decide +kernel
theorem c54_57 : cdA 54 57 = some (.aload_n 0) := by decide +kernel
theorem c54_58 : cdA 54 58 = some (.getfield 24) := by decide +kernel
theorem f54_24 : fldR (moN 54) 24 = some (6, 0) := by decide +kernel
theorem c54_61 : cdA 54 61 = some (.getfield 131) := by decide +kernel
theorem f54_131 : fldR (moN 54) 131 = some (1, 3) := by decide +kernel
theorem c54_64 : cdA 54 64 = some (.getfield 76) := by decide +kernel
theorem f54_76 : fldR (moN 54) 76 = some (3, 5) := by decide +kernel
theorem c54_67 : cdA 54 67 = some (.iload_n 1) := by decide +kernel
theorem c54_68 : cdA 54 68 = some (.iload 5) := by decide +kernel
theorem c54_70 : cdA 54 70 = some (.iastore) := by decide +kernel
theorem c54_71 : cdA 54 71 = some (.aload_n 0) := by decide +kernel
theorem c54_72 : cdA 54 72 = some (.iload_n 2) := by decide +kernel
theorem c54_73 : cdA 54 73 = some (.invokevirtual 177) := by decide +kernel
theorem m54_177 : mthR (moN 54) 177 = 45 := by decide +kernel
theorem c54_6 : cdA 54 6 = some (.ifCond .ne 4) := by decide +kernel
theorem c54_10 : cdA 54 10 = some (.iload_n 2) := by decide +kernel
theorem c54_11 : cdA 54 11 = some (.bipush 12) := by decide +kernel
theorem c54_13 : cdA 54 13 = some (.if_icmp .lt 17) := by decide +kernel
theorem c54_30 : cdA 54 30 = some (.aload_n 0) := by decide +kernel
theorem c54_31 : cdA 54 31 = some (.getfield 24) := by decide +kernel
theorem c54_34 : cdA 54 34 = some (.getfield 131) := by decide +kernel
theorem c54_37 : cdA 54 37 = some (.getfield 142) := by decide +kernel
theorem f54_142 : fldR (moN 54) 142 = some (3, 3) := by decide +kernel
theorem c54_40 : cdA 54 40 = some (.iload_n 1) := by decide +kernel
theorem c54_41 : cdA 54 41 = some (.iaload) := by decide +kernel
theorem c54_42 : cdA 54 42 = some (.istore 4) := by decide +kernel
theorem c54_44 : cdA 54 44 = some (.iconst 1) := by decide +kernel
theorem c54_45 : cdA 54 45 = some (.istore 5) := by decide +kernel
theorem c54_16 : cdA 54 16 = some (.aload_n 0) := by decide +kernel
theorem c54_17 : cdA 54 17 = some (.iload_n 3) := by decide +kernel
theorem c54_18 : cdA 54 18 = some (.putfield 196) := by decide +kernel
theorem f54_196 : fldR (moN 54) 196 = some (6, 5) := by decide +kernel
theorem n6_5 : ffin 6 5 = false := by decide +kernel
theorem c54_21 : cdA 54 21 = some (.aload_n 0) := by decide +kernel
theorem c54_22 : cdA 54 22 = some (.iload_n 3) := by decide +kernel
theorem c54_23 : cdA 54 23 = some (.invokestatic 209) := by decide +kernel
theorem m54_209 : mthR (moN 54) 209 = 225 := by decide +kernel
theorem c54_9 : cdA 54 9 = some (.return_) := by decide +kernel
theorem c54_76 : cdA 54 76 = some (.aload_n 0) := by decide +kernel
theorem c54_77 : cdA 54 77 = some (.getfield 24) := by decide +kernel
theorem c54_80 : cdA 54 80 = some (.getfield 32) := by decide +kernel
theorem f54_32 : fldR (moN 54) 32 = some (1, 0) := by decide +kernel
theorem c54_83 : cdA 54 83 = some (.iload 4) := by decide +kernel
theorem c54_85 : cdA 54 85 = some (.invokevirtual 44) := by decide +kernel
theorem m54_44 : mthR (moN 54) 44 = 24 := by decide +kernel
theorem c54_88 : cdA 54 88 = some (.aload_n 0) := by decide +kernel
theorem c54_89 : cdA 54 89 = some (.getfield 24) := by decide +kernel
theorem c54_92 : cdA 54 92 = some (.getfield 32) := by decide +kernel
theorem c54_95 : cdA 54 95 = some (.getfield 214) := by decide +kernel
theorem f54_214 : fldR (moN 54) 214 = some (4, 9) := by decide +kernel
theorem c54_98 : cdA 54 98 = some (.iload 4) := by decide +kernel
theorem c54_100 : cdA 54 100 = some (.iaload) := by decide +kernel
theorem c54_101 : cdA 54 101 = some (.if_icmp .le 6) := by decide +kernel
theorem c54_107 : cdA 54 107 = some (.aload_n 0) := by decide +kernel
theorem c54_108 : cdA 54 108 = some (.iload_n 2) := by decide +kernel
theorem c54_109 : cdA 54 109 = some (.iconst 1) := by decide +kernel
theorem c54_110 : cdA 54 110 = some (.iadd) := by decide +kernel
theorem c54_111 : cdA 54 111 = some (.invokevirtual 174) := by decide +kernel
theorem m54_174 : mthR (moN 54) 174 = 54 := by decide +kernel
theorem c54_104 : cdA 54 104 = some (.goto 24) := by decide +kernel
theorem b54_0 {d : Nat} {h : HP} {Q : PV → HP → Prop} {v1 v2 v3 : Int} (H : X d 55 0 [some (P 52), some (I v2), some (I v3), none, none] [] h (fun r h' => X (d + 1) 54 6 [some (P 52), some (I v1), some (I v2), some (I v3), none, none] [r] h' Q)) : X (d + 1) 54 0 [some (P 52), some (I v1), some (I v2), some (I v3), none, none] [] h Q :=
  s_aload_n c54_0 rfl (s_iload_n c54_1 rfl (s_iload_n c54_2 rfl (s_cVi c54_3 m54_206 F55 K55 rfl (Nat.le_of_ble_eq_true rfl) rfl S55_52 rfl H)))
theorem b54_114 {d : Nat} {h : HP} {Q : PV → HP → Prop} {v1 v2 v3 v4 v5 : Int} (H : X d 54 0 [some (P 52), some (I v1), some (I (w32 (v2 + 1))), some (I (bOr v3 (bShl v5 v2))), none, none] [] h (fun _ h' => X (d + 1) 54 128 [some (P 52), some (I v1), some (I v2), some (I v3), some (I v4), some (I v5)] [] h' Q)) : X (d + 1) 54 114 [some (P 52), some (I v1), some (I v2), some (I v3), some (I v4), some (I v5)] [] h Q :=
  s_aload_n c54_114 rfl (s_iload_n c54_115 rfl (s_iload_n c54_116 rfl (s_iconst c54_117 rfl (s_iadd c54_118 (s_iload_n c54_119 rfl (s_iload c54_120 rfl (s_iload_n c54_122 rfl (s_ishl c54_123 (s_ior c54_124 (s_cVv c54_125 m54_202 F54 K54 rfl (Nat.le_of_ble_eq_true rfl) rfl S54_52 rfl H))))))))))
theorem b54_128 {d : Nat} {h : HP} {Q : PV → HP → Prop} {v1 v2 v3 v4 v5 : Int} (H : X d 54 47 [some (P 52), some (I v1), some (I v2), some (I v3), some (I v4), some (I (w32 (v5 + (-1))))] [] h Q) : X d 54 128 [some (P 52), some (I v1), some (I v2), some (I v3), some (I v4), some (I v5)] [] h Q :=
  s_iinc c54_128 rfl rfl rfl (s_goto 47 c54_131 (by decide) (H))
theorem b54_26 {d : Nat} {h : HP} {Q : PV → HP → Prop} {v1 v2 v3 s1 : Int} (H : Q (I 0) (up2 h 52 6 s1)) : X d 54 26 [some (P 52), some (I v1), some (I v2), some (I v3), none, none] [I s1, P 52] h Q :=
  s_putI c54_26 f54_199 t6_6 n6_6 sh_52 (s_retV c54_29 R54 H)
theorem b54_47 {d : Nat} {h : HP} {Q : PV → HP → Prop} {v1 v2 v3 v4 v5 : Int} (H : ((v5 < 0) → Q (I 0) h) ∧ (¬ (v5 < 0) → X d 52 0 [some (P 52), some (I v2), none, none, none] [] h (fun _ h' => X (d + 1) 54 57 [some (P 52), some (I v1), some (I v2), some (I v3), some (I v4), some (I v5)] [] h' Q))) : X (d + 1) 54 47 [some (P 52), some (I v1), some (I v2), some (I v3), some (I v4), some (I v5)] [] h Q :=
  s_iload c54_47 rfl (s_if 134 (v5 < 0) c54_49 (by decide) rfl ⟨fun q1 => s_retV c54_134 R54 (H.1 q1), fun q1 => s_aload_n c54_52 rfl (s_iload_n c54_53 rfl (s_cVv c54_54 m54_183 F52 K52 rfl (Nat.le_of_ble_eq_true rfl) rfl S52_52 rfl (H.2 q1)))⟩)
theorem b54_57 {d : Nat} {h : HP} {Q : PV → HP → Prop} {v1 v2 v3 v4 v5 : Int} (H : (0 ≤ v1 ∧ v1 < 8) ∧ X d 42 0 [some (P 52), some (I v2), none] [] (up2 h 25 v1.toNat v5) (fun _ h' => X (d + 1) 54 76 [some (P 52), some (I v1), some (I v2), some (I v3), some (I v4), some (I v5)] [] h' Q)) : X (d + 1) 54 57 [some (P 52), some (I v1), some (I v2), some (I v3), some (I v4), some (I v5)] [] h Q :=
  s_aload_n c54_57 rfl (s_getP 1 c54_58 f54_24 t6_0 sh_52 g_52_0 (by decide) (by decide) (s_getP 22 c54_61 f54_131 t1_3 sh_1 g_1_3 (by decide) (by decide) (s_getP 25 c54_64 f54_76 t3_5 sh_22 g_22_5 (by decide) (by decide) (s_iload_n c54_67 rfl (s_iload c54_68 rfl (s_iast c54_70 sh_25 ⟨H.1, s_aload_n c54_71 rfl (s_iload_n c54_72 rfl (s_cVv c54_73 m54_177 F42 K42 rfl (Nat.le_of_ble_eq_true rfl) rfl S42_52 rfl H.2))⟩))))))
theorem b54_6 {d : Nat} {h : HP} {Q : PV → HP → Prop} {v1 v2 v3 s0 : Int} (H : ((¬ s0 = 0) → (((v2 < 12) → ((0 ≤ v1 ∧ v1 < 8) ∧ X (d + 1) 54 47 [some (P 52), some (I v1), some (I v2), some (I v3), some (I (h 23 v1.toNat)), some (I 1)] [] h Q)) ∧ (¬ (v2 < 12) → X d 222 0 [some (I v3)] [] (up2 h 52 5 v3) (fun r h' => X (d + 1) 54 26 [some (P 52), some (I v1), some (I v2), some (I v3), none, none] [r, P 52] h' Q)))) ∧ (¬ (¬ s0 = 0) → Q (I 0) h)) : X (d + 1) 54 6 [some (P 52), some (I v1), some (I v2), some (I v3), none, none] [I s0] h Q :=
  s_if 10 (¬ s0 = 0) c54_6 (by decide) rfl ⟨fun q2 => s_iload_n c54_10 rfl (s_bipush c54_11 ⟨by decide, by decide⟩ (s_ifc 30 (v2 < 12) c54_13 (by decide) rfl ⟨fun q3 => s_aload_n c54_30 rfl (s_getP 1 c54_31 f54_24 t6_0 sh_52 g_52_0 (by decide) (by decide) (s_getP 22 c54_34 f54_131 t1_3 sh_1 g_1_3 (by decide) (by decide) (s_getP 23 c54_37 f54_142 t3_3 sh_22 g_22_3 (by decide) (by decide) (s_iload_n c54_40 rfl (s_iald c54_41 sh_23 ⟨((H.1 q2).1 q3).1, s_istore c54_42 rfl (s_iconst c54_44 rfl (s_istore c54_45 rfl (((H.1 q2).1 q3).2)))⟩))))), fun q3 => s_aload_n c54_16 rfl (s_iload_n c54_17 rfl (s_putI c54_18 f54_196 t6_5 n6_5 sh_52 (s_aload_n c54_21 rfl (s_iload_n c54_22 rfl (s_cSi c54_23 m54_209 F222 K222 rfl (Nat.le_of_ble_eq_true rfl) rfl rfl ((H.1 q2).2 q3))))))⟩)), fun q2 => s_retV c54_9 R54 (H.2 q2)⟩
theorem b54_76 {d : Nat} {h : HP} {Q : PV → HP → Prop} {v1 v2 v3 v4 v5 : Int} (H : X d 21 0 [some (P 2), some (I v4), none] [] h (fun r h' => X (d + 1) 54 88 [some (P 52), some (I v1), some (I v2), some (I v3), some (I v4), some (I v5)] [r] h' Q)) : X (d + 1) 54 76 [some (P 52), some (I v1), some (I v2), some (I v3), some (I v4), some (I v5)] [] h Q :=
  s_aload_n c54_76 rfl (s_getP 1 c54_77 f54_24 t6_0 sh_52 g_52_0 (by decide) (by decide) (s_getP 2 c54_80 f54_32 t1_0 sh_1 g_1_0 (by decide) (by decide) (s_iload c54_83 rfl (s_cVi c54_85 m54_44 F21 K21 rfl (Nat.le_of_ble_eq_true rfl) rfl S21_2 rfl H))))
theorem b54_88 {d : Nat} {h : HP} {Q : PV → HP → Prop} {v1 v2 v3 v4 v5 s0 : Int} (H : (0 ≤ v4 ∧ v4 < 8) ∧ (((s0 ≤ (h 11 v4.toNat)) → X d 51 0 [some (P 52), some (I (w32 (v2 + 1))), none, none, none] [] h (fun _ h' => X (d + 1) 54 114 [some (P 52), some (I v1), some (I v2), some (I v3), some (I v4), some (I v5)] [] h' Q)) ∧ (¬ (s0 ≤ (h 11 v4.toNat)) → X (d + 1) 54 128 [some (P 52), some (I v1), some (I v2), some (I v3), some (I v4), some (I v5)] [] h Q))) : X (d + 1) 54 88 [some (P 52), some (I v1), some (I v2), some (I v3), some (I v4), some (I v5)] [I s0] h Q :=
  s_aload_n c54_88 rfl (s_getP 1 c54_89 f54_24 t6_0 sh_52 g_52_0 (by decide) (by decide) (s_getP 2 c54_92 f54_32 t1_0 sh_1 g_1_0 (by decide) (by decide) (s_getP 11 c54_95 f54_214 t4_9 sh_2 g_2_9 (by decide) (by decide) (s_iload c54_98 rfl (s_iald c54_100 sh_11 ⟨H.1, s_ifc 107 (s0 ≤ (h 11 v4.toNat)) c54_101 (by decide) rfl ⟨fun q4 => s_aload_n c54_107 rfl (s_iload_n c54_108 rfl (s_iconst c54_109 rfl (s_iadd c54_110 (s_cVv c54_111 m54_174 F51 K51 rfl (Nat.le_of_ble_eq_true rfl) rfl S51_52 rfl (H.2.1 q4))))), fun q4 => s_goto 128 c54_104 (by decide) ((H.2.2 q4))⟩⟩)))))
-- WarmSide$Run.bestHours(I)I
theorem c53_0 : cdA 53 0 = some (.aload_n 0) := by decide +kernel
theorem c53_1 : cdA 53 1 = some (.bipush (-9)) := by decide +kernel
theorem c53_3 : cdA 53 3 = some (.putfield 196) := by decide +kernel
theorem f53_196 : fldR (moN 53) 196 = some (6, 5) := by decide +kernel
theorem c53_6 : cdA 53 6 = some (.aload_n 0) := by decide +kernel
theorem c53_7 : cdA 53 7 = some (.iconst (-1)) := by decide +kernel
theorem c53_8 : cdA 53 8 = some (.putfield 199) := by decide +kernel
theorem f53_199 : fldR (moN 53) 199 = some (6, 6) := by decide +kernel
theorem c53_11 : cdA 53 11 = some (.aload_n 0) := by decide +kernel
theorem c53_12 : cdA 53 12 = some (.getfield 24) := by decide +kernel
theorem f53_24 : fldR (moN 53) 24 = some (6, 0) := by decide +kernel
theorem c53_15 : cdA 53 15 = some (.getfield 131) := by decide +kernel
theorem f53_131 : fldR (moN 53) 131 = some (1, 3) := by decide +kernel
theorem c53_18 : cdA 53 18 = some (.getfield 76) := by decide +kernel
theorem f53_76 : fldR (moN 53) 76 = some (3, 5) := by decide +kernel
theorem c53_21 : cdA 53 21 = some (.iload_n 1) := by decide +kernel
theorem c53_22 : cdA 53 22 = some (.iaload) := by decide +kernel
theorem c53_23 : cdA 53 23 = some (.istore_n 2) := by decide +kernel
theorem c53_24 : cdA 53 24 = some (.aload_n 0) := by decide +kernel
theorem c53_25 : cdA 53 25 = some (.iconst 0) := by decide +kernel
theorem c53_26 : cdA 53 26 = some (.invokevirtual 174) := by decide +kernel
theorem m53_174 : mthR (moN 53) 174 = 54 := by decide +kernel
theorem c53_29 : cdA 53 29 = some (.aload_n 0) := by decide +kernel
theorem c53_30 : cdA 53 30 = some (.iload_n 1) := by decide +kernel
theorem c53_31 : cdA 53 31 = some (.iconst 0) := by decide +kernel
theorem c53_32 : cdA 53 32 = some (.iconst 0) := by decide +kernel
theorem c53_33 : cdA 53 33 = some (.invokevirtual 202) := by decide +kernel
theorem m53_202 : mthR (moN 53) 202 = 57 := by decide +kernel
theorem c53_36 : cdA 53 36 = some (.aload_n 0) := by decide +kernel
theorem c53_37 : cdA 53 37 = some (.iconst 0) := by decide +kernel
theorem c53_38 : cdA 53 38 = some (.invokevirtual 183) := by decide +kernel
theorem m53_183 : mthR (moN 53) 183 = 55 := by decide +kernel
theorem c53_41 : cdA 53 41 = some (.aload_n 0) := by decide +kernel
theorem c53_42 : cdA 53 42 = some (.getfield 24) := by decide +kernel
theorem c53_45 : cdA 53 45 = some (.getfield 131) := by decide +kernel
theorem c53_48 : cdA 53 48 = some (.getfield 76) := by decide +kernel
theorem c53_51 : cdA 53 51 = some (.iload_n 1) := by decide +kernel
theorem c53_52 : cdA 53 52 = some (.iload_n 2) := by decide +kernel
theorem c53_53 : cdA 53 53 = some (.iastore) := by decide +kernel
theorem c53_54 : cdA 53 54 = some (.aload_n 0) := by decide +kernel
theorem c53_55 : cdA 53 55 = some (.getfield 196) := by decide +kernel
theorem c53_58 : cdA 53 58 = some (.ireturn) := by decide +kernel
theorem R53 : mK 53 = 0 := by decide +kernel
theorem b53_0 {d : Nat} {h : HP} {Q : PV → HP → Prop} {v1 : Int} (H : (0 ≤ v1 ∧ v1 < 8) ∧ X d 51 0 [some (P 52), some (I 0), none, none, none] [] (up2 (up2 h 52 5 (-9)) 52 6 (-1)) (fun _ h' => X (d + 1) 53 29 [some (P 52), some (I v1), some (I (h 25 v1.toNat))] [] h' Q)) : X (d + 1) 53 0 [some (P 52), some (I v1), none] [] h Q :=
  s_aload_n c53_0 rfl (s_bipush c53_1 ⟨by decide, by decide⟩ (s_putI c53_3 f53_196 t6_5 n6_5 sh_52 (s_aload_n c53_6 rfl (s_iconst c53_7 rfl (s_putI c53_8 f53_199 t6_6 n6_6 sh_52 (s_aload_n c53_11 rfl (s_getP 1 c53_12 f53_24 t6_0 sh_52 g_52_0 (by decide) (by decide) (s_getP 22 c53_15 f53_131 t1_3 sh_1 g_1_3 (by decide) (by decide) (s_getP 25 c53_18 f53_76 t3_5 sh_22 g_22_5 (by decide) (by decide) (s_iload_n c53_21 rfl (s_iald c53_22 sh_25 ⟨H.1, s_istore_n c53_23 rfl (s_aload_n c53_24 rfl (s_iconst c53_25 rfl (s_cVv c53_26 m53_174 F51 K51 rfl (Nat.le_of_ble_eq_true rfl) rfl S51_52 rfl H.2)))⟩)))))))))))
theorem b53_29 {d : Nat} {h : HP} {Q : PV → HP → Prop} {v1 v2 : Int} (H : X d 54 0 [some (P 52), some (I v1), some (I 0), some (I 0), none, none] [] h (fun _ h' => X (d + 1) 53 36 [some (P 52), some (I v1), some (I v2)] [] h' Q)) : X (d + 1) 53 29 [some (P 52), some (I v1), some (I v2)] [] h Q :=
  s_aload_n c53_29 rfl (s_iload_n c53_30 rfl (s_iconst c53_31 rfl (s_iconst c53_32 rfl (s_cVv c53_33 m53_202 F54 K54 rfl (Nat.le_of_ble_eq_true rfl) rfl S54_52 rfl H))))
theorem b53_36 {d : Nat} {h : HP} {Q : PV → HP → Prop} {v1 v2 : Int} (H : X d 52 0 [some (P 52), some (I 0), none, none, none] [] h (fun _ h' => X (d + 1) 53 41 [some (P 52), some (I v1), some (I v2)] [] h' Q)) : X (d + 1) 53 36 [some (P 52), some (I v1), some (I v2)] [] h Q :=
  s_aload_n c53_36 rfl (s_iconst c53_37 rfl (s_cVv c53_38 m53_183 F52 K52 rfl (Nat.le_of_ble_eq_true rfl) rfl S52_52 rfl H))
theorem b53_41 {d : Nat} {h : HP} {Q : PV → HP → Prop} {v1 v2 : Int} (H : (0 ≤ v1 ∧ v1 < 8) ∧ Q (I (h 52 5)) (up2 h 25 v1.toNat v2)) : X d 53 41 [some (P 52), some (I v1), some (I v2)] [] h Q :=
  s_aload_n c53_41 rfl (s_getP 1 c53_42 f53_24 t6_0 sh_52 g_52_0 (by decide) (by decide) (s_getP 22 c53_45 f53_131 t1_3 sh_1 g_1_3 (by decide) (by decide) (s_getP 25 c53_48 f53_76 t3_5 sh_22 g_22_5 (by decide) (by decide) (s_iload_n c53_51 rfl (s_iload_n c53_52 rfl (s_iast c53_53 sh_25 ⟨H.1, s_aload_n c53_54 rfl (s_getI c53_55 f53_196 t6_5 sh_52 (s_retI c53_58 R53 H.2))⟩))))))
