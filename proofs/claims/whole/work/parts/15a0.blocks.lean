/-! blocks of java/lang/Integer, by program -/
-- java/lang/Integer.compare(II)I
theorem c221_0 : cdA 221 0 = some (.iload_n 0) := by decide +kernel
theorem c221_1 : cdA 221 1 = some (.iload_n 1) := by decide +kernel
theorem c221_2 : cdA 221 2 = some (.if_icmp .ge 7) := by decide +kernel
theorem c221_9 : cdA 221 9 = some (.iload_n 0) := by decide +kernel
theorem c221_10 : cdA 221 10 = some (.iload_n 1) := by decide +kernel
theorem c221_11 : cdA 221 11 = some (.if_icmp .ne 7) := by decide +kernel
theorem c221_18 : cdA 221 18 = some (.iconst 1) := by decide +kernel
theorem c221_19 : cdA 221 19 = some (.ireturn) := by decide +kernel
theorem R221 : mK 221 = 0 := by decide +kernel
theorem c221_14 : cdA 221 14 = some (.iconst 0) := by decide +kernel
theorem c221_15 : cdA 221 15 = some (.goto 4) := by decide +kernel
theorem c221_5 : cdA 221 5 = some (.iconst (-1)) := by decide +kernel
theorem c221_6 : cdA 221 6 = some (.goto 13) := by decide +kernel
theorem b221_0 {d : Nat} {h : HP} {Q : PV → HP → Prop} {v0 v1 : Int} (H : ((v1 ≤ v0) → (((¬ v0 = v1) → Q (I 1) h) ∧ (¬ (¬ v0 = v1) → Q (I 0) h))) ∧ (¬ (v1 ≤ v0) → Q (I (-1)) h)) : X d 221 0 [some (I v0), some (I v1)] [] h Q :=
  s_iload_n c221_0 rfl (s_iload_n c221_1 rfl (s_ifc 9 (v1 ≤ v0) c221_2 (by decide) rfl ⟨fun q1 => s_iload_n c221_9 rfl (s_iload_n c221_10 rfl (s_ifc 18 (¬ v0 = v1) c221_11 (by decide) rfl ⟨fun q2 => s_iconst c221_18 rfl (s_retI c221_19 R221 ((H.1 q1).1 q2)), fun q2 => s_iconst c221_14 rfl (s_goto 19 c221_15 (by decide) (s_retI c221_19 R221 ((H.1 q1).2 q2)))⟩)), fun q1 => s_iconst c221_5 rfl (s_goto 19 c221_6 (by decide) (s_retI c221_19 R221 (H.2 q1)))⟩))
-- java/lang/Integer.bitCount(I)I
theorem c222_0 : cdA 222 0 = some (.iload_n 0) := by decide +kernel
theorem c222_1 : cdA 222 1 = some (.iload_n 0) := by decide +kernel
theorem c222_2 : cdA 222 2 = some (.iconst 1) := by decide +kernel
theorem c222_3 : cdA 222 3 = some (.iushr) := by decide +kernel
theorem c222_4 : cdA 222 4 = some (.ldc_w 265) := by decide +kernel
theorem k222_265 : cstR (moN 222) 265 = some 1431655765 := by decide +kernel
theorem c222_7 : cdA 222 7 = some (.iand) := by decide +kernel
theorem c222_8 : cdA 222 8 = some (.isub) := by decide +kernel
theorem c222_9 : cdA 222 9 = some (.istore_n 0) := by decide +kernel
theorem c222_10 : cdA 222 10 = some (.iload_n 0) := by decide +kernel
theorem c222_11 : cdA 222 11 = some (.ldc_w 266) := by decide +kernel
theorem k222_266 : cstR (moN 222) 266 = some 858993459 := by decide +kernel
theorem c222_14 : cdA 222 14 = some (.iand) := by decide +kernel
theorem c222_15 : cdA 222 15 = some (.iload_n 0) := by decide +kernel
theorem c222_16 : cdA 222 16 = some (.iconst 2) := by decide +kernel
theorem c222_17 : cdA 222 17 = some (.iushr) := by decide +kernel
theorem c222_18 : cdA 222 18 = some (.ldc_w 266) := by decide +kernel
theorem c222_21 : cdA 222 21 = some (.iand) := by decide +kernel
theorem c222_22 : cdA 222 22 = some (.iadd) := by decide +kernel
theorem c222_23 : cdA 222 23 = some (.istore_n 0) := by decide +kernel
theorem c222_24 : cdA 222 24 = some (.iload_n 0) := by decide +kernel
theorem c222_25 : cdA 222 25 = some (.iload_n 0) := by decide +kernel
theorem c222_26 : cdA 222 26 = some (.iconst 4) := by decide +kernel
theorem c222_27 : cdA 222 27 = some (.iushr) := by decide +kernel
theorem c222_28 : cdA 222 28 = some (.iadd) := by decide +kernel
theorem c222_29 : cdA 222 29 = some (.ldc_w 267) := by decide +kernel
theorem k222_267 : cstR (moN 222) 267 = some 252645135 := by decide +kernel
theorem c222_32 : cdA 222 32 = some (.iand) := by decide +kernel
theorem c222_33 : cdA 222 33 = some (.istore_n 0) := by decide +kernel
theorem c222_34 : cdA 222 34 = some (.iload_n 0) := by decide +kernel
theorem c222_35 : cdA 222 35 = some (.iload_n 0) := by decide +kernel
theorem c222_36 : cdA 222 36 = some (.bipush 8) := by decide +kernel
theorem c222_38 : cdA 222 38 = some (.iushr) := by decide +kernel
theorem c222_39 : cdA 222 39 = some (.iadd) := by decide +kernel
theorem c222_40 : cdA 222 40 = some (.istore_n 0) := by decide +kernel
theorem c222_41 : cdA 222 41 = some (.iload_n 0) := by decide +kernel
theorem c222_42 : cdA 222 42 = some (.iload_n 0) := by decide +kernel
theorem c222_43 : cdA 222 43 = some (.bipush 16) := by decide +kernel
theorem c222_45 : cdA 222 45 = some (.iushr) := by decide +kernel
theorem c222_46 : cdA 222 46 = some (.iadd) := by decide +kernel
theorem c222_47 : cdA 222 47 = some (.istore_n 0) := by decide +kernel
theorem c222_48 : cdA 222 48 = some (.iload_n 0) := by decide +kernel
theorem c222_49 : cdA 222 49 = some (.bipush 63) := by decide +kernel
theorem c222_51 : cdA 222 51 = some (.iand) := by decide +kernel
theorem c222_52 : cdA 222 52 = some (.ireturn) := by decide +kernel
theorem R222 : mK 222 = 0 := by decide +kernel
theorem b222_0 {d : Nat} {h : HP} {Q : PV → HP → Prop} {v0 : Int} (H : Q (I (bAnd (w32 ((w32 ((bAnd (w32 ((w32 ((bAnd (w32 (v0 - (bAnd (bUsh v0 1) 1431655765))) 858993459) + (bAnd (bUsh (w32 (v0 - (bAnd (bUsh v0 1) 1431655765))) 2) 858993459))) + (bUsh (w32 ((bAnd (w32 (v0 - (bAnd (bUsh v0 1) 1431655765))) 858993459) + (bAnd (bUsh (w32 (v0 - (bAnd (bUsh v0 1) 1431655765))) 2) 858993459))) 4))) 252645135) + (bUsh (bAnd (w32 ((w32 ((bAnd (w32 (v0 - (bAnd (bUsh v0 1) 1431655765))) 858993459) + (bAnd (bUsh (w32 (v0 - (bAnd (bUsh v0 1) 1431655765))) 2) 858993459))) + (bUsh (w32 ((bAnd (w32 (v0 - (bAnd (bUsh v0 1) 1431655765))) 858993459) + (bAnd (bUsh (w32 (v0 - (bAnd (bUsh v0 1) 1431655765))) 2) 858993459))) 4))) 252645135) 8))) + (bUsh (w32 ((bAnd (w32 ((w32 ((bAnd (w32 (v0 - (bAnd (bUsh v0 1) 1431655765))) 858993459) + (bAnd (bUsh (w32 (v0 - (bAnd (bUsh v0 1) 1431655765))) 2) 858993459))) + (bUsh (w32 ((bAnd (w32 (v0 - (bAnd (bUsh v0 1) 1431655765))) 858993459) + (bAnd (bUsh (w32 (v0 - (bAnd (bUsh v0 1) 1431655765))) 2) 858993459))) 4))) 252645135) + (bUsh (bAnd (w32 ((w32 ((bAnd (w32 (v0 - (bAnd (bUsh v0 1) 1431655765))) 858993459) + (bAnd (bUsh (w32 (v0 - (bAnd (bUsh v0 1) 1431655765))) 2) 858993459))) + (bUsh (w32 ((bAnd (w32 (v0 - (bAnd (bUsh v0 1) 1431655765))) 858993459) + (bAnd (bUsh (w32 (v0 - (bAnd (bUsh v0 1) 1431655765))) 2) 858993459))) 4))) 252645135) 8))) 16))) 63)) h) : X d 222 0 [some (I v0)] [] h Q :=
  s_iload_n c222_0 rfl (s_iload_n c222_1 rfl (s_iconst c222_2 rfl (s_iushr c222_3 (s_ldcw c222_4 k222_265 rfl (s_iand c222_7 (s_isub c222_8 (s_istore_n c222_9 rfl (s_iload_n c222_10 rfl (s_ldcw c222_11 k222_266 rfl (s_iand c222_14 (s_iload_n c222_15 rfl (s_iconst c222_16 rfl (s_iushr c222_17 (s_ldcw c222_18 k222_266 rfl (s_iand c222_21 (s_iadd c222_22 (s_istore_n c222_23 rfl (s_iload_n c222_24 rfl (s_iload_n c222_25 rfl (s_iconst c222_26 rfl (s_iushr c222_27 (s_iadd c222_28 (s_ldcw c222_29 k222_267 rfl (s_iand c222_32 (s_istore_n c222_33 rfl (s_iload_n c222_34 rfl (s_iload_n c222_35 rfl (s_bipush c222_36 ⟨by decide, by decide⟩ (s_iushr c222_38 (s_iadd c222_39 (s_istore_n c222_40 rfl (s_iload_n c222_41 rfl (s_iload_n c222_42 rfl (s_bipush c222_43 ⟨by decide, by decide⟩ (s_iushr c222_45 (s_iadd c222_46 (s_istore_n c222_47 rfl (s_iload_n c222_48 rfl (s_bipush c222_49 ⟨by decide, by decide⟩ (s_iand c222_51 (s_retI c222_52 R222 H)))))))))))))))))))))))))))))))))))))))))
