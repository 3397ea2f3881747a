/-! blocks of java/util/Arrays, by program -/
-- java/util/Arrays.fill([II)V
theorem c226_0 : cdA 226 0 = some (.iconst 0) := by decide +kernel
theorem c226_1 : cdA 226 1 = some (.istore_n 2) := by decide +kernel
theorem c226_2 : cdA 226 2 = some (.aload_n 0) := by decide +kernel
theorem c226_3 : cdA 226 3 = some (.arraylength) := by decide +kernel
theorem c226_4 : cdA 226 4 = some (.istore_n 3) := by decide +kernel
theorem c226_5 : cdA 226 5 = some (.iload_n 2) := by decide +kernel
theorem c226_6 : cdA 226 6 = some (.iload_n 3) := by decide +kernel
theorem c226_7 : cdA 226 7 = some (.if_icmp .ge 13) := by decide +kernel
theorem c226_20 : cdA 226 20 = some (.return_) := by decide +kernel
theorem R226 : mK 226 = 4 := by decide +kernel
theorem c226_10 : cdA 226 10 = some (.aload_n 0) := by decide +kernel
theorem c226_11 : cdA 226 11 = some (.iload_n 2) := by decide +kernel
theorem c226_12 : cdA 226 12 = some (.iload_n 1) := by decide +kernel
theorem c226_13 : cdA 226 13 = some (.iastore) := by decide +kernel
theorem c226_14 : cdA 226 14 = some (.iinc 2 1) := by decide +kernel
theorem c226_17 : cdA 226 17 = some (.goto (-12)) := by decide +kernel
theorem b226a_0 {d : Nat} {h : HP} {Q : PV → HP → Prop} {v1 : Int} (H : X d 226 5 [some (P 45), some (I v1), some (I 0), some (I 8)] [] h Q) : X d 226 0 [some (P 45), some (I v1), none, none] [] h Q :=
  s_iconst c226_0 rfl (s_istore_n c226_1 rfl (s_aload_n c226_2 rfl (s_alen c226_3 sh_45 ⟨by decide, by decide⟩ (s_istore_n c226_4 rfl (H)))))
theorem b226a_5 {d : Nat} {h : HP} {Q : PV → HP → Prop} {v1 v2 v3 : Int} (H : ((v3 ≤ v2) → Q (I 0) h) ∧ (¬ (v3 ≤ v2) → ((0 ≤ v2 ∧ v2 < 8) ∧ X d 226 5 [some (P 45), some (I v1), some (I (w32 (v2 + 1))), some (I v3)] [] (up2 h 45 v2.toNat v1) Q))) : X d 226 5 [some (P 45), some (I v1), some (I v2), some (I v3)] [] h Q :=
  s_iload_n c226_5 rfl (s_iload_n c226_6 rfl (s_ifc 20 (v3 ≤ v2) c226_7 (by decide) rfl ⟨fun q1 => s_retV c226_20 R226 (H.1 q1), fun q1 => s_aload_n c226_10 rfl (s_iload_n c226_11 rfl (s_iload_n c226_12 rfl (s_iast c226_13 sh_45 ⟨(H.2 q1).1, s_iinc c226_14 rfl rfl rfl (s_goto 5 c226_17 (by decide) ((H.2 q1).2))⟩)))⟩))
-- java/util/Arrays.fill([II)V
theorem b226b_0 {d : Nat} {h : HP} {Q : PV → HP → Prop} {v1 : Int} (H : X d 226 5 [some (P 49), some (I v1), some (I 0), some (I 8)] [] h Q) : X d 226 0 [some (P 49), some (I v1), none, none] [] h Q :=
  s_iconst c226_0 rfl (s_istore_n c226_1 rfl (s_aload_n c226_2 rfl (s_alen c226_3 sh_49 ⟨by decide, by decide⟩ (s_istore_n c226_4 rfl (H)))))
theorem b226b_5 {d : Nat} {h : HP} {Q : PV → HP → Prop} {v1 v2 v3 : Int} (H : ((v3 ≤ v2) → Q (I 0) h) ∧ (¬ (v3 ≤ v2) → ((0 ≤ v2 ∧ v2 < 8) ∧ X d 226 5 [some (P 49), some (I v1), some (I (w32 (v2 + 1))), some (I v3)] [] (up2 h 49 v2.toNat v1) Q))) : X d 226 5 [some (P 49), some (I v1), some (I v2), some (I v3)] [] h Q :=
  s_iload_n c226_5 rfl (s_iload_n c226_6 rfl (s_ifc 20 (v3 ≤ v2) c226_7 (by decide) rfl ⟨fun q1 => s_retV c226_20 R226 (H.1 q1), fun q1 => s_aload_n c226_10 rfl (s_iload_n c226_11 rfl (s_iload_n c226_12 rfl (s_iast c226_13 sh_49 ⟨(H.2 q1).1, s_iinc c226_14 rfl rfl rfl (s_goto 5 c226_17 (by decide) ((H.2 q1).2))⟩)))⟩))
-- java/util/Arrays.fill([II)V
theorem b226c_0 {d : Nat} {h : HP} {Q : PV → HP → Prop} {v1 : Int} (H : X d 226 5 [some (P 50), some (I v1), some (I 0), some (I 64)] [] h Q) : X d 226 0 [some (P 50), some (I v1), none, none] [] h Q :=
  s_iconst c226_0 rfl (s_istore_n c226_1 rfl (s_aload_n c226_2 rfl (s_alen c226_3 sh_50 ⟨by decide, by decide⟩ (s_istore_n c226_4 rfl (H)))))
theorem b226c_5 {d : Nat} {h : HP} {Q : PV → HP → Prop} {v1 v2 v3 : Int} (H : ((v3 ≤ v2) → Q (I 0) h) ∧ (¬ (v3 ≤ v2) → ((0 ≤ v2 ∧ v2 < 64) ∧ X d 226 5 [some (P 50), some (I v1), some (I (w32 (v2 + 1))), some (I v3)] [] (up2 h 50 v2.toNat v1) Q))) : X d 226 5 [some (P 50), some (I v1), some (I v2), some (I v3)] [] h Q :=
  s_iload_n c226_5 rfl (s_iload_n c226_6 rfl (s_ifc 20 (v3 ≤ v2) c226_7 (by decide) rfl ⟨fun q1 => s_retV c226_20 R226 (H.1 q1), fun q1 => s_aload_n c226_10 rfl (s_iload_n c226_11 rfl (s_iload_n c226_12 rfl (s_iast c226_13 sh_50 ⟨(H.2 q1).1, s_iinc c226_14 rfl rfl rfl (s_goto 5 c226_17 (by decide) ((H.2 q1).2))⟩)))⟩))
-- java/util/Arrays.fill([II)V
theorem b226d_0 {d : Nat} {h : HP} {Q : PV → HP → Prop} {v1 : Int} (H : X d 226 5 [some (P 51), some (I v1), some (I 0), some (I 64)] [] h Q) : X d 226 0 [some (P 51), some (I v1), none, none] [] h Q :=
  s_iconst c226_0 rfl (s_istore_n c226_1 rfl (s_aload_n c226_2 rfl (s_alen c226_3 sh_51 ⟨by decide, by decide⟩ (s_istore_n c226_4 rfl (H)))))
theorem b226d_5 {d : Nat} {h : HP} {Q : PV → HP → Prop} {v1 v2 v3 : Int} (H : ((v3 ≤ v2) → Q (I 0) h) ∧ (¬ (v3 ≤ v2) → ((0 ≤ v2 ∧ v2 < 64) ∧ X d 226 5 [some (P 51), some (I v1), some (I (w32 (v2 + 1))), some (I v3)] [] (up2 h 51 v2.toNat v1) Q))) : X d 226 5 [some (P 51), some (I v1), some (I v2), some (I v3)] [] h Q :=
  s_iload_n c226_5 rfl (s_iload_n c226_6 rfl (s_ifc 20 (v3 ≤ v2) c226_7 (by decide) rfl ⟨fun q1 => s_retV c226_20 R226 (H.1 q1), fun q1 => s_aload_n c226_10 rfl (s_iload_n c226_11 rfl (s_iload_n c226_12 rfl (s_iast c226_13 sh_51 ⟨(H.2 q1).1, s_iinc c226_14 rfl rfl rfl (s_goto 5 c226_17 (by decide) ((H.2 q1).2))⟩)))⟩))
-- java/util/Arrays.fill([II)V
theorem b226e_0 {d : Nat} {h : HP} {Q : PV → HP → Prop} {v1 : Int} (H : X d 226 5 [some (P 48), some (I v1), some (I 0), some (I 8)] [] h Q) : X d 226 0 [some (P 48), some (I v1), none, none] [] h Q :=
  s_iconst c226_0 rfl (s_istore_n c226_1 rfl (s_aload_n c226_2 rfl (s_alen c226_3 sh_48 ⟨by decide, by decide⟩ (s_istore_n c226_4 rfl (H)))))
theorem b226e_5 {d : Nat} {h : HP} {Q : PV → HP → Prop} {v1 v2 v3 : Int} (H : ((v3 ≤ v2) → Q (I 0) h) ∧ (¬ (v3 ≤ v2) → ((0 ≤ v2 ∧ v2 < 8) ∧ X d 226 5 [some (P 48), some (I v1), some (I (w32 (v2 + 1))), some (I v3)] [] (up2 h 48 v2.toNat v1) Q))) : X d 226 5 [some (P 48), some (I v1), some (I v2), some (I v3)] [] h Q :=
  s_iload_n c226_5 rfl (s_iload_n c226_6 rfl (s_ifc 20 (v3 ≤ v2) c226_7 (by decide) rfl ⟨fun q1 => s_retV c226_20 R226 (H.1 q1), fun q1 => s_aload_n c226_10 rfl (s_iload_n c226_11 rfl (s_iload_n c226_12 rfl (s_iast c226_13 sh_48 ⟨(H.2 q1).1, s_iinc c226_14 rfl rfl rfl (s_goto 5 c226_17 (by decide) ((H.2 q1).2))⟩)))⟩))
