/-! blocks of java/lang/Math, by program -/
-- java/lang/Math.min(II)I
theorem c225_0 : cdA 225 0 = some (.iload_n 0) := by decide +kernel
theorem c225_1 : cdA 225 1 = some (.iload_n 1) := by decide +kernel
theorem c225_2 : cdA 225 2 = some (.if_icmp .gt 7) := by decide +kernel
theorem c225_9 : cdA 225 9 = some (.iload_n 1) := by decide +kernel
theorem c225_10 : cdA 225 10 = some (.ireturn) := by decide +kernel
theorem R225 : mK 225 = 0 := by decide +kernel
theorem c225_5 : cdA 225 5 = some (.iload_n 0) := by decide +kernel
theorem c225_6 : cdA 225 6 = some (.goto 4) := by decide +kernel
theorem b225_0 {d : Nat} {h : HP} {Q : PV → HP → Prop} {v0 v1 : Int} (H : ((v1 < v0) → Q (I v1) h) ∧ (¬ (v1 < v0) → Q (I v0) h)) : X d 225 0 [some (I v0), some (I v1)] [] h Q :=
  s_iload_n c225_0 rfl (s_iload_n c225_1 rfl (s_ifc 9 (v1 < v0) c225_2 (by decide) rfl ⟨fun q1 => s_iload_n c225_9 rfl (s_retI c225_10 R225 (H.1 q1)), fun q1 => s_iload_n c225_5 rfl (s_goto 10 c225_6 (by decide) (s_retI c225_10 R225 (H.2 q1)))⟩))
-- java/lang/Math.max(II)I
theorem c224_0 : cdA 224 0 = some (.iload_n 0) := by decide +kernel
theorem c224_1 : cdA 224 1 = some (.iload_n 1) := by decide +kernel
theorem c224_2 : cdA 224 2 = some (.if_icmp .lt 7) := by decide +kernel
theorem c224_9 : cdA 224 9 = some (.iload_n 1) := by decide +kernel
theorem c224_10 : cdA 224 10 = some (.ireturn) := by decide +kernel
theorem R224 : mK 224 = 0 := by decide +kernel
theorem c224_5 : cdA 224 5 = some (.iload_n 0) := by decide +kernel
theorem c224_6 : cdA 224 6 = some (.goto 4) := by decide +kernel
theorem b224_0 {d : Nat} {h : HP} {Q : PV → HP → Prop} {v0 v1 : Int} (H : ((v0 < v1) → Q (I v1) h) ∧ (¬ (v0 < v1) → Q (I v0) h)) : X d 224 0 [some (I v0), some (I v1)] [] h Q :=
  s_iload_n c224_0 rfl (s_iload_n c224_1 rfl (s_ifc 9 (v0 < v1) c224_2 (by decide) rfl ⟨fun q1 => s_iload_n c224_9 rfl (s_retI c224_10 R224 (H.1 q1)), fun q1 => s_iload_n c224_5 rfl (s_goto 10 c224_6 (by decide) (s_retI c224_10 R224 (H.2 q1)))⟩))
-- java/lang/Math.abs(I)I
theorem c223_0 : cdA 223 0 = some (.iload_n 0) := by decide +kernel
theorem c223_1 : cdA 223 1 = some (.ifCond .ge 8) := by decide +kernel
theorem c223_9 : cdA 223 9 = some (.iload_n 0) := by decide +kernel
theorem c223_10 : cdA 223 10 = some (.ireturn) := by decide +kernel
theorem R223 : mK 223 = 0 := by decide +kernel
theorem c223_4 : cdA 223 4 = some (.iload_n 0) := by decide +kernel
theorem c223_5 : cdA 223 5 = some (.ineg) := by decide +kernel
theorem c223_6 : cdA 223 6 = some (.goto 4) := by decide +kernel
theorem b223_0 {d : Nat} {h : HP} {Q : PV → HP → Prop} {v0 : Int} (H : ((0 ≤ v0) → Q (I v0) h) ∧ (¬ (0 ≤ v0) → Q (I (w32 (-v0))) h)) : X d 223 0 [some (I v0)] [] h Q :=
  s_iload_n c223_0 rfl (s_if 9 (0 ≤ v0) c223_1 (by decide) rfl ⟨fun q1 => s_iload_n c223_9 rfl (s_retI c223_10 R223 (H.1 q1)), fun q1 => s_iload_n c223_4 rfl (s_ineg c223_5 (s_goto 10 c223_6 (by decide) (s_retI c223_10 R223 (H.2 q1))))⟩)
