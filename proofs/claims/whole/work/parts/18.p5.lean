/-! pairs: coat -/
theorem w32_c {a b : Int} (h0 : 0 ≤ a) (h1 : a < 4) (h2 : 0 ≤ b) (h3 : b < 10) : w32 (w32 (a * 10) + b) = a * 10 + b := by
  rw [w32_of (x := a * 10) (by omega) (by omega), w32_of (by omega) (by omega)]
set_option maxHeartbeats 4000000 in
theorem p_coat {d : Nat} {h : HP} {v1 v2 v3 v4 : Int} (hR : R h) : X (d + 6) 83 0 [some (P 0), some (I v1), some (I v2), some (I v3), some (I v4)] [] h (fun r h1 => X (d + 6) 142 0 [some (P 69), some (I v1), some (I v2), some (I v3), some (I v4), none, none] [] h1 (fun r' h2 => EQA r r' h2)) := by
  obtain ⟨⟨r1, r2, r3, r4, r5, r6, r7, r8⟩, ⟨r9, r10, r11, r12, r13⟩, ⟨r14, r15, r16, r17, r18, r19, r20⟩, ⟨r21, r22, r23, r24, r25, r26⟩, ⟨r27, r28, r29, r30, r31⟩, ⟨r32, r33⟩, ⟨r34, r35, r36, r37, r38, r39, r40, r41, r42, r43, r44, r45⟩, ⟨r46, r47, r48⟩, ⟨r49, r50, r51, r52, r53, r54, r55⟩, ⟨r56, r57, r58, r59, r60, r61, r62, r63, r64, r65⟩, ⟨r66, r67, r68, r69, r70, r71, r72, r73, r74, r75⟩, ⟨r76, r77, r78, r79, r80, r81, r82, r83⟩, ⟨r84, r85, r86, r87, r88, r89⟩, ⟨r90, r91, r92, r93, r94, r95, r96, r97, r98⟩, ⟨r99, r100, r101, r102, r103, r104, r105, r106⟩, ⟨r107, r108, r109, r110, r111, r112, r113⟩, ⟨r114, r115, r116, r117, r118, r119, r120, r121, r122, r123⟩⟩ := id hR
  have ec : w32 (w32 (10 * v1) + v2) = w32 (w32 (v1 * 10) + v2) := by rw [Int.mul_comm]
  refine z83 ?_
  repeat' (first | (apply br_i <;> intro _) | apply an_i | apply ne_i | apply or_i | (apply sw_i; intro _) | (show (_ : Int) = _ → _; intro _))
  all_goals try (first | omega | (rw [w32_c (by omega) (by omega) (by omega) (by omega)]; omega))
  all_goals (refine z142 ?_; rw [ec]; (try simp only [up_p, up_i, up_s, ne_eq, Nat.reduceEqDiff, not_false_eq_true]); repeat' (first | (apply br_i <;> intro _) | apply an_i | apply ne_i | apply or_i | (apply sw_i; intro _) | (show (_ : Int) = _ → _; intro _)))
  all_goals try exact EQA_ref hR _ _
  all_goals try (first | omega | (rw [w32_c (by omega) (by omega) (by omega) (by omega)]; omega))
  · refine ⟨by rw [r10], ?_⟩
    unfold R; simp only [up_p, up_i, up_s, up_f, ne_eq, Nat.reduceEqDiff, not_false_eq_true]; and_intros; all_goals first | exact True.intro | assumption | (apply row_e; assumption) | (apply rgA_f <;> first | assumption | omega) | omega
  · refine ⟨by rw [r11], ?_⟩
    unfold R; simp only [up_p, up_i, up_s, up_f, ne_eq, Nat.reduceEqDiff, not_false_eq_true]; and_intros; all_goals first | exact True.intro | assumption | (apply row_e; assumption) | (apply rgA_f <;> first | assumption | omega) | omega
