/-! pairs: of, flap, point, coat -/
set_option maxHeartbeats 4000000 in
theorem p_of {d : Nat} {h : HP} {v1 v2 : Int} (hR : R h) : X (d + 6) 98 0 [some (P 0), some (I v1), some (I v2)] [] h (fun r h1 => X (d + 6) 184 0 [some (P 69), some (I v1), some (I v2)] [] h1 (fun r' h2 => EQA r r' h2)) := by
  obtain ⟨⟨r1, r2, r3, r4, r5, r6, r7, r8⟩, ⟨r9, r10, r11, r12, r13⟩, ⟨r14, r15, r16, r17, r18, r19, r20⟩, ⟨r21, r22, r23, r24, r25, r26⟩, ⟨r27, r28, r29, r30, r31⟩, ⟨r32, r33⟩, ⟨r34, r35, r36, r37, r38, r39, r40, r41, r42, r43, r44, r45⟩, ⟨r46, r47, r48⟩, ⟨r49, r50, r51, r52, r53, r54, r55⟩, ⟨r56, r57, r58, r59, r60, r61, r62, r63, r64, r65⟩, ⟨r66, r67, r68, r69, r70, r71, r72, r73, r74, r75⟩, ⟨r76, r77, r78, r79, r80, r81, r82, r83⟩, ⟨r84, r85, r86, r87, r88, r89⟩, ⟨r90, r91, r92, r93, r94, r95, r96, r97, r98⟩, ⟨r99, r100, r101, r102, r103, r104, r105, r106⟩, ⟨r107, r108, r109, r110, r111, r112, r113⟩, ⟨r114, r115, r116, r117, r118, r119, r120, r121, r122, r123⟩⟩ := id hR
  have hm : 0 ≤ v1 → v1 < h 2 0 → 1 ≤ h 3 v1.toNat := fun a b => (r76 v1.toNat (by omega)).1
  have hm2 : h 70 v1.toNat = h 3 v1.toNat := by rw [r1]
  have ed : w32 (Int.tdiv (h 73 v1.toNat) (h 70 v1.toNat)) = w32 (Int.tdiv (h 7 v1.toNat) (h 3 v1.toNat)) := by rw [r4, r1]
  refine z98 ?_
  repeat' (first | (apply br_i <;> intro _) | apply an_i | apply ne_i | apply or_i | (apply sw_i; intro _) | (show (_ : Int) = _ → _; intro _))
  all_goals try (first | omega | (show (_ : Int) ≤ _; unfold w32; omega) | (show (_ : Int) < _; unfold w32; omega))
  all_goals (refine z184 ?_; (try simp only [up_p, up_i, up_s, ne_eq, Nat.reduceEqDiff, not_false_eq_true]); repeat' (first | (apply br_i <;> intro _) | apply an_i | apply ne_i | apply or_i | (apply sw_i; intro _) | (show (_ : Int) = _ → _; intro _)))
  all_goals try exact EQA_ref hR _ _
  all_goals try (first | omega | (show (_ : Int) ≤ _; unfold w32; omega) | (show (_ : Int) < _; unfold w32; omega))
  all_goals (refine EQA_s hR ?_)
  all_goals first | rfl | (rw [r4]; done) | (rw [r6]; done) | (rw [r7]; done) | (rw [r8]; done) | exact congrArg I (by omega)
set_option maxHeartbeats 4000000 in
theorem p_flap {d : Nat} {h : HP} {v1 : Int} (hR : R h) : X (d + 6) 92 0 [some (P 0), some (I v1)] [] h (fun r h1 => X (d + 6) 159 0 [some (P 69), some (I v1)] [] h1 (fun r' h2 => EQA r r' h2)) := by
  obtain ⟨⟨r1, r2, r3, r4, r5, r6, r7, r8⟩, ⟨r9, r10, r11, r12, r13⟩, ⟨r14, r15, r16, r17, r18, r19, r20⟩, ⟨r21, r22, r23, r24, r25, r26⟩, ⟨r27, r28, r29, r30, r31⟩, ⟨r32, r33⟩, ⟨r34, r35, r36, r37, r38, r39, r40, r41, r42, r43, r44, r45⟩, ⟨r46, r47, r48⟩, ⟨r49, r50, r51, r52, r53, r54, r55⟩, ⟨r56, r57, r58, r59, r60, r61, r62, r63, r64, r65⟩, ⟨r66, r67, r68, r69, r70, r71, r72, r73, r74, r75⟩, ⟨r76, r77, r78, r79, r80, r81, r82, r83⟩, ⟨r84, r85, r86, r87, r88, r89⟩, ⟨r90, r91, r92, r93, r94, r95, r96, r97, r98⟩, ⟨r99, r100, r101, r102, r103, r104, r105, r106⟩, ⟨r107, r108, r109, r110, r111, r112, r113⟩, ⟨r114, r115, r116, r117, r118, r119, r120, r121, r122, r123⟩⟩ := id hR
  have hf := r81 v1.toNat
  have hf2 : h 75 v1.toNat = h 8 v1.toNat := by rw [r6]
  refine z92 ?_
  repeat' (first | (apply br_i <;> intro _) | apply an_i | apply ne_i | apply or_i | (apply sw_i; intro _) | (show (_ : Int) = _ → _; intro _))
  all_goals try (first | omega | (show (_ : Int) ≤ _; unfold w32; omega) | (show (_ : Int) < _; unfold w32; omega))
  all_goals (refine z159 ?_; (try simp only [up_p, up_i, up_s, ne_eq, Nat.reduceEqDiff, not_false_eq_true]); repeat' (first | (apply br_i <;> intro _) | apply an_i | apply ne_i | apply or_i | (apply sw_i; intro _) | (show (_ : Int) = _ → _; intro _)))
  all_goals try exact EQA_ref hR _ _
  all_goals try (first | omega | (show (_ : Int) ≤ _; unfold w32; omega) | (show (_ : Int) < _; unfold w32; omega))
  refine ⟨rfl, ?_⟩
  unfold R; simp only [up_p, up_i, up_s, up_f, ne_eq, Nat.reduceEqDiff, not_false_eq_true]; and_intros; all_goals first | assumption | (apply row_e; assumption) | (apply rgA_f <;> first | assumption | omega) | (apply ownT_f <;> first | assumption | omega) | omega | skip
  intro j
  by_cases hj : j = v1.toNat
  · simp [hj]; omega
  · simp [hj]; exact r81 j
