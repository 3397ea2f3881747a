/-! pairs: point -/
theorem rise_f {f : Nat → Int} {i : Nat} {v : Int} (H : rise f) (h1 : ∀ k, k + 1 = i → f k ≤ v) (h2 : i < 6 → v ≤ f (i + 1)) : rise (fun j => if j = i then v else f j) := by
  intro j hj
  by_cases e : j = i
  · subst e; simp; exact h2 hj
  · by_cases e2 : j + 1 = i
    · subst e2; simp; exact h1 j rfl
    · simp [e, e2]; exact H j hj
set_option maxHeartbeats 4000000 in
theorem R_point {h : HP} {v1 v2 : Int} (hR : R h) (h0 : 0 ≤ v1) (h7 : v1 < 7) (h2 : 0 ≤ v2) (h3 : v2 ≤ 9999) (h4 : 0 < v1 → h 31 (v1 - 1).toNat ≤ v2) (h5 : v1 + 1 < 7 → v2 ≤ h 31 (v1 + 1).toNat) : R (up2 (up2 h 31 v1.toNat v2) 79 v1.toNat v2) := by
  obtain ⟨⟨r1, r2, r3, r4, r5, r6, r7, r8⟩, ⟨r9, r10, r11, r12, r13⟩, ⟨r14, r15, r16, r17, r18, r19, r20⟩, ⟨r21, r22, r23, r24, r25, r26⟩, ⟨r27, r28, r29, r30, r31⟩, ⟨r32, r33⟩, ⟨r34, r35, r36, r37, r38, r39, r40, r41, r42, r43, r44, r45⟩, ⟨r46, r47, r48⟩, ⟨r49, r50, r51, r52, r53, r54, r55⟩, ⟨r56, r57, r58, r59, r60, r61, r62, r63, r64, r65⟩, ⟨r66, r67, r68, r69, r70, r71, r72, r73, r74, r75⟩, ⟨r76, r77, r78, r79, r80, r81, r82, r83⟩, ⟨r84, r85, r86, r87, r88, r89⟩, ⟨r90, r91, r92, r93, r94, r95, r96, r97, r98⟩, ⟨r99, r100, r101, r102, r103, r104, r105, r106⟩, ⟨r107, r108, r109, r110, r111, r112, r113⟩, ⟨r114, r115, r116, r117, r118, r119, r120, r121, r122, r123⟩⟩ := hR
  unfold R; simp only [up_p, up_i, up_s, up_f, ne_eq, Nat.reduceEqDiff, not_false_eq_true]; and_intros; all_goals first | exact True.intro | assumption | (apply row_e; assumption) | (apply rgA_f <;> first | assumption | omega) | (apply ends_f <;> first | assumption | omega) | (apply below_f <;> first | assumption | omega) | (apply rgN_f <;> first | assumption | omega) | (apply ends_m <;> first | assumption | omega) | (apply below_m <;> first | assumption | omega) | (apply actR_m <;> first | assumption | omega) | (apply ownT_f <;> first | assumption | omega) | (apply ownT_n <;> first | assumption | omega) | (apply ownT_m <;> first | assumption | omega) | omega | skip
  refine rise_f r85 (fun k hk => ?_) (fun hk => ?_)
  · have := h4 (by omega)
    rw [show (v1 - 1).toNat = k by omega] at this
    exact this
  · have := h5 (by omega)
    rw [show (v1 + 1).toNat = v1.toNat + 1 by omega] at this
    exact this
set_option maxHeartbeats 4000000 in
theorem p_point {d : Nat} {h : HP} {v1 v2 : Int} (hR : R h) : X (d + 6) 82 0 [some (P 0), some (I v1), some (I v2)] [] h (fun r h1 => X (d + 6) 141 0 [some (P 69), some (I v1), some (I v2), none] [] h1 (fun r' h2 => EQA r r' h2)) := by
  have r9 := hR.2.1.1
  by_cases hv : 0 ≤ v1 ∧ v1 < 7
  · have a1 : w32 (v1 + 1) = v1 + 1 := w32_of (by omega) (by omega)
    have a2 : w32 (v1 - 1) = v1 - 1 := w32_of (by omega) (by omega)
    have q1 : h 79 (v1 + 1).toNat = h 31 (v1 + 1).toNat := by rw [r9]
    have q2 : h 79 (v1 - 1).toNat = h 31 (v1 - 1).toNat := by rw [r9]
    refine z82 ?_
    rw [a1, a2]
    repeat' (first | (apply br_i <;> intro _) | apply an_i | apply ne_i | apply or_i | (apply sw_i; intro _) | (show (_ : Int) = _ → _; intro _))
    all_goals try omega
    all_goals (refine z141 ?_; (try simp only [up_p, up_i, up_s, ne_eq, Nat.reduceEqDiff, not_false_eq_true]); rw [a1, a2]; repeat' (first | (apply br_i <;> intro _) | apply an_i | apply ne_i | apply or_i | (apply sw_i; intro _) | (show (_ : Int) = _ → _; intro _)))
    all_goals try exact EQA_ref hR _ _
    all_goals try omega
    all_goals exact ⟨by rw [r9], R_point hR (by omega) (by omega) (by omega) (by omega) (fun _ => by omega) (fun _ => by omega)⟩
  · refine z82 ?_
    refine ⟨fun _ => ?_, fun _ => ⟨fun _ => absurd (And.intro (by omega) (by omega)) hv, fun _ => ?_⟩⟩
    all_goals refine z141 ?_
    · (try simp only [up_p, up_i, up_s, ne_eq, Nat.reduceEqDiff, not_false_eq_true])
      exact ⟨fun _ => EQA_ref hR _ _, fun _ => by omega⟩
    · (try simp only [up_p, up_i, up_s, ne_eq, Nat.reduceEqDiff, not_false_eq_true])
      exact ⟨fun _ => EQA_ref hR _ _, fun _ => ⟨fun _ => EQA_ref hR _ _, fun _ => by omega⟩⟩
