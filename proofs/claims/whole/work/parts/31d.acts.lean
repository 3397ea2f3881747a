/-! pairs: frozen, works -/
set_option maxHeartbeats 4000000 in
theorem frozen_c {d : Nat} {h : HP} {v1 v : Int} (hR : R h) (hz : v = 0 ∨ v = 1) (p0 : 0 ≤ v1) (p1 : v1 < h 17 1) : X (d + 5) 2 0 [some (P 57), some (I 3), some (I v1), some (I v), none] [] h (fun r h' => X (d + 6) 88 41 [some (P 0), some (I v1), some (I v)] [r] h' (fun r h1 => X (d + 6) 154 0 [some (P 69), some (I v1), some (I v)] [] h1 (fun r' h2 => EQA r r' h2))) := by
  obtain ⟨⟨r1, r2, r3, r4, r5, r6, r7, r8⟩, ⟨r9, r10, r11, r12, r13⟩, ⟨r14, r15, r16, r17, r18, r19, r20⟩, ⟨r21, r22, r23, r24, r25, r26⟩, ⟨r27, r28, r29, r30, r31⟩, ⟨r32, r33⟩, ⟨r34, r35, r36, r37, r38, r39, r40, r41, r42, r43, r44, r45⟩, ⟨r46, r47, r48⟩, ⟨r49, r50, r51, r52, r53, r54, r55⟩, ⟨r56, r57, r58, r59, r60, r61, r62, r63, r64, r65⟩, ⟨r66, r67, r68, r69, r70, r71, r72, r73, r74, r75⟩, ⟨r76, r77, r78, r79, r80, r81, r82, r83⟩, ⟨r84, r85, r86, r87, r88, r89⟩, ⟨r90, r91, r92, r93, r94, r95, r96, r97, r98⟩, ⟨r99, r100, r101, r102, r103, r104, r105, r106⟩, ⟨r107, r108, r109, r110, r111, r112, r113⟩, ⟨r114, r115, r116, r117, r118, r119, r120, r121, r122, r123⟩⟩ := id hR
  have z0 : 0 ≤ v := by omega
  have z1 : v ≤ 1 := by omega
  have y := r98 v1.toNat
  by_cases hs : h 21 v1.toNat = v
  · subst hs
    refine tell_n (fun K hK => get_3 p0 (by omega) hK) (b88_41 (br_i (fun _ => ?_) (fun q => absurd rfl q)))
    refine b154_0 (br_i (fun q => absurd q (by omega)) (fun _ => br_i (fun _ => an_i p0 (by omega) (br_i (fun q => absurd (by rw [r20]) q) (fun _ => ?_))) (fun q => absurd (r36 ▸ p1) q)))
    exact ⟨rfl, hR⟩
  · refine tell_c (by omega) (by omega) (fun K hK => get_3 p0 (by omega) hK) hs (put_3 p0 (by omega) (b88_41 (br_i (fun q => absurd q (by decide)) (fun _ => ?_))))
    rw [bo_k (by decide) (by decide) p0 (by omega)]
    generalize hH : up2 (tlH h (16 * 3 + v1) (h 21 v1.toNat) v) 21 v1.toNat v = H1
    have F9 : H1 69 22 = h 17 1 := by rw [← hH, up_p (by decide), tlH_p (by decide) (by decide) (by decide) (by decide)]; exact r36.symm
    have F44 : H1 69 44 = h 57 1 := by rw [← hH, up_p (by decide), tlH_p (by decide) (by decide) (by decide) (by decide)]; exact r42.symm
    have F74 : H1 89 v1.toNat = h 21 v1.toNat := by rw [← hH, up_p (by decide), tlH_p (by decide) (by decide) (by decide) (by decide), r20]
    have G : X (d + 5 + 1) 154 42 [some (P 69), some (I v1), some (I v)] [I v, I v1, I 1, P 69] H1 (fun r' h2 => EQA (I 1) r' h2) := by
      refine b154_42 (act_c (by omega) (by omega) (fun K hK => val_1 p0 (by omega) (by omega) hK) (bec_1 p0 (by omega) hz (b154_45 ?_)))
      refine ⟨rfl, ?_⟩
      rw [F74, ← hH, acM_up (by decide)]
      exact R_frz (R_push hR (Or.inr (Or.inl ⟨v1, p0, by omega, by omega, rfl, rfl, rfl, rfl, y.1, y.2, z0, z1⟩))) z0 z1
    refine b154_0 (br_i (fun q => absurd q (by omega)) (fun _ => br_i (fun _ => an_i p0 (by omega) (br_i (fun _ => br_i (fun q => ?_) (fun q => ?_)) (fun q => absurd (by rw [F74]; exact hs) q))) (fun q => absurd (by omega) q)))
    · subst q; exact G
    · have q1 : v = 1 := by omega
      subst q1; exact G
set_option maxHeartbeats 4000000 in
theorem p_frozen {d : Nat} {h : HP} {v1 v2 : Int} (hR : R h) (hz : v2 = 0 ∨ v2 = 1) : X (d + 6) 88 0 [some (P 0), some (I v1), some (I v2)] [] h (fun r h1 => X (d + 6) 154 0 [some (P 69), some (I v1), some (I v2)] [] h1 (fun r' h2 => EQA r r' h2)) := by
  obtain ⟨⟨r1, r2, r3, r4, r5, r6, r7, r8⟩, ⟨r9, r10, r11, r12, r13⟩, ⟨r14, r15, r16, r17, r18, r19, r20⟩, ⟨r21, r22, r23, r24, r25, r26⟩, ⟨r27, r28, r29, r30, r31⟩, ⟨r32, r33⟩, ⟨r34, r35, r36, r37, r38, r39, r40, r41, r42, r43, r44, r45⟩, ⟨r46, r47, r48⟩, ⟨r49, r50, r51, r52, r53, r54, r55⟩, ⟨r56, r57, r58, r59, r60, r61, r62, r63, r64, r65⟩, ⟨r66, r67, r68, r69, r70, r71, r72, r73, r74, r75⟩, ⟨r76, r77, r78, r79, r80, r81, r82, r83⟩, ⟨r84, r85, r86, r87, r88, r89⟩, ⟨r90, r91, r92, r93, r94, r95, r96, r97, r98⟩, ⟨r99, r100, r101, r102, r103, r104, r105, r106⟩, ⟨r107, r108, r109, r110, r111, r112, r113⟩, ⟨r114, r115, r116, r117, r118, r119, r120, r121, r122, r123⟩⟩ := id hR
  by_cases hp : 0 ≤ v1 ∧ v1 < h 17 1
  · obtain ⟨p0, p1⟩ := hp
    refine z88 (br_i (fun q => absurd q (by omega)) (fun _ => br_i (fun _ => br_i (fun q => ?_) (fun q => ?_)) (fun q => absurd p1 q)))
    · subst q; exact frozen_c hR (Or.inl rfl) p0 p1
    · have q1 : v2 = 1 := by omega
      subst q1; exact frozen_c hR (Or.inr rfl) p0 p1
  · refine z88 ?_
    repeat' (first | (apply br_i <;> intro _) | apply an_i | apply ne_i | apply or_i | (apply sw_i; intro _) | (show (_ : Int) = _ → _; intro _))
    all_goals try (exfalso; omega)
    all_goals (refine b154_0 ?_; (try simp only [up_p, up_i, up_s, ne_eq, Nat.reduceEqDiff, not_false_eq_true]); repeat' (first | (apply br_i <;> intro _) | apply an_i | apply ne_i | apply or_i | (apply sw_i; intro _) | (show (_ : Int) = _ → _; intro _)))
    all_goals try (exfalso; omega)
    all_goals (refine b154_12 (z135 (an_i (by decide) (by decide) (an_i (by decide) (by decide) (b154_17 ?_)))); exact EQA_ref hR _ _)

set_option maxHeartbeats 4000000 in
theorem works_c {d : Nat} {h : HP} {v1 v : Int} (hR : R h) (hz : v = 0 ∨ v = 1) (p0 : 0 ≤ v1) (p1 : v1 < h 22 2) : X (d + 5) 2 0 [some (P 57), some (I 0), some (I v1), some (I v), none] [] h (fun r h' => X (d + 6) 90 41 [some (P 0), some (I v1), some (I v)] [r] h' (fun r h1 => X (d + 6) 156 0 [some (P 69), some (I v1), some (I v)] [] h1 (fun r' h2 => EQA r r' h2))) := by
  obtain ⟨⟨r1, r2, r3, r4, r5, r6, r7, r8⟩, ⟨r9, r10, r11, r12, r13⟩, ⟨r14, r15, r16, r17, r18, r19, r20⟩, ⟨r21, r22, r23, r24, r25, r26⟩, ⟨r27, r28, r29, r30, r31⟩, ⟨r32, r33⟩, ⟨r34, r35, r36, r37, r38, r39, r40, r41, r42, r43, r44, r45⟩, ⟨r46, r47, r48⟩, ⟨r49, r50, r51, r52, r53, r54, r55⟩, ⟨r56, r57, r58, r59, r60, r61, r62, r63, r64, r65⟩, ⟨r66, r67, r68, r69, r70, r71, r72, r73, r74, r75⟩, ⟨r76, r77, r78, r79, r80, r81, r82, r83⟩, ⟨r84, r85, r86, r87, r88, r89⟩, ⟨r90, r91, r92, r93, r94, r95, r96, r97, r98⟩, ⟨r99, r100, r101, r102, r103, r104, r105, r106⟩, ⟨r107, r108, r109, r110, r111, r112, r113⟩, ⟨r114, r115, r116, r117, r118, r119, r120, r121, r122, r123⟩⟩ := id hR
  have z0 : 0 ≤ v := by omega
  have z1 : v ≤ 1 := by omega
  have y := r102 v1.toNat
  by_cases hs : h 25 v1.toNat = v
  · subst hs
    refine tell_n (fun K hK => get_0 p0 (by omega) hK) (b90_41 (br_i (fun _ => ?_) (fun q => absurd rfl q)))
    refine b156_0 (br_i (fun q => absurd q (by omega)) (fun _ => br_i (fun _ => an_i p0 (by omega) (br_i (fun q => absurd (by rw [r23]) q) (fun _ => ?_))) (fun q => absurd (r37 ▸ p1) q)))
    exact ⟨rfl, hR⟩
  · refine tell_c (by omega) (by omega) (fun K hK => get_0 p0 (by omega) hK) hs (put_0 p0 (by omega) (b90_41 (br_i (fun q => absurd q (by decide)) (fun _ => ?_))))
    rw [bo_k (by decide) (by decide) p0 (by omega)]
    generalize hH : up2 (tlH h (16 * 0 + v1) (h 25 v1.toNat) v) 25 v1.toNat v = H1
    have F9 : H1 69 26 = h 22 2 := by rw [← hH, up_p (by decide), tlH_p (by decide) (by decide) (by decide) (by decide)]; exact r37.symm
    have F44 : H1 69 44 = h 57 1 := by rw [← hH, up_p (by decide), tlH_p (by decide) (by decide) (by decide) (by decide)]; exact r42.symm
    have F74 : H1 92 v1.toNat = h 25 v1.toNat := by rw [← hH, up_p (by decide), tlH_p (by decide) (by decide) (by decide) (by decide), r23]
    have G : X (d + 5 + 1) 156 42 [some (P 69), some (I v1), some (I v)] [I v, I v1, I 2, P 69] H1 (fun r' h2 => EQA (I 1) r' h2) := by
      refine b156_42 (act_c (by omega) (by omega) (fun K hK => val_2 p0 (by omega) (by omega) hK) (bec_2 p0 (by omega) hz (b156_45 ?_)))
      refine ⟨rfl, ?_⟩
      rw [F74, ← hH, acM_up (by decide)]
      exact R_wrk (R_push hR (Or.inr (Or.inr (Or.inl ⟨v1, p0, by omega, by omega, rfl, rfl, rfl, rfl, y.1, y.2, z0, z1⟩)))) z0 z1
    refine b156_0 (br_i (fun q => absurd q (by omega)) (fun _ => br_i (fun _ => an_i p0 (by omega) (br_i (fun _ => br_i (fun q => ?_) (fun q => ?_)) (fun q => absurd (by rw [F74]; exact hs) q))) (fun q => absurd (by omega) q)))
    · subst q; exact G
    · have q1 : v = 1 := by omega
      subst q1; exact G
set_option maxHeartbeats 4000000 in
theorem p_works {d : Nat} {h : HP} {v1 v2 : Int} (hR : R h) (hz : v2 = 0 ∨ v2 = 1) : X (d + 6) 90 0 [some (P 0), some (I v1), some (I v2)] [] h (fun r h1 => X (d + 6) 156 0 [some (P 69), some (I v1), some (I v2)] [] h1 (fun r' h2 => EQA r r' h2)) := by
  obtain ⟨⟨r1, r2, r3, r4, r5, r6, r7, r8⟩, ⟨r9, r10, r11, r12, r13⟩, ⟨r14, r15, r16, r17, r18, r19, r20⟩, ⟨r21, r22, r23, r24, r25, r26⟩, ⟨r27, r28, r29, r30, r31⟩, ⟨r32, r33⟩, ⟨r34, r35, r36, r37, r38, r39, r40, r41, r42, r43, r44, r45⟩, ⟨r46, r47, r48⟩, ⟨r49, r50, r51, r52, r53, r54, r55⟩, ⟨r56, r57, r58, r59, r60, r61, r62, r63, r64, r65⟩, ⟨r66, r67, r68, r69, r70, r71, r72, r73, r74, r75⟩, ⟨r76, r77, r78, r79, r80, r81, r82, r83⟩, ⟨r84, r85, r86, r87, r88, r89⟩, ⟨r90, r91, r92, r93, r94, r95, r96, r97, r98⟩, ⟨r99, r100, r101, r102, r103, r104, r105, r106⟩, ⟨r107, r108, r109, r110, r111, r112, r113⟩, ⟨r114, r115, r116, r117, r118, r119, r120, r121, r122, r123⟩⟩ := id hR
  by_cases hp : 0 ≤ v1 ∧ v1 < h 22 2
  · obtain ⟨p0, p1⟩ := hp
    refine z90 (br_i (fun q => absurd q (by omega)) (fun _ => br_i (fun _ => br_i (fun q => ?_) (fun q => ?_)) (fun q => absurd p1 q)))
    · subst q; exact works_c hR (Or.inl rfl) p0 p1
    · have q1 : v2 = 1 := by omega
      subst q1; exact works_c hR (Or.inr rfl) p0 p1
  · refine z90 ?_
    repeat' (first | (apply br_i <;> intro _) | apply an_i | apply ne_i | apply or_i | (apply sw_i; intro _) | (show (_ : Int) = _ → _; intro _))
    all_goals try (exfalso; omega)
    all_goals (refine b156_0 ?_; (try simp only [up_p, up_i, up_s, ne_eq, Nat.reduceEqDiff, not_false_eq_true]); repeat' (first | (apply br_i <;> intro _) | apply an_i | apply ne_i | apply or_i | (apply sw_i; intro _) | (show (_ : Int) = _ → _; intro _)))
    all_goals try (exfalso; omega)
    all_goals (refine b156_12 (z135 (an_i (by decide) (by decide) (an_i (by decide) (by decide) (b156_17 ?_)))); exact EQA_ref hR _ _)
set_option maxHeartbeats 4000000 in
theorem state_h {d : Nat} {h : HP} {v1 v3 : Int} (hR : R h) (p0 : 0 ≤ v1) (p1 : v1 < h 26 2) (w0 : 0 ≤ v3) (w1 : v3 < 4) : X (d + 6) 93 0 [some (P 0), some (I v1), some (I 0), some (I v3), none] [] h (fun r h1 => X (d + 6) 160 0 [some (P 69), some (I v1), some (I 0), some (I v3), none] [] h1 (fun r' h2 => EQA r r' h2)) := by
  obtain ⟨⟨r1, r2, r3, r4, r5, r6, r7, r8⟩, ⟨r9, r10, r11, r12, r13⟩, ⟨r14, r15, r16, r17, r18, r19, r20⟩, ⟨r21, r22, r23, r24, r25, r26⟩, ⟨r27, r28, r29, r30, r31⟩, ⟨r32, r33⟩, ⟨r34, r35, r36, r37, r38, r39, r40, r41, r42, r43, r44, r45⟩, ⟨r46, r47, r48⟩, ⟨r49, r50, r51, r52, r53, r54, r55⟩, ⟨r56, r57, r58, r59, r60, r61, r62, r63, r64, r65⟩, ⟨r66, r67, r68, r69, r70, r71, r72, r73, r74, r75⟩, ⟨r76, r77, r78, r79, r80, r81, r82, r83⟩, ⟨r84, r85, r86, r87, r88, r89⟩, ⟨r90, r91, r92, r93, r94, r95, r96, r97, r98⟩, ⟨r99, r100, r101, r102, r103, r104, r105, r106⟩, ⟨r107, r108, r109, r110, r111, r112, r113⟩, ⟨r114, r115, r116, r117, r118, r119, r120, r121, r122, r123⟩⟩ := id hR
  have y := r106 v1.toNat
  refine b93_0 (br_i (fun _ => b93_28 (z123 (br_i (fun q => absurd q (by omega)) (fun _ => br_i (fun _ => ?_) (fun q => absurd p1 q))))) (fun q => absurd rfl q))
  refine b93_31 (br_i (fun _ => br_i (fun _ => ?_) (fun q => absurd rfl q)) (fun q => absurd rfl q))
  refine b93_68 (z123 (br_i (fun q => absurd q (by omega)) (fun _ => br_i (fun _ => ?_) (fun q => absurd w1 q))))
  refine b93_73 (br_i (fun _ => br_i (fun _ => an_i p0 (by omega) ?_) (fun q => absurd rfl q)) (fun q => absurd rfl q))
  refine b93_114 (br_i (fun _ => ?_) (fun q => absurd rfl q))
  by_cases hs : h 29 v1.toNat = v3
  · subst hs
    refine tell_n (fun K hK => get_1 p0 (by omega) hK) (b93_155 ?_)
    refine b160_0 (br_i (fun _ => z158 (br_i (fun q => absurd q (by omega)) (fun _ => br_i (fun q => absurd q (by omega)) (fun _ => ?_)))) (fun q => absurd rfl q))
    refine b160_20 (br_i (fun _ => b160_29 (br_i (fun _ => ?_) (fun q => absurd rfl q))) (fun q => absurd (by decide) q))
    refine b160_49 (z134 (br_i (fun q => absurd q (by omega)) (fun _ => br_i (fun q => absurd q (by omega)) (fun _ => ?_))))
    refine b160_55 (br_i (fun _ => br_i (fun _ => an_i p0 (by omega) ?_) (fun q => absurd rfl q)) (fun q => absurd (by decide) q))
    refine b160_84 (br_i (fun _ => b160_134 ?_) (fun q => absurd (by rw [r26]) q))
    exact ⟨by rw [r26], hR⟩
  · refine tell_c (by omega) (by omega) (fun K hK => get_1 p0 (by omega) hK) hs (put_1 p0 (by omega) (b93_155 ?_))
    rw [bo_k (by decide) (by decide) p0 (by omega)]
    generalize hH : up2 (tlH h (16 * 1 + v1) (h 29 v1.toNat) v3) 29 v1.toNat v3 = H1
    have F9 : H1 69 30 = h 26 2 := by rw [← hH, up_p (by decide), tlH_p (by decide) (by decide) (by decide) (by decide)]; exact r38.symm
    have F44 : H1 69 44 = h 57 1 := by rw [← hH, up_p (by decide), tlH_p (by decide) (by decide) (by decide) (by decide)]; exact r42.symm
    have F74 : H1 95 v1.toNat = h 29 v1.toNat := by rw [← hH, up_p (by decide), tlH_p (by decide) (by decide) (by decide) (by decide), r26]
    refine b160_0 (br_i (fun _ => z158 (br_i (fun q => absurd q (by omega)) (fun _ => br_i (fun q => absurd q (by omega)) (fun _ => ?_)))) (fun q => absurd rfl q))
    refine b160_20 (br_i (fun _ => b160_29 (br_i (fun _ => ?_) (fun q => absurd rfl q))) (fun q => absurd (by decide) q))
    refine b160_49 (z134 (br_i (fun q => absurd q (by omega)) (fun _ => br_i (fun q => absurd q (by omega)) (fun _ => ?_))))
    refine b160_55 (br_i (fun _ => br_i (fun _ => an_i p0 (by omega) ?_) (fun q => absurd rfl q)) (fun q => absurd (by decide) q))
    refine b160_84 (br_i (fun q => absurd (F74 ▸ q) hs) (fun _ => br_i (fun _ => ?_) (fun q => absurd rfl q)))
    refine b160_102 (br_i (fun _ => b160_131 ?_) (fun q => absurd rfl q))
    refine act_c (by omega) (by omega) (fun K hK => val_3 p0 (by omega) hK) (bec_3 p0 (by omega) (b160_134 ?_))
    refine ⟨by rw [F74], ?_⟩
    rw [F74, ← hH, acM_up (by decide)]
    have hP := R_push (w := 16 * 1 + v1) (b := h 29 v1.toNat) (a := v3) (s := 3) (o := v1) (x := h 29 v1.toNat) (y := v3) hR (Or.inr (Or.inr (Or.inr (Or.inl ⟨v1, p0, by omega, p1, by omega, rfl, rfl, rfl, rfl, y.1, y.2, w0, by omega⟩))))
    refine R_htr hP ?_ w0 (by omega)
    have e26 : acM (tlH h (16 * 1 + v1) (h 29 v1.toNat) v3) 3 v1 (h 29 v1.toNat) v3 26 2 = h 26 2 := by
      unfold acM acP acD acI
      split <;> simp only [up_p, setr_p, ne_eq, Nat.reduceEqDiff, not_false_eq_true] <;> rw [tlH_p (by decide) (by decide) (by decide) (by decide)]
    rw [e26]; omega
set_option maxHeartbeats 4000000 in
theorem state_f {d : Nat} {h : HP} {v1 v3 : Int} (hR : R h) (p0 : 0 ≤ v1) (p1 : v1 < h 2 0) (hf : ¬ h 8 v1.toNat = -9) (w0 : 0 ≤ v3) (w1 : v3 < 4) : X (d + 6) 93 0 [some (P 0), some (I v1), some (I 1), some (I v3), none] [] h (fun r h1 => X (d + 6) 160 0 [some (P 69), some (I v1), some (I 1), some (I v3), none] [] h1 (fun r' h2 => EQA r r' h2)) := by
  obtain ⟨⟨r1, r2, r3, r4, r5, r6, r7, r8⟩, ⟨r9, r10, r11, r12, r13⟩, ⟨r14, r15, r16, r17, r18, r19, r20⟩, ⟨r21, r22, r23, r24, r25, r26⟩, ⟨r27, r28, r29, r30, r31⟩, ⟨r32, r33⟩, ⟨r34, r35, r36, r37, r38, r39, r40, r41, r42, r43, r44, r45⟩, ⟨r46, r47, r48⟩, ⟨r49, r50, r51, r52, r53, r54, r55⟩, ⟨r56, r57, r58, r59, r60, r61, r62, r63, r64, r65⟩, ⟨r66, r67, r68, r69, r70, r71, r72, r73, r74, r75⟩, ⟨r76, r77, r78, r79, r80, r81, r82, r83⟩, ⟨r84, r85, r86, r87, r88, r89⟩, ⟨r90, r91, r92, r93, r94, r95, r96, r97, r98⟩, ⟨r99, r100, r101, r102, r103, r104, r105, r106⟩, ⟨r107, r108, r109, r110, r111, r112, r113⟩, ⟨r114, r115, r116, r117, r118, r119, r120, r121, r122, r123⟩⟩ := id hR
  have y := r81 v1.toNat
  obtain ⟨f0, f3, g0, g2, fg, ug⟩ : 0 ≤ h 8 v1.toNat ∧ h 8 v1.toNat ≤ 3 ∧ 0 ≤ h 9 v1.toNat ∧ h 9 v1.toNat ≤ 2 ∧ (h 8 v1.toNat ≤ 2 → h 9 v1.toNat = h 8 v1.toNat) ∧ h 76 v1.toNat = h 9 v1.toNat := by
    rcases y with ⟨q, -⟩ | ⟨⟨a, b⟩, ⟨c, e⟩, g, u⟩
    · exact absurd q hf
    · exact ⟨a, b, c, e, g, u⟩
  generalize hn : (if v3 = 3 then h 9 v1.toNat else v3) = gn
  have n0 : 0 ≤ gn ∧ gn ≤ 2 ∧ (v3 ≤ 2 → gn = v3) := by
    rw [← hn]; split <;> omega
  refine b93_0 (br_i (fun q => absurd q (by decide)) (fun _ => b93_28 (z123 (br_i (fun q => absurd q (by omega)) (fun _ => br_i (fun _ => ?_) (fun q => absurd p1 q))))))
  refine b93_31 (br_i (fun _ => br_i (fun q => absurd q (by decide)) (fun _ => an_i p0 (by omega) (br_i (fun _ => ?_) (fun q => absurd hf q)))) (fun q => absurd rfl q))
  refine b93_68 (z123 (br_i (fun q => absurd q (by omega)) (fun _ => br_i (fun _ => ?_) (fun q => absurd w1 q))))
  refine b93_73 (br_i (fun _ => br_i (fun q => absurd q (by decide)) (fun _ => an_i p0 (by omega) ?_)) (fun q => absurd rfl q))
  refine b93_114 (br_i (fun q => absurd q (by decide)) (fun _ => ?_))
  have G : X (d + 5) 2 0 [some (P 57), some (I 2), some (I v1), some (I (v3 + 4 * gn)), none] [] h (fun r h' => X (d + 6) 93 141 [some (P 0), some (I v1), some (I 1), some (I v3), some (I (h 8 v1.toNat))] [r] h' (fun r h1 => X (d + 6) 160 0 [some (P 69), some (I v1), some (I 1), some (I v3), none] [] h1 (fun r' h2 => EQA r r' h2))) := by
    by_cases hs : h 8 v1.toNat = v3
    · have e : gn = h 9 v1.toNat := by
        rw [← hn]; split
        · rfl
        · rw [← hs]; exact (fg (by omega)).symm
      have e' : v3 + 4 * gn = h 8 v1.toNat + 4 * h 9 v1.toNat := by omega
      rw [e']
      refine tell_n (fun K hK => get_2 p0 (by omega) rfl rfl f0 f3 g0 g2 fg hK) (b93_141 ?_)
      refine b160_0 (br_i (fun q => absurd q (by decide)) (fun _ => z136 (br_i (fun q => absurd q (by omega)) (fun _ => br_i (fun q => absurd q (by omega)) (fun _ => ?_)))))
      refine b160_9 (br_i (fun _ => b160_29 (br_i (fun q => absurd q (by decide)) (fun _ => an_i p0 (by omega) (br_i (fun _ => ?_) (fun q => absurd (by rw [← r6]; exact f0) q))))) (fun q => absurd (by decide) q))
      refine b160_49 (z134 (br_i (fun q => absurd q (by omega)) (fun _ => br_i (fun q => absurd q (by omega)) (fun _ => ?_))))
      refine b160_55 (br_i (fun _ => br_i (fun q => absurd q (by decide)) (fun _ => an_i p0 (by omega) ?_)) (fun q => absurd (by decide) q))
      refine b160_84 (br_i (fun _ => b160_134 ?_) (fun q => absurd (by rw [← r6]; exact hs) q))
      exact ⟨by rw [r6], hR⟩
    · refine tell_c (s := h 8 v1.toNat + 4 * h 9 v1.toNat) (by omega) (by omega) (fun K hK => get_2 p0 (by omega) rfl rfl f0 f3 g0 g2 fg hK) (by omega) (put_2 p0 (by omega) w0 (by omega) n0.1 n0.2.1 (b93_141 ?_))
      rw [bo_k (by decide) (by decide) p0 (by omega)]
      generalize hH : up2 (up2 (tlH h (16 * 2 + v1) (h 8 v1.toNat + 4 * h 9 v1.toNat) (v3 + 4 * gn)) 8 v1.toNat v3) 9 v1.toNat gn = H1
      have F9 : H1 69 9 = h 2 0 := by rw [← hH, up_p (by decide), up_p (by decide), tlH_p (by decide) (by decide) (by decide) (by decide)]; exact r34.symm
      have F44 : H1 69 44 = h 57 1 := by rw [← hH, up_p (by decide), up_p (by decide), tlH_p (by decide) (by decide) (by decide) (by decide)]; exact r42.symm
      have F75 : H1 75 v1.toNat = h 8 v1.toNat := by rw [← hH, up_p (by decide), up_p (by decide), tlH_p (by decide) (by decide) (by decide) (by decide), r6]
      have F76 : H1 76 v1.toNat = h 9 v1.toNat := by rw [← hH, up_p (by decide), up_p (by decide), tlH_p (by decide) (by decide) (by decide) (by decide), ug]
      refine b160_0 (br_i (fun q => absurd q (by decide)) (fun _ => z136 (br_i (fun q => absurd q (by omega)) (fun _ => br_i (fun q => absurd q (by omega)) (fun _ => ?_)))))
      refine b160_9 (br_i (fun _ => b160_29 (br_i (fun q => absurd q (by decide)) (fun _ => an_i p0 (by omega) (br_i (fun _ => ?_) (fun q => absurd (by rw [F75]; exact f0) q))))) (fun q => absurd (by decide) q))
      refine b160_49 (z134 (br_i (fun q => absurd q (by omega)) (fun _ => br_i (fun q => absurd q (by omega)) (fun _ => ?_))))
      refine b160_55 (br_i (fun _ => br_i (fun q => absurd q (by decide)) (fun _ => an_i p0 (by omega) ?_)) (fun q => absurd (by decide) q))
      refine b160_84 (br_i (fun q => absurd (F75 ▸ q) hs) (fun _ => br_i (fun q => absurd q (by decide)) (fun _ => ?_)))
      have G2 : X (d + 6) 160 131 [some (P 69), some (I v1), some (I 1), some (I v3), some (I (H1 75 v1.toNat))] [I (10 * gn + v3), I v1, I 4, P 69] H1 (fun r' h2 => EQA (I (h 8 v1.toNat)) r' h2) := by
        refine b160_131 (act_c (x := 10 * h 9 v1.toNat + h 8 v1.toNat) (by omega) (by omega) (fun K hK => val_4 p0 (by omega) F75 F76 f0 f3 g0 g2 hK) (bec_4 p0 (by omega) w0 (by omega) n0.1 n0.2.1 (b160_134 ?_)))
        refine ⟨by rw [F75], ?_⟩
        rw [← hH, acM_up (by decide), acM_up (by decide)]
        have hP := R_push (w := 16 * 2 + v1) (b := h 8 v1.toNat + 4 * h 9 v1.toNat) (a := v3 + 4 * gn) (s := 4) (o := v1) (x := 10 * h 9 v1.toNat + h 8 v1.toNat) (y := 10 * gn + v3) hR (Or.inr (Or.inr (Or.inr (Or.inr ⟨v1, h 8 v1.toNat, h 9 v1.toNat, v3, gn, p0, by omega, by omega, rfl, rfl, ⟨f0, f3, g0, g2, fg⟩, ⟨w0, by omega, n0.1, n0.2.1, n0.2.2⟩, rfl, rfl, rfl, rfl⟩))))
        exact R_flp hP w0 (by omega) n0.1 n0.2.1 n0.2.2
      refine b160_102 (br_i (fun q => absurd q (by decide)) (fun _ => br_i (fun q => an_i p0 (by omega) (b160_124 ?_)) (fun q => b160_124 ?_)))
      · have e3 : v3 = 3 := by omega
        have e4 : gn = h 9 v1.toNat := by rw [← hn, if_pos e3]
        have e5 : w32 (w32 (10 * H1 76 v1.toNat) + v3) = 10 * gn + v3 := by
          rw [F76, ← e4, w32_of (x := 10 * gn) (by omega) (by omega), w32_of (by omega) (by omega)]
        rw [e5]; exact G2
      · have e4 : gn = v3 := by rw [← hn, if_neg (by omega)]
        have e5 : w32 (w32 (10 * v3) + v3) = 10 * gn + v3 := by
          rw [e4, w32_of (x := 10 * v3) (by omega) (by omega), w32_of (by omega) (by omega)]
        rw [e5]; exact G2
  refine b22_0 (br_i (fun q => b93_138 ?_) (fun q => an_i p0 (by omega) (b93_138 ?_)))
  · have e4 : gn = v3 := by rw [← hn, if_neg q]
    rw [fc_of w0 (by omega) w0 (by omega)]
    rw [e4] at G; exact G
  · have e3 : v3 = 3 := by omega
    have e4 : gn = h 9 v1.toNat := by rw [← hn, if_pos e3]
    rw [fc_of w0 (by omega) g0 g2]
    rw [e4] at G; exact G
set_option maxHeartbeats 4000000 in
theorem p_state {d : Nat} {h : HP} {v1 v2 v3 : Int} (hR : R h) (hz : v2 = 0 ∨ v2 = 1) : X (d + 6) 93 0 [some (P 0), some (I v1), some (I v2), some (I v3), none] [] h (fun r h1 => X (d + 6) 160 0 [some (P 69), some (I v1), some (I v2), some (I v3), none] [] h1 (fun r' h2 => EQA r r' h2)) := by
  obtain ⟨⟨r1, r2, r3, r4, r5, r6, r7, r8⟩, ⟨r9, r10, r11, r12, r13⟩, ⟨r14, r15, r16, r17, r18, r19, r20⟩, ⟨r21, r22, r23, r24, r25, r26⟩, ⟨r27, r28, r29, r30, r31⟩, ⟨r32, r33⟩, ⟨r34, r35, r36, r37, r38, r39, r40, r41, r42, r43, r44, r45⟩, ⟨r46, r47, r48⟩, ⟨r49, r50, r51, r52, r53, r54, r55⟩, ⟨r56, r57, r58, r59, r60, r61, r62, r63, r64, r65⟩, ⟨r66, r67, r68, r69, r70, r71, r72, r73, r74, r75⟩, ⟨r76, r77, r78, r79, r80, r81, r82, r83⟩, ⟨r84, r85, r86, r87, r88, r89⟩, ⟨r90, r91, r92, r93, r94, r95, r96, r97, r98⟩, ⟨r99, r100, r101, r102, r103, r104, r105, r106⟩, ⟨r107, r108, r109, r110, r111, r112, r113⟩, ⟨r114, r115, r116, r117, r118, r119, r120, r121, r122, r123⟩⟩ := id hR
  rcases hz with rfl | rfl
  · by_cases hp : 0 ≤ v1 ∧ v1 < h 26 2
    · by_cases hv : 0 ≤ v3 ∧ v3 < 4
      · exact state_h hR hp.1 hp.2 hv.1 hv.2
      · obtain ⟨p0, p1⟩ := hp
        refine b93_0 (br_i (fun _ => b93_28 (z123 (br_i (fun q => absurd q (by omega)) (fun _ => br_i (fun _ => ?_) (fun q => absurd p1 q))))) (fun q => absurd rfl q))
        refine b93_31 (br_i (fun _ => br_i (fun _ => ?_) (fun q => absurd rfl q)) (fun q => absurd rfl q))
        refine b93_68 (z123 ?_)
        repeat' (first | (apply br_i <;> intro _) | apply an_i | apply ne_i | apply or_i | (apply sw_i; intro _) | (show (_ : Int) = _ → _; intro _))
        all_goals try (exfalso; omega)
        all_goals
          refine b93_73 (br_i (fun q => absurd q (by decide)) (fun _ => z121 (an_i (by decide) (by decide) (an_i (by decide) (by decide) (b93_82 ?_)))))
          refine b160_0 (br_i (fun _ => z158 (br_i (fun q => absurd q (by omega)) (fun _ => br_i (fun q => absurd (show h 69 30 ≤ v1 from q) (by omega)) (fun _ => ?_)))) (fun q => absurd rfl q))
          refine b160_20 (br_i (fun _ => b160_29 (br_i (fun _ => ?_) (fun q => absurd rfl q))) (fun q => absurd (by decide) q))
          refine b160_49 (z134 ?_)
          repeat' (first | (apply br_i <;> intro _) | apply an_i | apply ne_i | apply or_i | (apply sw_i; intro _) | (show (_ : Int) = _ → _; intro _))
          all_goals try (exfalso; omega)
          all_goals refine b160_55 (br_i (fun q => absurd rfl q) (fun _ => z135 (an_i (by decide) (by decide) (an_i (by decide) (by decide) (b160_64 ?_)))))
          all_goals exact EQA_ref hR _ _
    · refine b93_0 (br_i (fun _ => b93_28 (z123 ?_)) (fun q => absurd rfl q))
      repeat' (first | (apply br_i <;> intro _) | apply an_i | apply ne_i | apply or_i | (apply sw_i; intro _) | (show (_ : Int) = _ → _; intro _))
      all_goals try (exfalso; omega)
      all_goals
        refine b93_31 (br_i (fun q => absurd q (by decide)) (fun _ => z121 (an_i (by decide) (by decide) (an_i (by decide) (by decide) (b93_39 ?_)))))
        refine b160_0 (br_i (fun _ => z158 ?_) (fun q => absurd rfl q))
        (try simp only [up_p, up_i, up_s, ne_eq, Nat.reduceEqDiff, not_false_eq_true])
        repeat' (first | (apply br_i <;> intro _) | apply an_i | apply ne_i | apply or_i | (apply sw_i; intro _) | (show (_ : Int) = _ → _; intro _))
        all_goals try (exfalso; omega)
        all_goals refine b160_20 (br_i (fun q => absurd rfl q) (fun _ => b160_23 (z135 (an_i (by decide) (by decide) (an_i (by decide) (by decide) (b160_28 ?_))))))
        all_goals exact EQA_ref hR _ _
  · by_cases hp : 0 ≤ v1 ∧ v1 < h 2 0
    · obtain ⟨p0, p1⟩ := hp
      by_cases hf : h 8 v1.toNat = -9
      · refine b93_0 (br_i (fun q => absurd q (by decide)) (fun _ => b93_28 (z123 (br_i (fun q => absurd q (by omega)) (fun _ => br_i (fun _ => ?_) (fun q => absurd p1 q))))))
        refine b93_31 (br_i (fun _ => br_i (fun q => absurd q (by decide)) (fun _ => an_i p0 (by omega) (br_i (fun q => absurd hf q) (fun _ => z121 (an_i (by decide) (by decide) (an_i (by decide) (by decide) (b93_67 ?_))))))) (fun q => absurd rfl q))
        refine b160_0 (br_i (fun q => absurd q (by decide)) (fun _ => z136 (br_i (fun q => absurd q (by omega)) (fun _ => br_i (fun q => absurd (show h 69 9 ≤ v1 from q) (by omega)) (fun _ => ?_)))))
        refine b160_9 (br_i (fun _ => b160_29 (br_i (fun q => absurd q (by decide)) (fun _ => an_i p0 (by omega) (br_i (fun q => absurd (show 0 ≤ h 75 v1.toNat from q) (by rw [← r6]; omega)) (fun _ => z135 (an_i (by decide) (by decide) (an_i (by decide) (by decide) (b160_48 ?_)))))))) (fun q => absurd (by decide) q))
        exact EQA_ref hR _ _
      · by_cases hv : 0 ≤ v3 ∧ v3 < 4
        · exact state_f hR p0 p1 hf hv.1 hv.2
        · have f0 : 0 ≤ h 75 v1.toNat := by
            rw [← r6]
            rcases r81 v1.toNat with ⟨q, -⟩ | ⟨⟨a, b⟩, -⟩
            · exact absurd q hf
            · exact a
          refine b93_0 (br_i (fun q => absurd q (by decide)) (fun _ => b93_28 (z123 (br_i (fun q => absurd q (by omega)) (fun _ => br_i (fun _ => ?_) (fun q => absurd p1 q))))))
          refine b93_31 (br_i (fun _ => br_i (fun q => absurd q (by decide)) (fun _ => an_i p0 (by omega) (br_i (fun _ => ?_) (fun q => absurd hf q)))) (fun q => absurd rfl q))
          refine b93_68 (z123 ?_)
          repeat' (first | (apply br_i <;> intro _) | apply an_i | apply ne_i | apply or_i | (apply sw_i; intro _) | (show (_ : Int) = _ → _; intro _))
          all_goals try (exfalso; omega)
          all_goals
            refine b93_73 (br_i (fun q => absurd q (by decide)) (fun _ => z121 (an_i (by decide) (by decide) (an_i (by decide) (by decide) (b93_82 ?_)))))
            refine b160_0 (br_i (fun q => absurd q (by decide)) (fun _ => z136 (br_i (fun q => absurd q (by omega)) (fun _ => br_i (fun q => absurd (show h 69 9 ≤ v1 from q) (by omega)) (fun _ => ?_)))))
            refine b160_9 (br_i (fun _ => b160_29 (br_i (fun q => absurd q (by decide)) (fun _ => an_i p0 (by omega) (br_i (fun _ => ?_) (fun q => absurd f0 q))))) (fun q => absurd (by decide) q))
            refine b160_49 (z134 ?_)
            repeat' (first | (apply br_i <;> intro _) | apply an_i | apply ne_i | apply or_i | (apply sw_i; intro _) | (show (_ : Int) = _ → _; intro _))
            all_goals try (exfalso; omega)
            all_goals refine b160_55 (br_i (fun q => absurd rfl q) (fun _ => z135 (an_i (by decide) (by decide) (an_i (by decide) (by decide) (b160_64 ?_)))))
            all_goals exact EQA_ref hR _ _
    · refine b93_0 (br_i (fun q => absurd q (by decide)) (fun _ => b93_28 (z123 ?_)))
      repeat' (first | (apply br_i <;> intro _) | apply an_i | apply ne_i | apply or_i | (apply sw_i; intro _) | (show (_ : Int) = _ → _; intro _))
      all_goals try (exfalso; omega)
      all_goals
        refine b93_31 (br_i (fun q => absurd q (by decide)) (fun _ => z121 (an_i (by decide) (by decide) (an_i (by decide) (by decide) (b93_39 ?_)))))
        refine b160_0 (br_i (fun q => absurd q (by decide)) (fun _ => z136 ?_))
        (try simp only [up_p, up_i, up_s, ne_eq, Nat.reduceEqDiff, not_false_eq_true])
        repeat' (first | (apply br_i <;> intro _) | apply an_i | apply ne_i | apply or_i | (apply sw_i; intro _) | (show (_ : Int) = _ → _; intro _))
        all_goals try (exfalso; omega)
        all_goals refine b160_9 (br_i (fun q => absurd rfl q) (fun _ => b160_23 (z135 (an_i (by decide) (by decide) (an_i (by decide) (by decide) (b160_28 ?_))))))
        all_goals exact EQA_ref hR _ _
