/-! pairs: redo, face, frozen, works, state -/
theorem up_c {h : HP} {p q i j : Nat} {v w : Int} (hpq : p ≠ q) : up2 (up2 h p i v) q j w = up2 (up2 h q j w) p i v := by
  funext a b; simp only [up2]
  by_cases e : a = p
  · have e2 : a ≠ q := fun e2 => hpq (e ▸ e2)
    simp [e, hpq]
  · simp [e]
theorem acP_up {H : HP} {p i : Nat} {v s o x y : Int} (hp : p < 69) : acP (up2 H p i v) s o x y = up2 (acP H s o x y) p i v := by
  unfold acP
  rw [up_p (show 69 ≠ p by omega), up_c (q := 98) (by omega), up_c (q := 99) (by omega), up_c (q := 100) (by omega), up_c (q := 101) (by omega), up_c (p := p) (q := 69) (by omega), up_c (p := p) (q := 69) (by omega)]
theorem acD_up {H : HP} {p i : Nat} {v : Int} (hp : p < 69) : acD (up2 H p i v) = up2 (acD H) p i v := by
  unfold acD acI
  rw [up_p (show 98 ≠ p by omega), up_p (show 99 ≠ p by omega), up_p (show 100 ≠ p by omega), up_p (show 101 ≠ p by omega), ← up_setc (p := 98) (by omega), ← up_setc (p := 99) (by omega), ← up_setc (p := 100) (by omega), ← up_setc (p := 101) (by omega), up_c (p := p) (q := 69) (by omega)]
theorem acM_up {H : HP} {p i : Nat} {v s o x y : Int} (hp : p < 69) : acM (up2 H p i v) s o x y = up2 (acM H s o x y) p i v := by
  unfold acM
  rw [up_p (show 69 ≠ p by omega)]
  split
  · rw [acD_up hp, acP_up hp]
  · rw [acP_up hp]
set_option maxHeartbeats 4000000 in
theorem R_face {h : HP} {k : Nat} {v : Int} (hR : R h) (h0 : 0 ≤ v) (h2 : v ≤ 2) : R (up2 (up2 h 6 k v) 74 k v) := by
  obtain ⟨⟨r1, r2, r3, r4, r5, r6, r7, r8⟩, ⟨r9, r10, r11, r12, r13⟩, ⟨r14, r15, r16, r17, r18, r19, r20⟩, ⟨r21, r22, r23, r24, r25, r26⟩, ⟨r27, r28, r29, r30, r31⟩, ⟨r32, r33⟩, ⟨r34, r35, r36, r37, r38, r39, r40, r41, r42, r43, r44, r45⟩, ⟨r46, r47, r48⟩, ⟨r49, r50, r51, r52, r53, r54, r55⟩, ⟨r56, r57, r58, r59, r60, r61, r62, r63, r64, r65⟩, ⟨r66, r67, r68, r69, r70, r71, r72, r73, r74, r75⟩, ⟨r76, r77, r78, r79, r80, r81, r82, r83⟩, ⟨r84, r85, r86, r87, r88, r89⟩, ⟨r90, r91, r92, r93, r94, r95, r96, r97, r98⟩, ⟨r99, r100, r101, r102, r103, r104, r105, r106⟩, ⟨r107, r108, r109, r110, r111, r112, r113⟩, ⟨r114, r115, r116, r117, r118, r119, r120, r121, r122, r123⟩⟩ := id hR
  unfold R; simp only [up_p, up_i, up_s, up_f, ne_eq, Nat.reduceEqDiff, not_false_eq_true]; and_intros; all_goals first | exact True.intro | assumption | (apply row_e; assumption) | (apply rgA_f <;> first | assumption | omega) | (apply ends_f <;> first | assumption | omega) | (apply below_f <;> first | assumption | omega) | (apply rgN_f <;> first | assumption | omega) | (apply ends_m <;> first | assumption | omega) | (apply below_m <;> first | assumption | omega) | (apply actR_m <;> first | assumption | omega) | (apply ownT_f <;> first | assumption | omega) | (apply ownT_n <;> first | assumption | omega) | (apply ownT_m <;> first | assumption | omega) | omega
set_option maxHeartbeats 4000000 in
theorem R_frz {h : HP} {k : Nat} {v : Int} (hR : R h) (h0 : 0 ≤ v) (h2 : v ≤ 1) : R (up2 (up2 h 21 k v) 89 k v) := by
  obtain ⟨⟨r1, r2, r3, r4, r5, r6, r7, r8⟩, ⟨r9, r10, r11, r12, r13⟩, ⟨r14, r15, r16, r17, r18, r19, r20⟩, ⟨r21, r22, r23, r24, r25, r26⟩, ⟨r27, r28, r29, r30, r31⟩, ⟨r32, r33⟩, ⟨r34, r35, r36, r37, r38, r39, r40, r41, r42, r43, r44, r45⟩, ⟨r46, r47, r48⟩, ⟨r49, r50, r51, r52, r53, r54, r55⟩, ⟨r56, r57, r58, r59, r60, r61, r62, r63, r64, r65⟩, ⟨r66, r67, r68, r69, r70, r71, r72, r73, r74, r75⟩, ⟨r76, r77, r78, r79, r80, r81, r82, r83⟩, ⟨r84, r85, r86, r87, r88, r89⟩, ⟨r90, r91, r92, r93, r94, r95, r96, r97, r98⟩, ⟨r99, r100, r101, r102, r103, r104, r105, r106⟩, ⟨r107, r108, r109, r110, r111, r112, r113⟩, ⟨r114, r115, r116, r117, r118, r119, r120, r121, r122, r123⟩⟩ := id hR
  unfold R; simp only [up_p, up_i, up_s, up_f, ne_eq, Nat.reduceEqDiff, not_false_eq_true]; and_intros; all_goals first | exact True.intro | assumption | (apply row_e; assumption) | (apply rgA_f <;> first | assumption | omega) | (apply ends_f <;> first | assumption | omega) | (apply below_f <;> first | assumption | omega) | (apply rgN_f <;> first | assumption | omega) | (apply ends_m <;> first | assumption | omega) | (apply below_m <;> first | assumption | omega) | (apply actR_m <;> first | assumption | omega) | (apply ownT_f <;> first | assumption | omega) | (apply ownT_n <;> first | assumption | omega) | (apply ownT_m <;> first | assumption | omega) | omega
set_option maxHeartbeats 4000000 in
theorem R_wrk {h : HP} {k : Nat} {v : Int} (hR : R h) (h0 : 0 ≤ v) (h2 : v ≤ 1) : R (up2 (up2 h 25 k v) 92 k v) := by
  obtain ⟨⟨r1, r2, r3, r4, r5, r6, r7, r8⟩, ⟨r9, r10, r11, r12, r13⟩, ⟨r14, r15, r16, r17, r18, r19, r20⟩, ⟨r21, r22, r23, r24, r25, r26⟩, ⟨r27, r28, r29, r30, r31⟩, ⟨r32, r33⟩, ⟨r34, r35, r36, r37, r38, r39, r40, r41, r42, r43, r44, r45⟩, ⟨r46, r47, r48⟩, ⟨r49, r50, r51, r52, r53, r54, r55⟩, ⟨r56, r57, r58, r59, r60, r61, r62, r63, r64, r65⟩, ⟨r66, r67, r68, r69, r70, r71, r72, r73, r74, r75⟩, ⟨r76, r77, r78, r79, r80, r81, r82, r83⟩, ⟨r84, r85, r86, r87, r88, r89⟩, ⟨r90, r91, r92, r93, r94, r95, r96, r97, r98⟩, ⟨r99, r100, r101, r102, r103, r104, r105, r106⟩, ⟨r107, r108, r109, r110, r111, r112, r113⟩, ⟨r114, r115, r116, r117, r118, r119, r120, r121, r122, r123⟩⟩ := id hR
  unfold R; simp only [up_p, up_i, up_s, up_f, ne_eq, Nat.reduceEqDiff, not_false_eq_true]; and_intros; all_goals first | exact True.intro | assumption | (apply row_e; assumption) | (apply rgA_f <;> first | assumption | omega) | (apply ends_f <;> first | assumption | omega) | (apply below_f <;> first | assumption | omega) | (apply rgN_f <;> first | assumption | omega) | (apply ends_m <;> first | assumption | omega) | (apply below_m <;> first | assumption | omega) | (apply actR_m <;> first | assumption | omega) | (apply ownT_f <;> first | assumption | omega) | (apply ownT_n <;> first | assumption | omega) | (apply ownT_m <;> first | assumption | omega) | omega
set_option maxHeartbeats 4000000 in
theorem R_htr {h : HP} {k : Nat} {v : Int} (hR : R h) (hk : (k : Int) < h 26 2) (h0 : 0 ≤ v) (h2 : v ≤ 3) : R (up2 (up2 h 29 k v) 95 k v) := by
  obtain ⟨⟨r1, r2, r3, r4, r5, r6, r7, r8⟩, ⟨r9, r10, r11, r12, r13⟩, ⟨r14, r15, r16, r17, r18, r19, r20⟩, ⟨r21, r22, r23, r24, r25, r26⟩, ⟨r27, r28, r29, r30, r31⟩, ⟨r32, r33⟩, ⟨r34, r35, r36, r37, r38, r39, r40, r41, r42, r43, r44, r45⟩, ⟨r46, r47, r48⟩, ⟨r49, r50, r51, r52, r53, r54, r55⟩, ⟨r56, r57, r58, r59, r60, r61, r62, r63, r64, r65⟩, ⟨r66, r67, r68, r69, r70, r71, r72, r73, r74, r75⟩, ⟨r76, r77, r78, r79, r80, r81, r82, r83⟩, ⟨r84, r85, r86, r87, r88, r89⟩, ⟨r90, r91, r92, r93, r94, r95, r96, r97, r98⟩, ⟨r99, r100, r101, r102, r103, r104, r105, r106⟩, ⟨r107, r108, r109, r110, r111, r112, r113⟩, ⟨r114, r115, r116, r117, r118, r119, r120, r121, r122, r123⟩⟩ := id hR
  unfold R; simp only [up_p, up_i, up_s, up_f, ne_eq, Nat.reduceEqDiff, not_false_eq_true]; and_intros; all_goals first | exact True.intro | assumption | (apply row_e; assumption) | (apply rgA_f <;> first | assumption | omega) | (apply ends_f <;> first | assumption | omega) | (apply below_f <;> first | assumption | omega) | (apply rgN_f <;> first | assumption | omega) | (apply ends_m <;> first | assumption | omega) | (apply below_m <;> first | assumption | omega) | (apply actR_m <;> first | assumption | omega) | (apply ownT_f <;> first | assumption | omega) | (apply ownT_n <;> first | assumption | omega) | (apply ownT_m <;> first | assumption | omega) | omega | skip
  exact zeroT_f r121 hk
set_option maxHeartbeats 4000000 in
theorem R_flp {h : HP} {k : Nat} {f g : Int} (hR : R h) (f0 : 0 ≤ f) (f3 : f ≤ 3) (g0 : 0 ≤ g) (g2 : g ≤ 2) (fg : f ≤ 2 → g = f) : R (up2 (up2 (up2 (up2 h 8 k f) 9 k g) 76 k g) 75 k f) := by
  obtain ⟨⟨r1, r2, r3, r4, r5, r6, r7, r8⟩, ⟨r9, r10, r11, r12, r13⟩, ⟨r14, r15, r16, r17, r18, r19, r20⟩, ⟨r21, r22, r23, r24, r25, r26⟩, ⟨r27, r28, r29, r30, r31⟩, ⟨r32, r33⟩, ⟨r34, r35, r36, r37, r38, r39, r40, r41, r42, r43, r44, r45⟩, ⟨r46, r47, r48⟩, ⟨r49, r50, r51, r52, r53, r54, r55⟩, ⟨r56, r57, r58, r59, r60, r61, r62, r63, r64, r65⟩, ⟨r66, r67, r68, r69, r70, r71, r72, r73, r74, r75⟩, ⟨r76, r77, r78, r79, r80, r81, r82, r83⟩, ⟨r84, r85, r86, r87, r88, r89⟩, ⟨r90, r91, r92, r93, r94, r95, r96, r97, r98⟩, ⟨r99, r100, r101, r102, r103, r104, r105, r106⟩, ⟨r107, r108, r109, r110, r111, r112, r113⟩, ⟨r114, r115, r116, r117, r118, r119, r120, r121, r122, r123⟩⟩ := id hR
  unfold R; simp only [up_p, up_i, up_s, up_f, ne_eq, Nat.reduceEqDiff, not_false_eq_true]; and_intros; all_goals first | exact True.intro | assumption | (apply row_e; assumption) | (apply rgA_f <;> first | assumption | omega) | (apply ends_f <;> first | assumption | omega) | (apply below_f <;> first | assumption | omega) | (apply rgN_f <;> first | assumption | omega) | (apply ends_m <;> first | assumption | omega) | (apply below_m <;> first | assumption | omega) | (apply actR_m <;> first | assumption | omega) | (apply ownT_f <;> first | assumption | omega) | (apply ownT_n <;> first | assumption | omega) | (apply ownT_m <;> first | assumption | omega) | omega | skip
  exact flp_f r81 f0 f3 g0 g2 fg
set_option maxHeartbeats 4000000 in
theorem p_redo {d : Nat} {h : HP} (hR : R h) : X (d + 6) 119 0 [some (P 0)] [] h (fun r h1 => X (d + 6) 149 0 [some (P 69)] [] h1 (fun r' h2 => EQA r r' h2)) := by
  obtain ⟨⟨r1, r2, r3, r4, r5, r6, r7, r8⟩, ⟨r9, r10, r11, r12, r13⟩, ⟨r14, r15, r16, r17, r18, r19, r20⟩, ⟨r21, r22, r23, r24, r25, r26⟩, ⟨r27, r28, r29, r30, r31⟩, ⟨r32, r33⟩, ⟨r34, r35, r36, r37, r38, r39, r40, r41, r42, r43, r44, r45⟩, ⟨r46, r47, r48⟩, ⟨r49, r50, r51, r52, r53, r54, r55⟩, ⟨r56, r57, r58, r59, r60, r61, r62, r63, r64, r65⟩, ⟨r66, r67, r68, r69, r70, r71, r72, r73, r74, r75⟩, ⟨r76, r77, r78, r79, r80, r81, r82, r83⟩, ⟨r84, r85, r86, r87, r88, r89⟩, ⟨r90, r91, r92, r93, r94, r95, r96, r97, r98⟩, ⟨r99, r100, r101, r102, r103, r104, r105, r106⟩, ⟨r107, r108, r109, r110, r111, r112, r113⟩, ⟨r114, r115, r116, r117, r118, r119, r120, r121, r122, r123⟩⟩ := id hR
  by_cases hd : h 57 1 < h 57 2
  · have ew : w32 (h 57 1 + 1) = h 57 1 + 1 := w32_of (by omega) (by omega)
    have hE := r119 (h 57 1).toNat (by omega)
    rcases hE with ⟨k, k0, k7, e1, es, eo, eb, ea, x0, x2, y0, y2⟩ | ⟨k, k0, k7, e1, es, eo, eb, ea, x0, x2, y0, y2⟩ | ⟨k, k0, k7, e1, es, eo, eb, ea, x0, x2, y0, y2⟩ | ⟨k, k0, k7, kn, e1, es, eo, eb, ea, x0, x2, y0, y2⟩ | ⟨k, f2, g2, f, g, k0, k7, e1, es, eo, -, ⟨f0, f3, g0, g3, fg⟩, eb, ex, ea, ey⟩
    · obtain ⟨b1, b2⟩ := bs_64 k0 k7
      rw [← e1] at b1 b2
      refine z119 ?_
      rw [ew, b1, b2]
      repeat' (first | (apply br_i <;> intro _) | apply an_i | apply ne_i | apply or_i | (apply sw_i; intro _) | (show (_ : Int) = _ → _; intro _))
      all_goals try (first | omega | (show (_ : Int) ≤ _; unfold w32; omega) | (show (_ : Int) < _; unfold w32; omega))
      refine z149 ?_
      (try simp only [up_p, up_i, up_s, ne_eq, Nat.reduceEqDiff, not_false_eq_true])
      rw [← r42, ← r43, ew, es, eo]
      repeat' (first | (apply br_i <;> intro _) | apply an_i | apply ne_i | apply or_i | (apply sw_i; intro _) | (show (_ : Int) = _ → _; intro _))
      all_goals try (first | omega | (show (_ : Int) ≤ _; unfold w32; omega) | (show (_ : Int) < _; unfold w32; omega))
      refine ⟨rfl, ?_⟩
      rw [ea]
      unfold R; simp only [up_p, up_i, up_s, up_f, ne_eq, Nat.reduceEqDiff, not_false_eq_true]; and_intros; all_goals first | exact True.intro | assumption | (apply row_e; assumption) | (apply rgA_f <;> first | assumption | omega) | (apply ends_f <;> first | assumption | omega) | (apply below_f <;> first | assumption | omega) | (apply rgN_f <;> first | assumption | omega) | (apply ends_m <;> first | assumption | omega) | (apply below_m <;> first | assumption | omega) | (apply actR_m <;> first | assumption | omega) | (apply ownT_f <;> first | assumption | omega) | (apply ownT_n <;> first | assumption | omega) | (apply ownT_m <;> first | assumption | omega) | omega
    · obtain ⟨b1, b2⟩ := bs_48 k0 k7
      rw [← e1] at b1 b2
      refine z119 ?_
      rw [ew, b1, b2]
      repeat' (first | (apply br_i <;> intro _) | apply an_i | apply ne_i | apply or_i | (apply sw_i; intro _) | (show (_ : Int) = _ → _; intro _))
      all_goals try (first | omega | (show (_ : Int) ≤ _; unfold w32; omega) | (show (_ : Int) < _; unfold w32; omega))
      refine z149 ?_
      (try simp only [up_p, up_i, up_s, ne_eq, Nat.reduceEqDiff, not_false_eq_true])
      rw [← r42, ← r43, ew, es, eo]
      repeat' (first | (apply br_i <;> intro _) | apply an_i | apply ne_i | apply or_i | (apply sw_i; intro _) | (show (_ : Int) = _ → _; intro _))
      all_goals try (first | omega | (show (_ : Int) ≤ _; unfold w32; omega) | (show (_ : Int) < _; unfold w32; omega))
      · refine ⟨rfl, ?_⟩
        have e0 : h 101 (h 57 1).toNat = 0 := by omega
        rw [ea, e0]
        unfold R; simp only [up_p, up_i, up_s, up_f, ne_eq, Nat.reduceEqDiff, not_false_eq_true]; and_intros; all_goals first | exact True.intro | assumption | (apply row_e; assumption) | (apply rgA_f <;> first | assumption | omega) | (apply ends_f <;> first | assumption | omega) | (apply below_f <;> first | assumption | omega) | (apply rgN_f <;> first | assumption | omega) | (apply ends_m <;> first | assumption | omega) | (apply below_m <;> first | assumption | omega) | (apply actR_m <;> first | assumption | omega) | (apply ownT_f <;> first | assumption | omega) | (apply ownT_n <;> first | assumption | omega) | (apply ownT_m <;> first | assumption | omega) | omega
      · refine ⟨rfl, ?_⟩
        have e0 : h 101 (h 57 1).toNat = 1 := by omega
        rw [ea, e0]
        unfold R; simp only [up_p, up_i, up_s, up_f, ne_eq, Nat.reduceEqDiff, not_false_eq_true]; and_intros; all_goals first | exact True.intro | assumption | (apply row_e; assumption) | (apply rgA_f <;> first | assumption | omega) | (apply ends_f <;> first | assumption | omega) | (apply below_f <;> first | assumption | omega) | (apply rgN_f <;> first | assumption | omega) | (apply ends_m <;> first | assumption | omega) | (apply below_m <;> first | assumption | omega) | (apply actR_m <;> first | assumption | omega) | (apply ownT_f <;> first | assumption | omega) | (apply ownT_n <;> first | assumption | omega) | (apply ownT_m <;> first | assumption | omega) | omega
    · obtain ⟨b1, b2⟩ := bs_0 k0 k7
      rw [← e1] at b1 b2
      refine z119 ?_
      rw [ew, b1, b2]
      repeat' (first | (apply br_i <;> intro _) | apply an_i | apply ne_i | apply or_i | (apply sw_i; intro _) | (show (_ : Int) = _ → _; intro _))
      all_goals try (first | omega | (show (_ : Int) ≤ _; unfold w32; omega) | (show (_ : Int) < _; unfold w32; omega))
      refine z149 ?_
      (try simp only [up_p, up_i, up_s, ne_eq, Nat.reduceEqDiff, not_false_eq_true])
      rw [← r42, ← r43, ew, es, eo, ← e1]
      repeat' (first | (apply br_i <;> intro _) | apply an_i | apply ne_i | apply or_i | (apply sw_i; intro _) | (show (_ : Int) = _ → _; intro _))
      all_goals try (first | omega | (show (_ : Int) ≤ _; unfold w32; omega) | (show (_ : Int) < _; unfold w32; omega))
      · refine ⟨rfl, ?_⟩
        have e0 : h 101 (h 57 1).toNat = 0 := by omega
        rw [ea, e0]
        unfold R; simp only [up_p, up_i, up_s, up_f, ne_eq, Nat.reduceEqDiff, not_false_eq_true]; and_intros; all_goals first | exact True.intro | assumption | (apply row_e; assumption) | (apply rgA_f <;> first | assumption | omega) | (apply ends_f <;> first | assumption | omega) | (apply below_f <;> first | assumption | omega) | (apply rgN_f <;> first | assumption | omega) | (apply ends_m <;> first | assumption | omega) | (apply below_m <;> first | assumption | omega) | (apply actR_m <;> first | assumption | omega) | (apply ownT_f <;> first | assumption | omega) | (apply ownT_n <;> first | assumption | omega) | (apply ownT_m <;> first | assumption | omega) | omega
      · refine ⟨rfl, ?_⟩
        have e0 : h 101 (h 57 1).toNat = 1 := by omega
        rw [ea, e0]
        unfold R; simp only [up_p, up_i, up_s, up_f, ne_eq, Nat.reduceEqDiff, not_false_eq_true]; and_intros; all_goals first | exact True.intro | assumption | (apply row_e; assumption) | (apply rgA_f <;> first | assumption | omega) | (apply ends_f <;> first | assumption | omega) | (apply below_f <;> first | assumption | omega) | (apply rgN_f <;> first | assumption | omega) | (apply ends_m <;> first | assumption | omega) | (apply below_m <;> first | assumption | omega) | (apply actR_m <;> first | assumption | omega) | (apply ownT_f <;> first | assumption | omega) | (apply ownT_n <;> first | assumption | omega) | (apply ownT_m <;> first | assumption | omega) | omega
    · obtain ⟨b1, b2⟩ := bs_16 k0 k7
      rw [← e1] at b1 b2
      refine z119 ?_
      rw [ew, b1, b2]
      repeat' (first | (apply br_i <;> intro _) | apply an_i | apply ne_i | apply or_i | (apply sw_i; intro _) | (show (_ : Int) = _ → _; intro _))
      all_goals try (first | omega | (show (_ : Int) ≤ _; unfold w32; omega) | (show (_ : Int) < _; unfold w32; omega))
      refine z149 ?_
      (try simp only [up_p, up_i, up_s, ne_eq, Nat.reduceEqDiff, not_false_eq_true])
      rw [← r42, ← r43, ew, es, eo]
      repeat' (first | (apply br_i <;> intro _) | apply an_i | apply ne_i | apply or_i | (apply sw_i; intro _) | (show (_ : Int) = _ → _; intro _))
      all_goals try (first | omega | (show (_ : Int) ≤ _; unfold w32; omega) | (show (_ : Int) < _; unfold w32; omega))
      refine ⟨rfl, ?_⟩
      rw [ea]
      unfold R; simp only [up_p, up_i, up_s, up_f, ne_eq, Nat.reduceEqDiff, not_false_eq_true]; and_intros; all_goals first | exact True.intro | assumption | (apply row_e; assumption) | (apply rgA_f <;> first | assumption | omega) | (apply ends_f <;> first | assumption | omega) | (apply below_f <;> first | assumption | omega) | (apply rgN_f <;> first | assumption | omega) | (apply ends_m <;> first | assumption | omega) | (apply below_m <;> first | assumption | omega) | (apply actR_m <;> first | assumption | omega) | (apply ownT_f <;> first | assumption | omega) | (apply ownT_n <;> first | assumption | omega) | (apply ownT_m <;> first | assumption | omega) | omega | skip
      exact zeroT_f r121 (by omega)
    · obtain ⟨b1, b2⟩ := bs_32 k0 k7
      rw [← e1] at b1 b2
      obtain ⟨c1, c2, c3, c4⟩ := fc_bits f0 f3 g0 g3
      rw [← ea] at c1 c2
      rw [← ey] at c3 c4
      refine z119 ?_
      rw [ew, b1, b2, c1, c2]
      repeat' (first | (apply br_i <;> intro _) | apply an_i | apply ne_i | apply or_i | (apply sw_i; intro _) | (show (_ : Int) = _ → _; intro _))
      all_goals try (first | omega | (show (_ : Int) ≤ _; unfold w32; omega) | (show (_ : Int) < _; unfold w32; omega))
      refine z149 ?_
      (try simp only [up_p, up_i, up_s, ne_eq, Nat.reduceEqDiff, not_false_eq_true])
      rw [← r42, ← r43, ew, es, eo, c3, c4]
      repeat' (first | (apply br_i <;> intro _) | apply an_i | apply ne_i | apply or_i | (apply sw_i; intro _) | (show (_ : Int) = _ → _; intro _))
      all_goals try (first | omega | (show (_ : Int) ≤ _; unfold w32; omega) | (show (_ : Int) < _; unfold w32; omega))
      refine ⟨rfl, ?_⟩
      unfold R; simp only [up_p, up_i, up_s, up_f, ne_eq, Nat.reduceEqDiff, not_false_eq_true]; and_intros; all_goals first | exact True.intro | assumption | (apply row_e; assumption) | (apply rgA_f <;> first | assumption | omega) | (apply ends_f <;> first | assumption | omega) | (apply below_f <;> first | assumption | omega) | (apply rgN_f <;> first | assumption | omega) | (apply ends_m <;> first | assumption | omega) | (apply below_m <;> first | assumption | omega) | (apply actR_m <;> first | assumption | omega) | (apply ownT_f <;> first | assumption | omega) | (apply ownT_n <;> first | assumption | omega) | (apply ownT_m <;> first | assumption | omega) | omega | skip
      exact flp_f r81 f0 f3 g0 g3 fg
  · refine z119 ⟨fun q => absurd q hd, fun _ => ?_⟩
    refine z149 ?_
    (try simp only [up_p, up_i, up_s, ne_eq, Nat.reduceEqDiff, not_false_eq_true])
    exact ⟨fun q => absurd (by omega) q, fun _ => EQA_ref hR _ _⟩
