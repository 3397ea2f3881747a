/-! pairs: undo, redo -/
theorem zeroT_f {f : Nat → Int} {i : Nat} {n v : Int} (H : zeroT f n) (h : (i : Int) < n) : zeroT (fun j => if j = i then v else f j) n := fun j hj => by
  have e : j ≠ i := by omega
  simp [e]; exact H j hj
theorem flp_f {f w u : Nat → Int} {i : Nat} {a b : Int} (H : flp f w u) (h0 : 0 ≤ a) (h1 : a ≤ 3) (h2 : 0 ≤ b) (h3 : b ≤ 2) (h4 : a ≤ 2 → b = a) : flp (fun j => if j = i then a else f j) (fun j => if j = i then b else w j) (fun j => if j = i then b else u j) := by
  intro j
  by_cases e : j = i
  · simp [e]; exact Or.inr ⟨⟨h0, h1⟩, ⟨h2, h3⟩, h4⟩
  · simp [e]; exact H j
theorem bs_64 {k : Int} (h0 : 0 ≤ k) (h7 : k ≤ 7) : bShr (64 + k) 4 = 4 ∧ bAnd (64 + k) 15 = k := by
  have q : k = 0 ∨ k = 1 ∨ k = 2 ∨ k = 3 ∨ k = 4 ∨ k = 5 ∨ k = 6 ∨ k = 7 := by omega
  rcases q with rfl | rfl | rfl | rfl | rfl | rfl | rfl | rfl <;> decide
theorem bs_48 {k : Int} (h0 : 0 ≤ k) (h7 : k ≤ 7) : bShr (48 + k) 4 = 3 ∧ bAnd (48 + k) 15 = k := by
  have q : k = 0 ∨ k = 1 ∨ k = 2 ∨ k = 3 ∨ k = 4 ∨ k = 5 ∨ k = 6 ∨ k = 7 := by omega
  rcases q with rfl | rfl | rfl | rfl | rfl | rfl | rfl | rfl <;> decide
theorem bs_32 {k : Int} (h0 : 0 ≤ k) (h7 : k ≤ 7) : bShr (32 + k) 4 = 2 ∧ bAnd (32 + k) 15 = k := by
  have q : k = 0 ∨ k = 1 ∨ k = 2 ∨ k = 3 ∨ k = 4 ∨ k = 5 ∨ k = 6 ∨ k = 7 := by omega
  rcases q with rfl | rfl | rfl | rfl | rfl | rfl | rfl | rfl <;> decide
theorem bs_16 {k : Int} (h0 : 0 ≤ k) (h7 : k ≤ 3) : bShr (16 + k) 4 = 1 ∧ bAnd (16 + k) 15 = k := by
  have q : k = 0 ∨ k = 1 ∨ k = 2 ∨ k = 3 := by omega
  rcases q with rfl | rfl | rfl | rfl <;> decide
theorem bs_0 {k : Int} (h0 : 0 ≤ k) (h7 : k ≤ 7) : bShr k 4 = 0 ∧ bAnd k 15 = k := by
  have q : k = 0 ∨ k = 1 ∨ k = 2 ∨ k = 3 ∨ k = 4 ∨ k = 5 ∨ k = 6 ∨ k = 7 := by omega
  rcases q with rfl | rfl | rfl | rfl | rfl | rfl | rfl | rfl <;> decide
theorem fc_bits {f g : Int} (h0 : 0 ≤ f) (h1 : f ≤ 3) (h2 : 0 ≤ g) (h3 : g ≤ 2) : bAnd (f + 4 * g) 3 = f ∧ bAnd (bShr (f + 4 * g) 2) 3 = g ∧ w32 (Int.tdiv (10 * g + f) 10) = g ∧ Int.tmod (10 * g + f) 10 = f := by
  have q : f = 0 ∨ f = 1 ∨ f = 2 ∨ f = 3 := by omega
  have q2 : g = 0 ∨ g = 1 ∨ g = 2 := by omega
  rcases q with rfl | rfl | rfl | rfl <;> rcases q2 with rfl | rfl | rfl <;> decide
set_option maxHeartbeats 4000000 in
theorem p_undo {d : Nat} {h : HP} (hR : R h) : X (d + 6) 118 0 [some (P 0)] [] h (fun r h1 => X (d + 6) 148 0 [some (P 69)] [] h1 (fun r' h2 => EQA r r' h2)) := by
  obtain ⟨⟨r1, r2, r3, r4, r5, r6, r7, r8⟩, ⟨r9, r10, r11, r12, r13⟩, ⟨r14, r15, r16, r17, r18, r19, r20⟩, ⟨r21, r22, r23, r24, r25, r26⟩, ⟨r27, r28, r29, r30, r31⟩, ⟨r32, r33⟩, ⟨r34, r35, r36, r37, r38, r39, r40, r41, r42, r43, r44, r45⟩, ⟨r46, r47, r48⟩, ⟨r49, r50, r51, r52, r53, r54, r55⟩, ⟨r56, r57, r58, r59, r60, r61, r62, r63, r64, r65⟩, ⟨r66, r67, r68, r69, r70, r71, r72, r73, r74, r75⟩, ⟨r76, r77, r78, r79, r80, r81, r82, r83⟩, ⟨r84, r85, r86, r87, r88, r89⟩, ⟨r90, r91, r92, r93, r94, r95, r96, r97, r98⟩, ⟨r99, r100, r101, r102, r103, r104, r105, r106⟩, ⟨r107, r108, r109, r110, r111, r112, r113⟩, ⟨r114, r115, r116, r117, r118, r119, r120, r121, r122, r123⟩⟩ := id hR
  by_cases hd : 0 < h 57 1
  · have ew : w32 (h 57 1 - 1) = h 57 1 - 1 := w32_of (by omega) (by omega)
    have hE := r119 (h 57 1 - 1).toNat (by omega)
    rcases hE with ⟨k, k0, k7, e1, es, eo, eb, ea, x0, x2, y0, y2⟩ | ⟨k, k0, k7, e1, es, eo, eb, ea, x0, x2, y0, y2⟩ | ⟨k, k0, k7, e1, es, eo, eb, ea, x0, x2, y0, y2⟩ | ⟨k, k0, k7, kn, e1, es, eo, eb, ea, x0, x2, y0, y2⟩ | ⟨k, f, g, f2, g2, k0, k7, e1, es, eo, ⟨f0, f3, g0, g3, fg⟩, -, eb, ex, ea, ey⟩
    · obtain ⟨b1, b2⟩ := bs_64 k0 k7
      rw [← e1] at b1 b2
      refine z118 ?_
      rw [ew, b1, b2]
      repeat' (first | (apply br_i <;> intro _) | apply an_i | apply ne_i | apply or_i | (apply sw_i; intro _) | (show (_ : Int) = _ → _; intro _))
      all_goals try (first | omega | (show (_ : Int) ≤ _; unfold w32; omega) | (show (_ : Int) < _; unfold w32; omega))
      refine z148 ?_
      (try simp only [up_p, up_i, up_s, ne_eq, Nat.reduceEqDiff, not_false_eq_true])
      rw [← r42, ew, es, eo]
      repeat' (first | (apply br_i <;> intro _) | apply an_i | apply ne_i | apply or_i | (apply sw_i; intro _) | (show (_ : Int) = _ → _; intro _))
      all_goals try (first | omega | (show (_ : Int) ≤ _; unfold w32; omega) | (show (_ : Int) < _; unfold w32; omega))
      refine ⟨rfl, ?_⟩
      rw [eb]
      unfold R; simp only [up_p, up_i, up_s, up_f, ne_eq, Nat.reduceEqDiff, not_false_eq_true]; and_intros; all_goals first | exact True.intro | assumption | (apply row_e; assumption) | (apply rgA_f <;> first | assumption | omega) | (apply ends_f <;> first | assumption | omega) | (apply below_f <;> first | assumption | omega) | (apply rgN_f <;> first | assumption | omega) | (apply ends_m <;> first | assumption | omega) | (apply below_m <;> first | assumption | omega) | (apply actR_m <;> first | assumption | omega) | (apply ownT_f <;> first | assumption | omega) | (apply ownT_n <;> first | assumption | omega) | (apply ownT_m <;> first | assumption | omega) | omega
    · obtain ⟨b1, b2⟩ := bs_48 k0 k7
      rw [← e1] at b1 b2
      refine z118 ?_
      rw [ew, b1, b2]
      repeat' (first | (apply br_i <;> intro _) | apply an_i | apply ne_i | apply or_i | (apply sw_i; intro _) | (show (_ : Int) = _ → _; intro _))
      all_goals try (first | omega | (show (_ : Int) ≤ _; unfold w32; omega) | (show (_ : Int) < _; unfold w32; omega))
      refine z148 ?_
      (try simp only [up_p, up_i, up_s, ne_eq, Nat.reduceEqDiff, not_false_eq_true])
      rw [← r42, ew, es, eo]
      repeat' (first | (apply br_i <;> intro _) | apply an_i | apply ne_i | apply or_i | (apply sw_i; intro _) | (show (_ : Int) = _ → _; intro _))
      all_goals try (first | omega | (show (_ : Int) ≤ _; unfold w32; omega) | (show (_ : Int) < _; unfold w32; omega))
      · refine ⟨rfl, ?_⟩
        have e0 : h 100 (h 57 1 - 1).toNat = 0 := by omega
        rw [eb, e0]
        unfold R; simp only [up_p, up_i, up_s, up_f, ne_eq, Nat.reduceEqDiff, not_false_eq_true]; and_intros; all_goals first | exact True.intro | assumption | (apply row_e; assumption) | (apply rgA_f <;> first | assumption | omega) | (apply ends_f <;> first | assumption | omega) | (apply below_f <;> first | assumption | omega) | (apply rgN_f <;> first | assumption | omega) | (apply ends_m <;> first | assumption | omega) | (apply below_m <;> first | assumption | omega) | (apply actR_m <;> first | assumption | omega) | (apply ownT_f <;> first | assumption | omega) | (apply ownT_n <;> first | assumption | omega) | (apply ownT_m <;> first | assumption | omega) | omega
      · refine ⟨rfl, ?_⟩
        have e0 : h 100 (h 57 1 - 1).toNat = 1 := by omega
        rw [eb, e0]
        unfold R; simp only [up_p, up_i, up_s, up_f, ne_eq, Nat.reduceEqDiff, not_false_eq_true]; and_intros; all_goals first | exact True.intro | assumption | (apply row_e; assumption) | (apply rgA_f <;> first | assumption | omega) | (apply ends_f <;> first | assumption | omega) | (apply below_f <;> first | assumption | omega) | (apply rgN_f <;> first | assumption | omega) | (apply ends_m <;> first | assumption | omega) | (apply below_m <;> first | assumption | omega) | (apply actR_m <;> first | assumption | omega) | (apply ownT_f <;> first | assumption | omega) | (apply ownT_n <;> first | assumption | omega) | (apply ownT_m <;> first | assumption | omega) | omega
    · obtain ⟨b1, b2⟩ := bs_0 k0 k7
      rw [← e1] at b1 b2
      refine z118 ?_
      rw [ew, b1, b2]
      repeat' (first | (apply br_i <;> intro _) | apply an_i | apply ne_i | apply or_i | (apply sw_i; intro _) | (show (_ : Int) = _ → _; intro _))
      all_goals try (first | omega | (show (_ : Int) ≤ _; unfold w32; omega) | (show (_ : Int) < _; unfold w32; omega))
      refine z148 ?_
      (try simp only [up_p, up_i, up_s, ne_eq, Nat.reduceEqDiff, not_false_eq_true])
      rw [← r42, ew, es, eo, ← e1]
      repeat' (first | (apply br_i <;> intro _) | apply an_i | apply ne_i | apply or_i | (apply sw_i; intro _) | (show (_ : Int) = _ → _; intro _))
      all_goals try (first | omega | (show (_ : Int) ≤ _; unfold w32; omega) | (show (_ : Int) < _; unfold w32; omega))
      · refine ⟨rfl, ?_⟩
        have e0 : h 100 (h 57 1 - 1).toNat = 0 := by omega
        rw [eb, e0]
        unfold R; simp only [up_p, up_i, up_s, up_f, ne_eq, Nat.reduceEqDiff, not_false_eq_true]; and_intros; all_goals first | exact True.intro | assumption | (apply row_e; assumption) | (apply rgA_f <;> first | assumption | omega) | (apply ends_f <;> first | assumption | omega) | (apply below_f <;> first | assumption | omega) | (apply rgN_f <;> first | assumption | omega) | (apply ends_m <;> first | assumption | omega) | (apply below_m <;> first | assumption | omega) | (apply actR_m <;> first | assumption | omega) | (apply ownT_f <;> first | assumption | omega) | (apply ownT_n <;> first | assumption | omega) | (apply ownT_m <;> first | assumption | omega) | omega
      · refine ⟨rfl, ?_⟩
        have e0 : h 100 (h 57 1 - 1).toNat = 1 := by omega
        rw [eb, e0]
        unfold R; simp only [up_p, up_i, up_s, up_f, ne_eq, Nat.reduceEqDiff, not_false_eq_true]; and_intros; all_goals first | exact True.intro | assumption | (apply row_e; assumption) | (apply rgA_f <;> first | assumption | omega) | (apply ends_f <;> first | assumption | omega) | (apply below_f <;> first | assumption | omega) | (apply rgN_f <;> first | assumption | omega) | (apply ends_m <;> first | assumption | omega) | (apply below_m <;> first | assumption | omega) | (apply actR_m <;> first | assumption | omega) | (apply ownT_f <;> first | assumption | omega) | (apply ownT_n <;> first | assumption | omega) | (apply ownT_m <;> first | assumption | omega) | omega
    · obtain ⟨b1, b2⟩ := bs_16 k0 k7
      rw [← e1] at b1 b2
      refine z118 ?_
      rw [ew, b1, b2]
      repeat' (first | (apply br_i <;> intro _) | apply an_i | apply ne_i | apply or_i | (apply sw_i; intro _) | (show (_ : Int) = _ → _; intro _))
      all_goals try (first | omega | (show (_ : Int) ≤ _; unfold w32; omega) | (show (_ : Int) < _; unfold w32; omega))
      refine z148 ?_
      (try simp only [up_p, up_i, up_s, ne_eq, Nat.reduceEqDiff, not_false_eq_true])
      rw [← r42, ew, es, eo]
      repeat' (first | (apply br_i <;> intro _) | apply an_i | apply ne_i | apply or_i | (apply sw_i; intro _) | (show (_ : Int) = _ → _; intro _))
      all_goals try (first | omega | (show (_ : Int) ≤ _; unfold w32; omega) | (show (_ : Int) < _; unfold w32; omega))
      refine ⟨rfl, ?_⟩
      rw [eb]
      unfold R; simp only [up_p, up_i, up_s, up_f, ne_eq, Nat.reduceEqDiff, not_false_eq_true]; and_intros; all_goals first | exact True.intro | assumption | (apply row_e; assumption) | (apply rgA_f <;> first | assumption | omega) | (apply ends_f <;> first | assumption | omega) | (apply below_f <;> first | assumption | omega) | (apply rgN_f <;> first | assumption | omega) | (apply ends_m <;> first | assumption | omega) | (apply below_m <;> first | assumption | omega) | (apply actR_m <;> first | assumption | omega) | (apply ownT_f <;> first | assumption | omega) | (apply ownT_n <;> first | assumption | omega) | (apply ownT_m <;> first | assumption | omega) | omega | skip
      exact zeroT_f r121 (by omega)
    · obtain ⟨b1, b2⟩ := bs_32 k0 k7
      rw [← e1] at b1 b2
      obtain ⟨c1, c2, c3, c4⟩ := fc_bits f0 f3 g0 g3
      rw [← eb] at c1 c2
      rw [← ex] at c3 c4
      refine z118 ?_
      rw [ew, b1, b2, c1, c2]
      repeat' (first | (apply br_i <;> intro _) | apply an_i | apply ne_i | apply or_i | (apply sw_i; intro _) | (show (_ : Int) = _ → _; intro _))
      all_goals try (first | omega | (show (_ : Int) ≤ _; unfold w32; omega) | (show (_ : Int) < _; unfold w32; omega))
      refine z148 ?_
      (try simp only [up_p, up_i, up_s, ne_eq, Nat.reduceEqDiff, not_false_eq_true])
      rw [← r42, ew, es, eo, c3, c4]
      repeat' (first | (apply br_i <;> intro _) | apply an_i | apply ne_i | apply or_i | (apply sw_i; intro _) | (show (_ : Int) = _ → _; intro _))
      all_goals try (first | omega | (show (_ : Int) ≤ _; unfold w32; omega) | (show (_ : Int) < _; unfold w32; omega))
      refine ⟨rfl, ?_⟩
      unfold R; simp only [up_p, up_i, up_s, up_f, ne_eq, Nat.reduceEqDiff, not_false_eq_true]; and_intros; all_goals first | exact True.intro | assumption | (apply row_e; assumption) | (apply rgA_f <;> first | assumption | omega) | (apply ends_f <;> first | assumption | omega) | (apply below_f <;> first | assumption | omega) | (apply rgN_f <;> first | assumption | omega) | (apply ends_m <;> first | assumption | omega) | (apply below_m <;> first | assumption | omega) | (apply actR_m <;> first | assumption | omega) | (apply ownT_f <;> first | assumption | omega) | (apply ownT_n <;> first | assumption | omega) | (apply ownT_m <;> first | assumption | omega) | omega | skip
      exact flp_f r81 f0 f3 g0 g3 fg
  · refine z118 ⟨fun q => absurd q hd, fun _ => ?_⟩
    refine z148 ?_
    (try simp only [up_p, up_i, up_s, ne_eq, Nat.reduceEqDiff, not_false_eq_true])
    exact ⟨fun q => absurd (by omega) q, fun _ => EQA_ref hR _ _⟩
