/-! pairs: face, frozen, works, state -/
theorem tlH_p {h : HP} {w b a : Int} {q : Nat} (h1 : q ≠ 57) (h2 : q ≠ 58) (h3 : q ≠ 59) (h4 : q ≠ 60) : tlH h w b a q = h q := by
  unfold tlH
  split
  · unfold tlP; rw [up_p h1, up_p h1, up_p h4, up_p h3, up_p h2]
  · unfold tlP tlD; rw [up_p h1, up_p h1, up_p h4, up_p h3, up_p h2, up_p h1, setr_p h4, setr_p h3, setr_p h2]
theorem bo_k {c k : Int} (hc : 0 ≤ c) (hc4 : c ≤ 4) (h0 : 0 ≤ k) (h7 : k ≤ 7) : bOr (bShl c 4) k = 16 * c + k := by
  have q : k = 0 ∨ k = 1 ∨ k = 2 ∨ k = 3 ∨ k = 4 ∨ k = 5 ∨ k = 6 ∨ k = 7 := by omega
  have q2 : c = 0 ∨ c = 1 ∨ c = 2 ∨ c = 3 ∨ c = 4 := by omega
  rcases q2 with rfl | rfl | rfl | rfl | rfl <;> rcases q with rfl | rfl | rfl | rfl | rfl | rfl | rfl | rfl <;> decide
theorem fc_of {f g : Int} (h0 : 0 ≤ f) (h1 : f ≤ 3) (h2 : 0 ≤ g) (h3 : g ≤ 2) : bOr f (bShl g 2) = f + 4 * g := by
  have q : f = 0 ∨ f = 1 ∨ f = 2 ∨ f = 3 := by omega
  have q2 : g = 0 ∨ g = 1 ∨ g = 2 := by omega
  rcases q with rfl | rfl | rfl | rfl <;> rcases q2 with rfl | rfl | rfl <;> decide
section GP
variable {d : Nat} {h : HP} {K : PV → HP → Prop} {k v : Int}
theorem get_4 (h0 : 0 ≤ k) (h7 : k < 8) (H : K (I (h 6 k.toNat)) h) : X (d + 1) 6 0 [some (P 57), some (I 4), some (I k)] [] h K := z6 ⟨fun _ => ⟨⟨h0, h7⟩, H⟩, fun q => absurd q (by decide), fun q => absurd q (by decide), fun q => absurd q (by decide), fun q => absurd q (by decide)⟩
theorem get_0 (h0 : 0 ≤ k) (h7 : k < 8) (H : K (I (h 25 k.toNat)) h) : X (d + 1) 6 0 [some (P 57), some (I 0), some (I k)] [] h K := z6 ⟨fun q => absurd q (by decide), fun _ => ⟨⟨h0, h7⟩, H⟩, fun q => absurd q (by decide), fun q => absurd q (by decide), fun q => absurd q (by decide)⟩
theorem get_1 (h0 : 0 ≤ k) (h7 : k < 4) (H : K (I (h 29 k.toNat)) h) : X (d + 1) 6 0 [some (P 57), some (I 1), some (I k)] [] h K := z6 ⟨fun q => absurd q (by decide), fun q => absurd q (by decide), fun _ => ⟨⟨h0, h7⟩, H⟩, fun q => absurd q (by decide), fun q => absurd q (by decide)⟩
theorem get_3 (h0 : 0 ≤ k) (h7 : k < 8) (H : K (I (h 21 k.toNat)) h) : X (d + 1) 6 0 [some (P 57), some (I 3), some (I k)] [] h K := z6 ⟨fun q => absurd q (by decide), fun q => absurd q (by decide), fun q => absurd q (by decide), fun q => absurd q (by decide), fun _ => ⟨⟨h0, h7⟩, H⟩⟩
theorem get_2 (h0 : 0 ≤ k) (h7 : k < 8) {f g : Int} (ef : h 8 k.toNat = f) (eg : h 9 k.toNat = g) (f0 : 0 ≤ f) (f3 : f ≤ 3) (g0 : 0 ≤ g) (g2 : g ≤ 2) (fg : f ≤ 2 → g = f) (H : K (I (f + 4 * g)) h) : X (d + 1) 6 0 [some (P 57), some (I 2), some (I k)] [] h K := by
  refine z6 ⟨fun q => absurd q (by decide), fun q => absurd q (by decide), fun q => absurd q (by decide), fun _ => ⟨⟨h0, h7⟩, ⟨fun q => ?_, fun q => ⟨⟨h0, h7⟩, ?_⟩⟩⟩, fun q => absurd q (by decide)⟩
  · rw [ef] at q ⊢
    have := fg (by omega)
    subst this
    rw [fc_of f0 f3 g0 g2]
    exact H
  · rw [ef, eg, fc_of f0 f3 g0 g2]
    exact H
theorem put_4 (h0 : 0 ≤ k) (h7 : k < 8) (H : K (I 0) (up2 h 6 k.toNat v)) : X (d + 1) 7 0 [some (P 57), some (I 4), some (I k), some (I v)] [] h K := z7 ⟨fun _ => ⟨⟨h0, h7⟩, H⟩, fun q => absurd q (by decide), fun q => absurd q (by decide), fun q => absurd q (by decide), fun q => absurd q (by decide)⟩
theorem put_0 (h0 : 0 ≤ k) (h7 : k < 8) (H : K (I 0) (up2 h 25 k.toNat v)) : X (d + 1) 7 0 [some (P 57), some (I 0), some (I k), some (I v)] [] h K := z7 ⟨fun q => absurd q (by decide), fun _ => ⟨⟨h0, h7⟩, H⟩, fun q => absurd q (by decide), fun q => absurd q (by decide), fun q => absurd q (by decide)⟩
theorem put_1 (h0 : 0 ≤ k) (h7 : k < 4) (H : K (I 0) (up2 h 29 k.toNat v)) : X (d + 1) 7 0 [some (P 57), some (I 1), some (I k), some (I v)] [] h K := z7 ⟨fun q => absurd q (by decide), fun q => absurd q (by decide), fun _ => ⟨⟨h0, h7⟩, H⟩, fun q => absurd q (by decide), fun q => absurd q (by decide)⟩
theorem put_3 (h0 : 0 ≤ k) (h7 : k < 8) (H : K (I 0) (up2 h 21 k.toNat v)) : X (d + 1) 7 0 [some (P 57), some (I 3), some (I k), some (I v)] [] h K := z7 ⟨fun q => absurd q (by decide), fun q => absurd q (by decide), fun q => absurd q (by decide), fun q => absurd q (by decide), fun _ => ⟨⟨h0, h7⟩, H⟩⟩
theorem put_2 (h0 : 0 ≤ k) (h7 : k < 8) {f g : Int} (f0 : 0 ≤ f) (f3 : f ≤ 3) (g0 : 0 ≤ g) (g2 : g ≤ 2) (H : K (I 0) (up2 (up2 h 8 k.toNat f) 9 k.toNat g)) : X (d + 1) 7 0 [some (P 57), some (I 2), some (I k), some (I (f + 4 * g))] [] h K := by
  obtain ⟨c1, c2, -, -⟩ := fc_bits f0 f3 g0 g2
  refine z7 ⟨fun q => absurd q (by decide), fun q => absurd q (by decide), fun q => absurd q (by decide), fun _ => ⟨⟨h0, h7⟩, ⟨h0, h7⟩, ?_⟩, fun q => absurd q (by decide)⟩
  rw [c1, c2]
  exact H
theorem val_0 (h0 : 0 ≤ k) (h7 : k < 8) (H : K (I (h 74 k.toNat)) h) : X d 144 0 [some (P 69), some (I 0), some (I k)] [] h K := z144 ⟨fun q => absurd q (by decide), fun _ => ⟨⟨h0, h7⟩, H⟩, fun q => absurd q (by decide), fun q => absurd q (by decide), fun q => absurd q (by decide)⟩
theorem val_1 (h0 : 0 ≤ k) (h7 : k < 8) (hz : h 89 k.toNat = 0 ∨ h 89 k.toNat = 1) (H : K (I (h 89 k.toNat)) h) : X d 144 0 [some (P 69), some (I 1), some (I k)] [] h K := z144 ⟨fun q => absurd q (by decide), fun q => absurd q (by decide), fun _ => ⟨⟨h0, h7⟩, ⟨fun q => by rw [q] at H; exact H, fun q => by rw [hz.resolve_left q] at H; exact H⟩⟩, fun q => absurd q (by decide), fun q => absurd q (by decide)⟩
theorem val_2 (h0 : 0 ≤ k) (h7 : k < 8) (hz : h 92 k.toNat = 0 ∨ h 92 k.toNat = 1) (H : K (I (h 92 k.toNat)) h) : X d 144 0 [some (P 69), some (I 2), some (I k)] [] h K := z144 ⟨fun q => absurd q (by decide), fun q => absurd q (by decide), fun q => absurd q (by decide), fun _ => ⟨⟨h0, h7⟩, ⟨fun q => by rw [q] at H; exact H, fun q => by rw [hz.resolve_left q] at H; exact H⟩⟩, fun q => absurd q (by decide)⟩
theorem val_3 (h0 : 0 ≤ k) (h7 : k < 4) (H : K (I (h 95 k.toNat)) h) : X d 144 0 [some (P 69), some (I 3), some (I k)] [] h K := z144 ⟨fun q => absurd q (by decide), fun q => absurd q (by decide), fun q => absurd q (by decide), fun q => absurd q (by decide), fun _ => ⟨⟨h0, h7⟩, H⟩⟩
theorem val_4 (h0 : 0 ≤ k) (h7 : k < 8) {f g : Int} (ef : h 75 k.toNat = f) (eg : h 76 k.toNat = g) (f0 : 0 ≤ f) (f3 : f ≤ 3) (g0 : 0 ≤ g) (g2 : g ≤ 2) (H : K (I (10 * g + f)) h) : X d 144 0 [some (P 69), some (I 4), some (I k)] [] h K := by
  refine z144 ⟨fun _ => ⟨⟨h0, h7⟩, ⟨h0, h7⟩, ?_⟩, fun q => absurd q (by decide), fun q => absurd q (by decide), fun q => absurd q (by decide), fun q => absurd q (by decide)⟩
  rw [ef, eg, w32_of (x := 10 * g) (by omega) (by omega), w32_of (by omega) (by omega)]
  exact H
theorem bec_0 (h0 : 0 ≤ k) (h7 : k < 8) (H : K (I 0) (up2 h 74 k.toNat v)) : X d 145 0 [some (P 69), some (I 0), some (I k), some (I v)] [] h K := z145 ⟨fun q => absurd q (by decide), fun _ => ⟨⟨h0, h7⟩, H⟩, fun q => absurd q (by decide), fun q => absurd q (by decide), fun q => absurd q (by decide)⟩
theorem bec_1 (h0 : 0 ≤ k) (h7 : k < 8) (hz : v = 0 ∨ v = 1) (H : K (I 0) (up2 h 89 k.toNat v)) : X d 145 0 [some (P 69), some (I 1), some (I k), some (I v)] [] h K := z145 ⟨fun q => absurd q (by decide), fun q => absurd q (by decide), fun _ => ⟨fun q => ⟨⟨h0, h7⟩, by rw [hz.resolve_right q] at H; exact H⟩, fun q => ⟨⟨h0, h7⟩, by rw [Classical.not_not.mp q] at H; exact H⟩⟩, fun q => absurd q (by decide), fun q => absurd q (by decide)⟩
theorem bec_2 (h0 : 0 ≤ k) (h7 : k < 8) (hz : v = 0 ∨ v = 1) (H : K (I 0) (up2 h 92 k.toNat v)) : X d 145 0 [some (P 69), some (I 2), some (I k), some (I v)] [] h K := z145 ⟨fun q => absurd q (by decide), fun q => absurd q (by decide), fun q => absurd q (by decide), fun _ => ⟨fun q => ⟨⟨h0, h7⟩, by rw [hz.resolve_right q] at H; exact H⟩, fun q => ⟨⟨h0, h7⟩, by rw [Classical.not_not.mp q] at H; exact H⟩⟩, fun q => absurd q (by decide)⟩
theorem bec_3 (h0 : 0 ≤ k) (h7 : k < 4) (H : K (I 0) (up2 h 95 k.toNat v)) : X d 145 0 [some (P 69), some (I 3), some (I k), some (I v)] [] h K := z145 ⟨fun q => absurd q (by decide), fun q => absurd q (by decide), fun q => absurd q (by decide), fun q => absurd q (by decide), fun _ => ⟨⟨h0, h7⟩, H⟩⟩
theorem bec_4 (h0 : 0 ≤ k) (h7 : k < 8) {f g : Int} (f0 : 0 ≤ f) (f3 : f ≤ 3) (g0 : 0 ≤ g) (g2 : g ≤ 2) (H : K (I 0) (up2 (up2 h 76 k.toNat g) 75 k.toNat f)) : X d 145 0 [some (P 69), some (I 4), some (I k), some (I (10 * g + f))] [] h K := by
  obtain ⟨-, -, c3, c4⟩ := fc_bits f0 f3 g0 g2
  refine z145 ⟨fun _ => ⟨⟨h0, h7⟩, ⟨h0, h7⟩, ?_⟩, fun q => absurd q (by decide), fun q => absurd q (by decide), fun q => absurd q (by decide), fun q => absurd q (by decide)⟩
  rw [c3, c4]
  exact H
end GP
set_option maxHeartbeats 4000000 in
theorem p_face {d : Nat} {h : HP} {v1 v2 : Int} (hR : R h) : X (d + 6) 85 0 [some (P 0), some (I v1), some (I v2), none] [] h (fun r h1 => X (d + 6) 150 0 [some (P 69), some (I v1), some (I v2), none] [] h1 (fun r' h2 => EQA r r' h2)) := by
  obtain ⟨⟨r1, r2, r3, r4, r5, r6, r7, r8⟩, ⟨r9, r10, r11, r12, r13⟩, ⟨r14, r15, r16, r17, r18, r19, r20⟩, ⟨r21, r22, r23, r24, r25, r26⟩, ⟨r27, r28, r29, r30, r31⟩, ⟨r32, r33⟩, ⟨r34, r35, r36, r37, r38, r39, r40, r41, r42, r43, r44, r45⟩, ⟨r46, r47, r48⟩, ⟨r49, r50, r51, r52, r53, r54, r55⟩, ⟨r56, r57, r58, r59, r60, r61, r62, r63, r64, r65⟩, ⟨r66, r67, r68, r69, r70, r71, r72, r73, r74, r75⟩, ⟨r76, r77, r78, r79, r80, r81, r82, r83⟩, ⟨r84, r85, r86, r87, r88, r89⟩, ⟨r90, r91, r92, r93, r94, r95, r96, r97, r98⟩, ⟨r99, r100, r101, r102, r103, r104, r105, r106⟩, ⟨r107, r108, r109, r110, r111, r112, r113⟩, ⟨r114, r115, r116, r117, r118, r119, r120, r121, r122, r123⟩⟩ := id hR
  by_cases hp : 0 ≤ v1 ∧ v1 < h 2 0
  · obtain ⟨p0, p1⟩ := hp
    by_cases hv : 0 ≤ v2 ∧ v2 < 3
    · obtain ⟨w0, w1⟩ := hv
      refine z85 (br_i (fun q => absurd q (by omega)) (fun _ => br_i (fun _ => br_i (fun q => absurd q (by omega)) (fun _ => br_i (fun _ => an_i (by omega) (by omega) ?_) (fun q => absurd w1 q))) (fun q => absurd p1 q)))
      by_cases hs : h 6 v1.toNat = v2
      · subst hs
        refine tell_n (fun K hK => get_4 p0 (by omega) hK) (b85_52 ?_)
        refine b150_0 (z136 (br_i (fun q => absurd q (by omega)) (fun _ => br_i (fun q => absurd q (by omega)) (fun _ => ?_))))
        refine b150_5 (br_i (fun _ => z134 (br_i (fun q => absurd q (by omega)) (fun _ => br_i (fun q => absurd q (by omega)) (fun _ => ?_)))) (fun q => absurd (by decide) q))
        refine b150_20 (br_i (fun _ => an_i p0 (by omega) (br_i (fun _ => b150_49 ?_) (fun q => absurd (by rw [r5]) q))) (fun q => absurd (by decide) q))
        exact ⟨by rw [r5], hR⟩
      · refine tell_c (by omega) (by omega) (fun K hK => get_4 p0 (by omega) hK) hs (put_4 p0 (by omega) (b85_52 ?_))
        rw [bo_k (by decide) (by decide) p0 (by omega)]
        generalize hH : up2 (tlH h (16 * 4 + v1) (h 6 v1.toNat) v2) 6 v1.toNat v2 = H1
        have F9 : H1 69 9 = h 2 0 := by rw [← hH, up_p (by decide), tlH_p (by decide) (by decide) (by decide) (by decide)]; exact r34.symm
        have F44 : H1 69 44 = h 57 1 := by rw [← hH, up_p (by decide), tlH_p (by decide) (by decide) (by decide) (by decide)]; exact r42.symm
        have F74 : H1 74 v1.toNat = h 6 v1.toNat := by rw [← hH, up_p (by decide), tlH_p (by decide) (by decide) (by decide) (by decide), r5]
        refine b150_0 (z136 (br_i (fun q => absurd q (by omega)) (fun _ => br_i (fun q => absurd q (by omega)) (fun _ => ?_))))
        refine b150_5 (br_i (fun _ => z134 (br_i (fun q => absurd q (by omega)) (fun _ => br_i (fun q => absurd q (by omega)) (fun _ => ?_)))) (fun q => absurd (by decide) q))
        refine b150_20 (br_i (fun _ => an_i p0 (by omega) (br_i (fun q => absurd (F74 ▸ q) hs) (fun _ => ?_))) (fun q => absurd (by decide) q))
        refine act_c (by omega) (by omega) (fun K hK => val_0 p0 (by omega) hK) (bec_0 p0 (by omega) (b150_49 ?_))
        refine ⟨by rw [F74], ?_⟩
        rw [F74, ← hH, acM_up (by decide)]
        exact R_face (R_push hR (Or.inl ⟨v1, p0, by omega, rfl, rfl, rfl, rfl, rfl, (r80 _).1, (r80 _).2, w0, by omega⟩)) w0 (by omega)
    · refine z85 ?_
      repeat' (first | (apply br_i <;> intro _) | apply an_i | apply ne_i | apply or_i | (apply sw_i; intro _) | (show (_ : Int) = _ → _; intro _))
      all_goals try (exfalso; omega)
      all_goals (refine b150_0 (z136 ?_); (try simp only [up_p, up_i, up_s, ne_eq, Nat.reduceEqDiff, not_false_eq_true]); repeat' (first | (apply br_i <;> intro _) | apply an_i | apply ne_i | apply or_i | (apply sw_i; intro _) | (show (_ : Int) = _ → _; intro _)))
      all_goals try (exfalso; omega)
      all_goals (refine b150_5 (br_i (fun _ => z134 ?_) (fun q => absurd (by decide) q)); repeat' (first | (apply br_i <;> intro _) | apply an_i | apply ne_i | apply or_i | (apply sw_i; intro _) | (show (_ : Int) = _ → _; intro _)))
      all_goals try (exfalso; omega)
      all_goals (refine b150_20 (br_i (fun q => absurd rfl q) (fun _ => z135 (an_i (by decide) (by decide) (an_i (by decide) (by decide) (b150_29 ?_))))); exact EQA_ref hR _ _)
  · refine z85 ?_
    repeat' (first | (apply br_i <;> intro _) | apply an_i | apply ne_i | apply or_i | (apply sw_i; intro _) | (show (_ : Int) = _ → _; intro _))
    all_goals try (exfalso; omega)
    all_goals (refine b150_0 (z136 ?_); (try simp only [up_p, up_i, up_s, ne_eq, Nat.reduceEqDiff, not_false_eq_true]); repeat' (first | (apply br_i <;> intro _) | apply an_i | apply ne_i | apply or_i | (apply sw_i; intro _) | (show (_ : Int) = _ → _; intro _)))
    all_goals try (exfalso; omega)
    all_goals (refine b150_5 (br_i (fun q => absurd rfl q) (fun _ => z135 (an_i (by decide) (by decide) (an_i (by decide) (by decide) (b150_13 ?_))))); exact EQA_ref hR _ _)
