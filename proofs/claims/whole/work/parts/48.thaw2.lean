/-! pair: thaw -/
theorem SCT_u {h g : HP} {p i : Nat} {v : Int} (a : SCT h g) (hp : p = 21 ∨ p = 57 ∨ p = 89) : SCT h (up2 g p i v) := ⟨fun q h1 h2 h3 hq => by rw [up_p (by omega)]; exact a.1 q h1 h2 h3 hq, fun k hk h1 h2 => by rw [up_p (by omega)]; exact a.2 k hk h1 h2⟩
theorem SCT_v {h g : HP} {i : Nat} {v : Int} (a : SCT h g) (hi : i = 43 ∨ i = 44) : SCT h (up2 g 69 i v) := ⟨fun q h1 h2 h3 hq => by rw [up_p (by omega)]; exact a.1 q h1 h2 h3 hq, fun k hk h1 h2 => by rw [up_i (by omega)]; exact a.2 k hk h1 h2⟩
theorem R_thaw {h g : HP} (a : SCT h g) (hR : R h) (e21 : g 21 = g 89) (q21 : rgA (g 21) 0 1) (q1 : g 57 1 = 0) (q2 : g 57 2 = 0) (q3 : g 69 43 = 0) (q4 : g 69 44 = 0) : R g := by
  obtain ⟨⟨r1, r2, r3, r4, r5, r6, r7, r8⟩, ⟨r9, r10, r11, r12, r13⟩, ⟨r14, r15, r16, r17, r18, r19, r20⟩, ⟨r21, r22, r23, r24, r25, r26⟩, ⟨r27, r28, r29, r30, r31⟩, ⟨r32, r33⟩, ⟨r34, r35, r36, r37, r38, r39, r40, r41, r42, r43, r44, r45⟩, ⟨r46, r47, r48⟩, ⟨r49, r50, r51, r52, r53, r54, r55⟩, ⟨r56, r57, r58, r59, r60, r61, r62, r63, r64, r65⟩, ⟨r66, r67, r68, r69, r70, r71, r72, r73, r74, r75⟩, ⟨r76, r77, r78, r79, r80, r81, r82, r83⟩, ⟨r84, r85, r86, r87, r88, r89⟩, ⟨r90, r91, r92, r93, r94, r95, r96, r97, r98⟩, ⟨r99, r100, r101, r102, r103, r104, r105, r106⟩, ⟨r107, r108, r109, r110, r111, r112, r113⟩, ⟨r114, r115, r116, r117, r118, r119, r120, r121, r122, r123⟩⟩ := id hR
  unfold R
  simp only [a.1 0 (by decide) (by decide) (by decide) (by decide), a.1 2 (by decide) (by decide) (by decide) (by decide), a.1 3 (by decide) (by decide) (by decide) (by decide), a.1 4 (by decide) (by decide) (by decide) (by decide), a.1 5 (by decide) (by decide) (by decide) (by decide), a.1 6 (by decide) (by decide) (by decide) (by decide), a.1 7 (by decide) (by decide) (by decide) (by decide), a.1 8 (by decide) (by decide) (by decide) (by decide), a.1 9 (by decide) (by decide) (by decide) (by decide), a.1 10 (by decide) (by decide) (by decide) (by decide), a.1 11 (by decide) (by decide) (by decide) (by decide), a.1 12 (by decide) (by decide) (by decide) (by decide), a.1 13 (by decide) (by decide) (by decide) (by decide), a.1 14 (by decide) (by decide) (by decide) (by decide), a.1 15 (by decide) (by decide) (by decide) (by decide), a.1 17 (by decide) (by decide) (by decide) (by decide), a.1 18 (by decide) (by decide) (by decide) (by decide), a.1 19 (by decide) (by decide) (by decide) (by decide), a.1 20 (by decide) (by decide) (by decide) (by decide), a.1 22 (by decide) (by decide) (by decide) (by decide), a.1 23 (by decide) (by decide) (by decide) (by decide), a.1 24 (by decide) (by decide) (by decide) (by decide), a.1 25 (by decide) (by decide) (by decide) (by decide), a.1 26 (by decide) (by decide) (by decide) (by decide), a.1 27 (by decide) (by decide) (by decide) (by decide), a.1 28 (by decide) (by decide) (by decide) (by decide), a.1 29 (by decide) (by decide) (by decide) (by decide), a.1 30 (by decide) (by decide) (by decide) (by decide), a.1 31 (by decide) (by decide) (by decide) (by decide), a.1 32 (by decide) (by decide) (by decide) (by decide), a.1 33 (by decide) (by decide) (by decide) (by decide), a.1 34 (by decide) (by decide) (by decide) (by decide), a.1 35 (by decide) (by decide) (by decide) (by decide), a.1 36 (by decide) (by decide) (by decide) (by decide), a.1 37 (by decide) (by decide) (by decide) (by decide), a.1 38 (by decide) (by decide) (by decide) (by decide), a.1 39 (by decide) (by decide) (by decide) (by decide), a.1 40 (by decide) (by decide) (by decide) (by decide), a.1 58 (by decide) (by decide) (by decide) (by decide), a.1 59 (by decide) (by decide) (by decide) (by decide), a.1 60 (by decide) (by decide) (by decide) (by decide), a.1 61 (by decide) (by decide) (by decide) (by decide), a.1 62 (by decide) (by decide) (by decide) (by decide), a.1 63 (by decide) (by decide) (by decide) (by decide), a.1 64 (by decide) (by decide) (by decide) (by decide), a.1 65 (by decide) (by decide) (by decide) (by decide), a.1 66 (by decide) (by decide) (by decide) (by decide), a.1 67 (by decide) (by decide) (by decide) (by decide), a.1 68 (by decide) (by decide) (by decide) (by decide), a.1 70 (by decide) (by decide) (by decide) (by decide), a.1 71 (by decide) (by decide) (by decide) (by decide), a.1 72 (by decide) (by decide) (by decide) (by decide), a.1 73 (by decide) (by decide) (by decide) (by decide), a.1 74 (by decide) (by decide) (by decide) (by decide), a.1 75 (by decide) (by decide) (by decide) (by decide), a.1 76 (by decide) (by decide) (by decide) (by decide), a.1 77 (by decide) (by decide) (by decide) (by decide), a.1 78 (by decide) (by decide) (by decide) (by decide), a.1 79 (by decide) (by decide) (by decide) (by decide), a.1 80 (by decide) (by decide) (by decide) (by decide), a.1 81 (by decide) (by decide) (by decide) (by decide), a.1 82 (by decide) (by decide) (by decide) (by decide), a.1 83 (by decide) (by decide) (by decide) (by decide), a.1 84 (by decide) (by decide) (by decide) (by decide), a.1 85 (by decide) (by decide) (by decide) (by decide), a.1 86 (by decide) (by decide) (by decide) (by decide), a.1 87 (by decide) (by decide) (by decide) (by decide), a.1 88 (by decide) (by decide) (by decide) (by decide), a.1 90 (by decide) (by decide) (by decide) (by decide), a.1 91 (by decide) (by decide) (by decide) (by decide), a.1 92 (by decide) (by decide) (by decide) (by decide), a.1 93 (by decide) (by decide) (by decide) (by decide), a.1 94 (by decide) (by decide) (by decide) (by decide), a.1 95 (by decide) (by decide) (by decide) (by decide), a.1 96 (by decide) (by decide) (by decide) (by decide), a.1 97 (by decide) (by decide) (by decide) (by decide), a.1 98 (by decide) (by decide) (by decide) (by decide), a.1 99 (by decide) (by decide) (by decide) (by decide), a.1 100 (by decide) (by decide) (by decide) (by decide), a.1 101 (by decide) (by decide) (by decide) (by decide), a.1 102 (by decide) (by decide) (by decide) (by decide), a.1 103 (by decide) (by decide) (by decide) (by decide), a.1 104 (by decide) (by decide) (by decide) (by decide), a.1 115 (by decide) (by decide) (by decide) (by decide), a.1 116 (by decide) (by decide) (by decide) (by decide), a.1 117 (by decide) (by decide) (by decide) (by decide), a.1 118 (by decide) (by decide) (by decide) (by decide), a.1 119 (by decide) (by decide) (by decide) (by decide), a.2 9 rfl (by decide) (by decide), a.2 17 rfl (by decide) (by decide), a.2 22 rfl (by decide) (by decide), a.2 26 rfl (by decide) (by decide), a.2 30 rfl (by decide) (by decide), a.2 31 rfl (by decide) (by decide), a.2 32 rfl (by decide) (by decide), a.2 33 rfl (by decide) (by decide), a.2 34 rfl (by decide) (by decide), a.2 35 rfl (by decide) (by decide), a.2 37 rfl (by decide) (by decide), a.2 46 rfl (by decide) (by decide), a.2 70 rfl (by decide) (by decide), a.2 83 rfl (by decide) (by decide)]
  have r20 := e21
  have r98 := q21
  have r42 : g 57 1 = g 69 44 := by rw [q1, q4]
  have r43 : g 57 2 = g 69 43 := by rw [q2, q3]
  have r116 : 0 ≤ g 57 1 := by omega
  have r117 : g 57 1 ≤ g 57 2 := by omega
  have r118 : g 57 2 ≤ 60 := by omega
  have r119 : actR (g 57 2) (h 26 2) (h 58) (h 59) (h 60) (h 98) (h 99) (h 100) (h 101) := fun j hj => absurd hj (by omega)
  exact ⟨⟨r1, r2, r3, r4, r5, r6, r7, r8⟩, ⟨r9, r10, r11, r12, r13⟩, ⟨r14, r15, r16, r17, r18, r19, r20⟩, ⟨r21, r22, r23, r24, r25, r26⟩, ⟨r27, r28, r29, r30, r31⟩, ⟨r32, r33⟩, ⟨r34, r35, r36, r37, r38, r39, r40, r41, r42, r43, r44, r45⟩, ⟨r46, r47, r48⟩, ⟨r49, r50, r51, r52, r53, r54, r55⟩, ⟨r56, r57, r58, r59, r60, r61, r62, r63, r64, r65⟩, ⟨r66, r67, r68, r69, r70, r71, r72, r73, r74, r75⟩, ⟨r76, r77, r78, r79, r80, r81, r82, r83⟩, ⟨r84, r85, r86, r87, r88, r89⟩, ⟨r90, r91, r92, r93, r94, r95, r96, r97, r98⟩, ⟨r99, r100, r101, r102, r103, r104, r105, r106⟩, ⟨r107, r108, r109, r110, r111, r112, r113⟩, ⟨r114, r115, r116, r117, r118, r119, r120, r121, r122, r123⟩⟩
theorem fzS_r {nx : (Nat → Int) → Int} {fz : Nat → Int} (H : rgA fz 0 1) : ∀ i, rgA (fzS nx fz i) 0 1
  | 0 => H
  | i + 1 => fun j => by
    show 0 ≤ st1 _ _ 0 j ∧ st1 _ _ 0 j ≤ 1
    unfold st1
    split
    · decide
    · exact fzS_r H i j
section P48
variable {d : Nat} {h : HP} {Q : PV → HP → Prop} {v1 v2 v3 v4 n m : Int}
set_option maxHeartbeats 4000000 in
theorem c_thaw (hR : R h) (H1 : (0 ≤ v1 ∧ v1 < 12) → ∀ (N : Nat) g, isN (VX h v1.toNat) N → N ≤ 8 → SCT h g → (∀ q, 69 ≤ q → g q = h q) → g 21 = fzS (NXT h v1.toNat) (h 21) N → g 57 1 = 0 → g 57 2 = 0 → Q (I (N : Int)) g) (H3 : ¬ (0 ≤ v1 ∧ v1 < 12) → Q (I (-1)) (rfC h (-1))) : X (d + 10) 115 0 [some (P 0), some (I v1), none, none, none] [] h Q := by
  by_cases hv : 0 ≤ v1 ∧ v1 < 12
  · have HN := H1 hv
    obtain ⟨a0, a1⟩ := hv
    clear H1 H3
    have E : ∀ (t : Nat) (g : HP), isN (VX h v1.toNat) t → t ≤ 8 → SCT h g → (∀ q, 69 ≤ q → g q = h q) → g 21 = fzS (NXT h v1.toNat) (h 21) t → X (d + 10) 115 75 [some (P 0), some (I v1), some (I (t : Int)), some (I (t : Int)), none] [] g Q := by
      intro t g hN t8 sg hm h21
      refine b115_75 (z1 (b115_82 (HN t _ hN t8 (SCT_u (SCT_u sg (by decide)) (by decide)) (fun q hq => by rw [up_p (by omega), up_p (by omega)]; exact hm q hq) (by rw [up_p (by decide), up_p (by decide)]; exact h21) ?_ up_s)))
      rw [up_i (by decide), up_s]
    have L : ∀ c t : Nat, t + c = 8 → ∀ (g : HP), SCT h g → (∀ q, 69 ≤ q → g q = h q) → g 21 = fzS (NXT h v1.toNat) (h 21) t → SCE g (h 34 v1.toNat) (h 30 5) 100 100 (h 25) (hnF h) (fzS (NXT h v1.toNat) (h 21) t) (h 9) (h 23) (h 15) z0F → (∀ j, j < t → 0 ≤ VX h v1.toNat j) → X (d + 10) 115 27 [some (P 0), some (I v1), some (I (t : Int)), some (I (t : Int)), none] [] g Q := by
      intro c
      induction c with
      | zero =>
        intro t ht g sg hm h21 hS hV
        have e : t = 8 := by omega
        subst e
        exact b115_27 (br_i (fun _ => E 8 g ⟨hV, VX_9 hR hV⟩ (by omega) sg hm h21) (fun q => absurd (by omega) q))
      | succ c ih =>
        intro t ht g sg hm h21 hS hV
        refine b115_27 (br_i (fun q => absurd q (by omega)) (fun _ => ?_))
        refine c_thaw1 hR sg hS (fun hn k fk Sk => b115_40 (br_i (fun q => absurd rfl q) (fun _ => E t k ⟨hV, hn⟩ (by omega) (SCT_oS sg fk) (fun q hq => by rw [fk q (by omega)]; exact hm q hq) (by rw [fk 21 (by decide)]; exact h21)))) (fun v hn hv8 k fk Sk => b115_40 (br_i (fun _ => an_i (by omega) (by omega) ?_) (fun q => absurd (by omega) q)))
        have e : VX h v1.toNat t = v := hn
        rw [w32_n (by omega)]
        simp only [Int.toNat_natCast]
        refine ih (t + 1) (by omega) _ (SCT_u (SCT_oS sg fk) (by decide)) (fun q hq => by rw [up_p (by omega), fk q (by omega)]; exact hm q hq) ?_ ?_ (fun j hj => ?_)
        · rw [up_st, fk 21 (by decide), h21]
          show st1 _ v 0 = st1 _ (NXT h v1.toNat (fzS (NXT h v1.toNat) (h 21) t)).toNat 0
          rw [hn, Int.toNat_natCast]
        · show SCE _ _ _ _ _ _ _ (st1 _ (NXT h v1.toNat (fzS (NXT h v1.toNat) (h 21) t)).toNat 0) _ _ _ _
          rw [hn, Int.toNat_natCast]
          unfold SCE SCN drC exC at Sk ⊢
          simp only [up_p, ne_eq, Nat.reduceEqDiff, not_false_eq_true]
          exact Sk
        · by_cases ej : j = t
          · subst ej; rw [e]; omega
          · exact hV j (by omega)
    repeat' (first | (exfalso; omega) | (apply br_i <;> intro _) | apply b115_0 | apply z123 | apply b115_6 | apply an_i | decide | omega)
    exact c_asNow hR a0 a1 (fun g o hN => b115_23 (L 8 0 rfl g (SCT_of (o_scr o)) (fun q hq => o q (by omega) (by omega) (by omega)) (o 21 (by decide) (by decide) (by decide)) (NOW_s hR o hN) (fun j hj => absurd hj (by omega))))
  · have HN := H3 hv
    clear H1 H3
    repeat' (first | exact HN | (exfalso; omega) | (apply br_i <;> intro _) | apply b115_0 | apply z123 | apply b115_6 | apply z121 | apply b115_14 | apply an_i | decide | omega)
set_option maxHeartbeats 4000000 in
theorem m_thaw {g0 : HP} (H1 : (0 ≤ v1 ∧ v1 < 12) → R h ∧ SCT h g0 ∧ (∀ q, 69 ≤ q → g0 q = h q) ∧ ∀ (N : Nat) g, isN (VX h v1.toNat) N → SCT h g → (∀ q, q < 41 ∨ q = 57 → g q = g0 q) → g 89 = fzS (NXT h v1.toNat) (h 21) N → g 69 43 = 0 → g 69 44 = 0 → Q (I (N : Int)) g) (H3 : ¬ (0 ≤ v1 ∧ v1 < 12) → Q (I (-1)) (rfM g0 (-1))) : X (d + 10) 216 0 [some (P 69), some (I v1), none] [] g0 Q := by
  by_cases hv : 0 ≤ v1 ∧ v1 < 12
  · obtain ⟨hR, a, hm, HN⟩ := H1 hv
    obtain ⟨a0, a1⟩ := hv
    clear H1 H3
    have e21 : h 89 = h 21 := by
      obtain ⟨⟨r1, r2, r3, r4, r5, r6, r7, r8⟩, ⟨r9, r10, r11, r12, r13⟩, ⟨r14, r15, r16, r17, r18, r19, r20⟩, ⟨r21, r22, r23, r24, r25, r26⟩, ⟨r27, r28, r29, r30, r31⟩, ⟨r32, r33⟩, ⟨r34, r35, r36, r37, r38, r39, r40, r41, r42, r43, r44, r45⟩, ⟨r46, r47, r48⟩, ⟨r49, r50, r51, r52, r53, r54, r55⟩, ⟨r56, r57, r58, r59, r60, r61, r62, r63, r64, r65⟩, ⟨r66, r67, r68, r69, r70, r71, r72, r73, r74, r75⟩, ⟨r76, r77, r78, r79, r80, r81, r82, r83⟩, ⟨r84, r85, r86, r87, r88, r89⟩, ⟨r90, r91, r92, r93, r94, r95, r96, r97, r98⟩, ⟨r99, r100, r101, r102, r103, r104, r105, r106⟩, ⟨r107, r108, r109, r110, r111, r112, r113⟩, ⟨r114, r115, r116, r117, r118, r119, r120, r121, r122, r123⟩⟩ := id hR
      exact r20.symm
    repeat' (first | (exfalso; omega) | (apply br_i <;> intro _) | apply b216_0 | apply z137 | apply b216_4 | apply an_i | decide | omega)
    refine m_fthaw hR a (hm 89 (by decide)) a0 a1 (fun N k hN hN8 sk k92 k123 => b216_18 ?_)
    have L : ∀ c i : Nat, i + c = N → ∀ (g : HP), SCT h g → (∀ q, q < 41 ∨ q = 57 → g q = g0 q) → g 69 92 = N → (∀ j, j < N → g 123 j = VX h v1.toNat j) → g 89 = fzS (NXT h v1.toNat) (h 21) i → X (d + 10) 216 20 [some (P 69), some (I v1), some (I (i : Int))] [] g Q := by
      intro c
      induction c with
      | zero =>
        intro i hi g sg hc g92 g123 g89
        have ei : i = N := by omega
        subst ei
        refine b216_20 ?_
        rw [g92]
        refine br_i (fun _ => z147 (b216_50 ?_)) (fun q => absurd (by omega) q)
        rw [up_i (by decide), up_i (by decide), g92]
        refine HN i _ hN (SCT_v (SCT_v sg (by decide)) (by decide)) (fun q hq => by rw [up_p (by omega), up_p (by omega)]; exact hc q hq) (by rw [up_p (by decide), up_p (by decide)]; exact g89) ?_ up_s
        rw [up_i (by decide), up_s]
      | succ c ih =>
        intro i hi g sg hc g92 g123 g89
        have v0 := hN.1 i (by omega)
        have v8 : VX h v1.toNat i < 8 := by
          rcases NXT_9 (h := h) (hr := v1.toNat) (fz := fzS (NXT h v1.toNat) (h 21) i) with e | ⟨v, e1, e2, e3⟩
          · have : VX h v1.toNat i < 0 := e
            omega
          · have : VX h v1.toNat i = v := e1
            have := (R_cnt hR).2.2.2.1
            omega
        refine b216_20 ?_
        rw [g92]
        simp only [Int.toNat_natCast]
        rw [g123 i (by omega)]
        refine br_i (fun q => absurd q (by omega)) (fun _ => an_i (by omega) (by omega) (an_i v0 v8 ?_))
        rw [w32_n (by omega)]
        refine ih (i + 1) (by omega) _ (SCT_u sg (by decide)) (fun q hq => by rw [up_p (by omega)]; exact hc q hq) (by rw [up_p (by decide)]; exact g92) (by rw [up_p (by decide)]; exact g123) ?_
        rw [up_st, g89]; rfl
    refine L N 0 (by omega) k (SCT_t a sk) (fun q hq => sk.1 q (by omega)) k92 k123 ?_
    rw [sk.1 89 (by decide), hm 89 (by decide), e21]; rfl
  · have HN := H3 hv
    clear H1 H3
    repeat' (first | exact HN | (exfalso; omega) | (apply br_i <;> intro _) | apply b216_0 | apply z137 | apply b216_4 | apply z135 | apply b216_12 | apply an_i | decide | omega)
theorem p_thaw (hR : R h) : X (d + 10) 115 0 [some (P 0), some (I v1), none, none, none] [] h (fun r h1 => X (d + 10) 216 0 [some (P 69), some (I v1), none] [] h1 (fun r' h2 => EQA r r' h2)) := by
  have q98 : rgA (h 21) 0 1 := by
    obtain ⟨⟨r1, r2, r3, r4, r5, r6, r7, r8⟩, ⟨r9, r10, r11, r12, r13⟩, ⟨r14, r15, r16, r17, r18, r19, r20⟩, ⟨r21, r22, r23, r24, r25, r26⟩, ⟨r27, r28, r29, r30, r31⟩, ⟨r32, r33⟩, ⟨r34, r35, r36, r37, r38, r39, r40, r41, r42, r43, r44, r45⟩, ⟨r46, r47, r48⟩, ⟨r49, r50, r51, r52, r53, r54, r55⟩, ⟨r56, r57, r58, r59, r60, r61, r62, r63, r64, r65⟩, ⟨r66, r67, r68, r69, r70, r71, r72, r73, r74, r75⟩, ⟨r76, r77, r78, r79, r80, r81, r82, r83⟩, ⟨r84, r85, r86, r87, r88, r89⟩, ⟨r90, r91, r92, r93, r94, r95, r96, r97, r98⟩, ⟨r99, r100, r101, r102, r103, r104, r105, r106⟩, ⟨r107, r108, r109, r110, r111, r112, r113⟩, ⟨r114, r115, r116, r117, r118, r119, r120, r121, r122, r123⟩⟩ := id hR
    exact r98
  refine c_thaw hR (fun hv N g hN hN8 sg hm h21 h1 h2 => m_thaw (h := h) (fun _ => ⟨hR, sg, hm, fun M k hM sk hc k89 k43 k44 => ?_⟩) (fun hn => absurd hv hn)) (fun hn => m_thaw (h := h) (fun hv => absurd hv hn) (fun _ => EQA_rf hR))
  have e := isN_u hM hN
  subst e
  refine ⟨rfl, R_thaw sk hR ?_ ?_ ?_ ?_ k43 k44⟩
  · rw [hc 21 (by decide), h21, k89]
  · rw [hc 21 (by decide), h21]; exact fzS_r q98 _
  · rw [hc 57 (by decide)]; exact h1
  · rw [hc 57 (by decide)]; exact h2
end P48
