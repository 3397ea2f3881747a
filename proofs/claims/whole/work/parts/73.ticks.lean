/-! ticks: one behind another -/
section P73
variable {d : Nat} {h g k : HP} {Q : PV → HP → Prop} {v1 : Int}
def EVO (h : HP) (s : Nat) : Nat → HP
  | 0 => h
  | i + 1 => nx (EVO h s i) ((s + i) % 12)
theorem EVO_f {q : Nat} (hq : q ≠ 7 ∧ q ≠ 29 ∧ q ≠ 8 ∧ q ≠ 9 ∧ q ≠ 52 ∧ q ≠ 54 ∧ q ≠ 55) {s : Nat} : ∀ i, EVO h s i q = h q
  | 0 => rfl
  | i + 1 => (nx_f hq).trans (EVO_f hq i)
theorem EVO_O {B : Int} {s : Nat} (hO : OKC h B) (hB : 2000000 ≤ B) : ∀ i : Nat, OKC (EVO h s i) (B + 40000 * i)
  | 0 => by show OKC h _; simpa using hO
  | i + 1 => by
    have := OKC_n (hr := (s + i) % 12) (EVO_O (s := s) hO hB i) (by omega)
    have e : B + 40000 * ((i : Nat) : Int) + 40000 = B + 40000 * ((i + 1 : Nat) : Int) := by omega
    rw [e] at this
    exact this
theorem EVO_z {s : Nat} (hz : zeroT (h 29) (h 26 2)) (h4 : 0 ≤ h 26 2) : ∀ i, zeroT (EVO h s i 29) (h 26 2)
  | 0 => hz
  | i + 1 => fun j hj => by
    show hS (EVO h s i) _ (EVO h s i 26 2).toNat j = 0
    rw [EVO_f (q := 26) (by decide), hS_i (by omega)]
    exact EVO_z hz h4 i j hj
theorem n52_r {c : HP} {B : Int} (hO : OKC c B) (hr : Nat) : (0 ≤ nx c hr 52 2 ∧ nx c hr 52 2 ≤ 2000000) ∧ (0 ≤ nx c hr 52 3 ∧ nx c hr 52 3 ≤ 2000000) ∧ (0 ≤ nx c hr 52 4 ∧ nx c hr 52 4 ≤ 2000000) := by
  obtain ⟨⟨⟨r56, r57, r58, r59, r60, r61, r62, r63, r64, r65⟩, ⟨r78, r79, r80⟩, ⟨r84, r85, r86, r87⟩, ⟨r90, r91, r92, r93, r94, r95, r96, r97⟩, ⟨r99, r101, r103, r104, r105⟩⟩, -⟩ := id hO
  have x1 := sm_b (f := tkT c hr) (n := (c 2 0).toNat) (fun j _ => tkT_r hO hr j)
  have x2 := sm_b (f := mkF (c 24) (c 25)) (n := (c 22 2).toNat) (fun j _ => mk_r j r101)
  have x3 := sm_b (f := mkF (c 28) (onH c hr)) (n := (c 26 2).toNat) (fun j _ => mk_r j r105)
  have x4 := sm_b (f := snC c hr) (n := (c 2 0).toNat) (fun j _ => snC_r hO hr j)
  have e2 : nx c hr 52 2 = sm (tkT c hr) (c 2 0).toNat := rfl
  have e3 : nx c hr 52 3 = sm (mkF (c 24) (c 25)) (c 22 2).toNat + sm (mkF (c 28) (onH c hr)) (c 26 2).toNat := rfl
  have e4 : nx c hr 52 4 = sm (snC c hr) (c 2 0).toNat := rfl
  rw [e2, e3, e4]
  omega
def TSm (h : HP) (j i : Nat) : Int := sm (fun t => EVO h (h 0 8).toNat (t + 1) 52 j) i
theorem TSm_r {B : Int} (hO : OKC h B) (hB : 2000000 ≤ B) (i : Nat) : (0 ≤ TSm h 2 i ∧ TSm h 2 i ≤ 2000000 * i) ∧ (0 ≤ TSm h 3 i ∧ TSm h 3 i ≤ 2000000 * i) ∧ (0 ≤ TSm h 4 i ∧ TSm h 4 i ≤ 2000000 * i) := by
  have x : ∀ t, _ := fun t => n52_r (EVO_O (s := (h 0 8).toNat) hO hB t) (((h 0 8).toNat + t) % 12)
  have a := sm_b (f := fun t => EVO h (h 0 8).toNat (t + 1) 52 2) (n := i) (fun j _ => (x j).1)
  have b := sm_b (f := fun t => EVO h (h 0 8).toNat (t + 1) 52 3) (n := i) (fun j _ => (x j).2.1)
  have c := sm_b (f := fun t => EVO h (h 0 8).toNat (t + 1) 52 4) (n := i) (fun j _ => (x j).2.2)
  unfold TSm
  omega
/-- behind i passes of the class -/
def CT (h g : HP) (i : Nat) : Prop := AG g (EVO h (h 0 8).toNat i) ∧ (∀ q, ¬ (52 ≤ q ∧ q ≤ 55) → q ≠ 0 → q ≠ 67 → q ≠ 7 → q ≠ 8 → q ≠ 9 → q ≠ 29 → g q = h q) ∧ g 0 8 = h 0 8 + i ∧ (g 67 0 = h 67 0 + TSm h 2 i ∧ g 67 1 = h 67 1 + TSm h 3 i ∧ g 67 2 = h 67 2 + TSm h 4 i) ∧ (∀ j, 2 < j → g 67 j = h 67 j)
theorem hr_e {a : Int} {i : Nat} (a0 : 0 ≤ a) : Int.tmod (a + (i : Int)) 12 = (((a.toNat + i) % 12 : Nat) : Int) := by
  rw [Int.tmod_eq_emod_of_nonneg (by omega)]
  omega
set_option maxHeartbeats 4000000 in
theorem c_ticks (hR : R h) (hv : i32 v1) (H1 : (1 ≤ v1 ∧ v1 ≤ 200 ∧ h 0 8 + v1 ≤ 9999) → ∀ g, CT h g v1.toNat → Q (I (h 0 8 + v1)) (up2 (up2 g 57 1 0) 57 2 0)) (H2 : 1 ≤ v1 → ¬ (v1 ≤ 200 ∧ h 0 8 + v1 ≤ 9999) → Q (I (-6)) (rfC h (-6))) (H3 : ¬ 1 ≤ v1 → Q (I (-4)) (rfC h (-4))) : X (d + 5) 97 0 [some (P 0), some (I v1), none] [] h Q := by
  have hO := OKC_of hR
  have F : (0 ≤ h 0 8 ∧ h 0 8 ≤ 9999) ∧ rgA (h 67) 0 (2000000 * h 0 8) := by
    obtain ⟨⟨r1, r2, r3, r4, r5, r6, r7, r8⟩, ⟨r9, r10, r11, r12, r13⟩, ⟨r14, r15, r16, r17, r18, r19, r20⟩, ⟨r21, r22, r23, r24, r25, r26⟩, ⟨r27, r28, r29, r30, r31⟩, ⟨r32, r33⟩, ⟨r34, r35, r36, r37, r38, r39, r40, r41, r42, r43, r44, r45⟩, ⟨r46, r47, r48⟩, ⟨r49, r50, r51, r52, r53, r54, r55⟩, ⟨r56, r57, r58, r59, r60, r61, r62, r63, r64, r65⟩, ⟨r66, r67, r68, r69, r70, r71, r72, r73, r74, r75⟩, ⟨r76, r77, r78, r79, r80, r81, r82, r83⟩, ⟨r84, r85, r86, r87, r88, r89⟩, ⟨r90, r91, r92, r93, r94, r95, r96, r97, r98⟩, ⟨r99, r100, r101, r102, r103, r104, r105, r106⟩, ⟨r107, r108, r109, r110, r111, r112, r113⟩, ⟨r114, r115, r116, r117, r118, r119, r120, r121, r122, r123⟩⟩ := id hR
    exact ⟨⟨r68, r69⟩, r123⟩
  obtain ⟨⟨t0, t1⟩, q67⟩ := F
  unfold i32 at hv
  by_cases q1 : 1 ≤ v1
  · by_cases q2 : v1 ≤ 200
    · have ew : w32 (h 0 8 + v1) = h 0 8 + v1 := w32_of (by omega) (by omega)
      by_cases q3 : h 0 8 + v1 ≤ 9999
      · have L : ∀ m i : Nat, i + m = v1.toNat → ∀ g, CT h g i → X (d + 5) 97 40 [some (P 0), some (I v1), some (I (i : Int))] [] g Q := by
          intro m
          induction m with
          | zero =>
            intro i hi g hg
            have ei : i = v1.toNat := by omega
            subst ei
            refine b97_40 (br_i (fun _ => z1 (b97_133 ?_)) (fun q => absurd (by omega) q))
            have e8 : up2 (up2 g 57 1 0) 57 2 0 0 8 = h 0 8 + v1 := by
              rw [up_p (by decide), up_p (by decide), hg.2.2.1]; omega
            rw [e8]
            exact H1 ⟨q1, q2, q3⟩ g hg
          | succ m ih =>
            intro i hi g hg
            have hOi := EVO_O (s := (h 0 8).toNat) hO (by omega) i
            have nr := n52_r hOi (((h 0 8).toNat + i) % 12)
            have tr := TSm_r hO (by omega) i
            have y0 := q67 0
            have y1 := q67 1
            have y2 := q67 2
            refine b97_40 (br_i (fun q => absurd q (by omega)) (fun _ => ?_))
            rw [hg.2.2.1, hr_e t0]
            refine c_passA hg.1 (by omega) hOi (by omega) (fun g' ha hs hf _ => b97_59 ?_)
            have e0 : g' 0 = g 0 := hf 0 (by decide) (by decide) (by decide) (by decide) (by decide)
            have e67 : g' 67 = g 67 := hf 67 (by decide) (by decide) (by decide) (by decide) (by decide)
            have f2 : EVO h (h 0 8).toNat (i + 1) 52 2 = g' 52 2 := hs.1.symm
            have f3 : EVO h (h 0 8).toNat (i + 1) 52 3 = g' 52 3 := hs.2.1.symm
            have f4 : EVO h (h 0 8).toNat (i + 1) 52 4 = g' 52 4 := hs.2.2.symm
            rw [e0, e67, hg.2.2.1, hg.2.2.2.1.1, hg.2.2.2.1.2.1, hg.2.2.2.1.2.2, w32_n (by omega), w64_of (x := h 67 0 + TSm h 2 i + g' 52 2) (by omega) (by omega), w64_of (x := h 67 1 + TSm h 3 i + g' 52 3) (by omega) (by omega), w64_of (x := h 67 2 + TSm h 4 i + g' 52 4) (by omega) (by omega), w32_of (x := h 0 8 + (i : Int) + 1) (by omega) (by omega)]
            have s2 : TSm h 2 (i + 1) = TSm h 2 i + g' 52 2 := by rw [← f2]; rfl
            have s3 : TSm h 3 (i + 1) = TSm h 3 i + g' 52 3 := by rw [← f3]; rfl
            have s4 : TSm h 4 (i + 1) = TSm h 4 i + g' 52 4 := by rw [← f4]; rfl
            refine ih (i + 1) (by omega) _ ⟨fun q h1 h2 h3 h4 => ?_, fun q h1 h2 h3 h4 h5 h6 h7 => ?_, ?_, ⟨?_, ?_, ?_⟩, fun j hj => ?_⟩
            · rw [up_p h1, up_p h2, up_p h2, up_p h2]; exact ha q h1 h2 h3 h4
            · rw [up_p h2, up_p h3, up_p h3, up_p h3, hf q h1 h4 h5 h6 h7]; exact hg.2.1 q h1 h2 h3 h4 h5 h6 h7
            · rw [up_s]; omega
            · rw [up_p (by decide), up_i (by decide), up_i (by decide), up_s]; omega
            · rw [up_p (by decide), up_i (by decide), up_s]; omega
            · rw [up_p (by decide), up_s]; omega
            · rw [up_p (by decide), up_i (by omega), up_i (by omega), up_i (by omega), e67]; exact hg.2.2.2.2 j hj
        refine b97_0 (br_i (fun _ => br_i (fun q => absurd q (by omega)) (fun _ => br_i (fun _ => L v1.toNat 0 (by omega) h ⟨AG_r h, fun _ _ _ _ _ _ _ _ => rfl, by simp, ⟨?_, ?_, ?_⟩, fun _ _ => rfl⟩) (fun q => absurd (by rw [ew]; exact q3) q))) (fun q => absurd q1 q))
        · simp [TSm, sm]
        · simp [TSm, sm]
        · simp [TSm, sm]
      · exact b97_0 (br_i (fun _ => br_i (fun q => absurd q (by omega)) (fun _ => br_i (fun q => absurd (by rw [← ew]; exact q) q3) (fun _ => b97_31 (z121 ⟨by decide, by decide, b97_37 (H2 q1 (fun x => q3 x.2))⟩)))) (fun q => absurd q1 q))
    · exact b97_0 (br_i (fun _ => br_i (fun _ => b97_31 (z121 ⟨by decide, by decide, b97_37 (H2 q1 (fun x => q2 x.1))⟩)) (fun q => absurd q (by omega))) (fun q => absurd q1 q))
  · exact b97_0 (br_i (fun q => absurd q q1) (fun _ => z121 ⟨by decide, by decide, b97_11 (H3 q1)⟩))
theorem TKR_k {c k k' : HP} {B : Int} (hT : TKR c k B) (f : ∀ q, (q = 2 ∨ q = 12 ∨ q = 17 ∨ q = 22 ∨ q = 26 ∨ q = 39 ∨ q = 40 ∨ (69 < q ∧ q ≤ 104)) → k' q = k q) (f2 : ∀ x, x ≤ 31 → k' 69 x = k 69 x) : TKR c k' B := by
  unfold TKR at *
  rw [f 70 (by decide), f 71 (by decide), f 72 (by decide), f 73 (by decide), f 74 (by decide), f 75 (by decide), f 76 (by decide), f 79 (by decide), f 80 (by decide), f 81 (by decide), f 82 (by decide), f 83 (by decide), f 84 (by decide), f 85 (by decide), f 86 (by decide), f 87 (by decide), f 88 (by decide), f 89 (by decide), f 90 (by decide), f 91 (by decide), f 92 (by decide), f 93 (by decide), f 94 (by decide), f 95 (by decide), f2 9 (by decide), f2 17 (by decide), f2 22 (by decide), f2 26 (by decide), f2 30 (by decide), f2 31 (by decide), f 2 (by decide), f 12 (by decide), f 17 (by decide), f 22 (by decide), f 26 (by decide), f 39 (by decide), f 40 (by decide), f 103 (by decide), f 104 (by decide)]
  exact hT
/-- behind i ticks of the model, from k0 -/
def MT (h k0 k : HP) (i : Nat) : Prop := TKR (EVO h (h 0 8).toNat i) k (2000000 + 40000 * h 0 8 + 40000 * i) ∧ (∀ q, q ≠ 69 → q ≠ 73 → q ≠ 95 → q ≠ 75 → q ≠ 76 → ¬ (105 ≤ q ∧ q ≤ 112) → k q = k0 q) ∧ (∀ x, ¬ (32 ≤ x ∧ x ≤ 35) → ¬ (49 ≤ x ∧ x ≤ 53) → ¬ (55 ≤ x ∧ x ≤ 62) → k 69 x = k0 69 x) ∧ k 69 32 = h 0 8 + i ∧ (k 69 33 = h 67 0 + TSm h 2 i ∧ k 69 34 = h 67 1 + TSm h 3 i ∧ k 69 35 = h 67 2 + TSm h 4 i)
set_option maxHeartbeats 4000000 in
theorem m_ticks {k0 : HP} (hv : i32 v1) (h32 : 0 ≤ k0 69 32 ∧ k0 69 32 ≤ 9999) (H1 : (1 ≤ v1 ∧ v1 ≤ 200 ∧ k0 69 32 + v1 ≤ 9999) → R h ∧ h 0 8 = k0 69 32 ∧ MT h k0 k0 0 ∧ k0 92 = h 25 ∧ k0 69 70 = -9 ∧ ∀ k, MT h k0 k v1.toNat → Q (I (h 0 8 + v1)) (up2 (up2 k 69 43 0) 69 44 0)) (H2 : 1 ≤ v1 → ¬ (v1 ≤ 200 ∧ k0 69 32 + v1 ≤ 9999) → Q (I (-6)) (rfM k0 (-6))) (H3 : ¬ 1 ≤ v1 → Q (I (-4)) (rfM k0 (-4))) : X (d + 22) 183 0 [some (P 69), some (I v1), none] [] k0 Q := by
  unfold i32 at hv
  by_cases q1 : 1 ≤ v1
  · by_cases q2 : v1 ≤ 200
    · have ew : w32 (k0 69 32 + v1) = k0 69 32 + v1 := w32_of (by omega) (by omega)
      by_cases q3 : k0 69 32 + v1 ≤ 9999
      · obtain ⟨hR, e08, h0, k92, k70, HN⟩ := H1 ⟨q1, q2, q3⟩
        clear H1 H2 H3
        have hO := OKC_of hR
        have q67 : rgA (h 67) 0 (2000000 * h 0 8) := by
          obtain ⟨⟨r1, r2, r3, r4, r5, r6, r7, r8⟩, ⟨r9, r10, r11, r12, r13⟩, ⟨r14, r15, r16, r17, r18, r19, r20⟩, ⟨r21, r22, r23, r24, r25, r26⟩, ⟨r27, r28, r29, r30, r31⟩, ⟨r32, r33⟩, ⟨r34, r35, r36, r37, r38, r39, r40, r41, r42, r43, r44, r45⟩, ⟨r46, r47, r48⟩, ⟨r49, r50, r51, r52, r53, r54, r55⟩, ⟨r56, r57, r58, r59, r60, r61, r62, r63, r64, r65⟩, ⟨r66, r67, r68, r69, r70, r71, r72, r73, r74, r75⟩, ⟨r76, r77, r78, r79, r80, r81, r82, r83⟩, ⟨r84, r85, r86, r87, r88, r89⟩, ⟨r90, r91, r92, r93, r94, r95, r96, r97, r98⟩, ⟨r99, r100, r101, r102, r103, r104, r105, r106⟩, ⟨r107, r108, r109, r110, r111, r112, r113⟩, ⟨r114, r115, r116, r117, r118, r119, r120, r121, r122, r123⟩⟩ := id hR
          exact r123
        have L : ∀ m i : Nat, i + m = v1.toNat → ∀ k, MT h k0 k i → X (d + 22) 183 40 [some (P 69), some (I v1), some (I (i : Int))] [] k Q := by
          intro m
          induction m with
          | zero =>
            intro i hi k hk
            have ei : i = v1.toNat := by omega
            subst ei
            refine b183_40 (br_i (fun _ => z147 (b183_59 ?_)) (fun q => absurd (by omega) q))
            have e8 : up2 (up2 k 69 43 0) 69 44 0 69 32 = h 0 8 + v1 := by
              rw [up_i (by decide), up_i (by decide), hk.2.2.2.1]; omega
            rw [e8]
            exact HN k hk
          | succ m ih =>
            intro i hi k hk
            have hOi := EVO_O (s := (h 0 8).toNat) hO (by omega) i
            have nr := n52_r hOi (((h 0 8).toNat + i) % 12)
            have tr := TSm_r hO (by omega) i
            have y0 := q67 0
            have y1 := q67 1
            have y2 := q67 2
            have hY : BYH (EVO h (h 0 8).toNat i) k (((h 0 8).toNat + i) % 12) := by
              left
              rw [hk.2.2.1 70 (by decide) (by decide) (by decide), hk.2.1 92 (by decide) (by decide) (by decide) (by decide) (by decide) (by decide), EVO_f (q := 25) (by decide), k70, k92]
              exact ⟨by decide, rfl⟩
            refine b183_40 (br_i (fun q => absurd q (by omega)) (fun _ => m_tick (hr := ((h 0 8).toNat + i) % 12) hk.1 (by omega) hY (by rw [hk.2.2.2.1]; exact hr_e (by omega)) (by omega) (fun g hM => b183_49 ?_)))
            have hb : (0 ≤ k 69 33 ∧ k 69 33 ≤ BG) ∧ (0 ≤ k 69 34 ∧ k 69 34 ≤ BG) ∧ (0 ≤ k 69 35 ∧ k 69 35 ≤ BG) := by
              rw [hk.2.2.2.2.1, hk.2.2.2.2.2.1, hk.2.2.2.2.2.2]
              unfold BG
              omega
            have e33 := hM.2.2.1.1 hb.1
            have e34 := hM.2.2.1.2.1 hb.2.1
            have e35 := hM.2.2.1.2.2 hb.2.2
            rw [mkP_s hOi] at e34
            rw [hk.2.2.2.2.1] at e33
            rw [hk.2.2.2.2.2.1] at e34
            rw [hk.2.2.2.2.2.2] at e35
            rw [w32_n (by omega), hk.2.2.2.1, w32_of (x := h 0 8 + (i : Int) + 1) (by omega) (by omega)]
            have hT := TKR_n (v := h 0 8 + (i : Int) + 1) hk.1 (by omega) hM
            have eB : 2000000 + 40000 * h 0 8 + 40000 * ((i : Nat) : Int) + 40000 = 2000000 + 40000 * h 0 8 + 40000 * ((i + 1 : Nat) : Int) := by omega
            rw [eB] at hT
            refine ih (i + 1) (by omega) _ ⟨hT, fun q h1 h2 h3 h4 h5 h6 => ?_, fun x h1 h2 h3 => ?_, ?_, ?_, ?_, ?_⟩
            · rw [up_p h1, hM.1.1 q h1 h2 h3 h4 h5 h6]; exact hk.2.1 q h1 h2 h3 h4 h5 h6
            · rw [up_i (by omega), hM.1.2 x (by omega) h2 h3]; exact hk.2.2.1 x h1 h2 h3
            · rw [up_s]; omega
            · rw [up_i (by decide), e33, Int.add_assoc]; rfl
            · rw [up_i (by decide), e34, Int.add_assoc]; rfl
            · rw [up_i (by decide), e35, Int.add_assoc]; rfl
        exact b183_0 (br_i (fun _ => br_i (fun q => absurd q (by omega)) (fun _ => br_i (fun _ => L v1.toNat 0 (by omega) k0 h0) (fun q => absurd (by rw [ew]; exact q3) q))) (fun q => absurd q1 q))
      · exact b183_0 (br_i (fun _ => br_i (fun q => absurd q (by omega)) (fun _ => br_i (fun q => absurd (by rw [← ew]; exact q) q3) (fun _ => b183_31 (z135 ⟨by decide, by decide, b183_37 (H2 q1 (fun x => q3 x.2))⟩)))) (fun q => absurd q1 q))
    · exact b183_0 (br_i (fun _ => br_i (fun _ => b183_31 (z135 ⟨by decide, by decide, b183_37 (H2 q1 (fun x => q2 x.1))⟩)) (fun q => absurd q (by omega))) (fun q => absurd q1 q))
  · exact b183_0 (br_i (fun q => absurd q q1) (fun _ => z135 ⟨by decide, by decide, b183_11 (H3 q1)⟩))
end P73
