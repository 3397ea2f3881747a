/-! ticks: the pair -/
section P74
variable {d : Nat} {h g k : HP} {Q : PV → HP → Prop} {v1 : Int}
def tkr (q : Nat) : Bool := decide ((q < 41 ∨ (56 < q ∧ q < 69) ∨ (69 < q ∧ q < 105) ∨ (114 < q ∧ q < 120)) ∧ q ≠ 0 ∧ q ≠ 7 ∧ q ≠ 8 ∧ q ≠ 9 ∧ q ≠ 29 ∧ q ≠ 57 ∧ q ≠ 67 ∧ q ≠ 73 ∧ q ≠ 75 ∧ q ≠ 76 ∧ q ≠ 95)
def tks (x : Nat) : Bool := decide (sc69 x = false ∧ ¬ (32 ≤ x ∧ x ≤ 35) ∧ x ≠ 43 ∧ x ≠ 44)
theorem sc_n {x : Nat} (hx : sc69 x = false) : ¬ (49 ≤ x ∧ x ≤ 53) ∧ ¬ (55 ≤ x ∧ x ≤ 62) ∧ x ≠ 71 ∧ ¬ (74 ≤ x ∧ x ≤ 77) := by
  refine ⟨fun q => ?_, fun q => ?_, fun q => ?_, fun q => ?_⟩
  · have : x = 49 ∨ x = 50 ∨ x = 51 ∨ x = 52 ∨ x = 53 := by omega
    rcases this with e | e | e | e | e <;> subst e <;> cases hx
  · have : x = 55 ∨ x = 56 ∨ x = 57 ∨ x = 58 ∨ x = 59 ∨ x = 60 ∨ x = 61 ∨ x = 62 := by omega
    rcases this with e | e | e | e | e | e | e | e <;> subst e <;> cases hx
  · subst q; cases hx
  · have : x = 74 ∨ x = 75 ∨ x = 76 ∨ x = 77 := by omega
    rcases this with e | e | e | e <;> subst e <;> cases hx
/-- what ticks leave alone -/
def STK (h g : HP) : Prop := (∀ q, tkr q = true → g q = h q) ∧ ∀ x, tks x = true → g 69 x = h 69 x
set_option maxHeartbeats 4000000 in
theorem R_tick (a : STK h g) (hR : R h) (x4 : g 7 = g 73) (x6 : g 8 = g 75) (x26 : g 29 = g 95) (x40 : g 0 8 = g 69 32) (x46 : g 67 0 = g 69 33 ∧ g 67 1 = g 69 34 ∧ g 67 2 = g 69 35) (x68 : 0 ≤ g 0 8 ∧ g 0 8 ≤ 9999) (x81 : flp (g 8) (g 9) (g 76)) (x106 : rgA (g 29) 0 3) (x114 : rgA (g 7) 0 (2000000 + 40000 * g 0 8)) (q1 : g 57 1 = 0) (q2 : g 57 2 = 0) (q3 : g 69 43 = 0) (q4 : g 69 44 = 0) (x121 : zeroT (g 29) (h 26 2)) (x122 : ownT (h 40) (g 8) (h 2 0)) (x123 : rgA (g 67) 0 (2000000 * g 0 8)) : R g := by
  obtain ⟨⟨r1, r2, r3, r4, r5, r6, r7, r8⟩, ⟨r9, r10, r11, r12, r13⟩, ⟨r14, r15, r16, r17, r18, r19, r20⟩, ⟨r21, r22, r23, r24, r25, r26⟩, ⟨r27, r28, r29, r30, r31⟩, ⟨r32, r33⟩, ⟨r34, r35, r36, r37, r38, r39, r40, r41, r42, r43, r44, r45⟩, ⟨r46, r47, r48⟩, ⟨r49, r50, r51, r52, r53, r54, r55⟩, ⟨r56, r57, r58, r59, r60, r61, r62, r63, r64, r65⟩, ⟨r66, r67, r68, r69, r70, r71, r72, r73, r74, r75⟩, ⟨r76, r77, r78, r79, r80, r81, r82, r83⟩, ⟨r84, r85, r86, r87, r88, r89⟩, ⟨r90, r91, r92, r93, r94, r95, r96, r97, r98⟩, ⟨r99, r100, r101, r102, r103, r104, r105, r106⟩, ⟨r107, r108, r109, r110, r111, r112, r113⟩, ⟨r114, r115, r116, r117, r118, r119, r120, r121, r122, r123⟩⟩ := id hR
  unfold R
  simp only [a.1 2 rfl, a.1 3 rfl, a.1 4 rfl, a.1 5 rfl, a.1 6 rfl, a.1 10 rfl, a.1 11 rfl, a.1 12 rfl, a.1 13 rfl, a.1 14 rfl, a.1 15 rfl, a.1 17 rfl, a.1 18 rfl, a.1 19 rfl, a.1 20 rfl, a.1 21 rfl, a.1 22 rfl, a.1 23 rfl, a.1 24 rfl, a.1 25 rfl, a.1 26 rfl, a.1 27 rfl, a.1 28 rfl, a.1 30 rfl, a.1 31 rfl, a.1 32 rfl, a.1 33 rfl, a.1 34 rfl, a.1 35 rfl, a.1 36 rfl, a.1 37 rfl, a.1 39 rfl, a.1 40 rfl, a.1 58 rfl, a.1 59 rfl, a.1 60 rfl, a.1 61 rfl, a.1 62 rfl, a.1 63 rfl, a.1 64 rfl, a.1 65 rfl, a.1 66 rfl, a.1 68 rfl, a.1 70 rfl, a.1 71 rfl, a.1 72 rfl, a.1 74 rfl, a.1 77 rfl, a.1 78 rfl, a.1 79 rfl, a.1 80 rfl, a.1 81 rfl, a.1 82 rfl, a.1 83 rfl, a.1 84 rfl, a.1 85 rfl, a.1 86 rfl, a.1 87 rfl, a.1 88 rfl, a.1 89 rfl, a.1 90 rfl, a.1 91 rfl, a.1 92 rfl, a.1 93 rfl, a.1 94 rfl, a.1 96 rfl, a.1 97 rfl, a.1 98 rfl, a.1 99 rfl, a.1 100 rfl, a.1 101 rfl, a.1 102 rfl, a.1 103 rfl, a.1 104 rfl, a.1 115 rfl, a.1 116 rfl, a.1 117 rfl, a.1 118 rfl, a.1 119 rfl, a.2 9 rfl, a.2 17 rfl, a.2 22 rfl, a.2 26 rfl, a.2 30 rfl, a.2 31 rfl, a.2 37 rfl, a.2 46 rfl, a.2 70 rfl, a.2 83 rfl]
  have r4 := x4
  have r6 := x6
  have r26 := x26
  have r40 := x40
  have r46 := x46.1
  have r47 := x46.2.1
  have r48 := x46.2.2
  have r68 := x68.1
  have r69 := x68.2
  have r81 := x81
  have r106 := x106
  have r114 := x114
  have r42 : g 57 1 = g 69 44 := by rw [q1, q4]
  have r43 : g 57 2 = g 69 43 := by rw [q2, q3]
  have r116 : 0 ≤ g 57 1 := by omega
  have r117 : g 57 1 ≤ g 57 2 := by omega
  have r118 : g 57 2 ≤ 60 := by omega
  have r119 : actR (g 57 2) (h 26 2) (h 58) (h 59) (h 60) (h 98) (h 99) (h 100) (h 101) := fun j hj => absurd hj (by omega)
  have r121 := x121
  have r122 := x122
  have r123 := x123
  exact ⟨⟨r1, r2, r3, r4, r5, r6, r7, r8⟩, ⟨r9, r10, r11, r12, r13⟩, ⟨r14, r15, r16, r17, r18, r19, r20⟩, ⟨r21, r22, r23, r24, r25, r26⟩, ⟨r27, r28, r29, r30, r31⟩, ⟨r32, r33⟩, ⟨r34, r35, r36, r37, r38, r39, r40, r41, r42, r43, r44, r45⟩, ⟨r46, r47, r48⟩, ⟨r49, r50, r51, r52, r53, r54, r55⟩, ⟨r56, r57, r58, r59, r60, r61, r62, r63, r64, r65⟩, ⟨r66, r67, r68, r69, r70, r71, r72, r73, r74, r75⟩, ⟨r76, r77, r78, r79, r80, r81, r82, r83⟩, ⟨r84, r85, r86, r87, r88, r89⟩, ⟨r90, r91, r92, r93, r94, r95, r96, r97, r98⟩, ⟨r99, r100, r101, r102, r103, r104, r105, r106⟩, ⟨r107, r108, r109, r110, r111, r112, r113⟩, ⟨r114, r115, r116, r117, r118, r119, r120, r121, r122, r123⟩⟩
set_option maxHeartbeats 4000000 in
theorem p_ticks (hR : R h) (hv : i32 v1) : X (d + 22) 97 0 [some (P 0), some (I v1), none] [] h (fun r h1 => X (d + 22) 183 0 [some (P 69), some (I v1), none] [] h1 (fun r' h2 => EQA r r' h2)) := by
  have hO := OKC_of hR
  have hT := TKR_of hR
  have F : h 0 8 = h 69 32 ∧ (0 ≤ h 0 8 ∧ h 0 8 ≤ 9999) ∧ (h 67 0 = h 69 33 ∧ h 67 1 = h 69 34 ∧ h 67 2 = h 69 35) ∧ (h 25 = h 92 ∧ h 69 70 = -9) ∧ rgA (h 67) 0 (2000000 * h 0 8) ∧ zeroT (h 29) (h 26 2) ∧ 0 ≤ h 26 2 := by
    obtain ⟨⟨r1, r2, r3, r4, r5, r6, r7, r8⟩, ⟨r9, r10, r11, r12, r13⟩, ⟨r14, r15, r16, r17, r18, r19, r20⟩, ⟨r21, r22, r23, r24, r25, r26⟩, ⟨r27, r28, r29, r30, r31⟩, ⟨r32, r33⟩, ⟨r34, r35, r36, r37, r38, r39, r40, r41, r42, r43, r44, r45⟩, ⟨r46, r47, r48⟩, ⟨r49, r50, r51, r52, r53, r54, r55⟩, ⟨r56, r57, r58, r59, r60, r61, r62, r63, r64, r65⟩, ⟨r66, r67, r68, r69, r70, r71, r72, r73, r74, r75⟩, ⟨r76, r77, r78, r79, r80, r81, r82, r83⟩, ⟨r84, r85, r86, r87, r88, r89⟩, ⟨r90, r91, r92, r93, r94, r95, r96, r97, r98⟩, ⟨r99, r100, r101, r102, r103, r104, r105, r106⟩, ⟨r107, r108, r109, r110, r111, r112, r113⟩, ⟨r114, r115, r116, r117, r118, r119, r120, r121, r122, r123⟩⟩ := id hR
    exact ⟨r40, ⟨r68, r69⟩, ⟨r46, r47, r48⟩, ⟨r23, r55⟩, r123, r121, r64⟩
  obtain ⟨e32, t01, e33, e25, q67, hz, h26⟩ := F
  have rf : ∀ a : Int, rfC h a 69 = h 69 := fun a => rfC_p (by decide)
  refine c_ticks (d := d + 17) hR hv (fun hc g hg => ?_) (fun q1 hn => m_ticks (h := h) hv (by rw [rf, ← e32]; exact t01) (fun x => absurd ⟨x.2.1, by have := x.2.2; rw [rf, ← e32] at this; exact this⟩ hn) (fun _ _ => EQA_rf hR) (fun x => absurd q1 x)) (fun hn => m_ticks (h := h) hv (by rw [rf, ← e32]; exact t01) (fun x => absurd x.1 hn) (fun x => absurd x hn) (fun _ => EQA_rf hR))
  have GF : ∀ q, ¬ (52 ≤ q ∧ q ≤ 55) → q ≠ 0 → q ≠ 67 → q ≠ 7 → q ≠ 8 → q ≠ 9 → q ≠ 29 → q ≠ 57 → up2 (up2 g 57 1 0) 57 2 0 q = h q := fun q h1 h2 h3 h4 h5 h6 h7 h8 => by rw [up_p h8, up_p h8]; exact hg.2.1 q h1 h2 h3 h4 h5 h6 h7
  have g69 : up2 (up2 g 57 1 0) 57 2 0 69 = h 69 := GF 69 (by decide) (by decide) (by decide) (by decide) (by decide) (by decide) (by decide) (by decide)
  refine m_ticks (h := h) hv (by rw [g69, ← e32]; exact t01) (fun _ => ⟨hR, by rw [g69]; exact e32, ⟨?_, fun _ _ _ _ _ _ _ => rfl, fun _ _ _ _ => rfl, by rw [g69, ← e32]; simp, ?_⟩, ?_, by rw [g69]; exact e25.2, fun k hk => ⟨rfl, ?_⟩⟩) (fun _ hn => absurd ⟨hc.2.1, by rw [g69, ← e32]; exact hc.2.2⟩ hn) (fun hn => absurd hc.1 hn)
  · have := TKR_k (k' := up2 (up2 g 57 1 0) 57 2 0) hT (fun q hq => GF q (by omega) (by omega) (by omega) (by omega) (by omega) (by omega) (by omega) (by omega)) (fun x _ => by rw [g69])
    show TKR h _ _
    simpa using this
  · rw [g69, ← e33.1, ← e33.2.1, ← e33.2.2]
    simp [TSm, sm]
  · rw [GF 92 (by decide) (by decide) (by decide) (by decide) (by decide) (by decide) (by decide) (by decide)]; exact e25.1.symm
  · obtain ⟨kT, kf, ks, k32, k33⟩ := hk
    have hOn := EVO_O (s := (h 0 8).toNat) hO (by omega) v1.toNat
    have tr := TSm_r hO (by omega) v1.toNat
    -- the class's rows behind all
    have CR : ∀ q, q < 69 → q ≠ 0 → q ≠ 67 → ¬ (52 ≤ q ∧ q ≤ 57) → up2 (up2 k 69 43 0) 69 44 0 q = EVO h (h 0 8).toNat v1.toNat q := fun q h1 h2 h3 h4 => by
      rw [up_p (by omega), up_p (by omega), kf q (by omega) (by omega) (by omega) (by omega) (by omega) (by omega), up_p (by omega), up_p (by omega)]
      exact hg.1 q h2 h3 (by omega) (Or.inl h1)
    have C0 : ∀ q, q < 69 → up2 (up2 k 69 43 0) 69 44 0 q = up2 (up2 g 57 1 0) 57 2 0 q := fun q h1 => by
      rw [up_p (by omega), up_p (by omega), kf q (by omega) (by omega) (by omega) (by omega) (by omega) (by omega)]
    have MR : ∀ q, q ≠ 69 → up2 (up2 k 69 43 0) 69 44 0 q = k q := fun q h1 => by rw [up_p h1, up_p h1]
    have MX : ∀ x, x ≠ 43 → x ≠ 44 → up2 (up2 k 69 43 0) 69 44 0 69 x = k 69 x := fun x h1 h2 => by rw [up_i h2, up_i h1]
    have z8 : up2 (up2 k 69 43 0) 69 44 0 0 8 = h 0 8 + (v1.toNat : Int) := by rw [C0 0 (by decide), up_p (by decide), up_p (by decide), hg.2.2.1]
    have z67 : ∀ j, up2 (up2 k 69 43 0) 69 44 0 67 j = g 67 j := fun j => by rw [C0 67 (by decide), up_p (by decide), up_p (by decide)]
    have e29 := CR 29 (by decide) (by decide) (by decide) (by decide)
    have e7 := CR 7 (by decide) (by decide) (by decide) (by decide)
    have e8 := CR 8 (by decide) (by decide) (by decide) (by decide)
    have e9 := CR 9 (by decide) (by decide) (by decide) (by decide)
    refine R_tick (h := h) ⟨fun q hq => ?_, fun x hx => ?_⟩ hR ?_ ?_ ?_ ?_ ⟨?_, ?_, ?_⟩ ?_ ?_ ?_ ?_ ?_ ?_ ?_ ?_ ?_ ?_ ?_
    · have hq' : (q < 41 ∨ (56 < q ∧ q < 69) ∨ (69 < q ∧ q < 105) ∨ (114 < q ∧ q < 120)) ∧ q ≠ 0 ∧ q ≠ 7 ∧ q ≠ 8 ∧ q ≠ 9 ∧ q ≠ 29 ∧ q ≠ 57 ∧ q ≠ 67 ∧ q ≠ 73 ∧ q ≠ 75 ∧ q ≠ 76 ∧ q ≠ 95 := by
        exact of_decide_eq_true hq
      rw [MR q (by omega), kf q (by omega) (by omega) (by omega) (by omega) (by omega) (by omega)]
      exact GF q (by omega) (by omega) (by omega) (by omega) (by omega) (by omega) (by omega) (by omega)
    · have hx' : x ≠ 43 ∧ x ≠ 44 ∧ ¬ (32 ≤ x ∧ x ≤ 35) ∧ ¬ (49 ≤ x ∧ x ≤ 53) ∧ ¬ (55 ≤ x ∧ x ≤ 62) := by
        have y := of_decide_eq_true hx
        have z := sc_n y.1
        exact ⟨y.2.2.1, y.2.2.2, y.2.1, z.1, z.2.1⟩
      rw [MX x hx'.1 hx'.2.1, ks x hx'.2.2.1 hx'.2.2.2.1 hx'.2.2.2.2, g69]
    · rw [e7, MR 73 (by decide)]; exact kT.2.1.2.2.2.1.symm
    · rw [e8, MR 75 (by decide)]; exact kT.2.1.2.2.2.2.2.symm
    · rw [e29, MR 95 (by decide)]; exact kT.2.2.2.2.1.2.2.2.2.symm
    · rw [z8, MX 32 (by decide) (by decide), k32]
    · rw [z67, MX 33 (by decide) (by decide), k33.1]; exact hg.2.2.2.1.1
    · rw [z67, MX 34 (by decide) (by decide), k33.2.1]; exact hg.2.2.2.1.2.1
    · rw [z67, MX 35 (by decide) (by decide), k33.2.2]; exact hg.2.2.2.1.2.2
    · rw [z8]; omega
    · rw [e8, e9, MR 76 (by decide)]; exact kT.2.2.2.2.2.2.2.2.1
    · rw [e29]; exact hOn.2.2.1.2.2.1
    · rw [e7, z8]
      have e : 2000000 + 40000 * (h 0 8 + (v1.toNat : Int)) = 2000000 + 40000 * h 0 8 + 40000 * (v1.toNat : Int) := by omega
      rw [e]; exact hOn.2.1.2.2.1
    · rw [C0 57 (by decide), up_i (by decide), up_s]
    · rw [C0 57 (by decide), up_s]
    · rw [up_i (by decide), up_s]
    · rw [up_s]
    · rw [e29]; exact EVO_z hz h26 v1.toNat
    · rw [e8]
      have := hOn.2.2.2.2
      rw [EVO_f (q := 40) (by decide), EVO_f (q := 2) (by decide)] at this
      exact this
    · intro j
      have y := q67 j
      rw [z67, z8]
      have : j = 0 ∨ j = 1 ∨ j = 2 ∨ 2 < j := by omega
      rcases this with e | e | e | e
      · subst e; rw [hg.2.2.2.1.1]; omega
      · subst e; rw [hg.2.2.2.1.2.1]; omega
      · subst e; rw [hg.2.2.2.1.2.2]; omega
      · rw [hg.2.2.2.2 j e]; omega
end P74
