/-! a scene as now: asNow of the class, layOut of the model -/
theorem e256 : (2 : Int) ^ 8 = 256 := by decide
theorem set_b {x : Int} {i : Nat} (hi : i < 8) (x0 : 0 ≤ x) (x1 : x < 256) : ∃ u, u = bOr x (bShl 1 (i : Int)) ∧ 0 ≤ u ∧ u < 256 ∧ ∀ j, bit u j = (bit x j || decide (i = j)) := by
  have s1 := shl1_r (n := 8) (i := (i : Int)) (by decide) (by omega) (by omega)
  have s2 := bor_r (n := 8) (x := x) (y := bShl 1 (i : Int)) (by decide) x0 (by rw [e256]; exact x1) s1.1 s1.2
  rw [e256] at s1 s2
  refine ⟨_, rfl, s2.1, s2.2, fun j => ?_⟩
  have b1 := bit_1 (i := (i : Int)) (by omega) (by omega) j
  rw [Int.toNat_natCast] at b1
  rw [bit_or x0 (by omega) s1.1 (by omega), b1]
/-- bits that stand for what a row says of the first n -/
def bts (x : Int) (n : Int) (f : Nat → Prop) : Prop := (0 ≤ x ∧ x < 256) ∧ ∀ k, bit x k = true ↔ ((k : Int) < n ∧ f k)
theorem bts_0 {f : Nat → Prop} : bts 0 ((0 : Nat) : Int) f := ⟨by decide, fun k => ⟨fun x => absurd x (by rw [bit_0]; decide), fun x => absurd x.1 (by omega)⟩⟩
theorem bts_y {x : Int} {f : Nat → Prop} {i : Nat} (hi : i < 8) (hf : f i) (H : bts x i f) : bts (bOr x (bShl 1 (i : Int))) ((i : Int) + 1) f := by
  obtain ⟨u, e, u0, u1, ub⟩ := set_b hi H.1.1 H.1.2
  rw [← e]
  refine ⟨⟨u0, u1⟩, fun k => ?_⟩
  rw [ub k, Bool.or_eq_true, H.2 k, decide_eq_true_iff]
  constructor
  · rintro (⟨q1, q2⟩ | q)
    · exact ⟨by omega, q2⟩
    · subst q; exact ⟨by omega, hf⟩
  · rintro ⟨q1, q2⟩
    by_cases e : i = k
    · exact Or.inr e
    · exact Or.inl ⟨by omega, q2⟩
theorem bts_n {x : Int} {f : Nat → Prop} {i : Nat} (hf : ¬ f i) (H : bts x i f) : bts x ((i : Int) + 1) f := by
  refine ⟨H.1, fun k => ?_⟩
  rw [H.2 k]
  constructor
  · rintro ⟨q1, q2⟩; exact ⟨by omega, q2⟩
  · rintro ⟨q1, q2⟩
    refine ⟨?_, q2⟩
    by_cases e : k = i
    · subst e; exact absurd q2 hf
    · omega
theorem c_makB0 {d : Nat} {h : HP} {Q : PV → HP → Prop} (F : (h 22 0 = 8 ∧ h 22 1 = 1 ∧ h 26 0 = 4 ∧ h 26 1 = 0) ∧ (0 ≤ h 22 2 ∧ h 22 2 ≤ 8 ∧ 0 ≤ h 26 2 ∧ h 26 2 ≤ 4) ∧ rgA (h 25) 0 1) (H : ∀ x, bts x (h 22 2) (fun k => ¬ h 25 k = 0) → Q (I x) h) : X d 18 0 [some (P 22), none, none] [] h Q := by
  obtain ⟨⟨r51, r52, r53, r54⟩, ⟨r62, r63, r64, r65⟩, r102⟩ := F
  have L : ∀ k i : Nat, i + k = (h 22 2).toNat → ∀ x, bts x i (fun k => ¬ h 25 k = 0) → X d 18 4 [some (P 22), some (I x), some (I i)] [] h Q := by
    intro k
    induction k with
    | zero =>
      intro i hi x hx
      refine b18a_4 (br_i (fun _ => H x ?_) (fun q => absurd (by omega) q))
      have : (i : Int) = h 22 2 := by omega
      rw [← this]; exact hx
    | succ k ih =>
      intro i hi x hx
      have y := r102 i
      have i8 : i < 8 := by omega
      have N : ∀ u, bts u ((i : Int) + 1) (fun k => ¬ h 25 k = 0) → X d 18 38 [some (P 22), some (I u), some (I i)] [] h Q := by
        intro u hu
        refine b18a_38 ?_
        rw [w32_n (by omega)]
        exact ih (i + 1) (by omega) u hu
      refine b18a_4 (br_i (fun q => absurd q (by omega)) (fun _ => an_i (by omega) (by omega) (br_i (fun q => b18a_32 (N _ (bts_y i8 ?_ hx))) (fun q => an_i (by omega) (by omega) (br_i (fun q2 => N _ (bts_n ?_ hx)) (fun q2 => ?_))))))
      · show ¬ h 25 i = 0
        simp only [Int.toNat_natCast] at q
        omega
      · show ¬ ¬ h 25 i = 0
        simp only [Int.toNat_natCast] at q q2
        omega
      · simp only [Int.toNat_natCast] at q q2
        omega
  exact b18a_0 (L (h 22 2).toNat 0 (by omega) 0 bts_0)
theorem c_makB {d : Nat} {h : HP} {Q : PV → HP → Prop} (hR : R h) (H : ∀ x, bts x (h 22 2) (fun k => ¬ h 25 k = 0) → Q (I x) h) : X d 18 0 [some (P 22), none, none] [] h Q := by
  obtain ⟨⟨r1, r2, r3, r4, r5, r6, r7, r8⟩, ⟨r9, r10, r11, r12, r13⟩, ⟨r14, r15, r16, r17, r18, r19, r20⟩, ⟨r21, r22, r23, r24, r25, r26⟩, ⟨r27, r28, r29, r30, r31⟩, ⟨r32, r33⟩, ⟨r34, r35, r36, r37, r38, r39, r40, r41, r42, r43, r44, r45⟩, ⟨r46, r47, r48⟩, ⟨r49, r50, r51, r52, r53, r54, r55⟩, ⟨r56, r57, r58, r59, r60, r61, r62, r63, r64, r65⟩, ⟨r66, r67, r68, r69, r70, r71, r72, r73, r74, r75⟩, ⟨r76, r77, r78, r79, r80, r81, r82, r83⟩, ⟨r84, r85, r86, r87, r88, r89⟩, ⟨r90, r91, r92, r93, r94, r95, r96, r97, r98⟩, ⟨r99, r100, r101, r102, r103, r104, r105, r106⟩, ⟨r107, r108, r109, r110, r111, r112, r113⟩, ⟨r114, r115, r116, r117, r118, r119, r120, r121, r122, r123⟩⟩ := id hR
  exact c_makB0 ⟨⟨r51, r52, r53, r54⟩, ⟨r62, r63, r64, r65⟩, r102⟩ H
def isOn (x : Int) : Prop := x = 1 ∨ x = 3
theorem c_makH0 {d : Nat} {h : HP} {Q : PV → HP → Prop} (F : (h 22 0 = 8 ∧ h 22 1 = 1 ∧ h 26 0 = 4 ∧ h 26 1 = 0) ∧ (0 ≤ h 22 2 ∧ h 22 2 ≤ 8 ∧ 0 ≤ h 26 2 ∧ h 26 2 ≤ 4) ∧ rgA (h 25) 0 1) (H : ∀ x, bts x (h 26 2) (fun k => isOn (h 29 k)) → Q (I x) h) : X d 18 0 [some (P 26), none, none] [] h Q := by
  obtain ⟨⟨r51, r52, r53, r54⟩, ⟨r62, r63, r64, r65⟩, r102⟩ := F
  have L : ∀ k i : Nat, i + k = (h 26 2).toNat → ∀ x, bts x i (fun k => isOn (h 29 k)) → X d 18 4 [some (P 26), some (I x), some (I i)] [] h Q := by
    intro k
    induction k with
    | zero =>
      intro i hi x hx
      refine b18b_4 (br_i (fun _ => H x ?_) (fun q => absurd (by omega) q))
      have : (i : Int) = h 26 2 := by omega
      rw [← this]; exact hx
    | succ k ih =>
      intro i hi x hx
      have i8 : i < 8 := by omega
      have N : ∀ u, bts u ((i : Int) + 1) (fun k => isOn (h 29 k)) → X d 18 38 [some (P 26), some (I u), some (I i)] [] h Q := by
        intro u hu
        refine b18b_38 ?_
        rw [w32_n (by omega)]
        exact ih (i + 1) (by omega) u hu
      refine b18b_4 (br_i (fun q => absurd q (by omega)) (fun _ => an_i (by omega) (by omega) (br_i (fun q => b18b_32 (N _ (bts_y i8 ?_ hx))) (fun q => an_i (by omega) (by omega) (br_i (fun q2 => N _ (bts_n ?_ hx)) (fun q2 => b18b_32 (N _ (bts_y i8 ?_ hx))))))))
      · exact Or.inl q
      · rintro (x | x)
        · exact q x
        · exact q2 x
      · exact Or.inr (Classical.not_not.mp q2)
  exact b18b_0 (L (h 26 2).toNat 0 (by omega) 0 bts_0)
theorem c_makH {d : Nat} {h : HP} {Q : PV → HP → Prop} (hR : R h) (H : ∀ x, bts x (h 26 2) (fun k => isOn (h 29 k)) → Q (I x) h) : X d 18 0 [some (P 26), none, none] [] h Q := by
  obtain ⟨⟨r1, r2, r3, r4, r5, r6, r7, r8⟩, ⟨r9, r10, r11, r12, r13⟩, ⟨r14, r15, r16, r17, r18, r19, r20⟩, ⟨r21, r22, r23, r24, r25, r26⟩, ⟨r27, r28, r29, r30, r31⟩, ⟨r32, r33⟩, ⟨r34, r35, r36, r37, r38, r39, r40, r41, r42, r43, r44, r45⟩, ⟨r46, r47, r48⟩, ⟨r49, r50, r51, r52, r53, r54, r55⟩, ⟨r56, r57, r58, r59, r60, r61, r62, r63, r64, r65⟩, ⟨r66, r67, r68, r69, r70, r71, r72, r73, r74, r75⟩, ⟨r76, r77, r78, r79, r80, r81, r82, r83⟩, ⟨r84, r85, r86, r87, r88, r89⟩, ⟨r90, r91, r92, r93, r94, r95, r96, r97, r98⟩, ⟨r99, r100, r101, r102, r103, r104, r105, r106⟩, ⟨r107, r108, r109, r110, r111, r112, r113⟩, ⟨r114, r115, r116, r117, r118, r119, r120, r121, r122, r123⟩⟩ := id hR
  exact c_makH0 ⟨⟨r51, r52, r53, r54⟩, ⟨r62, r63, r64, r65⟩, r102⟩ H
/-- the class's scene as now -/
def NOW (h : HP) (hr : Nat) : Prop :=
  (h 41 2 = h 34 hr ∧ h 41 3 = h 30 5 ∧ h 41 4 = 100 ∧ h 41 5 = 100) ∧
  (bts (h 41 6) (h 22 2) (fun k => ¬ h 25 k = 0) ∧ bts (h 41 7) (h 26 2) (fun k => isOn (h 29 k)) ∧ bts (h 41 8) (h 17 1) (fun k => ¬ h 21 k = 0)) ∧
  (h 41 9 = 0 ∧ h 41 10 = 0 ∧ h 41 11 = 0) ∧
  ((∀ k, k < 8 → h 42 k = h 23 k) ∧ (∀ k, k < 20 → h 43 k = h 15 k))
def o41 (h g : HP) : Prop := ∀ q, q ≠ 41 → q ≠ 42 → q ≠ 43 → g q = h q
theorem SCR_41 {h g k : HP} (a : SCR h g) (b : o41 g k) : SCR h k := SCR_o a (fun q hq => b q (by omega) (by omega) (by omega))
theorem cpy_p {h : HP} {p q sp dp n r : Nat} (hr : r ≠ q) : cpy h p q sp dp n r = h r := by funext j; simp [cpy, hr]
theorem cpy_s {h : HP} {p q n j : Nat} (hj : j < n) : cpy h p q 0 0 n q j = h p j := by simp [cpy, hj]
theorem bsh_0 {k : Nat} (hk : k < 8) : bShl 0 (k : Int) = 0 := by
  have : (0 : Int) = ((0 : Nat) : Int) := rfl
  rw [this, bShl_n (by omega) (by omega)]; simp
theorem bor_0 {x : Int} (x0 : 0 ≤ x) (x1 : x < 256) : bOr x 0 = x := by
  obtain ⟨a, rfl⟩ := Int.eq_ofNat_of_zero_le x0
  have : (0 : Int) = ((0 : Nat) : Int) := rfl
  rw [this, bOr_n (by omega) (by omega)]; simp
set_option maxHeartbeats 4000000 in
theorem c_asNow {d : Nat} {h : HP} {Q : PV → HP → Prop} {hr : Int} (hR : R h) (p0 : 0 ≤ hr) (p1 : hr < 12) (H : ∀ g, o41 h g → NOW g hr.toNat → Q (I 0) g) : X (d + 1) 57 0 [some (P 41), some (I hr), none] [] h Q := by
  obtain ⟨⟨r1, r2, r3, r4, r5, r6, r7, r8⟩, ⟨r9, r10, r11, r12, r13⟩, ⟨r14, r15, r16, r17, r18, r19, r20⟩, ⟨r21, r22, r23, r24, r25, r26⟩, ⟨r27, r28, r29, r30, r31⟩, ⟨r32, r33⟩, ⟨r34, r35, r36, r37, r38, r39, r40, r41, r42, r43, r44, r45⟩, ⟨r46, r47, r48⟩, ⟨r49, r50, r51, r52, r53, r54, r55⟩, ⟨r56, r57, r58, r59, r60, r61, r62, r63, r64, r65⟩, ⟨r66, r67, r68, r69, r70, r71, r72, r73, r74, r75⟩, ⟨r76, r77, r78, r79, r80, r81, r82, r83⟩, ⟨r84, r85, r86, r87, r88, r89⟩, ⟨r90, r91, r92, r93, r94, r95, r96, r97, r98⟩, ⟨r99, r100, r101, r102, r103, r104, r105, r106⟩, ⟨r107, r108, r109, r110, r111, r112, r113⟩, ⟨r114, r115, r116, r117, r118, r119, r120, r121, r122, r123⟩⟩ := id hR
  refine b57_0 (an_i p0 p1 ?_)
  generalize e0 : up2 (up2 (up2 (up2 h 41 2 (h 34 hr.toNat)) 41 3 (h 30 5)) 41 4 100) 41 5 100 = g0
  have o0 : o41 h g0 := fun q q1 q2 q3 => by rw [← e0, up_p q1, up_p q1, up_p q1, up_p q1]
  have s0 : SCR h g0 := SCR_41 (SCR_r h) o0
  have f0 : g0 41 2 = h 34 hr.toNat ∧ g0 41 3 = h 30 5 ∧ g0 41 4 = 100 ∧ g0 41 5 = 100 := by
    rw [← e0]; refine ⟨?_, ?_, ?_, ?_⟩ <;> simp [up2]
  refine c_makB (R_scr s0 hR) (fun x hx => b57_53 ?_)
  have s1 : SCR h (up2 g0 41 6 x) := SCR_u s0 (by decide)
  refine c_makH (R_scr s1 hR) (fun y hy => b57_67 ?_)
  generalize e2 : up2 (cpy (cpy (up2 (up2 (up2 (up2 (up2 g0 41 6 x) 41 7 y) 41 9 0) 41 10 0) 41 11 0) 23 42 0 0 8) 15 43 0 0 20) 41 8 0 = g2
  have o2 : o41 h g2 := fun q q1 q2 q3 => by rw [← e2, up_p q1, cpy_p q3, cpy_p q2, up_p q1, up_p q1, up_p q1, up_p q1, up_p q1]; exact o0 q q1 q2 q3
  have f2 : g2 41 2 = h 34 hr.toNat ∧ g2 41 3 = h 30 5 ∧ g2 41 4 = 100 ∧ g2 41 5 = 100 := by
    rw [← e2]
    rw [← f0.1, ← f0.2.1]
    refine ⟨?_, ?_, ?_, ?_⟩
    · rw [up_i (by decide), cpy_p (by decide), cpy_p (by decide), up_i (by decide), up_i (by decide), up_i (by decide), up_i (by decide), up_i (by decide)]
    · rw [up_i (by decide), cpy_p (by decide), cpy_p (by decide), up_i (by decide), up_i (by decide), up_i (by decide), up_i (by decide), up_i (by decide)]
    · rw [up_i (by decide), cpy_p (by decide), cpy_p (by decide), up_i (by decide), up_i (by decide), up_i (by decide), up_i (by decide), up_i (by decide)]; exact f0.2.2.1
    · rw [up_i (by decide), cpy_p (by decide), cpy_p (by decide), up_i (by decide), up_i (by decide), up_i (by decide), up_i (by decide), up_i (by decide)]; exact f0.2.2.2
  have x2 : g2 41 6 = x := by rw [← e2, up_i (by decide), cpy_p (by decide), cpy_p (by decide), up_i (by decide), up_i (by decide), up_i (by decide), up_i (by decide), up_s]
  have y2 : g2 41 7 = y := by rw [← e2, up_i (by decide), cpy_p (by decide), cpy_p (by decide), up_i (by decide), up_i (by decide), up_i (by decide), up_s]
  have z2 : g2 41 8 = 0 := by rw [← e2, up_s]
  have u2 : g2 41 9 = 0 ∧ g2 41 10 = 0 ∧ g2 41 11 = 0 := by
    rw [← e2]
    refine ⟨?_, ?_, ?_⟩
    · rw [up_i (by decide), cpy_p (by decide), cpy_p (by decide), up_i (by decide), up_i (by decide), up_s]
    · rw [up_i (by decide), cpy_p (by decide), cpy_p (by decide), up_i (by decide), up_s]
    · rw [up_i (by decide), cpy_p (by decide), cpy_p (by decide), up_s]
  have v2 : ∀ k, k < 8 → g2 42 k = h 23 k := fun k hk => by
    rw [← e2, up_p (by decide), cpy_p (by decide), cpy_s hk, up_p (by decide), up_p (by decide), up_p (by decide), up_p (by decide), up_p (by decide), o0 23 (by decide) (by decide) (by decide)]
  have w2 : ∀ k, k < 20 → g2 43 k = h 15 k := fun k hk => by
    rw [← e2, up_p (by decide), cpy_s hk, cpy_p (by decide), up_p (by decide), up_p (by decide), up_p (by decide), up_p (by decide), up_p (by decide), o0 15 (by decide) (by decide) (by decide)]
  rw [o0 22 (by decide) (by decide) (by decide), o0 25 (by decide) (by decide) (by decide)] at hx
  rw [up_p (by decide), up_p (by decide), o0 26 (by decide) (by decide) (by decide), o0 29 (by decide) (by decide) (by decide)] at hy
  have L : ∀ k i : Nat, i + k = (h 17 1).toNat → ∀ z, bts z i (fun k => ¬ h 21 k = 0) → X (d + 1) 57 134 [some (P 41), some (I hr), some (I i)] [] (up2 g2 41 8 z) Q := by
    intro k
    induction k with
    | zero =>
      intro i hi z hz
      have e17 : up2 g2 41 8 z 17 = h 17 := by rw [up_p (by decide)]; exact o2 17 (by decide) (by decide) (by decide)
      refine b57_134 (br_i (fun _ => H _ (fun q q1 q2 q3 => by rw [up_p q1]; exact o2 q q1 q2 q3) ?_) (fun q => absurd (by rw [e17]; omega) q))
      have ei : (i : Int) = h 17 1 := by omega
      rw [ei] at hz
      unfold NOW
      rw [up_p (q := 34) (by decide), up_p (q := 30) (by decide), up_p (q := 22) (by decide), up_p (q := 25) (by decide), up_p (q := 26) (by decide), up_p (q := 29) (by decide), up_p (q := 17) (by decide), up_p (q := 21) (by decide), up_p (q := 42) (by decide), up_p (q := 43) (by decide), up_p (q := 23) (by decide), up_p (q := 15) (by decide)]
      rw [o2 34 (by decide) (by decide) (by decide), o2 30 (by decide) (by decide) (by decide), o2 22 (by decide) (by decide) (by decide), o2 25 (by decide) (by decide) (by decide), o2 26 (by decide) (by decide) (by decide), o2 29 (by decide) (by decide) (by decide), o2 17 (by decide) (by decide) (by decide), o2 21 (by decide) (by decide) (by decide), o2 23 (by decide) (by decide) (by decide), o2 15 (by decide) (by decide) (by decide)]
      rw [up_i (j := 2) (by decide), up_i (j := 3) (by decide), up_i (j := 4) (by decide), up_i (j := 5) (by decide), up_i (j := 6) (by decide), up_i (j := 7) (by decide), up_s, up_i (j := 9) (by decide), up_i (j := 10) (by decide), up_i (j := 11) (by decide), x2, y2]
      exact ⟨f2, ⟨hx, hy, hz⟩, u2, v2, w2⟩
    | succ k ih =>
      intro i hi z hz
      have e17 : up2 g2 41 8 z 17 = h 17 := by rw [up_p (by decide)]; exact o2 17 (by decide) (by decide) (by decide)
      have e21 : up2 g2 41 8 z 21 = h 21 := by rw [up_p (by decide)]; exact o2 21 (by decide) (by decide) (by decide)
      have y := r98 i
      have i8 : i < 8 := by omega
      refine b57_134 (br_i (fun q => absurd q (by rw [e17]; omega)) (fun _ => an_i (by omega) (by omega) ?_))
      rw [e21, up_s, w32_n (by omega)]
      simp only [Int.toNat_natCast]
      have eu : ∀ a b : Int, up2 (up2 g2 41 8 a) 41 8 b = up2 g2 41 8 b := by
        intro a b
        funext q j
        simp only [up2]
        by_cases c : q = 41 ∧ j = 8
        · simp [c]
        · simp only [c, if_false]
      rw [eu]
      by_cases c : h 21 i = 0
      · rw [c, bsh_0 i8, bor_0 hz.1.1 hz.1.2]
        exact ih (i + 1) (by omega) z (bts_n (fun x => x c) hz)
      · have c1 : h 21 i = 1 := by omega
        rw [c1]
        exact ih (i + 1) (by omega) _ (bts_y i8 c hz)
  have := L (h 17 1).toNat 0 (by omega) 0 bts_0
  have e3 : up2 g2 41 8 0 = g2 := by
    funext q j
    simp only [up2]
    by_cases c : q = 41 ∧ j = 8
    · obtain ⟨c1, c2⟩ := c
      subst c1 c2
      simp [z2]
    · simp only [c, if_false]
  rw [e3] at this
  exact this
/-- the model's scene, laid out so far -/
def LAY (h g : HP) (hr : Nat) (i1 i2 i3 i4 i5 : Int) : Prop :=
  (∀ q, q ≠ 69 → ¬ (106 ≤ q ∧ q ≤ 111) → g q = h q) ∧ (∀ k, ¬ (59 ≤ k ∧ k ≤ 62) → g 69 k = h 69 k) ∧
  (g 69 59 = h 82 hr ∧ g 69 60 = h 69 31 ∧ g 69 61 = 100 ∧ g 69 62 = 100) ∧
  (∀ j : Nat, (j : Int) < i1 → g 106 j = h 85 j) ∧ (∀ j : Nat, (j : Int) < i2 → g 107 j = h 89 j) ∧
  (∀ j : Nat, (j : Int) < i3 → g 108 j = h 92 j ∧ g 109 j = h 90 j) ∧
  (∀ j : Nat, (j : Int) < i4 → g 110 j = if h 95 j = 1 ∨ h 95 j = 3 then 1 else 0) ∧
  (∀ j : Nat, (j : Int) < i5 → g 111 j = if h 75 j < 0 then 2 else h 76 j)
theorem LAY_f {h g : HP} {hr : Nat} {i1 i2 i3 i4 i5 : Int} {p i : Nat} {v : Int} (hp : 106 ≤ p ∧ p ≤ 111) (H : LAY h g hr i1 i2 i3 i4 i5) : (∀ q, q ≠ 69 → ¬ (106 ≤ q ∧ q ≤ 111) → up2 g p i v q = h q) ∧ (∀ k, ¬ (59 ≤ k ∧ k ≤ 62) → up2 g p i v 69 k = h 69 k) ∧ (up2 g p i v 69 59 = h 82 hr ∧ up2 g p i v 69 60 = h 69 31 ∧ up2 g p i v 69 61 = 100 ∧ up2 g p i v 69 62 = 100) := by
  refine ⟨fun q q1 q2 => by rw [up_p (by omega)]; exact H.1 q q1 q2, fun k hk => by rw [up_p (by omega)]; exact H.2.1 k hk, ?_⟩
  rw [up_p (show 69 ≠ p by omega)]
  exact H.2.2.1
/-- a row filled one further -/
theorem row_n {f : Nat → Int} {i : Nat} {v : Int} {P : Nat → Int → Prop} (H : ∀ j : Nat, (j : Int) < (i : Int) → P j (f j)) (hv : P i v) : ∀ j : Nat, (j : Int) < (i : Int) + 1 → P j (st1 f i v j) := fun j hj => by
  by_cases e : j = i
  · subst e; rw [st1_s]; exact hv
  · rw [st1_n e]; exact H j (by omega)
set_option maxHeartbeats 4000000 in
theorem m_layK {d : Nat} {h : HP} {Q : PV → HP → Prop} {hr : Int} (F : (h 2 0 = h 69 9 ∧ h 12 1 = h 69 17 ∧ h 17 1 = h 69 22 ∧ h 22 2 = h 69 26 ∧ h 26 2 = h 69 30) ∧ (0 ≤ h 2 0 ∧ h 2 0 ≤ 8 ∧ 0 ≤ h 12 1 ∧ h 12 1 ≤ 20 ∧ 0 ≤ h 17 1 ∧ h 17 1 ≤ 8 ∧ 0 ≤ h 22 2 ∧ h 22 2 ≤ 8 ∧ 0 ≤ h 26 2 ∧ h 26 2 ≤ 4) ∧ rgA (h 89) 0 1 ∧ rgA (h 92) 0 1) (p0 : 0 ≤ hr) (p1 : hr < 12) (H : ∀ g, LAY h g hr.toNat (h 12 1) (h 17 1) (h 22 2) (h 26 2) (h 2 0) → Q (I 0) g) : X d 177 0 [some (P 69), some (I hr), none] [] h Q := by
  obtain ⟨⟨r34, r35, r36, r37, r38⟩, ⟨r56, r57, r58, r59, r60, r61, r62, r63, r64, r65⟩, r98, r102⟩ := F
  have L5 : ∀ k i : Nat, i + k = (h 2 0).toNat → ∀ g, LAY h g hr.toNat (h 12 1) (h 17 1) (h 22 2) (h 26 2) i → X d 177 175 [some (P 69), some (I hr), some (I i)] [] g Q := by
    intro k
    induction k with
    | zero =>
      intro i hi g hg
      have e9 : g 69 9 = h 2 0 := by rw [hg.2.1 9 (by decide)]; exact r34.symm
      refine b177_175 (br_i (fun _ => H g ?_) (fun q => absurd (by rw [e9]; omega) q))
      have : (i : Int) = h 2 0 := by omega
      rw [← this]; exact hg
    | succ k ih =>
      intro i hi g hg
      have e9 : g 69 9 = h 2 0 := by rw [hg.2.1 9 (by decide)]; exact r34.symm
      have e75 : g 75 = h 75 := hg.1 75 (by decide) (by decide)
      have e76 : g 76 = h 76 := hg.1 76 (by decide) (by decide)
      have N : ∀ v, v = (if h 75 i < 0 then 2 else h 76 i) → X d 177 207 [some (P 69), some (I hr), some (I i)] [I v, I i, P 111] g Q := by
        intro v hv
        refine b177_207 (an_i (by omega) (by omega) ?_)
        rw [w32_n (by omega)]
        simp only [Int.toNat_natCast]
        have F := LAY_f (p := 111) (i := i) (v := v) (by decide) hg
        refine ih (i + 1) (by omega) _ ⟨F.1, F.2.1, F.2.2, ?_, ?_, ?_, ?_, ?_⟩
        · rw [up_p (by decide)]; exact hg.2.2.2.1
        · rw [up_p (by decide)]; exact hg.2.2.2.2.1
        · rw [up_p (by decide), up_p (by decide)]; exact hg.2.2.2.2.2.1
        · rw [up_p (by decide)]; exact hg.2.2.2.2.2.2.1
        · rw [up_st]
          exact row_n (P := fun j y => y = if h 75 j < 0 then 2 else h 76 j) hg.2.2.2.2.2.2.2 hv
      refine b177_175 (br_i (fun q => absurd q (by rw [e9]; omega)) (fun _ => an_i (by omega) (by omega) ?_))
      rw [e75, e76]
      simp only [Int.toNat_natCast]
      refine br_i (fun q => an_i (by omega) (by omega) (N _ ?_)) (fun q => N _ ?_)
      · rw [if_neg (by omega)]
      · rw [if_pos (by omega)]
  have L4 : ∀ k i : Nat, i + k = (h 26 2).toNat → ∀ g, LAY h g hr.toNat (h 12 1) (h 17 1) (h 22 2) i 0 → X d 177 128 [some (P 69), some (I hr), some (I i)] [] g Q := by
    intro k
    induction k with
    | zero =>
      intro i hi g hg
      have e9 : g 69 30 = h 26 2 := by rw [hg.2.1 30 (by decide)]; exact r38.symm
      refine b177_128 (br_i (fun _ => L5 (h 2 0).toNat 0 (by omega) g ?_) (fun q => absurd (by rw [e9]; omega) q))
      have : (i : Int) = h 26 2 := by omega
      rw [← this]; exact hg
    | succ k ih =>
      intro i hi g hg
      have e9 : g 69 30 = h 26 2 := by rw [hg.2.1 30 (by decide)]; exact r38.symm
      have e95 : g 95 = h 95 := hg.1 95 (by decide) (by decide)
      have N : ∀ v, v = (if h 95 i = 1 ∨ h 95 i = 3 then 1 else 0) → X d 177 166 [some (P 69), some (I hr), some (I i)] [I v, I i, P 110] g Q := by
        intro v hv
        refine b177_166 (an_i (by omega) (by omega) ⟨?_, ?_⟩)
        · rw [hv]; split
          · exact Or.inr rfl
          · exact Or.inl rfl
        rw [w32_n (by omega)]
        simp only [Int.toNat_natCast]
        have F := LAY_f (p := 110) (i := i) (v := v) (by decide) hg
        refine ih (i + 1) (by omega) _ ⟨F.1, F.2.1, F.2.2, ?_, ?_, ?_, ?_, ?_⟩
        · rw [up_p (by decide)]; exact hg.2.2.2.1
        · rw [up_p (by decide)]; exact hg.2.2.2.2.1
        · rw [up_p (by decide), up_p (by decide)]; exact hg.2.2.2.2.2.1
        · rw [up_st]
          exact row_n (P := fun j y => y = if h 95 j = 1 ∨ h 95 j = 3 then 1 else 0) hg.2.2.2.2.2.2.1 hv
        · rw [up_p (by decide)]; exact hg.2.2.2.2.2.2.2
      refine b177_128 (br_i (fun q => absurd q (by rw [e9]; omega)) (fun _ => an_i (by omega) (by omega) ?_))
      rw [e95]
      simp only [Int.toNat_natCast]
      refine br_i (fun q => b177_161 (N _ ?_)) (fun q => an_i (by omega) (by omega) (br_i (fun q2 => N _ ?_) (fun q2 => b177_161 (N _ ?_))))
      · rw [if_pos (Or.inl q)]
      · rw [if_neg (fun x => x.elim q q2)]
      · rw [if_pos (Or.inr (Classical.not_not.mp q2))]
  have L3 : ∀ k i : Nat, i + k = (h 22 2).toNat → ∀ g, LAY h g hr.toNat (h 12 1) (h 17 1) i 0 0 → X d 177 88 [some (P 69), some (I hr), some (I i)] [] g Q := by
    intro k
    induction k with
    | zero =>
      intro i hi g hg
      have e9 : g 69 26 = h 22 2 := by rw [hg.2.1 26 (by decide)]; exact r37.symm
      refine b177_88 (br_i (fun _ => L4 (h 26 2).toNat 0 (by omega) g ?_) (fun q => absurd (by rw [e9]; omega) q))
      have : (i : Int) = h 22 2 := by omega
      rw [← this]; exact hg
    | succ k ih =>
      intro i hi g hg
      have e9 : g 69 26 = h 22 2 := by rw [hg.2.1 26 (by decide)]; exact r37.symm
      have e92 : g 92 = h 92 := hg.1 92 (by decide) (by decide)
      have e90 : g 90 = h 90 := hg.1 90 (by decide) (by decide)
      have y := r102 i
      refine b177_88 (br_i (fun q => absurd q (by rw [e9]; omega)) (fun _ => an_i (by omega) (by omega) (an_i (by omega) (by omega) ⟨?_, ?_⟩)))
      · rw [e92]; simp only [Int.toNat_natCast]; omega
      rw [e92, e90, w32_n (by omega)]
      simp only [Int.toNat_natCast]
      refine an_i (by omega) (by omega) (an_i (by omega) (by omega) ?_)
      have F := LAY_f (p := 108) (i := i) (v := h 92 i) (by decide) hg
      have G0 : LAY h (up2 g 108 i (h 92 i)) hr.toNat (h 12 1) (h 17 1) 0 0 0 := by
        refine ⟨F.1, F.2.1, F.2.2, ?_, ?_, fun j hj => absurd hj (by omega), fun j hj => absurd hj (by omega), fun j hj => absurd hj (by omega)⟩
        · rw [up_p (by decide)]; exact hg.2.2.2.1
        · rw [up_p (by decide)]; exact hg.2.2.2.2.1
      have F2 := LAY_f (p := 109) (i := i) (v := h 90 i) (by decide) G0
      refine ih (i + 1) (by omega) _ ⟨F2.1, F2.2.1, F2.2.2, ?_, ?_, ?_, fun j hj => absurd hj (by omega), fun j hj => absurd hj (by omega)⟩
      · rw [up_p (by decide)]; exact G0.2.2.2.1
      · rw [up_p (by decide)]; exact G0.2.2.2.2.1
      · intro j hj
        have c := hg.2.2.2.2.2.1
        rw [up_p (p := 109) (q := 108) (by decide), up_st, up_st, up_p (p := 108) (q := 109) (by decide)]
        by_cases e : j = i
        · subst e; exact ⟨st1_s, st1_s⟩
        · rw [st1_n e, st1_n e]; exact c j (by omega)
  have L2 : ∀ k i : Nat, i + k = (h 17 1).toNat → ∀ g, LAY h g hr.toNat (h 12 1) i 0 0 0 → X d 177 60 [some (P 69), some (I hr), some (I i)] [] g Q := by
    intro k
    induction k with
    | zero =>
      intro i hi g hg
      have e9 : g 69 22 = h 17 1 := by rw [hg.2.1 22 (by decide)]; exact r36.symm
      refine b177_60 (br_i (fun _ => L3 (h 22 2).toNat 0 (by omega) g ?_) (fun q => absurd (by rw [e9]; omega) q))
      have : (i : Int) = h 17 1 := by omega
      rw [← this]; exact hg
    | succ k ih =>
      intro i hi g hg
      have e9 : g 69 22 = h 17 1 := by rw [hg.2.1 22 (by decide)]; exact r36.symm
      have e89 : g 89 = h 89 := hg.1 89 (by decide) (by decide)
      have y := r98 i
      refine b177_60 (br_i (fun q => absurd q (by rw [e9]; omega)) (fun _ => an_i (by omega) (by omega) (an_i (by omega) (by omega) ⟨?_, ?_⟩)))
      · rw [e89]; simp only [Int.toNat_natCast]; omega
      rw [e89, w32_n (by omega)]
      simp only [Int.toNat_natCast]
      have F := LAY_f (p := 107) (i := i) (v := h 89 i) (by decide) hg
      refine ih (i + 1) (by omega) _ ⟨F.1, F.2.1, F.2.2, ?_, ?_, fun j hj => absurd hj (by omega), fun j hj => absurd hj (by omega), fun j hj => absurd hj (by omega)⟩
      · rw [up_p (by decide)]; exact hg.2.2.2.1
      · rw [up_st]
        exact row_n (P := fun j y => y = h 89 j) hg.2.2.2.2.1 rfl
  have L1 : ∀ k i : Nat, i + k = (h 12 1).toNat → ∀ g, LAY h g hr.toNat i 0 0 0 0 → X d 177 32 [some (P 69), some (I hr), some (I i)] [] g Q := by
    intro k
    induction k with
    | zero =>
      intro i hi g hg
      have e9 : g 69 17 = h 12 1 := by rw [hg.2.1 17 (by decide)]; exact r35.symm
      refine b177_32 (br_i (fun _ => L2 (h 17 1).toNat 0 (by omega) g ?_) (fun q => absurd (by rw [e9]; omega) q))
      have : (i : Int) = h 12 1 := by omega
      rw [← this]; exact hg
    | succ k ih =>
      intro i hi g hg
      have e9 : g 69 17 = h 12 1 := by rw [hg.2.1 17 (by decide)]; exact r35.symm
      have e85 : g 85 = h 85 := hg.1 85 (by decide) (by decide)
      refine b177_32 (br_i (fun q => absurd q (by rw [e9]; omega)) (fun _ => an_i (by omega) (by omega) (an_i (by omega) (by omega) ?_)))
      rw [e85, w32_n (by omega)]
      simp only [Int.toNat_natCast]
      have F := LAY_f (p := 106) (i := i) (v := h 85 i) (by decide) hg
      refine ih (i + 1) (by omega) _ ⟨F.1, F.2.1, F.2.2, ?_, fun j hj => absurd hj (by omega), fun j hj => absurd hj (by omega), fun j hj => absurd hj (by omega), fun j hj => absurd hj (by omega)⟩
      rw [up_st]
      exact row_n (P := fun j y => y = h 85 j) hg.2.2.2.1 rfl
  refine b177_0 (an_i p0 p1 (L1 (h 12 1).toNat 0 (by omega) _ ⟨fun q q1 q2 => by rw [up_p q1, up_p q1, up_p q1, up_p q1], fun k hk => ?_, ?_, fun j hj => absurd hj (by omega), fun j hj => absurd hj (by omega), fun j hj => absurd hj (by omega), fun j hj => absurd hj (by omega), fun j hj => absurd hj (by omega)⟩))
  · rw [up_i (by omega), up_i (by omega), up_i (by omega), up_i (by omega)]
  · refine ⟨?_, ?_, ?_, ?_⟩ <;> simp [up2]
theorem m_layT {d : Nat} {h0 h : HP} {Q : PV → HP → Prop} {hr : Int} (hR : R h0) (a : SCT h0 h) (a89 : h 89 = h0 89) (p0 : 0 ≤ hr) (p1 : hr < 12) (H : ∀ g, LAY h g hr.toNat (h 12 1) (h 17 1) (h 22 2) (h 26 2) (h 2 0) → Q (I 0) g) : X d 177 0 [some (P 69), some (I hr), none] [] h Q := by
  have F : (h 2 0 = h 69 9 ∧ h 12 1 = h 69 17 ∧ h 17 1 = h 69 22 ∧ h 22 2 = h 69 26 ∧ h 26 2 = h 69 30) ∧ (0 ≤ h 2 0 ∧ h 2 0 ≤ 8 ∧ 0 ≤ h 12 1 ∧ h 12 1 ≤ 20 ∧ 0 ≤ h 17 1 ∧ h 17 1 ≤ 8 ∧ 0 ≤ h 22 2 ∧ h 22 2 ≤ 8 ∧ 0 ≤ h 26 2 ∧ h 26 2 ≤ 4) ∧ rgA (h 89) 0 1 ∧ rgA (h 92) 0 1 := by
    obtain ⟨⟨r1, r2, r3, r4, r5, r6, r7, r8⟩, ⟨r9, r10, r11, r12, r13⟩, ⟨r14, r15, r16, r17, r18, r19, r20⟩, ⟨r21, r22, r23, r24, r25, r26⟩, ⟨r27, r28, r29, r30, r31⟩, ⟨r32, r33⟩, ⟨r34, r35, r36, r37, r38, r39, r40, r41, r42, r43, r44, r45⟩, ⟨r46, r47, r48⟩, ⟨r49, r50, r51, r52, r53, r54, r55⟩, ⟨r56, r57, r58, r59, r60, r61, r62, r63, r64, r65⟩, ⟨r66, r67, r68, r69, r70, r71, r72, r73, r74, r75⟩, ⟨r76, r77, r78, r79, r80, r81, r82, r83⟩, ⟨r84, r85, r86, r87, r88, r89⟩, ⟨r90, r91, r92, r93, r94, r95, r96, r97, r98⟩, ⟨r99, r100, r101, r102, r103, r104, r105, r106⟩, ⟨r107, r108, r109, r110, r111, r112, r113⟩, ⟨r114, r115, r116, r117, r118, r119, r120, r121, r122, r123⟩⟩ := id hR
    rw [SCT_c a (q := 2) (by decide) (by decide), SCT_c a (q := 12) (by decide) (by decide), SCT_c a (q := 17) (by decide) (by decide), SCT_c a (q := 22) (by decide) (by decide), SCT_c a (q := 26) (by decide) (by decide), a.2 9 rfl (by decide) (by decide), a.2 17 rfl (by decide) (by decide), a.2 22 rfl (by decide) (by decide), a.2 26 rfl (by decide) (by decide), a.2 30 rfl (by decide) (by decide), a89, SCT_m a (q := 92) (by decide) (by decide) (by decide), ← r20, ← r23]
    exact ⟨⟨r34, r35, r36, r37, r38⟩, ⟨r56, r57, r58, r59, r60, r61, r62, r63, r64, r65⟩, r98, r102⟩
  exact m_layK F p0 p1 H
theorem m_lay {d : Nat} {h : HP} {Q : PV → HP → Prop} {hr : Int} (hR : R h) (p0 : 0 ≤ hr) (p1 : hr < 12) (H : ∀ g, LAY h g hr.toNat (h 12 1) (h 17 1) (h 22 2) (h 26 2) (h 2 0) → Q (I 0) g) : X d 177 0 [some (P 69), some (I hr), none] [] h Q := m_layT hR (SCT_of (SCR_r h)) rfl p0 p1 H
