/-! the model's text; the pair -/
def MF (h g : HP) : Prop := (∀ q, q ≠ 69 → q ≠ 103 → q ≠ 104 → g q = h q) ∧ (∀ k, sc69 k = false → k ≠ 46 → g 69 k = h 69 k)
theorem MF_u {h g : HP} {i : Nat} {v : Int} (a : MF h g) (hi : sc69 i = true ∨ i = 46) : MF h (up2 g 69 i v) := ⟨fun q h1 h2 h3 => by rw [up_p h1]; exact a.1 q h1 h2 h3, fun k hk h4 => by
  have : k ≠ i := fun e => by
    subst e
    rcases hi with x | x
    · rw [x] at hk; cases hk
    · exact h4 x
  rw [up_i this]; exact a.2 k hk h4⟩
theorem MF_m {h g : HP} {a : Nat} {f o : Int} (H : MF h g) : MF h (MHP g a f o) := ⟨fun q h1 h2 h3 => by rw [MHP_p h1]; exact H.1 q h1 h2 h3, fun k hk h4 => by
  rw [MHP_i (fun e => by subst e; cases hk) (fun e => by subst e; cases hk) (fun e => by subst e; cases hk)]; exact H.2 k hk h4⟩
theorem MF_x {h g : HP} {i : Nat} {v : Int} (a : MF h g) : MF h (up2 g 103 i v) ∧ MF h (up2 g 104 i v) := ⟨⟨fun q h1 h2 h3 => by rw [up_p h2]; exact a.1 q h1 h2 h3, fun k hk h4 => by rw [up_p (by decide)]; exact a.2 k hk h4⟩, ⟨fun q h1 h2 h3 => by rw [up_p h3]; exact a.1 q h1 h2 h3, fun k hk h4 => by rw [up_p (by decide)]; exact a.2 k hk h4⟩⟩
theorem MF_r (h : HP) : MF h h := ⟨fun _ _ _ _ => rfl, fun _ _ _ => rfl⟩
theorem MHP_us {h : HP} {a : Nat} {f o v : Int} : up2 (MHP h a f o) 69 57 v = MHP (up2 h 69 57 v) a f o := by
  funext q j
  unfold up2 MHP
  by_cases c1 : q = 69 ∧ j = 57
  · obtain ⟨c, c'⟩ := c1
    subst c c'
    simp
  · simp only [c1, if_false]
theorem up_MHP0 {h : HP} {v w : Int} : up2 (up2 (up2 (up2 (up2 h 69 49 v) 69 50 0) 69 51 w) 69 52 (-9)) 69 53 0 = MHP (up2 (up2 h 69 49 v) 69 51 w) 0 (-9) 0 := by
  funext q j
  unfold up2 MHP
  by_cases c1 : q = 69 ∧ j = 53
  · obtain ⟨c, c'⟩ := c1
    subst c c'
    simp
  · by_cases c2 : q = 69 ∧ j = 52
    · obtain ⟨c, c'⟩ := c2
      subst c c'
      simp
    · by_cases c3 : q = 69 ∧ j = 51
      · obtain ⟨c, c'⟩ := c3
        subst c c'
        simp
      · by_cases c4 : q = 69 ∧ j = 50
        · obtain ⟨c, c'⟩ := c4
          subst c c'
          simp
        · simp only [c1, c2, c3, c4, if_false]
theorem w40 {t i : Nat} (ht : t < 12) (hi : i < 40) : w32 (w32 (40 * (t : Int)) + (i : Int)) = ((40 * t + i : Nat) : Int) := by
  rw [w32_of (x := 40 * (t : Int)) (by omega) (by omega), w32_of (by omega) (by omega)]; omega
theorem dgt_neg {b : Nat → Int} {n a : Nat} (h : dgt b n a 9 < 0) : ¬ (0 ≤ nxc b n a - 48 ∧ nxc b n a - 48 ≤ 9) := fun x => by
  unfold dgt at h
  rw [if_pos x] at h
  omega
section P57
variable {d : Nat} {h0 h : HP} {Q : PV → HP → Prop} {n : Nat}
set_option maxHeartbeats 4000000 in
theorem m_text (hR : R h0) (hm : ∀ q, 69 ≤ q → h q = h0 q) (hn : h0 36 1 = n) (H0 : (sbj (h0 37) n (h0 26 2) (h0 2 0) (h0 8)).1 < 0 → ∀ g, MF h g → g 69 46 = 0 → g 103 = h 103 → g 104 = h 104 → Q (I (-20 - ((sbj (h0 37) n (h0 26 2) (h0 2 0) (h0 8)).2 : Int))) g) (H1 : ∀ t : Nat, (sbj (h0 37) n (h0 26 2) (h0 2 0) (h0 8)).1 = t → (pCs (h0 37) n (mostT t) 40 3 [] (fun _ => -1)).1 = false → ∀ g, MF h g → g 69 46 = 0 → g 103 = h 103 → g 104 = h 104 → Q (I (-20 - ((pCs (h0 37) n (mostT t) 40 3 [] (fun _ => -1)).2.1 : Int))) g) (H2 : ∀ t : Nat, (sbj (h0 37) n (h0 26 2) (h0 2 0) (h0 8)).1 = t → t < 12 → (pCs (h0 37) n (mostT t) 40 3 [] (fun _ => -1)).1 = true → ∀ g, MF h g → g 69 46 = 0 → (∀ j, j < 40 * t ∨ 40 * t + 40 ≤ j → g 103 j = h 103 j) → (∀ j, j < n → g 103 (40 * t + j) = h0 37 j) → g 104 = st1 (h 104) t (n : Int) → Q (I 1) g) : X (d + 21) 172 0 [some (P 69), none, none, none, none, none] [] h Q := by
  have F : (0 ≤ h0 36 1 ∧ h0 36 1 ≤ 40) ∧ rgA (h0 37) 0 255 ∧ (h0 2 0 = h0 69 9 ∧ h0 26 2 = h0 69 30 ∧ h0 36 1 = h0 69 46) ∧ (0 ≤ h0 2 0 ∧ h0 2 0 ≤ 8) ∧ (0 ≤ h0 26 2 ∧ h0 26 2 ≤ 4) ∧ h0 37 = h0 102 ∧ h0 8 = h0 75 ∧ (∀ j, h0 8 j = -9 ∨ 0 ≤ h0 8 j) := by
    obtain ⟨⟨r1, r2, r3, r4, r5, r6, r7, r8⟩, ⟨r9, r10, r11, r12, r13⟩, ⟨r14, r15, r16, r17, r18, r19, r20⟩, ⟨r21, r22, r23, r24, r25, r26⟩, ⟨r27, r28, r29, r30, r31⟩, ⟨r32, r33⟩, ⟨r34, r35, r36, r37, r38, r39, r40, r41, r42, r43, r44, r45⟩, ⟨r46, r47, r48⟩, ⟨r49, r50, r51, r52, r53, r54, r55⟩, ⟨r56, r57, r58, r59, r60, r61, r62, r63, r64, r65⟩, ⟨r66, r67, r68, r69, r70, r71, r72, r73, r74, r75⟩, ⟨r76, r77, r78, r79, r80, r81, r82, r83⟩, ⟨r84, r85, r86, r87, r88, r89⟩, ⟨r90, r91, r92, r93, r94, r95, r96, r97, r98⟩, ⟨r99, r100, r101, r102, r103, r104, r105, r106⟩, ⟨r107, r108, r109, r110, r111, r112, r113⟩, ⟨r114, r115, r116, r117, r118, r119, r120, r121, r122, r123⟩⟩ := id hR
    refine ⟨⟨r72, r73⟩, r115, ⟨r34, r38, r44⟩, ⟨r56, r57⟩, ⟨r64, r65⟩, r33, r6, fun j => ?_⟩
    rcases r81 j with ⟨c1, c2⟩ | ⟨c1, c2, c3, c4⟩
    · exact Or.inl c1
    · exact Or.inr c1.1
  obtain ⟨⟨n0, n40'⟩, hb, ⟨e9, e30, e46⟩, ⟨np0, np8⟩, ⟨nh0, nh4⟩, e102, e75, hfl⟩ := F
  have n40 : n ≤ 40 := by omega
  have nb := nxc_b (n := n) (a := 1) hb
  have hh46 : h 69 46 = n := by rw [hm 69 (by decide)]; omega
  refine b172_0 ?_
  rw [up_MHP0, hh46]
  generalize eh1 : up2 (up2 h 69 49 (-9)) 69 51 (n : Int) = h1
  have f1 : MF h h1 := by rw [← eh1]; exact MF_u (MF_u (MF_r h) (Or.inl rfl)) (Or.inl rfl)
  have q103 : h1 103 = h 103 ∧ h1 104 = h 104 := by rw [← eh1, up_p (by decide), up_p (by decide), up_p (by decide), up_p (by decide)]; exact ⟨rfl, rfl⟩
  have hB : MB h1 (h0 37) n := by
    refine ⟨⟨by rw [← eh1, up_s], n40⟩, Or.inl ⟨?_, ?_⟩⟩
    · rw [← eh1, up_i (by decide), up_s]; decide
    · rw [f1.1 102 (by decide) (by decide) (by decide), hm 102 (by decide), e102]
  have h46 : h1 69 46 = n := by rw [← eh1, up_i (by decide), up_i (by decide)]; exact hh46
  have h9 : h1 69 9 = h0 2 0 := by rw [f1.2 9 rfl (by decide), hm 69 (by decide), e9]
  have h30 : h1 69 30 = h0 26 2 := by rw [f1.2 30 rfl (by decide), hm 69 (by decide), e30]
  have h75 : h1 75 = h0 8 := by rw [f1.1 75 (by decide) (by decide) (by decide), hm 75 (by decide), e75]
  clear eh1
  -- a fault
  have FAIL : ∀ (v1 v2 : Int) (g : HP) (a : Nat), MF h g → g 103 = h 103 → g 104 = h 104 → g 69 52 = (a : Int) → (a : Int) < 100 → (∀ g, MF h g → g 69 46 = 0 → g 103 = h 103 → g 104 = h 104 → Q (I (-20 - (a : Int))) g) → X (d + 21) 172 196 [some (P 69), some (I v1), some (I v2), none, none, none] [] g Q := by
    intro v1 v2 g a fg g3 g4 ga a1 HQ
    refine b172_196 ?_
    rw [ga]
    refine br_i (fun x => absurd x (by omega)) (fun _ => ?_)
    rw [w32_of (by omega) (by omega)]
    exact HQ _ (MF_u fg (Or.inr rfl)) up_s (by rw [up_p (by decide)]; exact g3) (by rw [up_p (by decide)]; exact g4)
  -- kept
  have COPY : ∀ (t : Nat) (v1 v2 : Int), t < 12 → (∀ g, MF h g → g 69 46 = 0 → (∀ j, j < 40 * t ∨ 40 * t + 40 ≤ j → g 103 j = h 103 j) → (∀ j, j < n → g 103 (40 * t + j) = h0 37 j) → g 104 = st1 (h 104) t (n : Int) → Q (I 1) g) → ∀ c i : Nat, i + c = n → ∀ g, MF h g → g 69 46 = 0 → (∀ j, j < 40 * t ∨ 40 * t + 40 ≤ j → g 103 j = h 103 j) → (∀ j, j < i → g 103 (40 * t + j) = h0 37 j) → g 104 = h 104 → X (d + 21) 172 237 [some (P 69), some (I v1), some (I v2), some (I (n : Int)), some (I (t : Int)), some (I (i : Int))] [] g Q := by
    intro t v1 v2 t12 HQ c
    induction c with
    | zero =>
      intro i hi g fg g46 g1 g2 g4
      refine b172_237 (br_i (fun _ => an_i (by omega) (by omega) ?_) (fun q => absurd (by omega) q))
      simp only [Int.toNat_natCast]
      refine HQ _ (MF_x fg).2 (by rw [up_p (by decide)]; exact g46) (fun j hj => by rw [up_p (by decide)]; exact g1 j hj) (fun j hj => by rw [up_p (by decide)]; exact g2 j (by omega)) (by rw [up_st, g4])
    | succ c ih =>
      intro i hi g fg g46 g1 g2 g4
      refine b172_237 (br_i (fun q => absurd q (by omega)) (fun _ => an_i (by omega) (by omega) ?_))
      rw [w40 t12 (by omega), w32_n (by omega)]
      simp only [Int.toNat_natCast]
      have e2 : g 102 i = h0 37 i := by rw [fg.1 102 (by decide) (by decide) (by decide), hm 102 (by decide), e102]
      rw [e2]
      refine an_i (by omega) (by omega) (ih (i + 1) (by omega) _ (MF_x fg).1 (by rw [up_p (by decide)]; exact g46) (fun j hj => ?_) (fun j hj => ?_) (by rw [up_p (by decide)]; exact g4))
      · rw [up_st, st1_n (by omega)]; exact g1 j hj
      · rw [up_st]
        by_cases ej : j = i
        · subst ej; exact st1_s
        · rw [st1_n (by omega)]; exact g2 j (by omega)
  generalize eS : sbj (h0 37) n (h0 26 2) (h0 2 0) (h0 8) = S at *
  -- the cases
  have CAS : ∀ (t : Nat) (v1 v2 v3 : Int), S = ((t : Int), 3) → t < 12 → 3 ≤ n → (v2 = 0 → v1 = t ∧ t < 4) → (¬ v2 = 0 → v1 = (t : Int) - 4 ∧ 4 ≤ t) → X (d + 21) 172 182 [some (P 69), some (I v1), some (I v2), some (I v3), none, none] [I (mostT t + 1), P 69] (MHP h1 3 (-9) 0) Q := by
    intro t v1 v2 v3 e t12 n3 k0 k1
    have HC1 := H1 t (by rw [e])
    have HC2 := H2 t (by rw [e]) t12
    have mr := most_r t
    refine b172_182 (b171_0 ?_)
    rw [MHP_us, MHP_ut]
    have BT : MB (up2 h1 69 57 (mostT t + 1)) (h0 37) n := by
      unfold MB at *
      rw [up_i (j := 51) (by decide), up_i (j := 49) (by decide), up_p (q := 102) (by decide), up_p (q := 103) (by decide)]
      exact hB
    have fs : ∀ v, MF h (up2 (up2 h1 69 57 (mostT t + 1)) 69 58 v) := fun v => MF_u (MF_u f1 (Or.inl rfl)) (Or.inl rfl)
    refine mr_cases (d := d + 1) (most := mostT t) (Q := fun _ h' => X (d + 21) 172 189 [some (P 69), some (I v1), some (I v2), some (I v3), none, none] [] h' Q) BT (by rw [up_i (by decide), h9]; exact ⟨np0, np8⟩) (by omega) (by omega) (by rw [up_s]) 40 3 [] (fun _ => -1) (by omega) (Or.inl rfl) ?_
    have GBd := pCs_b (b := h0 37) (n := n) (most := mostT t) 40 3 [] (fun _ => -1) n3
    generalize pCs (h0 37) n (mostT t) 40 3 [] (fun _ => -1) = C at *
    refine ⟨fun c => b172_189 (b172_196 ?_), fun c v => b172_189 (FAIL _ _ _ C.2.1 (MF_m (fs v)) (by rw [MHP_p (by decide), up_p (by decide), up_p (by decide)]; exact q103.1) (by rw [MHP_p (by decide), up_p (by decide), up_p (by decide)]; exact q103.2) MHP_f (by omega) (HC1 c))⟩
    rw [MHP_f, MHP_i (j := 46) (by decide) (by decide) (by decide), up_i (j := 46) (by decide), up_i (j := 46) (by decide), h46]
    have CP := fun v1 v2 => COPY t v1 v2 t12 (HC2 c) n 0 (by omega) (up2 (MHP (up2 (up2 h1 69 57 (mostT t + 1)) 69 58 (tq (C.2.2.2 (envM (up2 h1 69 57 (mostT t + 1)))))) C.2.1 (-9) 0) 69 46 0) (MF_u (MF_m (fs _)) (Or.inr rfl)) up_s (fun j _ => by rw [up_p (by decide), MHP_p (by decide), up_p (by decide), up_p (by decide), q103.1]) (fun j hj => absurd hj (by omega)) (by rw [up_p (by decide), MHP_p (by decide), up_p (by decide), up_p (by decide)]; exact q103.2)
    refine br_i (fun _ => br_i (fun q => b172_232 ?_) (fun q => b172_232 ?_)) (fun x => absurd (by decide) x)
    · obtain ⟨k2, k3⟩ := k0 q
      subst k2
      exact CP _ _
    · obtain ⟨k2, k3⟩ := k1 q
      subst k2
      rw [show w32 (4 + ((t : Int) - 4)) = (t : Int) by rw [w32_of (by omega) (by omega)]; omega]
      exact CP _ _
  -- what follows a good subject, and a bad one
  have BAD : ∀ (v1 v2 : Int), S.1 < 0 → S.2 = 1 → X (d + 21) 172 140 [some (P 69), some (I v1), some (I v2), none, none, none] [] (MHP h1 1 (-9) 0) Q := by
    intro v1 v2 s1 s2
    refine b172_140 (b172_141 (br_i (fun x => absurd rfl x) (fun _ => m_wrong (by decide) (b172_150 (FAIL _ _ _ 1 (MF_m f1) (by rw [MHP_p (by decide)]; exact q103.1) (by rw [MHP_p (by decide)]; exact q103.2) MHP_f (by decide) ?_)))))
    have := H0 s1
    rw [s2] at this
    exact this
  have GOOD : ∀ (t : Nat) (v1 v2 : Int), (v2 = 0 → v1 = t ∧ t < 4) → (¬ v2 = 0 → v1 = (t : Int) - 4 ∧ 4 ≤ t) → t < 12 → S = (if nxc (h0 37) n 2 = 58 then ((t : Int), 3) else (-1, 2)) → X (d + 21) 172 136 [some (P 69), some (I v1), some (I v2), none, none, none] [] (MHP h1 1 (-9) 0) Q := by
    intro t v1 v2 k0 k1 t12 es
    refine b172_136 (b172_141 (br_i (fun _ => ?_) (fun x => absurd (by decide) x)))
    rw [MHP_a, MHP_ua (a' := 2) (by decide)]
    refine m_take (by decide) (by decide) hB (by decide) (fun e => b172_169 (br_i (fun x => absurd x (by decide)) (fun _ => ?_))) (fun e => b172_169 (br_i (fun _ => m_wrong (by decide) (X_weak (A := [some (P 69), some (I v1), some (I v2), none, none, none]) ⟨Or.inl rfl, Or.inl rfl, Or.inl rfl, Or.inr ⟨rfl, _, rfl, rfl⟩, Or.inl rfl, Or.inl rfl, trivial⟩ (FAIL _ _ _ 2 (MF_m f1) (by rw [MHP_p (by decide)]; exact q103.1) (by rw [MHP_p (by decide)]; exact q103.2) MHP_f (by decide) ?_))) (fun x => absurd rfl x)))
    · have n3 := nxc_n e (by decide)
      rw [if_pos e] at es
      have C := fun v3 => CAS t v1 v2 v3 es t12 (by omega) k0 k1
      refine br_i (fun q => ?_) (fun q => ?_)
      · have := C 1
        have e2 : mostT t = 1 := by unfold mostT; rw [if_pos (k0 q).2]
        rw [e2] at this; exact this
      · have := C 1
        have e2 : mostT t = 2 := by unfold mostT; rw [if_neg (by have := (k1 q).2; omega)]
        rw [e2] at this; exact this
    · rw [if_neg e] at es
      have := H0 (by rw [es]; decide)
      rw [es] at this
      exact this
  have m70 := mby_c (b := h0 37) (n := n) (a := 0) (c := 70) (by decide) (by decide)
  have m72 := mby_c (b := h0 37) (n := n) (a := 0) (c := 72) (by decide) (by decide)
  -- the second byte
  have SEC : ∀ v2, (v2 = 0 ∨ v2 = 1) → (v2 = 0 → nxc (h0 37) n 0 = 72) → (v2 = 1 → nxc (h0 37) n 0 = 70) → X (d + 21) 172 67 [some (P 69), some (I 0), some (I v2), none, none, none] [] (MHP h1 0 (-9) 0) Q := by
    intro v2 hv2 k0 k1
    have n1 : 0 < n := by
      rcases hv2 with e | e
      · exact nxc_n (k0 e) (by decide)
      · exact nxc_n (k1 e) (by decide)
    refine b172_67 ?_
    rw [MHP_a, MHP_ua (a' := 1) (by decide)]
    refine m_byte hB (b172_81 (m_isd hB (by decide) (fun c1 => b172_89 (br_i (fun x => absurd x (by decide)) (fun _ => ?_))) (fun c1 => b172_89 (br_i (fun _ => BAD _ _ ?_ ?_) (fun x => absurd rfl x)))))
    · have r1 := dgt_r c1
      have emb : mby (h0 37) n 1 - 48 = dgt (h0 37) n 1 9 := by
        rcases dgt_m (b := h0 37) (n := n) (a := 1) with x | x
        · exact absurd x.1 c1
        · exact x.2.2.2.symm
      rw [w32_of (x := mby (h0 37) n 1 - 48) (by omega) (by omega), emb]
      obtain ⟨k, ek⟩ := Int.eq_ofNat_of_zero_le r1.1
      rw [ek]
      have ek2 : nxc (h0 37) n 1 - 48 = (k : Int) := by omega
      unfold sbj at eS
      rcases hv2 with e | e
      · rw [if_pos (k0 e), ek2] at eS
        refine br_i (fun _ => z158 ?_) (fun x => absurd e x)
        rw [MHP_i (j := 30) (by decide) (by decide) (by decide), h30]
        refine br_i (fun q => absurd q (by omega)) (fun _ => br_i (fun q => b172_133 (br_i (fun _ => BAD _ _ ?_ ?_) (fun x => absurd rfl x))) (fun q => b172_133 (br_i (fun x => absurd x (by decide)) (fun _ => GOOD k _ _ (fun _ => ⟨rfl, by omega⟩) (fun x => absurd e x) (by omega) ?_))))
        · rw [if_neg (fun x => by omega)] at eS; rw [← eS]; decide
        · rw [if_neg (fun x => by omega)] at eS; rw [← eS]
        · rw [if_pos ⟨by omega, by omega⟩] at eS; exact eS.symm
      · have k1' := k1 e
        rw [if_neg (by rw [k1']; decide), if_pos k1', ek2] at eS
        simp only [Int.toNat_natCast] at eS
        refine br_i (fun x => absurd x (by omega)) (fun _ => z136 ?_)
        rw [MHP_i (j := 9) (by decide) (by decide) (by decide), h9]
        refine br_i (fun q => absurd q (by omega)) (fun _ => br_i (fun q => b172_101 (br_i (fun _ => BAD _ _ ?_ ?_) (fun x => absurd rfl x))) (fun q => b172_101 (br_i (fun x => absurd x (by decide)) (fun _ => z136 ?_))))
        · rw [if_neg (fun x => by omega)] at eS; rw [← eS]; decide
        · rw [if_neg (fun x => by omega)] at eS; rw [← eS]
        · rw [MHP_i (j := 9) (by decide) (by decide) (by decide), h9]
          refine br_i (fun q => absurd q (by omega)) (fun _ => br_i (fun x => absurd x q) (fun _ => b172_113 (br_i (fun x => absurd x (by decide)) (fun _ => b172_121 (an_i (by omega) (by omega) ?_)))))
          rw [MHP_p (q := 75) (by decide), h75]
          simp only [Int.toNat_natCast]
          have hk := hfl k
          refine br_i (fun q3 => BAD _ _ ?_ ?_) (fun q3 => GOOD (k + 4) _ _ (fun x => absurd x (by omega)) (fun _ => ⟨by omega, by omega⟩) (by omega) ?_)
          · rw [if_neg (fun x => x.2.2 (by omega))] at eS; rw [← eS]; decide
          · rw [if_neg (fun x => x.2.2 (by omega))] at eS; rw [← eS]
          · rw [if_pos ⟨by omega, by omega, by omega⟩] at eS
            rw [show ((k + 4 : Nat) : Int) = 4 + (k : Int) by omega]
            exact eS.symm
    · unfold sbj at eS
      have hd := dgt_neg c1
      rcases hv2 with e | e
      · rw [if_pos (k0 e), if_neg (fun x => hd ⟨x.1, by omega⟩)] at eS; rw [← eS]; decide
      · have k1' := k1 e
        rw [if_neg (by rw [k1']; decide), if_pos k1', if_neg (fun x => hd ⟨x.1, by omega⟩)] at eS; rw [← eS]; decide
    · unfold sbj at eS
      have hd := dgt_neg c1
      rcases hv2 with e | e
      · rw [if_pos (k0 e), if_neg (fun x => hd ⟨x.1, by omega⟩)] at eS; rw [← eS]
      · have k1' := k1 e
        rw [if_neg (by rw [k1']; decide), if_pos k1', if_neg (fun x => hd ⟨x.1, by omega⟩)] at eS; rw [← eS]
  refine m_byte hB (b172_36 (br_i (fun q => b172_46 (br_i (fun x => absurd rfl x) (fun _ => m_byte hB (b172_55 (br_i (fun q2 => SEC 0 (Or.inl rfl) (fun _ => m72.mp q2) (fun x => absurd x (by decide))) (fun q2 => m_wrong (by decide) (b172_64 (FAIL _ _ _ 0 (MF_m f1) (by rw [MHP_p (by decide)]; exact q103.1) (by rw [MHP_p (by decide)]; exact q103.2) MHP_f (by decide) ?_))))))) ) (fun q => b172_46 (br_i (fun _ => SEC 1 (Or.inr rfl) (fun x => absurd x (by decide)) (fun _ => m70.mp (Classical.not_not.mp q))) (fun x => absurd (by decide) x)))))
  unfold sbj at eS
  rw [if_neg (fun x => q2 (m72.mpr x)), if_neg (fun x => q (m70.mpr x))] at eS
  have := H0 (by rw [← eS]; decide)
  rw [← eS] at this
  exact this
theorem STX_of {g k : HP} (f : FTX h g) (m : MF g k) : STX h k := ⟨fun q h1 h2 h3 h4 h5 h6 h7 => by rw [m.1 q h5 h6 h7]; exact f.1 q h1 h2 h3 h4, fun j hj h46 => by rw [m.2 j hj h46, f.1 69 (by decide) (by decide) (by decide) (by decide)]⟩
theorem sbj_o {b : Nat → Int} {n p : Nat} {nh np : Int} {fl : Nat → Int} (h1 : nh ≤ 4) (e : (sbj b n nh np fl).1 = ((4 + p : Nat) : Int)) : (p : Int) < np ∧ ¬ fl p = -9 := by
  unfold sbj at e
  by_cases c1 : nxc b n 0 = 72
  · rw [if_pos c1] at e
    by_cases c2 : 0 ≤ nxc b n 1 - 48 ∧ nxc b n 1 - 48 < nh
    · rw [if_pos c2] at e
      by_cases c3 : nxc b n 2 = 58
      · rw [if_pos c3] at e
        have : nxc b n 1 - 48 = ((4 + p : Nat) : Int) := e
        omega
      · rw [if_neg c3] at e
        have : (-1 : Int) = ((4 + p : Nat) : Int) := e
        omega
    · rw [if_neg c2] at e
      have : (-1 : Int) = ((4 + p : Nat) : Int) := e
      omega
  · rw [if_neg c1] at e
    by_cases c4 : nxc b n 0 = 70
    · rw [if_pos c4] at e
      by_cases c2 : 0 ≤ nxc b n 1 - 48 ∧ nxc b n 1 - 48 < np ∧ ¬ fl (nxc b n 1 - 48).toNat = -9
      · rw [if_pos c2] at e
        by_cases c3 : nxc b n 2 = 58
        · rw [if_pos c3] at e
          have x : 4 + (nxc b n 1 - 48) = ((4 + p : Nat) : Int) := e
          have y : (nxc b n 1 - 48).toNat = p := by omega
          rw [y] at c2
          exact ⟨by omega, c2.2.2⟩
        · rw [if_neg c3] at e
          have : (-1 : Int) = ((4 + p : Nat) : Int) := e
          omega
      · rw [if_neg c2] at e
        have : (-1 : Int) = ((4 + p : Nat) : Int) := e
        omega
    · rw [if_neg c4] at e
      have : (-1 : Int) = ((4 + p : Nat) : Int) := e
      omega
set_option maxHeartbeats 4000000 in
theorem p_text (hR : R h) : X (d + 21) 95 0 [some (P 0), none] [] h (fun r h1 => X (d + 21) 172 0 [some (P 69), none, none, none, none, none] [] h1 (fun r' h2 => EQA r r' h2)) := by
  have F : (0 ≤ h 36 1 ∧ h 36 1 ≤ 40) ∧ txR (h 39) (h 40) (h 103) (h 104) ∧ ownT (h 40) (h 8) (h 2 0) ∧ flp (h 8) (h 9) (h 76) ∧ h 26 2 ≤ 4 := by
    obtain ⟨⟨r1, r2, r3, r4, r5, r6, r7, r8⟩, ⟨r9, r10, r11, r12, r13⟩, ⟨r14, r15, r16, r17, r18, r19, r20⟩, ⟨r21, r22, r23, r24, r25, r26⟩, ⟨r27, r28, r29, r30, r31⟩, ⟨r32, r33⟩, ⟨r34, r35, r36, r37, r38, r39, r40, r41, r42, r43, r44, r45⟩, ⟨r46, r47, r48⟩, ⟨r49, r50, r51, r52, r53, r54, r55⟩, ⟨r56, r57, r58, r59, r60, r61, r62, r63, r64, r65⟩, ⟨r66, r67, r68, r69, r70, r71, r72, r73, r74, r75⟩, ⟨r76, r77, r78, r79, r80, r81, r82, r83⟩, ⟨r84, r85, r86, r87, r88, r89⟩, ⟨r90, r91, r92, r93, r94, r95, r96, r97, r98⟩, ⟨r99, r100, r101, r102, r103, r104, r105, r106⟩, ⟨r107, r108, r109, r110, r111, r112, r113⟩, ⟨r114, r115, r116, r117, r118, r119, r120, r121, r122, r123⟩⟩ := id hR
    exact ⟨⟨r72, r73⟩, r120, r122, r81, r65⟩
  obtain ⟨⟨n0, n40⟩, htx, hown, hflp, h26⟩ := F
  obtain ⟨n, hn⟩ := Int.eq_ofNat_of_zero_le n0
  have hq : ∀ g, FTX h g → ∀ q, 69 ≤ q → g q = h q := fun g f q hq => f.1 q (by omega) (by omega) (by omega) (by omega)
  have KEEP : ∀ g k, FTX h g → g 39 = h 39 → g 40 = h 40 → MF g k → k 69 46 = 0 → k 103 = g 103 → k 104 = g 104 → R k := by
    intro g k f g39 g40 m k46 k3 k4
    refine R_text (STX_of f m) hR (by rw [m.1 36 (by decide) (by decide) (by decide)]; exact f.2) k46 ?_ (by rw [m.1 40 (by decide) (by decide) (by decide), g40]; exact hown)
    rw [m.1 39 (by decide) (by decide) (by decide), m.1 40 (by decide) (by decide) (by decide), g39, g40, k3, k4, hq g f 103 (by decide), hq g f 104 (by decide)]
    exact htx
  refine c_text hR hn (fun s0 g f g39 g40 => ?_) (fun t et c g f g39 g40 => ?_) (fun t et t12 c g f g1 g2 g40 => ?_)
  · refine m_text hR (hq g f) hn (fun _ k m k46 k3 k4 => ⟨rfl, KEEP g k f g39 g40 m k46 k3 k4⟩) (fun t et => absurd s0 (by omega)) (fun t et => absurd s0 (by omega))
  · refine m_text hR (hq g f) hn (fun s0 => absurd s0 (by omega)) (fun t' et' c' k m k46 k3 k4 => ?_) (fun t' et' t12' c' => ?_)
    · have : t' = t := by omega
      subst this
      exact ⟨rfl, KEEP g k f g39 g40 m k46 k3 k4⟩
    · have : t' = t := by omega
      subst this
      rw [c] at c'; cases c'
  · refine m_text hR (hq g f) hn (fun s0 => absurd s0 (by omega)) (fun t' et' c' => ?_) (fun t' et' t12' c' k m k46 k1 k2 k4 => ?_)
    · have : t' = t := by omega
      subst this
      rw [c] at c'; cases c'
    · have : t' = t := by omega
      subst this
      refine ⟨rfl, R_text (STX_of f m) hR (by rw [m.1 36 (by decide) (by decide) (by decide)]; exact f.2) k46 ?_ ?_⟩
      case refine_2 =>
        rw [m.1 40 (by decide) (by decide) (by decide), g40]
        intro p hp h4
        by_cases e : 4 + p = t'
        · subst e
          have x := sbj_o h26 et
          have y := hflp p
          exact ⟨x.1, by have := x.2; omega⟩
        · rw [st1_n e] at h4
          exact hown p hp h4
      rw [m.1 39 (by decide) (by decide) (by decide), m.1 40 (by decide) (by decide) (by decide), g40, k4, hq g f 104 (by decide)]
      have k1' : ∀ j, j < 40 * t' ∨ 40 * t' + 40 ≤ j → k 103 j = h 103 j := fun j hj => by rw [k1 j hj, hq g f 103 (by decide)]
      intro u hu
      by_cases e : u = t'
      · subst e
        have ec : pRow (k 103) u n = pCs (h 37) n (mostT u) 40 3 [] (fun _ => -1) := by
          unfold pRow
          exact pCs_c (nxc_c (fun a ha => k2 a ha)) _ _ _ _
        obtain ⟨q1, q2, -⟩ := pCs_0 (b := h 37) (n := n) (t := u) c
        refine Or.inr ⟨n, st1_s, by omega, ?_⟩
        rw [ec]
        exact ⟨c, st1_s, q2, g2⟩
      · rcases htx u hu with x | ⟨m', x1, x2, x3, x4, x5, x6⟩
        · exact Or.inl ⟨by rw [st1_n e]; exact x.1, by rw [st1_n e]; exact x.2⟩
        · have ec : pRow (k 103) u m' = pRow (h 103) u m' := by
            unfold pRow
            exact pCs_c (nxc_c (fun a ha => k1' _ (by omega))) _ _ _ _
          refine Or.inr ⟨m', by rw [st1_n e]; exact x1, x2, ?_⟩
          rw [ec]
          refine ⟨x3, by rw [st1_n e]; exact x4, x5, fun j hj => ?_⟩
          have lq : (pRow (h 103) u m').2.2.1.length ≤ m' := (pCs_0 x3).1
          rw [g1 _ (by omega)]
          exact x6 j hj
end P57
