/-! a pass of the class: warm, heed -/
section P63
variable {d : Nat} {h : HP} {Q : PV → HP → Prop}
def wrm (h : HP) (p : Nat) : Int := if Int.tdiv (h 7 p) (h 3 p) < 600 then Int.tdiv (h 7 p) (h 3 p) else 600
def EV (h : HP) (hr : Nat) : Nat → Int := fun w => if w = 10 then h 34 hr else if w = 11 then (hr : Int) else if (w : Int) < h 2 0 then wrm h w else 0
def TLD (h : HP) (hr t : Nat) : Int := TEL h t (EV h hr)
theorem tdvB {a b B : Int} (a0 : 0 ≤ a) (a1 : a ≤ B) (b0 : 0 ≤ b) : 0 ≤ Int.tdiv a b ∧ Int.tdiv a b ≤ B := by
  refine ⟨Int.tdiv_nonneg a0 b0, ?_⟩
  have := Int.tdiv_le_self b a0
  omega
theorem wrm_r {p : Nat} (h7 : 0 ≤ h 7 p) (h3 : 0 ≤ h 3 p) : 0 ≤ wrm h p ∧ wrm h p ≤ 600 := by
  unfold wrm
  have := (tdvB h7 (Int.le_refl _) h3).1
  split <;> omega
set_option maxHeartbeats 4000000 in
theorem c_warm {hr : Int} (n0 : 0 ≤ h 2 0) (n8 : h 2 0 ≤ 8) (h3 : rgN (h 3) (h 2 0) 1 99) (h7 : rgA (h 7) 0 2000000000) (H : ∀ g, (∀ q, q ≠ 53 → g q = h q) → (∀ p : Nat, (p : Int) < h 2 0 → g 53 p = wrm h p) → X (d + 1) 43 0 [some (P 52), some (I hr), none, none] [] g (fun _ h' => X (d + 2) 42 44 [some (P 52), some (I hr), some (I ((h 2 0).toNat : Int))] [] h' Q)) : X (d + 2) 42 0 [some (P 52), some (I hr), none] [] h Q := by
  have L : ∀ k i : Nat, i + k = (h 2 0).toNat → ∀ g, (∀ q, q ≠ 53 → g q = h q) → (∀ p : Nat, p < i → g 53 p = wrm h p) → X (d + 2) 42 2 [some (P 52), some (I hr), some (I (i : Int))] [] g Q := by
    intro k
    induction k with
    | zero =>
      intro i hi g f e
      have e2 : g 2 0 = h 2 0 := by rw [f 2 (by decide)]
      have ei : i = (h 2 0).toNat := by omega
      subst ei
      exact b42_2 (br_i (fun _ => H g f (fun p hp => e p (by omega))) (fun q => absurd (by rw [e2]; omega) q))
    | succ k ih =>
      intro i hi g f e
      have e2 : g 2 0 = h 2 0 := by rw [f 2 (by decide)]
      have e3 : g 3 = h 3 := f 3 (by decide)
      have e7 : g 7 = h 7 := f 7 (by decide)
      have x3 := h3 i (by omega)
      have x7 := h7 i
      have y := tdvB x7.1 x7.2 (show 0 ≤ h 3 i by omega)
      have N : ∀ v, v = wrm h i → X (d + 2) 42 32 [some (P 52), some (I hr), some (I (i : Int))] [I v, I (i : Int), P 53] g Q := by
        intro v hv
        refine b42_32 (an_i (by omega) (by omega) ?_)
        rw [w32_n (by omega)]
        simp only [Int.toNat_natCast]
        refine ih (i + 1) (by omega) _ (fun q hq => by rw [up_p hq]; exact f q hq) (fun p hp => ?_)
        rw [up_st]
        by_cases ep : p = i
        · subst ep; rw [st1_s]; exact hv
        · rw [st1_n ep]; exact e p (by omega)
      refine b42_2 (br_i (fun q => absurd q (by rw [e2]; omega)) (fun _ => z21 (an_i (by omega) (by omega) ?_)))
      rw [e3, e7]
      simp only [Int.toNat_natCast]
      rw [w32_of (by omega) (by omega)]
      refine br_i (fun _ => an_i (by omega) (by omega) ⟨by omega, br_i (fun q => N _ ?_) (fun q => N _ ?_)⟩) (fun q => absurd x3.1 q)
      · unfold wrm; rw [if_pos q]
      · unfold wrm; rw [if_neg q]
  exact b42_0 (L (h 2 0).toNat 0 (by omega) h (fun _ _ => rfl) (fun p hp => absurd hp (by omega)))
/-- heaters as a tick leaves them, the first i looked at -/
def hS (h : HP) (hr i : Nat) : Nat → Int := fun k => if k < i ∧ h 29 k ≤ 1 ∧ 0 < h 40 k ∧ 0 ≤ TLD h hr k then TLD h hr k else h 29 k
theorem hS_y {hr i : Nat} (c : h 29 i ≤ 1 ∧ 0 < h 40 i ∧ 0 ≤ TLD h hr i) : st1 (hS h hr i) i (TLD h hr i) = hS h hr (i + 1) := by
  funext k
  by_cases e : k = i
  · subst e; rw [st1_s]; unfold hS; rw [if_pos ⟨by omega, c⟩]
  · rw [st1_n e]; unfold hS
    by_cases q : k < i
    · by_cases c2 : h 29 k ≤ 1 ∧ 0 < h 40 k ∧ 0 ≤ TLD h hr k
      · rw [if_pos ⟨q, c2⟩, if_pos ⟨by omega, c2⟩]
      · rw [if_neg (fun x => c2 x.2), if_neg (fun x => c2 x.2)]
    · rw [if_neg (fun x => q x.1), if_neg (by omega)]
theorem hS_n {hr i : Nat} (c : ¬ (h 29 i ≤ 1 ∧ 0 < h 40 i ∧ 0 ≤ TLD h hr i)) : hS h hr i = hS h hr (i + 1) := by
  funext k
  unfold hS
  by_cases q : k < i
  · by_cases c2 : h 29 k ≤ 1 ∧ 0 < h 40 k ∧ 0 ≤ TLD h hr k
    · rw [if_pos ⟨q, c2⟩, if_pos ⟨by omega, c2⟩]
    · rw [if_neg (fun x => c2 x.2), if_neg (fun x => c2 x.2)]
  · rw [if_neg (fun x => q x.1)]
    by_cases e : k = i
    · subst e; rw [if_neg (fun x => c x.2)]
    · rw [if_neg (by omega)]
/-- flaps, and how far they are open; w is row 8 or row 9 -/
def hF (h : HP) (w : Nat → Int) (hr i : Nat) : Nat → Int := fun p => if p < i ∧ ¬ h 8 p = 3 ∧ 0 < h 40 (4 + p) ∧ 0 ≤ TLD h hr (4 + p) then TLD h hr (4 + p) else w p
theorem hF_y {w : Nat → Int} {hr i : Nat} (c : ¬ h 8 i = 3 ∧ 0 < h 40 (4 + i) ∧ 0 ≤ TLD h hr (4 + i)) : st1 (hF h w hr i) i (TLD h hr (4 + i)) = hF h w hr (i + 1) := by
  funext k
  by_cases e : k = i
  · subst e; rw [st1_s]; unfold hF; rw [if_pos ⟨by omega, c⟩]
  · rw [st1_n e]; unfold hF
    by_cases q : k < i
    · by_cases c2 : ¬ h 8 k = 3 ∧ 0 < h 40 (4 + k) ∧ 0 ≤ TLD h hr (4 + k)
      · rw [if_pos ⟨q, c2⟩, if_pos ⟨by omega, c2⟩]
      · rw [if_neg (fun x => c2 x.2), if_neg (fun x => c2 x.2)]
    · rw [if_neg (fun x => q x.1), if_neg (by omega)]
theorem hF_n {w : Nat → Int} {hr i : Nat} (c : ¬ (¬ h 8 i = 3 ∧ 0 < h 40 (4 + i) ∧ 0 ≤ TLD h hr (4 + i))) : hF h w hr i = hF h w hr (i + 1) := by
  funext k
  unfold hF
  by_cases q : k < i
  · by_cases c2 : ¬ h 8 k = 3 ∧ 0 < h 40 (4 + k) ∧ 0 ≤ TLD h hr (4 + k)
    · rw [if_pos ⟨q, c2⟩, if_pos ⟨by omega, c2⟩]
    · rw [if_neg (fun x => c2 x.2), if_neg (fun x => c2 x.2)]
  · rw [if_neg (fun x => q x.1)]
    by_cases e : k = i
    · subst e; rw [if_neg (fun x => c x.2)]
    · rw [if_neg (by omega)]
theorem hF_i {w : Nat → Int} {hr i k : Nat} (hk : i ≤ k) : hF h w hr i k = w k := by
  unfold hF; rw [if_neg (by omega)]
theorem hS_i {hr i k : Nat} (hk : i ≤ k) : hS h hr i k = h 29 k := by
  unfold hS; rw [if_neg (by omega)]
def flc (f w : Nat → Int) : Prop := ∀ j, (f j = -9 ∧ w j = 2) ∨ ((0 ≤ f j ∧ f j ≤ 3) ∧ (0 ≤ w j ∧ w j ≤ 2) ∧ (f j ≤ 2 → w j = f j))
/-- what a pass needs to know of the class's rows -/
def OKC (h : HP) (B : Int) : Prop := RK h ∧ (rgN (h 3) (h 2 0) 1 99 ∧ rgA (h 3) 0 99 ∧ rgA (h 7) 0 B ∧ flc (h 8) (h 9) ∧ rgA (h 34) 0 999 ∧ 0 ≤ h 30 5 ∧ h 30 5 ≤ 9) ∧ (rgA (h 25) 0 1 ∧ below (h 23) (h 22 2) (h 2 0) ∧ rgA (h 29) 0 3 ∧ h 22 0 = 8 ∧ h 22 1 = 1 ∧ h 26 0 = 4 ∧ h 26 1 = 0) ∧ TX h ∧ ownT (h 40) (h 8) (h 2 0)
theorem OKC_of (hR : R h) : OKC h (2000000 + 40000 * h 0 8) := by
  obtain ⟨⟨r1, r2, r3, r4, r5, r6, r7, r8⟩, ⟨r9, r10, r11, r12, r13⟩, ⟨r14, r15, r16, r17, r18, r19, r20⟩, ⟨r21, r22, r23, r24, r25, r26⟩, ⟨r27, r28, r29, r30, r31⟩, ⟨r32, r33⟩, ⟨r34, r35, r36, r37, r38, r39, r40, r41, r42, r43, r44, r45⟩, ⟨r46, r47, r48⟩, ⟨r49, r50, r51, r52, r53, r54, r55⟩, ⟨r56, r57, r58, r59, r60, r61, r62, r63, r64, r65⟩, ⟨r66, r67, r68, r69, r70, r71, r72, r73, r74, r75⟩, ⟨r76, r77, r78, r79, r80, r81, r82, r83⟩, ⟨r84, r85, r86, r87, r88, r89⟩, ⟨r90, r91, r92, r93, r94, r95, r96, r97, r98⟩, ⟨r99, r100, r101, r102, r103, r104, r105, r106⟩, ⟨r107, r108, r109, r110, r111, r112, r113⟩, ⟨r114, r115, r116, r117, r118, r119, r120, r121, r122, r123⟩⟩ := id hR
  exact ⟨⟨⟨r56, r57, r58, r59, r60, r61, r62, r63, r64, r65⟩, ⟨r78, r79, r80⟩, ⟨r84, r85, r86, r87⟩, ⟨r90, r91, r92, r93, r94, r95, r96, r97⟩, ⟨r99, r101, r103, r104, r105⟩⟩, ⟨r76, r77, r114, fun j => (r81 j).imp id (fun x => ⟨x.1, x.2.1, x.2.2.1⟩), r88, r66, r67⟩, ⟨r102, r100, r106, r51, r52, r53, r54⟩, r120, r122⟩
theorem tl_e {g : HP} {t hr : Nat} (f1 : g 103 = h 103) (f2 : g 104 = h 104) (f3 : g 34 = h 34) (f4 : g 2 = h 2) (e : ∀ p : Nat, (p : Int) < h 2 0 → g 53 p = wrm h p) : TEL g t (envC g 53 hr) = TLD h hr t := by
  have : envC g 53 hr = EV h hr := by
    funext w
    unfold envC EV
    rw [f3, f4]
    by_cases c : (w : Int) < h 2 0
    · rw [if_pos c, if_pos c, e w c]
    · rw [if_neg c, if_neg c]
  unfold TLD TEL
  rw [f1, f2, this]
theorem fc_v {v : Int} (v0 : 0 ≤ v) (v2 : v ≤ 2) : bAnd (bOr v (bShl v 2)) 3 = v ∧ bAnd (bShr (bOr v (bShl v 2)) 2) 3 = v := by
  have : v = 0 ∨ v = 1 ∨ v = 2 := by omega
  rcases this with e | e | e <;> subst e <;> decide
theorem w4p {i : Nat} (hi : i < 8) : w32 (4 + (i : Int)) = ((4 + i : Nat) : Int) := by rw [w32_of (by omega) (by omega)]; omega
/-- behind heed -/
def HED (h g : HP) (hr i j : Nat) : Prop := (∀ q, q ≠ 53 → q ≠ 29 → q ≠ 8 → q ≠ 9 → g q = h q) ∧ (∀ p : Nat, (p : Int) < h 2 0 → g 53 p = wrm h p) ∧ g 29 = hS h hr i ∧ g 8 = hF h (h 8) hr j ∧ g 9 = hF h (h 9) hr j
set_option maxHeartbeats 4000000 in
theorem c_heed {B : Int} {hr : Nat} (hr1 : hr < 12) (hO : OKC h B) (H : ∀ g, HED h g hr (h 26 2).toNat (h 2 0).toNat → Q (I 0) g) {g : HP} (hg : HED h g hr 0 0) : X (d + 3) 43 0 [some (P 52), some (I (hr : Int)), none, none] [] g Q := by
  obtain ⟨⟨⟨r56, r57, r58, r59, r60, r61, r62, r63, r64, r65⟩, ⟨r78, r79, r80⟩, ⟨r84, r85, r86, r87⟩, ⟨r90, r91, r92, r93, r94, r95, r96, r97⟩, ⟨r99, r101, r103, r104, r105⟩⟩, ⟨r76, r77, r114, r81, r88, r66, r67⟩, ⟨r102, r100, r106, r51, r52, r53, r54⟩, r120, r122⟩ := id hO
  have TXg : ∀ {g i j}, HED h g hr i j → TX g := fun hg => by
    unfold TX
    rw [hg.1 39 (by decide) (by decide) (by decide) (by decide), hg.1 40 (by decide) (by decide) (by decide) (by decide), hg.1 103 (by decide) (by decide) (by decide) (by decide), hg.1 104 (by decide) (by decide) (by decide) (by decide)]
    exact r120
  have TEg : ∀ {g i j t}, HED h g hr i j → TEL g t (envC g 53 hr) = TLD h hr t := fun hg => tl_e (hg.1 103 (by decide) (by decide) (by decide) (by decide)) (hg.1 104 (by decide) (by decide) (by decide) (by decide)) (hg.1 34 (by decide) (by decide) (by decide) (by decide)) (hg.1 2 (by decide) (by decide) (by decide) (by decide)) hg.2.1
  have L2 : ∀ k i : Nat, i + k = (h 2 0).toNat → ∀ g, HED h g hr (h 26 2).toNat i → X (d + 3) 43 85 [some (P 52), some (I (hr : Int)), some (I (i : Int)), none] [] g Q := by
    intro k
    induction k with
    | zero =>
      intro i hi g hg
      have e2 : g 2 0 = h 2 0 := by rw [hg.1 2 (by decide) (by decide) (by decide) (by decide)]
      have ei : i = (h 2 0).toNat := by omega
      subst ei
      exact b43_85 (br_i (fun _ => H g hg) (fun q => absurd (by rw [e2]; omega) q))
    | succ k ih =>
      intro i hi g hg
      have e2 : g 2 0 = h 2 0 := by rw [hg.1 2 (by decide) (by decide) (by decide) (by decide)]
      have e40 : g 40 = h 40 := hg.1 40 (by decide) (by decide) (by decide) (by decide)
      have e8 : g 8 i = h 8 i := by rw [hg.2.2.2.1, hF_i (Nat.le_refl _)]
      have N0 : ¬ (¬ h 8 i = 3 ∧ 0 < h 40 (4 + i) ∧ 0 ≤ TLD h hr (4 + i)) → X (d + 3) 43 174 [some (P 52), some (I (hr : Int)), some (I (i : Int)), none] [] g Q := by
        intro c
        refine b43_174 ?_
        rw [w32_n (by omega)]
        exact ih (i + 1) (by omega) g ⟨hg.1, hg.2.1, hg.2.2.1, by rw [← hF_n c]; exact hg.2.2.2.1, by rw [← hF_n c]; exact hg.2.2.2.2⟩
      refine b43_85 (br_i (fun q => absurd q (by rw [e2]; omega)) (fun _ => an_i (by omega) (by omega) ?_))
      simp only [Int.toNat_natCast]
      rw [e8, w4p (by omega)]
      refine br_i (fun q => N0 (fun x => x.1 q)) (fun q => z27 (an_i (by omega) (by omega) ?_))
      simp only [Int.toNat_natCast]
      rw [e40]
      refine br_i (fun q2 => b43_125 (br_i (fun x => absurd rfl x) (fun _ => N0 (fun x => by omega)))) (fun q2 => b43_125 (br_i (fun _ => ?_) (fun x => absurd (by decide) x)))
      rw [w4p (by omega)]
      have c4 : 0 ≤ h 104 (4 + i) := (TX_r r120 (by omega)).mp (by omega)
      have tr := TEL_r r120 (t := 4 + i) (by omega) c4 (EV h hr)
      have mt : mostT (4 + i) = 2 := by unfold mostT; rw [if_neg (by omega)]
      rw [mt] at tr
      change TLD h hr (4 + i) = -1 ∨ (0 ≤ TLD h hr (4 + i) ∧ TLD h hr (4 + i) ≤ 2) at tr
      refine c_tla (TXg hg) (by omega) hr1 (by omega) (by rw [e40]; omega) (b43_146 ?_)
      rw [TEg hg]
      refine br_i (fun q3 => N0 (fun x => by omega)) (fun q3 => z22 (br_i (fun _ => b43_171 (z23 ?_)) (fun x => absurd (by omega) x)))
      have fv := fc_v (v := TLD h hr (4 + i)) (by omega) (by omega)
      rw [fv.1, fv.2]
      refine an_i (by omega) (by omega) (an_i (by omega) (by omega) (X_weak (A := [some (P 52), some (I (hr : Int)), some (I (i : Int)), none]) ⟨Or.inl rfl, Or.inl rfl, Or.inl rfl, Or.inr ⟨rfl, _, rfl, rfl⟩, trivial⟩ (b43_174 ?_)))
      rw [w32_n (by omega)]
      simp only [Int.toNat_natCast]
      have c : ¬ h 8 i = 3 ∧ 0 < h 40 (4 + i) ∧ 0 ≤ TLD h hr (4 + i) := ⟨q, by omega, by omega⟩
      refine ih (i + 1) (by omega) _ ⟨fun q h1 h2 h3 h4 => by rw [up_p h4, up_p h3]; exact hg.1 q h1 h2 h3 h4, ?_, ?_, ?_, ?_⟩
      · rw [up_p (by decide), up_p (by decide)]; exact hg.2.1
      · rw [up_p (by decide), up_p (by decide)]; exact hg.2.2.1
      · rw [up_p (by decide), up_st, hg.2.2.2.1]; exact hF_y c
      · rw [up_st, up_p (by decide), hg.2.2.2.2]; exact hF_y c
  have L1 : ∀ k i : Nat, i + k = (h 26 2).toNat → ∀ g, HED h g hr i 0 → X (d + 3) 43 2 [some (P 52), some (I (hr : Int)), some (I (i : Int)), none] [] g Q := by
    intro k
    induction k with
    | zero =>
      intro i hi g hg
      have e2 : g 26 2 = h 26 2 := by rw [hg.1 26 (by decide) (by decide) (by decide) (by decide)]
      have ei : i = (h 26 2).toNat := by omega
      subst ei
      exact b43_2 (br_i (fun _ => L2 (h 2 0).toNat 0 (by omega) g hg) (fun q => absurd (by rw [e2]; omega) q))
    | succ k ih =>
      intro i hi g hg
      have e2 : g 26 2 = h 26 2 := by rw [hg.1 26 (by decide) (by decide) (by decide) (by decide)]
      have e40 : g 40 = h 40 := hg.1 40 (by decide) (by decide) (by decide) (by decide)
      have e29 : g 29 i = h 29 i := by rw [hg.2.2.1, hS_i (Nat.le_refl _)]
      have N0 : ¬ (h 29 i ≤ 1 ∧ 0 < h 40 i ∧ 0 ≤ TLD h hr i) → ∀ d', X d' 43 2 [some (P 52), some (I (hr : Int)), some (I ((i + 1 : Nat) : Int)), none] [] g Q → X d' 43 77 [some (P 52), some (I (hr : Int)), some (I (i : Int)), none] [] g Q := by
        intro c d' K
        refine b43_77 ?_
        rw [w32_n (by omega)]
        exact K
      have NX : ¬ (h 29 i ≤ 1 ∧ 0 < h 40 i ∧ 0 ≤ TLD h hr i) → X (d + 3) 43 2 [some (P 52), some (I (hr : Int)), some (I ((i + 1 : Nat) : Int)), none] [] g Q := fun c => ih (i + 1) (by omega) g ⟨hg.1, hg.2.1, by rw [← hS_n c]; exact hg.2.2.1, hg.2.2.2.1, hg.2.2.2.2⟩
      refine b43_2 (br_i (fun q => absurd q (by rw [e2]; omega)) (fun _ => an_i (by omega) (by omega) ?_))
      simp only [Int.toNat_natCast]
      rw [e29]
      refine br_i (fun q => N0 (fun x => by omega) _ (NX (fun x => by omega))) (fun q => z27 (an_i (by omega) (by omega) ?_))
      simp only [Int.toNat_natCast]
      rw [e40]
      refine br_i (fun q2 => b43_40 (br_i (fun x => absurd rfl x) (fun _ => N0 (fun x => by omega) _ (NX (fun x => by omega))))) (fun q2 => b43_40 (br_i (fun _ => ?_) (fun x => absurd (by decide) x)))
      have c4 : 0 ≤ h 104 i := (TX_r r120 (by omega)).mp (by omega)
      refine c_tla (TXg hg) (by omega) hr1 (by rw [hg.1 2 (by decide) (by decide) (by decide) (by decide)]; exact r57) (by rw [e40]; omega) (b43_59 ?_)
      rw [TEg hg]
      refine br_i (fun q3 => N0 (fun x => by omega) _ (NX (fun x => by omega))) (fun q3 => an_i (by omega) (by omega) (b43_77 ?_))
      rw [w32_n (by omega)]
      simp only [Int.toNat_natCast]
      have c : h 29 i ≤ 1 ∧ 0 < h 40 i ∧ 0 ≤ TLD h hr i := ⟨by omega, by omega, by omega⟩
      refine ih (i + 1) (by omega) _ ⟨fun q h1 h2 h3 h4 => by rw [up_p h2]; exact hg.1 q h1 h2 h3 h4, ?_, ?_, ?_, ?_⟩
      · rw [up_p (by decide)]; exact hg.2.1
      · rw [up_st, hg.2.2.1]; exact hS_y c
      · rw [up_p (by decide)]; exact hg.2.2.2.1
      · rw [up_p (by decide)]; exact hg.2.2.2.2
  exact b43_0 (L1 (h 26 2).toNat 0 (by omega) g hg)
end P63
