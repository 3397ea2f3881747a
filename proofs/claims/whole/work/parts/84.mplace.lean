/-! boxes placed best: the model -/
section P84
variable {d : Nat} {h g k : HP} {Q : PV → HP → Prop}
def SMP (h k : HP) (hr : Nat) (st : Nat → Int) : Prop := SCM k (h 34 hr) (h 30 5) 100 100 (h 25) (hnF h) (h 21) (h 9) st (h 15)
theorem SMP_f {k' : HP} {hr : Nat} {st : Nat → Int} (f : ∀ q, q < 69 ∨ (106 ≤ q ∧ q ≤ 111) → k' q = k q) (f2 : ∀ x, 59 ≤ x ∧ x ≤ 62 → k' 69 x = k 69 x) (hS : SMP h k hr st) : SMP h k' hr st := by
  unfold SMP SCM at *
  rw [f2 59 (by decide), f2 60 (by decide), f2 61 (by decide), f2 62 (by decide), f 22 (by decide), f 26 (by decide), f 17 (by decide), f 2 (by decide), f 12 (by decide), f 108 (by decide), f 109 (by decide), f 110 (by decide), f 107 (by decide), f 111 (by decide), f 106 (by decide)]
  exact hS
theorem rnk_ex {bs i : Nat} : ∀ n, i < rnk bs n → ∃ j, j < n ∧ bs.testBit j = true ∧ rnk bs j = i
  | 0, hi => absurd hi (by show ¬ i < 0; omega)
  | n + 1, hi => by
    by_cases q : i < rnk bs n
    · obtain ⟨j, h1, h2, h3⟩ := rnk_ex n q
      exact ⟨j, by omega, h2, h3⟩
    · by_cases t : bs.testBit n = true
      · rw [rnk_t t] at hi
        exact ⟨n, by omega, t, by omega⟩
      · rw [rnk_f t] at hi
        exact absurd hi q
theorem rnk_i {bs i j : Nat} (hi : bs.testBit i = true) (hj : bs.testBit j = true) (e : rnk bs i = rnk bs j) : i = j := by
  have a := rnk_t hi
  have b := rnk_t hj
  rcases Nat.lt_trichotomy i j with q | q | q
  · have : rnk bs (i + 1) ≤ rnk bs j := rnk_l (by omega)
    omega
  · exact q
  · have : rnk bs (j + 1) ≤ rnk bs i := rnk_l (by omega)
    omega
theorem dg_pre {M s m c i : Nat} (eM : M = c + m) (hi : i < c) : dg M s i = dg c (s / 8 ^ m) i := by
  unfold dg
  rw [Nat.div_div_eq_div_mul, ← Nat.pow_add, show m + (c - 1 - i) = M - 1 - i by omega]
theorem dg_a {c w p i : Nat} (hp : p < 8) (hi : i < c) : dg (c + 1) (w * 8 + p) i = dg c w i := by
  rw [dg_pre (M := c + 1) (m := 1) (c := c) rfl hi]
  have : (w * 8 + p) / 8 ^ 1 = w := by
    rw [Nat.pow_one]
    omega
  rw [this]
theorem dg_l {c w p : Nat} (hp : p < 8) : dg (c + 1) (w * 8 + p) c = p := by
  unfold dg
  rw [show c + 1 - 1 - c = 0 by omega, Nat.pow_zero, Nat.div_one]
  omega
/-- the model while it goes through rows, those ahead of N gone through -/
def PL (h : HP) (hr bs ps M : Nat) (k : HP) (N : Nat) : Prop := SCR h k ∧ (∃ st, SMP h k hr st ∧ ∀ j, ¬ bs.testBit j = true → st j = h 23 j) ∧ (k 69 87 = (M : Int) ∧ ∀ j : Nat, j < 8 → bs.testBit j = true → k 120 (rnk bs j) = (j : Int)) ∧ ∃ r, BPN (hot h hr bs M) (vld ps M) N (k 69 90) r ∧ (¬ k 69 90 = -9 → ∀ i, i < M → k 122 i = ((dg M r i : Nat) : Int))
def TRY (k : HP) (c w : Nat) : Prop := ∀ i, i < c → k 121 i = ((dg c w i : Nat) : Int)
theorem PL_n {hr bs ps M N N' : Nat} (a : PL h hr bs ps M k N) (hN : N ≤ N') (hn : ∀ s, N ≤ s → s < N' → ¬ vld ps M s) : PL h hr bs ps M k N' := by
  obtain ⟨a1, a2, a3, r, a4, a5⟩ := a
  exact ⟨a1, a2, a3, r, BPN_no a4 hN hn, a5⟩
set_option maxHeartbeats 4000000 in
theorem m_leaf {hr bs ps M w : Nat} {f : Int} (hR : R h) (hb : bs < 256) (hbn : ∀ j, bs.testBit j = true → (j : Int) < h 22 2) (eM : rnk bs 8 = M) (hM : M ≤ 3) (hv : vld ps M w) (hP : PL h hr bs ps M k w) (hT : TRY k M w) (H : ∀ k', PL h hr bs ps M k' (w + 1) → TRY k' M w → Q (I 0) k') : X (d + 3) 209 10 [some (P 69), some (I (M : Int)), some (I f), some (I 0), none] [] k Q := by
  obtain ⟨s0, ⟨st0, S0, z0⟩, ⟨k87, k120⟩, r0, hB, h122⟩ := hP
  have n8 : 0 ≤ h 2 0 ∧ h 2 0 ≤ 8 := (R_cnt hR).2.1
  have c8 : 0 ≤ h 22 2 ∧ h 22 2 ≤ 8 := (R_cnt hR).2.2.2.2.1
  have e9 : ∀ g, SCR h g → g 69 9 = h 2 0 := fun g a => by rw [a.2 9 rfl]; exact (R_cnt hR).1.1
  have hh : 0 ≤ hot h hr bs M w := by
    unfold hot
    exact mxw_0 _ _
  have L1 : ∀ m i : Nat, i + m = M → ∀ (g : HP) (st : Nat → Int), (∀ q, q ≠ 109 → g q = k q) → SMP h g hr st → (∀ j, j < 8 → bs.testBit j = true → rnk bs j < i → st j = ((dg M w (rnk bs j) : Nat) : Int)) → (∀ j, ¬ bs.testBit j = true → st j = h 23 j) → X (d + 3) 209 10 [some (P 69), some (I (M : Int)), some (I f), some (I (i : Int)), none] [] g Q := by
    intro m
    induction m with
    | zero =>
      intro i hi g st fg S e1 e2
      have ei : i = M := by omega
      subst ei
      have g87 : g 69 87 = (i : Int) := by rw [fg 69 (by decide)]; exact k87
      have sg : SCR h g := SCR_o s0 (fun q hq => fg q (by omega))
      have eh : RVS h hr st = RVS h hr (plc h bs i w) := RVS_c (fun j hj => by
        unfold plc
        by_cases q : bs.testBit j = true
        · rw [if_pos q]
          have x2 := rnk_t q
          have x3 : rnk bs (j + 1) ≤ rnk bs 8 := rnk_l (by omega)
          exact e1 j (by omega) q (by omega)
        · rw [if_neg q]; exact e2 j q)
      refine b209_10 (br_i (fun _ => m_scT (d := d) hR (SCT_of sg) S (fun g2 o hk => b209_45 ?_)) (fun q => absurd (by rw [g87]; omega) q))
      have G2 : ∀ q, q ≠ 105 → q ≠ 109 → g2 q = k q := fun q h1 h2 => by rw [o q h1, fg q h2]
      have s2 : SCR h g2 := SCR_105 sg o
      have S2 : SMP h g2 hr st := SCM_105 o S
      have g69 : g2 69 = k 69 := G2 69 (by decide) (by decide)
      have KEEP : k 69 90 ≤ hot h hr bs i w → ¬ k 69 90 = -9 → Q (I 0) g2 := by
        intro q1 q2
        refine H g2 ⟨s2, ⟨st, S2, e2⟩, ⟨by rw [g69]; exact k87, by rw [G2 120 (by decide) (by decide)]; exact k120⟩, r0, ?_, ?_⟩ (fun j hj => by rw [G2 121 (by decide) (by decide)]; exact hT j hj)
        · rw [g69]; exact BPN_kp hB q2 q1
        · rw [g69, G2 122 (by decide) (by decide)]; exact h122
      have NEW : ∀ v4 : Int, (k 69 90 = -9 ∨ hot h hr bs i w < k 69 90) → X (d + 3) 209 103 [some (P 69), some (I (i : Int)), some (I f), some (I (hot h hr bs i w)), some (I v4)] [] g2 Q := by
        intro v4 hc
        have L3 : ∀ n j : Nat, j + n = i → ∀ g3 : HP, (∀ q, q ≠ 122 → g3 q = up2 g2 69 90 (hot h hr bs i w) q) → (∀ x, x < j → g3 122 x = ((dg i w x : Nat) : Int)) → X (d + 3) 209 111 [some (P 69), some (I (i : Int)), some (I f), some (I (hot h hr bs i w)), some (I (j : Int))] [] g3 Q := by
          intro n
          induction n with
          | zero =>
            intro j hj g3 f3 e3
            have ej : j = i := by omega
            subst ej
            have g3s : g3 69 87 = (j : Int) := by rw [f3 69 (by decide), up_i (by decide), g69]; exact k87
            have g390 : g3 69 90 = hot h hr bs j w := by rw [f3 69 (by decide), up_s]
            refine b209_111 (br_i (fun _ => H g3 ⟨?_, ⟨st, ?_, e2⟩, ⟨g3s, ?_⟩, w, ?_, fun _ x hx => e3 x hx⟩ (fun x hx => ?_)) (fun q => absurd (by rw [g3s]; omega) q))
            · exact SCR_o (SCR_m (i := 90) (v := hot h hr bs j w) s2 rfl) (fun q hq => f3 q (by omega))
            · exact SMP_f (fun q hq => by rw [f3 q (by omega), up_p (by omega)]) (fun x hx => by rw [f3 69 (by decide), up_i (by omega)]) S2
            · rw [f3 120 (by decide), up_p (by decide), G2 120 (by decide) (by decide)]; exact k120
            · rw [g390]; exact BPN_nw hB hc hv hh
            · rw [f3 121 (by decide), up_p (by decide), G2 121 (by decide) (by decide)]; exact hT x hx
          | succ n ih =>
            intro j hj g3 f3 e3
            have g3s : g3 69 87 = (i : Int) := by rw [f3 69 (by decide), up_i (by decide), g69]; exact k87
            have g3t : g3 121 j = ((dg i w j : Nat) : Int) := by rw [f3 121 (by decide), up_p (by decide), G2 121 (by decide) (by decide)]; exact hT j (by omega)
            refine b209_111 (br_i (fun q => absurd q (by rw [g3s]; omega)) (fun _ => an_i (by omega) (by omega) (an_i (by omega) (by omega) ?_)))
            simp only [Int.toNat_natCast]
            rw [g3t, w32_n (by omega)]
            refine ih (j + 1) (by omega) _ (fun q hq => by rw [up_p hq]; exact f3 q hq) (fun x hx => ?_)
            rw [up_st]
            by_cases ex : x = j
            · subst ex; exact st1_s
            · rw [st1_n ex]; exact e3 x (by omega)
        exact b209_103 (L3 i 0 (by omega) _ (fun _ _ => rfl) (fun x hx => absurd hx (by omega)))
      have L2 : ∀ n p : Nat, p + n = (h 2 0).toNat → X (d + 3) 209 50 [some (P 69), some (I (i : Int)), some (I f), some (I (mxw (RVS h hr st) p)), some (I (p : Int))] [] g2 Q := by
        intro n
        induction n with
        | zero =>
          intro p hp
          have ep : p = (h 2 0).toNat := by omega
          subst ep
          have em : mxw (RVS h hr st) (h 2 0).toNat = hot h hr bs i w := by
            unfold hot
            rw [eh]
          have b9 := BPN_9 hB
          rw [em]
          refine b209_50 (br_i (fun _ => ?_) (fun q => absurd (by rw [e9 g2 s2]; omega) q))
          rw [g69]
          exact br_i (fun q => NEW _ (Or.inl (by omega))) (fun q => br_i (fun q2 => KEEP q2 (by omega)) (fun q2 => NEW _ (Or.inr (by omega))))
        | succ n ih =>
          intro p hp
          have ww : g2 105 p = RVS h hr st p := (hk p (by omega)).1
          have em : mxw (RVS h hr st) (p + 1) = if mxw (RVS h hr st) p < RVS h hr st p then RVS h hr st p else mxw (RVS h hr st) p := rfl
          refine b209_50 (br_i (fun q => absurd q (by rw [e9 g2 s2]; omega)) (fun _ => an_i (by omega) (by omega) ?_))
          simp only [Int.toNat_natCast]
          rw [ww]
          have N : ∀ v, v = mxw (RVS h hr st) (p + 1) → X (d + 3) 209 81 [some (P 69), some (I (i : Int)), some (I f), some (I (mxw (RVS h hr st) p)), some (I (p : Int))] [I v] g2 Q := by
            intro v hv'
            subst hv'
            refine b209_81 ?_
            rw [w32_n (by omega)]
            exact ih (p + 1) (by omega)
          refine br_i (fun q => N _ ?_) (fun q => an_i (by omega) (by omega) (N _ ?_))
          · rw [em, if_neg (by omega)]
          · rw [em, if_pos (by omega)]
      exact L2 (h 2 0).toNat 0 (by omega)
    | succ m ih =>
      intro i hi g st fg S e1 e2
      have g87 : g 69 87 = (M : Int) := by rw [fg 69 (by decide)]; exact k87
      obtain ⟨j, j8, jb, jr⟩ := rnk_ex (bs := bs) (i := i) 8 (by omega)
      have g120 : g 120 i = (j : Int) := by
        rw [fg 120 (by decide), ← jr]; exact k120 j j8 jb
      have g121 : g 121 i = ((dg M w i : Nat) : Int) := by rw [fg 121 (by decide)]; exact hT i (by omega)
      refine b209_10 (br_i (fun q => absurd q (by rw [g87]; omega)) (fun _ => an_i (by omega) (by omega) (an_i (by omega) (by omega) ?_)))
      simp only [Int.toNat_natCast]
      rw [g120, g121, w32_n (by omega)]
      simp only [Int.toNat_natCast]
      refine an_i (by omega) (by omega) (ih (i + 1) (by omega) _ (st1 st j ((dg M w i : Nat) : Int)) (fun q hq => by rw [up_p hq]; exact fg q hq) (SCM_st S) (fun x hx xb xr => ?_) (fun x xb => ?_))
      · by_cases ex : x = j
        · subst ex; rw [st1_s, jr]
        · rw [st1_n ex]
          refine e1 x hx xb ?_
          apply Classical.byContradiction
          intro q
          exact ex (rnk_i xb jb (by omega))
      · rw [st1_n (fun e => xb (by rw [e]; exact jb))]; exact e2 x xb
  exact L1 M 0 (by omega) k st0 (fun _ _ => rfl) S0 (fun j _ _ hj => absurd hj (by omega)) z0
set_option maxHeartbeats 4000000 in
theorem m_places {hr bs ps M : Nat} (hR : R h) (hb : bs < 256) (hbn : ∀ j, bs.testBit j = true → (j : Int) < h 22 2) (hp : ps < 256) (hpn : ∀ j, ps.testBit j = true → (j : Int) < h 2 0) (eM : rnk bs 8 = M) (hM : M ≤ 3) : ∀ m c : Nat, c + m = M → ∀ (w f : Nat) (k : HP) (Q : PV → HP → Prop), f < 256 → ((∀ i, i < c → ps.testBit (dg c w i) = true) ∧ ∀ i j, i < j → j < c → dg c w i ≠ dg c w j) → (∀ x, f.testBit x = true ↔ (ps.testBit x = true ∧ ∀ i, i < c → dg c w i ≠ x)) → PL h hr bs ps M k (w * 8 ^ m) → TRY k c w → (∀ k', PL h hr bs ps M k' ((w + 1) * 8 ^ m) → TRY k' c w → Q (I 0) k') → X (d + m + 3) 209 0 [some (P 69), some (I (c : Int)), some (I (f : Int)), none, none] [] k Q := by
  have n8 : 0 ≤ h 2 0 ∧ h 2 0 ≤ 8 := (R_cnt hR).2.1
  have e9 : ∀ g, SCR h g → g 69 9 = h 2 0 := fun g a => by rw [a.2 9 rfl]; exact (R_cnt hR).1.1
  intro m
  induction m with
  | zero =>
    intro c hc w f k Q hf hv hx hP hT H
    have ec : c = M := by omega
    subst ec
    rw [Nat.pow_zero, Nat.mul_one] at hP H
    have k87 := hP.2.2.1.1
    exact b209_0 (br_i (fun q => absurd k87.symm q) (fun _ => m_leaf (d := d + 0) hR hb hbn eM hM hv hP hT H))
  | succ m ih =>
    intro c hc w f k Q hf hv hx hP hT H
    rw [show d + (m + 1) + 3 = d + m + 3 + 1 from by omega]
    have k87 := hP.2.2.1.1
    have e8 : ∀ x : Nat, x * 8 ^ (m + 1) = x * 8 * 8 ^ m := fun x => by rw [Nat.pow_succ, Nat.mul_comm (8 ^ m) 8, ← Nat.mul_assoc]
    have pos : 0 < 8 ^ m := Nat.pow_pos (by decide)
    have DG : ∀ s q : Nat, s / 8 ^ m = w * 8 + q → q < 8 → (∀ i, i < c → dg M s i = dg c w i) ∧ dg M s c = q := fun s q e hq => by
      refine ⟨fun i hi => ?_, ?_⟩
      · rw [dg_pre (M := M) (c := c + 1) (m := m) (by omega) (by omega), e, dg_a hq hi]
      · rw [dg_pre (M := M) (c := c + 1) (m := m) (by omega) (by omega), e, dg_l hq]
    have L : ∀ n p : Nat, p + n = (h 2 0).toNat → ∀ k, PL h hr bs ps M k ((w * 8 + p) * 8 ^ m) → TRY k c w → X (d + m + 3 + 1) 209 143 [some (P 69), some (I (c : Int)), some (I (f : Int)), some (I (p : Int)), none] [] k Q := by
      intro n
      induction n with
      | zero =>
        intro p hp' k hP hT
        have ep : p = (h 2 0).toNat := by omega
        refine b209_143 (br_i (fun _ => H k (PL_n hP ?_ (fun s h1 h2 vs => ?_)) hT) (fun q => absurd (by rw [e9 k hP.1]; omega) q))
        · rw [e8]
          exact Nat.mul_le_mul_right _ (by omega)
        · rw [e8] at h2
          have q1 : w * 8 + p ≤ s / 8 ^ m := (Nat.le_div_iff_mul_le pos).mpr h1
          have q2 : s / 8 ^ m < (w + 1) * 8 := (Nat.div_lt_iff_lt_mul pos).mpr h2
          obtain ⟨-, dl⟩ := DG s (s / 8 ^ m - w * 8) (by omega) (by omega)
          have := hpn _ (vs.1 c (by omega))
          rw [dl] at this
          omega
      | succ n ihn =>
        intro p hp' k hP hT
        have p8 : p < 8 := by omega
        have NX : ∀ k, PL h hr bs ps M k ((w * 8 + p + 1) * 8 ^ m) → TRY k c w → X (d + m + 3 + 1) 209 181 [some (P 69), some (I (c : Int)), some (I (f : Int)), some (I (p : Int)), none] [] k Q := by
          intro k hP hT
          refine b209_181 ?_
          rw [w32_n (by omega)]
          exact ihn (p + 1) (by omega) k hP hT
        refine b209_143 (br_i (fun q => absurd q (by rw [e9 k hP.1]; omega)) (fun _ => ?_))
        rw [bit1F (by omega) (by omega)]
        have fb : bitF f p = 1 ↔ f.testBit p = true := by
          unfold bitF
          by_cases q : f.testBit p = true
          · rw [if_pos q]; exact ⟨fun _ => q, fun _ => rfl⟩
          · rw [if_neg q]; exact ⟨fun x => absurd x (by decide), fun x => absurd x q⟩
        refine br_i (fun q => NX k (PL_n hP (Nat.mul_le_mul_right _ (by omega)) (fun s h1 h2 vs => ?_)) hT) (fun q => an_i (by omega) (by omega) ?_)
        · have e : s / 8 ^ m = w * 8 + p := Nat.div_eq_of_lt_le h1 h2
          obtain ⟨d1, d2⟩ := DG s p e p8
          apply q
          rw [fb, hx p]
          refine ⟨?_, fun i hi => ?_⟩
          · rw [← d2]; exact vs.1 c (by omega)
          · rw [← d1 i hi, ← d2]; exact vs.2 i c hi (by omega)
        · have fp := (hx p).mp (fb.mp (Classical.not_not.mp q))
          have s1 := sh1 p8
          obtain ⟨y, y1, y2, y3⟩ := not_n (x := f) (u := 2 ^ p) hf s1.2
          rw [s1.1, y2, w32_n (by omega)]
          simp only [Int.toNat_natCast]
          obtain ⟨a1, ⟨st, a2, a2'⟩, ⟨a3, a3'⟩, r, a4, a5⟩ := id hP
          refine ih (c + 1) (by omega) (w * 8 + p) y _ _ y1 ⟨fun i hi => ?_, fun i j hij hj => ?_⟩ (fun x => ?_) ⟨SCR_u a1 (by decide), ⟨st, SMP_f (fun q hq => up_p (by omega)) (fun x _ => by rw [up_p (by decide)]) a2, a2'⟩, ⟨by rw [up_p (by decide)]; exact a3, by rw [up_p (by decide)]; exact a3'⟩, r, by rw [up_p (by decide)]; exact a4, by rw [up_p (by decide), up_p (by decide)]; exact a5⟩ (fun i hi => ?_) (fun k' hP' hT' => NX k' hP' (fun i hi => ?_))
          · by_cases ei : i = c
            · subst ei; rw [dg_l p8]; exact fp.1
            · rw [dg_a p8 (by omega)]; exact hv.1 i (by omega)
          · by_cases ej : j = c
            · subst ej; rw [dg_l p8, dg_a p8 hij]; exact fp.2 i hij
            · rw [dg_a p8 (by omega), dg_a p8 (by omega)]; exact hv.2 i j hij (by omega)
          · rw [y3, Nat.testBit_two_pow]
            constructor
            · intro e
              have e1 : f.testBit x = true := by
                cases q : f.testBit x
                · rw [q] at e; simp at e
                · rfl
              have e2 : ¬ p = x := by
                intro q
                subst q
                simp at e
              have e3 := (hx x).mp e1
              refine ⟨e3.1, fun i hi => ?_⟩
              by_cases ei : i = c
              · subst ei; rw [dg_l p8]; exact e2
              · rw [dg_a p8 (by omega)]; exact e3.2 i (by omega)
            · intro ⟨e1, e2⟩
              have e3 : f.testBit x = true := (hx x).mpr ⟨e1, fun i hi => by
                have := e2 i (by omega)
                rw [dg_a p8 hi] at this
                exact this⟩
              have e4 := e2 c (by omega)
              rw [dg_l p8] at e4
              rw [e3]
              simp [e4]
          · rw [up_st]
            by_cases ei : i = c
            · subst ei; rw [st1_s, dg_l p8]
            · rw [st1_n ei, dg_a p8 (by omega)]; exact hT i (by omega)
          · have := hT' i (by omega)
            rw [dg_a p8 hi] at this
            exact this
    rw [e8] at hP
    exact b209_0 (br_i (fun _ => L (h 2 0).toNat 0 (by omega) k hP hT) (fun q => absurd (fun e => by rw [k87] at e; omega) q))
end P84
