/-! the model's rest: findRest ends at the greatest warmths at which none loses -/
theorem mul_ab {l x : Int} (l0 : 0 ≤ l) (l1 : l ≤ 99) (x0 : -600 ≤ x) (x1 : x ≤ 600) : -59400 ≤ l * x ∧ l * x ≤ 59400 := by
  have h1 := Int.mul_le_mul_of_nonneg_left x1 l0
  have h2 := Int.mul_le_mul_of_nonneg_left x0 l0
  omega
theorem ledJ_r {n m : Nat} {a b l w : Nat → Int} {p j : Nat} (hl : lnk n m a b l) (hj : j < m) (hW : ∀ q, q < n → 0 ≤ w q ∧ w q ≤ 600) : -59400 ≤ ledJ a b l w p j ∧ ledJ a b l w p j ≤ 59400 := by
  obtain ⟨a0, a1, b0, b1, hn, l0, l1⟩ := hl j hj
  have h1 := hW (a j).toNat (by omega)
  have h2 := hW (b j).toNat (by omega)
  have m1 := mul_ab l0 l1 (x := w (a j).toNat - w (b j).toNat) (by omega) (by omega)
  unfold ledJ
  split
  · exact m1
  · split <;> omega
theorem ledP_r {n m : Nat} {a b l z w : Nat → Int} {p j : Nat} (hl : lnk n m a b l) (hj : j < m) (hW : ∀ q, q < n → 0 ≤ w q ∧ w q ≤ 600) : -59400 ≤ ledP a b l z w p j ∧ ledP a b l z w p j ≤ 59400 := by
  have := ledJ_r (p := p) hl hj hW
  unfold ledP
  split
  · omega
  · split
    · exact this
    · omega
set_option maxHeartbeats 4000000 in
theorem m_led {d : Nat} {h : HP} {Q : PV → HP → Prop} {p : Nat} (hM : MS h) (hW : ∀ q : Nat, q < (h 69 9).toNat → 0 ≤ h 105 q ∧ h 105 q ≤ 600) (H : Q (I (sm (ledJ (h 83) (h 84) (h 106) (h 105) p) (h 69 17).toNat + sm (ledP (h 86) (h 87) (h 88) (h 107) (h 105) p) (h 69 22).toNat)) h) : X d 181 0 [some (P 69), some (I p), none, none, none] [] h Q := by
  obtain ⟨⟨⟨n0, n8⟩, ⟨c0, c1⟩, ⟨d0, d1⟩, -, -⟩, -, -, ⟨k1, k2⟩⟩ := id hM
  have bb := fun n : Nat => fun hn : n ≤ (h 69 17).toNat => sm_b (f := ledJ (h 83) (h 84) (h 106) (h 105) p) (n := n) (a := -59400) (b := 59400) (fun j hj => ledJ_r k1 (by omega) hW)
  have hb := fun n : Nat => fun hn : n ≤ (h 69 22).toNat => sm_b (f := ledP (h 86) (h 87) (h 88) (h 107) (h 105) p) (n := n) (a := -59400) (b := 59400) (fun j hj => ledP_r k2 (by omega) hW)
  have L2 : ∀ k i : Nat, i + k = (h 69 22).toNat → X d 181 87 [some (P 69), some (I p), some (I (sm (ledJ (h 83) (h 84) (h 106) (h 105) p) (h 69 17).toNat + sm (ledP (h 86) (h 87) (h 88) (h 107) (h 105) p) i)), some (I i), none] [] h Q := by
    intro k
    induction k with
    | zero =>
      intro i hi
      refine b181_87 (br_i (fun q => ?_) (fun q => absurd (by omega) q))
      rw [show i = (h 69 22).toNat by omega]; exact H
    | succ k ih =>
      intro i hi
      have z := bb (h 69 17).toNat (by omega)
      have z2 := hb i (by omega)
      have z3 := ledP_r (p := p) (z := h 107) k2 (show i < _ by omega) hW
      obtain ⟨a0, a1, b0, b1, hn, l0, l1⟩ := k2 i (by omega)
      have w1 := hW (h 86 i).toNat (by omega)
      have w2 := hW (h 87 i).toNat (by omega)
      have m1 := mul_ab l0 l1 (x := h 105 (h 86 i).toNat - h 105 (h 87 i).toNat) (by omega) (by omega)
      have N : ∀ y v : Int, y = ledP (h 86) (h 87) (h 88) (h 107) (h 105) p i → X d 181 178 [some (P 69), some (I p), some (I (sm (ledJ (h 83) (h 84) (h 106) (h 105) p) (h 69 17).toNat + sm (ledP (h 86) (h 87) (h 88) (h 107) (h 105) p) i)), some (I i), some (I v)] [I y, I (sm (ledJ (h 83) (h 84) (h 106) (h 105) p) (h 69 17).toNat + sm (ledP (h 86) (h 87) (h 88) (h 107) (h 105) p) i)] h Q := by
        intro y v hy
        subst hy
        refine b181_178 ?_
        rw [w32_of (by omega) (by omega), w32_of (by omega) (by omega)]
        have := ih (i + 1) (by omega)
        simp only [sm] at this
        rw [← Int.add_assoc] at this
        exact this
      refine b181_87 ?_
      simp only [Int.toNat_natCast]
      rw [w32_of (x := h 105 (h 86 i).toNat - h 105 (h 87 i).toNat) (by omega) (by omega), w32_of (x := h 88 i * (h 105 (h 86 i).toNat - h 105 (h 87 i).toNat)) (by omega) (by omega)]
      refine br_i (fun q => absurd q (by omega)) (fun _ => an_i (by omega) (by omega) (an_i (by omega) (by omega) (an_i a0 (by omega) (an_i (by omega) (by omega) (an_i b0 (by omega) (an_i (by omega) (by omega) (br_i (fun qz => ?_) (fun qz => br_i (fun qy => an_i (by omega) (by omega) (br_i (fun qb => an_i (by omega) (by omega) (br_i (fun qa => ?_) (fun qa => ?_))) (fun qb => ?_))) (fun qy => ?_)))))))))
      · refine b181_142 (N 0 _ ?_)
        unfold ledP; rw [if_pos qz]
      · refine N 0 _ ?_
        unfold ledP ledJ; rw [if_neg qz, if_pos qy, if_neg qb, if_neg qa]
      · rw [w32_of (by omega) (by omega)]
        refine N _ _ ?_
        unfold ledP ledJ; rw [if_neg qz, if_pos qy, if_neg qb, if_pos (by omega)]
      · refine N _ _ ?_
        unfold ledP ledJ; rw [if_neg qz, if_pos qy, if_pos (by omega)]
      · refine b181_142 (N 0 _ ?_)
        unfold ledP; rw [if_neg qz, if_neg qy]
  have L1 : ∀ k i : Nat, i + k = (h 69 17).toNat → X d 181 4 [some (P 69), some (I p), some (I (sm (ledJ (h 83) (h 84) (h 106) (h 105) p) i)), some (I i), none] [] h Q := by
    intro k
    induction k with
    | zero =>
      intro i hi
      refine b181_4 (br_i (fun q => ?_) (fun q => absurd (by omega) q))
      have := L2 (h 69 22).toNat 0 (by omega)
      simp only [sm, Int.add_zero] at this
      rw [show i = (h 69 17).toNat by omega]; exact this
    | succ k ih =>
      intro i hi
      have z := bb i (by omega)
      have z3 := ledJ_r (p := p) k1 (show i < _ by omega) hW
      obtain ⟨a0, a1, b0, b1, hn, l0, l1⟩ := k1 i (by omega)
      have w1 := hW (h 83 i).toNat (by omega)
      have w2 := hW (h 84 i).toNat (by omega)
      have m1 := mul_ab l0 l1 (x := h 105 (h 83 i).toNat - h 105 (h 84 i).toNat) (by omega) (by omega)
      have N : ∀ y v : Int, y = ledJ (h 83) (h 84) (h 106) (h 105) p i → X d 181 77 [some (P 69), some (I p), some (I (sm (ledJ (h 83) (h 84) (h 106) (h 105) p) i)), some (I i), some (I v)] [I y, I (sm (ledJ (h 83) (h 84) (h 106) (h 105) p) i)] h Q := by
        intro y v hy
        subst hy
        refine b181_77 ?_
        rw [w32_of (by omega) (by omega), w32_of (by omega) (by omega)]
        exact ih (i + 1) (by omega)
      refine b181_4 ?_
      simp only [Int.toNat_natCast]
      rw [w32_of (x := h 105 (h 83 i).toNat - h 105 (h 84 i).toNat) (by omega) (by omega), w32_of (x := h 106 i * (h 105 (h 83 i).toNat - h 105 (h 84 i).toNat)) (by omega) (by omega)]
      refine br_i (fun q => absurd q (by omega)) (fun _ => an_i (by omega) (by omega) (an_i (by omega) (by omega) (an_i a0 (by omega) (an_i (by omega) (by omega) (an_i b0 (by omega) (an_i (by omega) (by omega) (br_i (fun qb => an_i (by omega) (by omega) (br_i (fun qa => ?_) (fun qa => ?_))) (fun qb => ?_))))))))
      · refine N 0 _ ?_
        unfold ledJ; rw [if_neg qb, if_neg qa]
      · rw [w32_of (by omega) (by omega)]
        refine N _ _ ?_
        unfold ledJ; rw [if_neg qb, if_pos (by omega)]
      · refine N _ _ ?_
        unfold ledJ; rw [if_pos (by omega)]
  refine b181_0 ?_
  exact L1 (h 69 17).toNat 0 (by omega)
def o105 (h h' : HP) : Prop := ∀ q, q ≠ 105 → h' q = h q
theorem o105_u {h h' : HP} {i : Nat} {v : Int} (H : o105 h h') : o105 h (up2 h' 105 i v) := fun q hq => by rw [up_p hq]; exact H q hq
theorem MS_o {h h' : HP} (H : o105 h h') (hM : MS h) : MS h' := by
  unfold MS at *
  simp only [H 69 (by decide), H 71 (by decide), H 72 (by decide), H 74 (by decide), H 79 (by decide), H 80 (by decide), H 81 (by decide), H 91 (by decide), H 94 (by decide), H 83 (by decide), H 84 (by decide), H 106 (by decide), H 86 (by decide), H 87 (by decide), H 88 (by decide)]
  exact hM
theorem ntM_o {h h' : HP} (H : o105 h h') : ntM h' = ntM h := by
  funext w p
  unfold ntM nt GM TM
  simp only [H 69 (by decide), H 71 (by decide), H 72 (by decide), H 74 (by decide), H 79 (by decide), H 80 (by decide), H 81 (by decide), H 91 (by decide), H 94 (by decide), H 83 (by decide), H 84 (by decide), H 106 (by decide), H 86 (by decide), H 87 (by decide), H 88 (by decide), H 107 (by decide), H 108 (by decide), H 109 (by decide), H 110 (by decide), H 111 (by decide), H 93 (by decide)]
theorem ntM_mono {h : HP} (hM : MS h) : mono (h 69 9).toNat (ntM h) := by
  obtain ⟨-, -, -, ⟨k1, k2⟩⟩ := id hM
  exact nt_mono k1 k2
set_option maxHeartbeats 4000000 in
theorem m_bal {d : Nat} {h : HP} {Q : PV → HP → Prop} {p : Nat} {ag : Int} (hM : MS h) (hp : p < (h 69 9).toNat) (hW : ∀ q : Nat, q < (h 69 9).toNat → 0 ≤ h 105 q ∧ h 105 q ≤ 600) (hpos : 0 < h 105 p) (HA : 0 ≤ ntM h (h 105) p → X (d + 2) 186 92 [some (P 69), some (I ag), some (I p)] [] h Q) (HB : ntM h (h 105) p < 0 → X (d + 2) 186 43 [some (P 69), some (I 1), some (I p)] [] (up2 h 105 p (h 105 p - 1)) Q) : X (d + 2) 186 43 [some (P 69), some (I ag), some (I p)] [] h Q := by
  obtain ⟨⟨⟨n0, n8⟩, ⟨c0, c1⟩, ⟨d0, d1⟩, ⟨e0, e1⟩, ⟨f0, f1⟩⟩, ⟨⟨s0, s1⟩, -, ⟨b0, b1⟩, ⟨g0, g1⟩⟩, ⟨h71, h72, h74, h79, hr, h80, h81, h91, h94⟩, ⟨k1, k2⟩⟩ := id hM
  have tk := tk_r (co := h 72) (yr := h 69 60) p h71 s0 s1 h80 h74
  have x1 := sm_b (f := bxF (h 91) (h 109) (h 108) (h 69 61) p) (n := (h 69 26).toNat) (a := 0) (b := 1500) (fun j _ => ⟨(bx_r p j h91 b0 b1).1, (bx_r p j h91 b0 b1).2.1⟩)
  have x2 := sm_b (f := htF (h 94) (h 93) (h 110) p) (n := (h 69 30).toNat) (a := 0) (b := 999) (fun j _ => ht_r p j h94)
  have x3 := sm_b (f := ledJ (h 83) (h 84) (h 106) (h 105) p) (n := (h 69 17).toNat) (a := -59400) (b := 59400) (fun j hj => ledJ_r k1 hj hW)
  have x4 := sm_b (f := ledP (h 86) (h 87) (h 88) (h 107) (h 105) p) (n := (h 69 22).toNat) (a := -59400) (b := 59400) (fun j hj => ledP_r k2 hj hW)
  have w := hW p hp
  have eN : ntM h (h 105) p = (tkF (h 71) (h 72) (h 80) (h 74) (h 69 59) (h 69 60) p + (sm (bxF (h 91) (h 109) (h 108) (h 69 61) p) (h 69 26).toNat + sm (htF (h 94) (h 93) (h 110) p) (h 69 30).toNat)) + (sm (ledJ (h 83) (h 84) (h 106) (h 105) p) (h 69 17).toNat + sm (ledP (h 86) (h 87) (h 88) (h 107) (h 105) p) (h 69 22).toNat) - TM h p (h 105 p) := by
    unfold ntM nt GM; omega
  refine b186_43 (an_i (by omega) (by omega) (br_i (fun q => absurd hpos (by simpa using q)) (fun _ => m_takes (by omega) (by omega) hM (b186_57 (m_makes hM (b186_62 ?_))))))
  simp only [Int.toNat_natCast]
  rw [w32_of (by omega) (by omega)]
  refine m_led hM hW (b186_68 ?_)
  rw [w32_of (by omega) (by omega)]
  refine m_sends (by omega) (by omega) w.1 w.2 hM (b186_74 (br_i (fun q => HA ?_) (fun q => an_i (by omega) (by omega) (an_i (by omega) (by omega) ?_))))
  · simp only [Int.toNat_natCast] at q
    omega
  · simp only [Int.toNat_natCast] at q ⊢
    rw [w32_of (by omega) (by omega)]
    exact HB (by omega)
/-- where a plate stands: at 0, or it does not lose -/
def stl (N : (Nat → Int) → Nat → Int) (w : Nat → Int) (q : Nat) : Prop := w q = 0 ∨ 0 ≤ N w q
def rsI (n : Nat) (N : (Nat → Int) → Nat → Int) (w : Nat → Int) : Prop := (∀ q, q < n → 0 ≤ w q ∧ w q ≤ 600) ∧ upB n N w
theorem rs_end {n : Nat} {N : (Nat → Int) → Nat → Int} {w : Nat → Int} (h : rsI n N w) (hs : ∀ q, q < n → stl N w q) : GR n N w :=
  ⟨fun p hp => ⟨(h.1 p hp).1, (h.1 p hp).2, hs p hp⟩, h.2⟩
theorem up_st {h : HP} {p i : Nat} {v : Int} : up2 h p i v p = st1 (h p) i v := by funext j; simp [up2, st1]
set_option maxHeartbeats 4000000 in
theorem m_rest {d : Nat} {h : HP} {Q : PV → HP → Prop} (hM : MS h) (H : ∀ h', o105 h h' → GR (h 69 9).toNat (ntM h) (h' 105) → Q (I 0) h') : ∀ (M : Nat) (h' : HP), o105 h h' → rsI (h 69 9).toNat (ntM h) (h' 105) → (sm (h' 105) (h 69 9).toNat).toNat ≤ M → X (d + 2) 186 27 [some (P 69), some (I 1), none] [] h' Q := by
  have n8 : 0 ≤ h 69 9 ∧ h 69 9 ≤ 8 := hM.1.1
  intro M
  induction M using Nat.strongRecOn with
  | _ M IH =>
  intro h' ho hI hM'
  have L35 : ∀ k i : Nat, i + k = (h 69 9).toNat → ∀ (ag : Int) (g : HP), o105 h g → rsI (h 69 9).toNat (ntM h) (g 105) → ((ag = 1 ∧ sm (g 105) (h 69 9).toNat < sm (h' 105) (h 69 9).toNat) ∨ (ag = 0 ∧ g = h' ∧ ∀ q, q < i → stl (ntM h) (h' 105) q)) → X (d + 2) 186 35 [some (P 69), some (I ag), some (I i)] [] g Q := by
    intro k
    induction k with
    | zero =>
      intro i hi ag g hg gI hc
      have e9 : g 69 9 = h 69 9 := by rw [hg 69 (by decide)]
      refine b186_35 (br_i (fun q => ?_) (fun q => absurd (by rw [e9]; omega) q))
      rcases hc with ⟨e, hs⟩ | ⟨e, eg, hs⟩
      · subst e
        have s0 := sm_nn (f := g 105) (n := (h 69 9).toNat) (fun j hj => (gI.1 j hj).1)
        have s1 := sm_nn (f := h' 105) (n := (h 69 9).toNat) (fun j hj => (hI.1 j hj).1)
        exact IH (sm (g 105) (h 69 9).toNat).toNat (by omega) g hg gI (by omega)
      · subst e eg
        refine b186_27 (br_i (fun _ => ?_) (fun q => absurd rfl q))
        exact H g hg (rs_end gI (fun q hq => hs q (by omega)))
    | succ k ih =>
      intro i hi ag g hg gI hc
      have e9 : g 69 9 = h 69 9 := by rw [hg 69 (by decide)]
      refine b186_35 (br_i (fun q => absurd q (by rw [e9]; omega)) (fun _ => ?_))
      have N92 : ∀ (ag : Int) (g : HP), o105 h g → rsI (h 69 9).toNat (ntM h) (g 105) → ((ag = 1 ∧ sm (g 105) (h 69 9).toNat < sm (h' 105) (h 69 9).toNat) ∨ (ag = 0 ∧ g = h' ∧ ∀ q, q < i → stl (ntM h) (h' 105) q)) → stl (ntM h) (g 105) i → X (d + 2) 186 92 [some (P 69), some (I ag), some (I i)] [] g Q := by
        intro ag g hg gI hc hs
        refine b186_92 ?_
        rw [w32_of (by omega) (by omega)]
        refine ih (i + 1) (by omega) ag g hg gI ?_
        rcases hc with c | ⟨e, eg, hs'⟩
        · exact Or.inl c
        · subst eg
          refine Or.inr ⟨e, rfl, fun q hq => ?_⟩
          by_cases eq : q = i
          · subst eq; exact hs
          · exact hs' q (by omega)
      have L43 : ∀ (m : Nat) (ag : Int) (g : HP), o105 h g → rsI (h 69 9).toNat (ntM h) (g 105) → ((ag = 1 ∧ sm (g 105) (h 69 9).toNat < sm (h' 105) (h 69 9).toNat) ∨ (ag = 0 ∧ g = h' ∧ ∀ q, q < i → stl (ntM h) (h' 105) q)) → (g 105 i).toNat = m → X (d + 2) 186 43 [some (P 69), some (I ag), some (I i)] [] g Q := by
        intro m
        induction m with
        | zero =>
          intro ag g hg gI hc hm
          have gi := gI.1 i (by omega)
          refine b186_43 (an_i (by omega) (by omega) (br_i (fun q => ?_) (fun q => absurd (show g 105 i ≤ 0 by omega) q)))
          exact N92 ag g hg gI hc (Or.inl (by omega))
        | succ m ihm =>
          intro ag g hg gI hc hm
          have e9 : g 69 9 = h 69 9 := by rw [hg 69 (by decide)]
          have gi := gI.1 i (by omega)
          refine m_bal (MS_o hg hM) (by rw [e9]; omega) (by rw [e9]; exact gI.1) (by omega) (fun q => ?_) (fun q => ?_)
          · rw [ntM_o hg] at q
            exact N92 ag g hg gI hc (Or.inr q)
          · rw [ntM_o hg] at q
            have hs : sm (st1 (g 105) i (g 105 i - 1)) (h 69 9).toNat = sm (g 105) (h 69 9).toNat - g 105 i + (g 105 i - 1) := sm_st (by omega)
            refine ihm 1 _ (o105_u hg) ⟨?_, ?_⟩ (Or.inl ⟨rfl, ?_⟩) ?_
            · rw [up_st]
              intro r hr
              by_cases e : r = i
              · subst e; rw [st1_s]; omega
              · rw [st1_n e]; exact gI.1 r hr
            · rw [up_st]
              refine upB_low (ntM_mono hM) gI.2 (by omega) (fun s s1 s2 => ?_)
              have : s = g 105 i := by omega
              rw [this, st1_id]; exact q
            · rw [up_st, hs]
              rcases hc with ⟨-, c⟩ | ⟨-, c, -⟩
              · omega
              · subst c; omega
            · rw [up_st, st1_s]; omega
      exact L43 _ ag g hg gI hc rfl
  refine b186_27 (br_i (fun q => absurd q (by decide)) (fun _ => ?_))
  exact L35 (h 69 9).toNat 0 (by omega) 0 h' ho hI (Or.inr ⟨rfl, rfl, fun q hq => absurd hq (by omega)⟩)
theorem m_find {d : Nat} {h : HP} {Q : PV → HP → Prop} (hM : MS h) (H : ∀ h', o105 h h' → GR (h 69 9).toNat (ntM h) (h' 105) → Q (I 0) h') : X (d + 2) 186 0 [some (P 69), none, none] [] h Q := by
  have n8 : 0 ≤ h 69 9 ∧ h 69 9 ≤ 8 := hM.1.1
  have L : ∀ k i : Nat, i + k = (h 69 9).toNat → ∀ g : HP, o105 h g → (∀ q, q < i → g 105 q = 600) → X (d + 2) 186 2 [some (P 69), some (I i), none] [] g Q := by
    intro k
    induction k with
    | zero =>
      intro i hi g hg hs
      have e9 : g 69 9 = h 69 9 := by rw [hg 69 (by decide)]
      refine b186_2 (br_i (fun q => ?_) (fun q => absurd (by rw [e9]; omega) q))
      refine m_rest hM H _ g hg ⟨fun q hq => ?_, fun w hw q hq => ?_⟩ (Nat.le_refl _)
      · rw [hs q (by omega)]; decide
      · rw [hs q (by omega)]; exact (hw q hq).2.1
    | succ k ih =>
      intro i hi g hg hs
      have e9 : g 69 9 = h 69 9 := by rw [hg 69 (by decide)]
      refine b186_2 (br_i (fun q => absurd q (by rw [e9]; omega)) (fun _ => an_i (by omega) (by omega) ?_))
      rw [w32_of (by omega) (by omega)]
      refine ih (i + 1) (by omega) _ (o105_u hg) (fun q hq => ?_)
      rw [up_st]
      by_cases e : q = i
      · subst e; exact st1_s
      · simp only [Int.toNat_natCast]; rw [st1_n e]; exact hs q (by omega)
  exact b186_0 (L (h 69 9).toNat 0 (by omega) h (fun _ _ => rfl) (fun q hq => absurd hq (by omega)))
