/-! the model reads a text -/
def MHP (h : HP) (a : Nat) (f o : Int) : HP := fun q j => if q = 69 ∧ j = 50 then (a : Int) else if q = 69 ∧ j = 52 then f else if q = 69 ∧ j = 53 then o else h q j
def MB (h : HP) (b : Nat → Int) (n : Nat) : Prop := (h 69 51 = n ∧ n ≤ 40) ∧ ((h 69 49 < 0 ∧ b = h 102) ∨ (∃ t : Nat, t < 12 ∧ h 69 49 = 40 * (t : Int) ∧ b = fun j => h 103 (40 * t + j)))
def mby (b : Nat → Int) (n a : Nat) : Int := if a < n then b a else 0
def envM (h : HP) : Nat → Int := fun w => if w = 10 then h 69 55 else if w = 11 then h 69 56 else if (w : Int) < h 69 9 then h 105 w else 0
section MR
variable {d : Nat} {h : HP} {Q : PV → HP → Prop} {a n : Nat} {b : Nat → Int} {f o : Int}
theorem MHP_p {q : Nat} (h1 : q ≠ 69) : MHP h a f o q = h q := by funext j; simp [MHP, h1]
theorem MHP_i {j : Nat} (h1 : j ≠ 50) (h2 : j ≠ 52) (h3 : j ≠ 53) : MHP h a f o 69 j = h 69 j := by simp [MHP, h1, h2, h3]
theorem MHP_a : MHP h a f o 69 50 = a := by simp [MHP]
theorem MHP_f : MHP h a f o 69 52 = f := by simp [MHP]
theorem MHP_o : MHP h a f o 69 53 = o := by simp [MHP]
theorem MHP_ua {a' : Nat} {v : Int} (e : v = a') : up2 (MHP h a f o) 69 50 v = MHP h a' f o := by
  subst e
  funext q j
  unfold up2 MHP
  by_cases c1 : q = 69 ∧ j = 50
  · simp [c1]
  · simp only [c1, if_false]
theorem MHP_uf {v : Int} : up2 (MHP h a f o) 69 52 v = MHP h a v o := by
  funext q j
  unfold up2 MHP
  by_cases c1 : q = 69 ∧ j = 52
  · simp [c1]
  · simp only [c1, if_false]
theorem MHP_uo {v : Int} : up2 (MHP h a f o) 69 53 v = MHP h a f v := by
  funext q j
  unfold up2 MHP
  by_cases c1 : q = 69 ∧ j = 53
  · simp [c1]
  · simp only [c1, if_false]
theorem MHP_ut {v : Int} : up2 (MHP h a f o) 69 58 v = MHP (up2 h 69 58 v) a f o := by
  funext q j
  unfold up2 MHP
  by_cases c1 : q = 69 ∧ j = 58
  · obtain ⟨c, c'⟩ := c1
    subst c c'
    simp
  · simp only [c1, if_false]
theorem m_byte (hB : MB h b n) (H : Q (I (mby b n a)) (MHP h a f o)) : X d 162 0 [some (P 69)] [] (MHP h a f o) Q := by
  obtain ⟨⟨e1, n40⟩, hs⟩ := hB
  refine z162 ?_
  rw [MHP_a, MHP_i (j := 51) (by decide) (by decide) (by decide), MHP_i (j := 49) (by decide) (by decide) (by decide), MHP_p (q := 102) (by decide), MHP_p (q := 103) (by decide), e1]
  unfold mby at H
  refine br_i (fun q => ?_) (fun q => ?_)
  · rw [if_neg (by omega)] at H; exact H
  · rw [if_pos (by omega)] at H
    rcases hs with ⟨e2, e3⟩ | ⟨t, t12, e2, e3⟩
    · refine br_i (fun x => absurd x (by omega)) (fun _ => an_i (by omega) (by omega) ?_)
      simp only [Int.toNat_natCast]
      rw [e3] at H; exact H
    · have e4 : w32 (h 69 49 + (a : Int)) = ((40 * t + a : Nat) : Int) := by rw [e2, w32_of (by omega) (by omega)]; omega
      rw [e4]
      simp only [Int.toNat_natCast]
      refine br_i (fun _ => an_i (by omega) (by omega) ?_) (fun x => absurd (by omega) x)
      rw [e3] at H; exact H
theorem mby_c {c : Int} (c0 : c ≠ 0) (c1 : c ≠ -1) : (mby b n a = c ↔ nxc b n a = c) := by
  unfold mby nxc
  by_cases q : a < n
  · rw [if_pos q, if_pos q]
  · rw [if_neg q, if_neg q]
    constructor
    · intro x; exact absurd x.symm c0
    · intro x; exact absurd x.symm c1
theorem m_take {c : Int} (c0 : c ≠ 0) (c1 : c ≠ -1) (hB : MB h b n) (hf : f < 0) (H1 : nxc b n a = c → Q (I 1) (MHP h (a + 1) f o)) (H2 : ¬ nxc b n a = c → Q (I 0) (MHP h a f o)) : X (d + 1) 164 0 [some (P 69), some (I c)] [] (MHP h a f o) Q := by
  refine b164_0 ?_
  rw [MHP_f]
  refine br_i (fun q => absurd q (by omega)) (fun _ => m_byte hB (b164_11 (br_i (fun q => ?_) (fun q => ?_))))
  · rw [mby_c c0 c1] at q
    have := nxc_n q c1
    have n40 := hB.1.2
    rw [MHP_a, MHP_ua (a' := a + 1) (w32_n (by omega))]
    exact H1 q
  · rw [mby_c c0 c1] at q; exact H2 q
theorem m_taken {c : Int} (hf : 0 ≤ f) (H : Q (I 0) (MHP h a f o)) : X (d + 1) 164 0 [some (P 69), some (I c)] [] (MHP h a f o) Q := by
  refine b164_0 ?_
  rw [MHP_f]
  exact br_i (fun _ => H) (fun q => absurd hf q)
theorem m_wrong (hf : f < 0) (H : Q (I 0) (MHP h a (a : Int) o)) : X d 163 0 [some (P 69)] [] (MHP h a f o) Q := by
  refine z163 ?_
  rw [MHP_f, MHP_a, MHP_uf, MHP_uf]
  exact br_i (fun q => absurd q (by omega)) (fun _ => H)
theorem m_wrong2 (hf : 0 ≤ f) (H : Q (I 0) (MHP h a f o)) : X d 163 0 [some (P 69)] [] (MHP h a f o) Q := by
  refine z163 ?_
  rw [MHP_f, MHP_a, MHP_uf, MHP_uf]
  exact br_i (fun _ => H) (fun q => absurd hf q)
theorem dgt_m : (dgt b n a 9 < 0 ∧ ¬ (48 ≤ mby b n a ∧ mby b n a ≤ 57)) ∨ (¬ dgt b n a 9 < 0 ∧ 48 ≤ mby b n a ∧ mby b n a ≤ 57 ∧ dgt b n a 9 = mby b n a - 48) := by
  unfold dgt nxc mby
  by_cases q : a < n
  · rw [if_pos q, if_pos q]
    by_cases c : 0 ≤ b a - 48 ∧ b a - 48 ≤ 9
    · rw [if_pos c]; exact Or.inr ⟨by omega, by omega, by omega, rfl⟩
    · rw [if_neg c]; exact Or.inl ⟨by decide, by omega⟩
  · rw [if_neg q, if_neg q]
    rw [if_neg (by decide)]; exact Or.inl ⟨by decide, by decide⟩
theorem m_isd (hB : MB h b n) (hf : f < 0) (H1 : ¬ dgt b n a 9 < 0 → Q (I 1) (MHP h a f o)) (H2 : dgt b n a 9 < 0 → Q (I 0) (MHP h a f o)) : X (d + 1) 165 0 [some (P 69)] [] (MHP h a f o) Q := by
  refine b165_0 ?_
  rw [MHP_f]
  have D := dgt_m (b := b) (n := n) (a := a)
  refine br_i (fun q => absurd q (by omega)) (fun _ => m_byte hB (b165_11 (z134 (br_i (fun q => b165_18 (br_i (fun _ => H2 ?_) (fun x => absurd rfl x))) (fun q => br_i (fun q2 => b165_18 (br_i (fun _ => H2 ?_) (fun x => absurd rfl x))) (fun q2 => b165_18 (br_i (fun x => absurd x (by decide)) (fun _ => H1 ?_)))))))) <;> omega
theorem m_isdn (hf : 0 ≤ f) (H : Q (I 0) (MHP h a f o)) : X (d + 1) 165 0 [some (P 69)] [] (MHP h a f o) Q := by
  refine b165_0 ?_
  rw [MHP_f]
  exact br_i (fun _ => H) (fun q => absurd hf q)
/-! a number of at most three digits; what is kept of it, and where it ends -/
set_option maxHeartbeats 4000000 in
theorem m_number (hB : MB h b n) (H0 : dgt b n a 9 < 0 → Q (I 0) (MHP h a (a : Int) o)) (H1 : ¬ dgt b n a 9 < 0 → dgt b n (a + 1) 9 < 0 → Q (I (dgt b n a 9)) (MHP h (a + 1) (-9) o)) (H2 : ¬ dgt b n a 9 < 0 → ¬ dgt b n (a + 1) 9 < 0 → dgt b n (a + 2) 9 < 0 → Q (I (10 * dgt b n a 9 + dgt b n (a + 1) 9)) (MHP h (a + 2) (-9) o)) (H3 : ¬ dgt b n a 9 < 0 → ¬ dgt b n (a + 1) 9 < 0 → ¬ dgt b n (a + 2) 9 < 0 → Q (I (10 * (10 * dgt b n a 9 + dgt b n (a + 1) 9) + dgt b n (a + 2) 9)) (MHP h (a + 3) (-9) o)) : X (d + 2) 170 0 [some (P 69), none, none] [] (MHP h a (-9) o) Q := by
  have n40 := hB.1.2
  have D1 := dgt_m (b := b) (n := n) (a := a)
  have D2 := dgt_m (b := b) (n := n) (a := a + 1)
  have D3 := dgt_m (b := b) (n := n) (a := a + 2)
  refine b170_0 (b170_4 (br_i (fun x => absurd x (by decide)) (fun _ => m_isd hB (by decide) (fun c1 => b170_13 (br_i (fun x => absurd x (by decide)) (fun _ => ?_))) (fun c1 => b170_13 (br_i (fun _ => b170_45 (br_i (fun x => absurd rfl x) (fun _ => m_wrong (by decide) (b170_53 (H0 c1))))) (fun x => absurd rfl x))))))
  have r1 := dgt_r c1
  refine m_byte hB (b170_24 ?_)
  rw [MHP_a, MHP_ua (a' := a + 1) (w32_n (by omega)), w32_of (x := 10 * 0) (by decide) (by decide), w32_of (x := 10 * 0 + mby b n a) (by omega) (by omega), w32_of (x := 10 * 0 + mby b n a - 48) (by omega) (by omega), show 10 * 0 + mby b n a - 48 = dgt b n a 9 by omega]
  refine b170_4 (br_i (fun x => absurd x (by decide)) (fun _ => m_isd hB (by decide) (fun c2 => b170_13 (br_i (fun x => absurd x (by decide)) (fun _ => ?_))) (fun c2 => b170_13 (br_i (fun _ => b170_45 (br_i (fun _ => b170_53 (H1 c1 c2)) (fun x => absurd (by decide) x))) (fun x => absurd rfl x)))))
  have r2 := dgt_r c2
  refine m_byte hB (b170_24 ?_)
  rw [MHP_a, MHP_ua (a' := a + 2) (w32_n (by omega)), w32_of (x := 10 * dgt b n a 9) (by omega) (by omega), w32_of (x := 10 * dgt b n a 9 + mby b n (a + 1)) (by omega) (by omega), w32_of (x := 10 * dgt b n a 9 + mby b n (a + 1) - 48) (by omega) (by omega), show 10 * dgt b n a 9 + mby b n (a + 1) - 48 = 10 * dgt b n a 9 + dgt b n (a + 1) 9 by omega]
  refine b170_4 (br_i (fun x => absurd x (by decide)) (fun _ => m_isd hB (by decide) (fun c3 => b170_13 (br_i (fun x => absurd x (by decide)) (fun _ => ?_))) (fun c3 => b170_13 (br_i (fun _ => b170_45 (br_i (fun _ => b170_53 (H2 c1 c2 c3)) (fun x => absurd (by decide) x))) (fun x => absurd rfl x)))))
  have r3 := dgt_r c3
  refine m_byte hB (b170_24 ?_)
  rw [MHP_a, MHP_ua (a' := a + 3) (w32_n (by omega)), w32_of (x := 10 * (10 * dgt b n a 9 + dgt b n (a + 1) 9)) (by omega) (by omega), w32_of (x := 10 * (10 * dgt b n a 9 + dgt b n (a + 1) 9) + mby b n (a + 2)) (by omega) (by omega), w32_of (x := 10 * (10 * dgt b n a 9 + dgt b n (a + 1) 9) + mby b n (a + 2) - 48) (by omega) (by omega), show 10 * (10 * dgt b n a 9 + dgt b n (a + 1) 9) + mby b n (a + 2) - 48 = 10 * (10 * dgt b n a 9 + dgt b n (a + 1) 9) + dgt b n (a + 2) 9 by omega]
  exact b170_4 (br_i (fun _ => b170_45 (br_i (fun _ => b170_53 (H3 c1 c2 c3)) (fun x => absurd (by decide) x))) (fun x => absurd (by decide) x))
/-- what is left behind an expression -/
def MK (Q : PV → HP → Prop) (h : HP) (o : Int) (r : PRS) : Prop := (r.1 = true → Q (I (b2i (r.2.2.2 (envM h)))) (MHP h r.2.1 (-9) o)) ∧ (r.1 = false → ∀ v, (v = 0 ∨ v = 1) → Q (I v) (MHP h r.2.1 (r.2.1 : Int) o))
theorem MK_b {r : PRS} {Q' : PV → HP → Prop} (H1 : r.1 = true → Q' (I (b2i (r.2.2.2 (envM h)))) (MHP h r.2.1 (-9) o)) (H2 : r.1 = false → ∀ v, (v = 0 ∨ v = 1) → Q' (I v) (MHP h r.2.1 (r.2.1 : Int) o)) : MK Q' h o r := ⟨H1, H2⟩
set_option maxHeartbeats 4000000 in

theorem mr_cmp {what v1 : Int} (hB : MB h b n) (w0 : 0 ≤ what) (K : MK Q h o (pCm b n what a)) : X (d + 3) 168 121 [some (P 69), some (I v1), none, none, none] [I (envM h what.toNat)] (MHP h a (-9) o) Q := by
  have n40 := hB.1.2
  unfold pCm at K
  have N : ∀ v2 v3, ¬ (0 ≤ nxc b n a - 60 ∧ nxc b n a - 60 < 3) → X (d + 3) 168 152 [some (P 69), some (I v1), some (I v2), some (I v3), none] [] (MHP h a (-9) o) Q := by
    intro v2 v3 c
    rw [if_neg c] at K
    exact b168_152 (m_wrong (by decide) (b168_156 (K.2 rfl 0 (Or.inl rfl))))
  have Y : ∀ v3, v3 = nxc b n a → (0 ≤ nxc b n a - 60 ∧ nxc b n a - 60 < 3) → X (d + 3) 168 158 [some (P 69), some (I v1), some (I (envM h what.toNat)), some (I v3), none] [] (MHP h a (-9) o) Q := by
    intro v3 e3 c
    have an : a < n := nxc_n (b := b) (n := n) (a := a) rfl (by omega)
    rw [if_pos c] at K
    unfold pNm at K
    refine b168_158 ?_
    rw [MHP_a, MHP_ua (a' := a + 1) (w32_n (by omega))]
    have C : ∀ (num : Int) (a' : Nat), MK Q h o (pOk what (nxc b n a - 60) num a') → X (d + 3) 168 172 [some (P 69), some (I v1), some (I (envM h what.toNat)), some (I v3), none] [I num] (MHP h a' (-9) o) Q := by
      intro num a' K
      have K1 := K.1 rfl
      have K2 : Q (I (b2i (cmpF (envM h what.toNat) (nxc b n a - 60) num))) (MHP h a' (-9) o) := K1
      subst e3
      unfold cmpF at K2
      refine b168_172 (br_i (fun q => br_i (fun q2 => br_i (fun q3 => ?_) (fun q3 => ?_)) (fun q2 => br_i (fun q3 => ?_) (fun q3 => ?_))) (fun q => br_i (fun q3 => ?_) (fun q3 => ?_)))
      · rw [if_neg (by omega), if_neg (by omega), decide_eq_false (by omega)] at K2; exact K2
      · rw [if_neg (by omega), if_neg (by omega), decide_eq_true (by omega)] at K2; exact K2
      · rw [if_neg (by omega), if_pos (by omega), decide_eq_false q3] at K2; exact K2
      · rw [if_neg (by omega), if_pos (by omega), decide_eq_true (Classical.not_not.mp q3)] at K2; exact K2
      · rw [if_pos (by omega), decide_eq_false (by omega)] at K2; exact K2
      · rw [if_pos (by omega), decide_eq_true (by omega)] at K2; exact K2
    refine m_number hB (fun c1 => ?_) (fun c1 c2 => ?_) (fun c1 c2 c3 => ?_) (fun c1 c2 c3 => ?_)
    · rw [if_pos c1] at K
      have F := fun v hv => K.2 rfl v hv
      refine b168_172 (br_i (fun q => br_i (fun q2 => br_i (fun q3 => F 0 (Or.inl rfl)) (fun q3 => F 1 (Or.inr rfl))) (fun q2 => br_i (fun q3 => F 0 (Or.inl rfl)) (fun q3 => F 1 (Or.inr rfl)))) (fun q => br_i (fun q3 => F 0 (Or.inl rfl)) (fun q3 => F 1 (Or.inr rfl))))
    · rw [if_neg c1, if_pos c2] at K; exact C _ _ K
    · rw [if_neg c1, if_neg c2, if_pos c3] at K; exact C _ _ K
    · rw [if_neg c1, if_neg c2, if_neg c3] at K; exact C _ _ K
  refine b168_121 (m_byte hB (b168_126 ?_))
  rw [MHP_f]
  have m60 := mby_c (b := b) (n := n) (a := a) (c := 60) (by decide) (by decide)
  have m61 := mby_c (b := b) (n := n) (a := a) (c := 61) (by decide) (by decide)
  have m62 := mby_c (b := b) (n := n) (a := a) (c := 62) (by decide) (by decide)
  refine br_i (fun x => absurd x (by decide)) (fun _ => br_i (fun q => ?_) (fun q => br_i (fun q2 => ?_) (fun q2 => br_i (fun q3 => ?_) (fun q3 => ?_))))
  · have := m60.mp q
    exact Y _ (by rw [q, this]) (by omega)
  · have := m61.mp q2
    exact Y _ (by rw [q2, this]) (by omega)
  · have := m62.mp q3
    exact Y _ (by rw [q3, this]) (by omega)
  · refine N _ _ (fun c => ?_)
    have h1 : ¬ nxc b n a = 60 := fun x => q (m60.mpr x)
    have h2 : ¬ nxc b n a = 61 := fun x => q2 (m61.mpr x)
    have h3 : ¬ nxc b n a = 62 := fun x => q3 (m62.mpr x)
    omega
set_option maxHeartbeats 4000000 in
theorem m_fact {v1 : Int} (hB : MB h b n) (h9 : 0 ≤ h 69 9 ∧ h 69 9 ≤ 8) (K : MK Q h o (pFa b n a)) : X (d + 2) 169 0 [some (P 69), none] [] (MHP h a (-9) o) (fun r h' => X (d + 3) 168 121 [some (P 69), some (I v1), none, none, none] [r] h' Q) := by
  have n40 := hB.1.2
  unfold pFa at K
  -- a fault in the first side
  have F : ∀ (a' : Nat) (u : Int), MK Q h o (pFl a') → X (d + 3) 168 121 [some (P 69), some (I v1), none, none, none] [I u] (MHP h a' (a' : Int) o) Q := by
    intro a' u K
    refine b168_121 (m_byte hB (b168_126 ?_))
    rw [MHP_f]
    exact br_i (fun _ => b168_152 (m_wrong2 (by omega) (b168_156 (K.2 rfl 0 (Or.inl rfl))))) (fun x => absurd (by omega) x)
  refine b169_0 (m_take (by decide) (by decide) hB (by decide) (fun e1 => b169_6 (br_i (fun x => absurd x (by decide)) (fun _ => ?_))) (fun e1 => b169_6 (br_i (fun _ => ?_) (fun x => absurd rfl x))))
  · rw [if_pos e1] at K
    rw [MHP_i (j := 55) (by decide) (by decide) (by decide)]
    exact mr_cmp (what := 10) hB (by decide) K
  · rw [if_neg e1] at K
    refine m_take (by decide) (by decide) hB (by decide) (fun e2 => b169_20 (br_i (fun x => absurd x (by decide)) (fun _ => ?_))) (fun e2 => b169_20 (br_i (fun _ => ?_) (fun x => absurd rfl x)))
    · rw [if_pos e2] at K
      rw [MHP_i (j := 56) (by decide) (by decide) (by decide)]
      exact mr_cmp (what := 11) hB (by decide) K
    · rw [if_neg e2] at K
      refine m_take (by decide) (by decide) hB (by decide) (fun e3 => b169_34 (br_i (fun x => absurd x (by decide)) (fun _ => ?_))) (fun e3 => b169_34 (br_i (fun _ => b169_44 (m_wrong (by decide) (b169_48 (F a 0 ?_)))) (fun x => absurd rfl x)))
      · have an := nxc_n e3 (by decide)
        rw [if_pos e3] at K
        refine m_isd hB (by decide) (fun c4 => b169_41 (br_i (fun _ => ?_) (fun x => absurd (by decide) x))) (fun c4 => b169_41 (br_i (fun x => absurd rfl x) (fun _ => b169_44 (m_wrong (by decide) (b169_48 (F (a + 1) 0 ?_))))))
        · have r4 := dgt_r c4
          have D4 := dgt_m (b := b) (n := n) (a := a + 1)
          rw [if_neg c4] at K
          refine m_byte hB (b169_54 ?_)
          rw [MHP_a, MHP_ua (a' := a + 2) (w32_n (by omega)), w32_of (x := mby b n (a + 1) - 48) (by omega) (by omega), show mby b n (a + 1) - 48 = dgt b n (a + 1) 9 by omega]
          have K' := mr_cmp (d := d) (v1 := v1) hB r4.1 K
          have eE : envM h (dgt b n (a + 1) 9).toNat = if dgt b n (a + 1) 9 < h 69 9 then h 105 (dgt b n (a + 1) 9).toNat else 0 := by
            unfold envM
            rw [if_neg (by omega), if_neg (by omega)]
            by_cases c : dgt b n (a + 1) 9 < h 69 9
            · rw [if_pos c, if_pos (by omega)]
            · rw [if_neg c, if_neg (by omega)]
          rw [eE] at K'
          refine z136 ?_
          rw [MHP_i (j := 9) (by decide) (by decide) (by decide)]
          refine br_i (fun q => absurd q (by omega)) (fun _ => br_i (fun q => b169_73 (br_i (fun _ => ?_) (fun x => absurd rfl x))) (fun q => b169_73 (br_i (fun x => absurd x (by decide)) (fun _ => an_i r4.1 (by omega) ?_))))
          · rw [if_neg (by omega)] at K'; exact K'
          · rw [if_pos (by omega)] at K'
            rw [MHP_p (q := 105) (by decide)]
            exact K'
        · rw [if_pos c4] at K; exact K
      · rw [if_neg e3] at K; exact K
end MR
