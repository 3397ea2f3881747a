/-! a kept text by its row -/
def TEL (h : HP) (t : Nat) (E : Nat → Int) : Int := (pRow (h 103) t (h 104 t).toNat).2.2.2 E
def TX (h : HP) : Prop := txR (h 39) (h 40) (h 103) (h 104)
theorem TX_r {h : HP} (H : TX h) {t : Nat} (ht : t < 12) : (0 < h 40 t ↔ 0 ≤ h 104 t) := by
  rcases H t ht with ⟨a, b⟩ | ⟨n, a, b, c, e, f, g⟩
  · rw [a, b]; decide
  · rw [a, e]; omega
theorem TEL_r {h : HP} (H : TX h) {t : Nat} (ht : t < 12) (h4 : 0 ≤ h 104 t) (E : Nat → Int) : TEL h t E = -1 ∨ (0 ≤ TEL h t E ∧ TEL h t E ≤ mostT t) := by
  unfold TEL
  rcases H t ht with ⟨a, b⟩ | ⟨n, a, b, c, e, f, g⟩
  · omega
  · rw [a, Int.toNat_natCast]
    exact (pCs_0 c).2.2.2.2.1 E
theorem c_tla {d : Nat} {h : HP} {Q : PV → HP → Prop} {t hr : Nat} (HT : TX h) (t12 : t < 12) (hr1 : hr < 12) (n8 : h 2 0 ≤ 8) (h4 : 0 < h 40 t) (H : Q (I (TEL h t (envC h 53 hr))) h) : X (d + 2) 28 0 [some (P 36), some (I (t : Int)), some (P 53), some (I (hr : Int)), none, none, none] [] h Q := by
  unfold TEL at H
  rcases HT t t12 with ⟨a, b⟩ | ⟨n, a, b, c, e, f, g⟩
  · omega
  · rw [a, Int.toNat_natCast] at H
    have q : (pRow (h 103) t n).1 = true := c
    obtain ⟨x1, x2, x3, x4, x5, x6⟩ := pCs_0 q
    have x6' : tolF (envC h 53 hr) (pRow (h 103) t n).2.2.1 0 = (pRow (h 103) t n).2.2.2 (envC h 53 hr) := x6 _
    rw [← x6'] at H
    exact c_tolda t12 hr1 n8 _ e (Nat.le_trans x1 b) g x4 (Nat.le_trans x3 b) H
theorem c_tlb {d : Nat} {h : HP} {Q : PV → HP → Prop} {t hr : Nat} (HT : TX h) (t12 : t < 12) (hr1 : hr < 12) (n8 : h 2 0 ≤ 8) (h4 : 0 < h 40 t) (H : Q (I (TEL h t (envC h 48 hr))) h) : X (d + 2) 28 0 [some (P 36), some (I (t : Int)), some (P 48), some (I (hr : Int)), none, none, none] [] h Q := by
  unfold TEL at H
  rcases HT t t12 with ⟨a, b⟩ | ⟨n, a, b, c, e, f, g⟩
  · omega
  · rw [a, Int.toNat_natCast] at H
    have q : (pRow (h 103) t n).1 = true := c
    obtain ⟨x1, x2, x3, x4, x5, x6⟩ := pCs_0 q
    have x6' : tolF (envC h 48 hr) (pRow (h 103) t n).2.2.1 0 = (pRow (h 103) t n).2.2.2 (envC h 48 hr) := x6 _
    rw [← x6'] at H
    exact c_toldb t12 hr1 n8 _ e (Nat.le_trans x1 b) g x4 (Nat.le_trans x3 b) H
theorem up_MHP3 {h : HP} {v w : Int} : up2 (up2 (up2 (up2 (up2 h 69 49 v) 69 50 3) 69 51 w) 69 52 (-9)) 69 53 0 = MHP (up2 (up2 h 69 49 v) 69 51 w) 3 (-9) 0 := by
  funext q j
  unfold up2 MHP
  by_cases c1 : q = 69 ∧ j = 53
  · obtain ⟨c, c'⟩ := c1
    subst c c'
    simp
  · by_cases c2 : q = 69 ∧ j = 52
    · obtain ⟨c, c'⟩ := c2
      subst c c'
      simp
    · by_cases c3 : q = 69 ∧ j = 51
      · obtain ⟨c, c'⟩ := c3
        subst c c'
        simp
      · by_cases c4 : q = 69 ∧ j = 50
        · obtain ⟨c, c'⟩ := c4
          subst c c'
          simp
        · simp only [c1, c2, c3, c4, if_false]
/-- only what reading a text writes -/
def oRd (h g : HP) : Prop := (∀ q, q ≠ 69 → g q = h q) ∧ ∀ k, ¬ (49 ≤ k ∧ k ≤ 53) → k ≠ 57 → k ≠ 58 → g 69 k = h 69 k
theorem SCR_rd {h g k : HP} (a : SCR h g) (b : oRd g k) : SCR h k := ⟨fun q hq => by rw [b.1 q (by omega)]; exact a.1 q hq, fun j hj => by
  rw [b.2 j (fun x => ?_) (fun x => ?_) (fun x => ?_)]
  · exact a.2 j hj
  · have : j = 49 ∨ j = 50 ∨ j = 51 ∨ j = 52 ∨ j = 53 := by omega
    rcases this with e | e | e | e | e <;> subst e <;> cases hj
  · subst x; cases hj
  · subst x; cases hj⟩
set_option maxHeartbeats 4000000 in
theorem m_tl {d : Nat} {h : HP} {Q : PV → HP → Prop} {t : Nat} (HT : TX h) (t12 : t < 12) (h9 : 0 ≤ h 69 9 ∧ h 69 9 ≤ 8) (h4 : 0 ≤ h 104 t) (H : ∀ g, oRd h g → Q (I (tq (TEL h t (envM h)))) g) : X (d + 20) 173 0 [some (P 69), some (I (t : Int))] [] h Q := by
  unfold TEL at H
  rcases HT t t12 with ⟨a, b⟩ | ⟨n, a, b, c, e, f, g⟩
  · omega
  · rw [a, Int.toNat_natCast] at H
    have mr := most_r t
    have K : ∀ s1, s1 = mostT t + 1 → X (d + 20) 173 45 [some (P 69), some (I (t : Int))] [I s1, P 69] (MHP (up2 (up2 h 69 49 (((40 * t : Nat)) : Int)) 69 51 (n : Int)) 3 (-9) 0) Q := by
      intro s1 hs
      subst hs
      refine b173_45 (b171_0 ?_)
      rw [MHP_us, MHP_ut]
      generalize eh : up2 (up2 (up2 h 69 49 (((40 * t : Nat)) : Int)) 69 51 (n : Int)) 69 57 (mostT t + 1) = h1
      have f1 : oRd h h1 := by
        rw [← eh]
        exact ⟨fun q hq => by rw [up_p hq, up_p hq, up_p hq], fun k k1 k2 k3 => by rw [up_i k2, up_i (by omega), up_i (by omega)]⟩
      have hB : MB h1 (fun j => h 103 (40 * t + j)) n := by
        refine ⟨⟨by rw [← eh, up_i (by decide), up_s], b⟩, Or.inr ⟨t, t12, ?_, ?_⟩⟩
        · rw [← eh, up_i (by decide), up_i (by decide), up_s]; omega
        · rw [f1.1 103 (by decide)]
      have eE : envM h1 = envM h := by
        unfold envM
        rw [f1.2 55 (by decide) (by decide) (by decide), f1.2 56 (by decide) (by decide) (by decide), f1.2 9 (by decide) (by decide) (by decide), f1.1 105 (by decide)]
      refine mr_cases (d := d) (most := mostT t) (Q := fun _ h' => X (d + 20) 173 52 [some (P 69), some (I (t : Int))] [] h' Q) hB (by rw [f1.2 9 (by decide) (by decide) (by decide)]; exact h9) (by omega) (by omega) (by rw [← eh, up_s]) 40 3 [] (fun _ => -1) (by omega) (Or.inl rfl) ?_
      have c' : (pCs (fun j => h 103 (40 * t + j)) n (mostT t) 40 3 [] (fun _ => -1)).1 = true := c
      refine ⟨fun _ => b173_52 ?_, fun x => absurd (c'.symm.trans x) (by decide)⟩
      rw [MHP_i (j := 58) (by decide) (by decide) (by decide), up_s, eE]
      refine H _ ⟨fun q hq => by rw [MHP_p hq, up_p hq]; exact f1.1 q hq, fun k k1 k2 k3 => by rw [MHP_i (by omega) (by omega) (by omega), up_i k3]; exact f1.2 k k1 k2 k3⟩
    have ew : w32 (40 * (t : Int)) = ((40 * t : Nat) : Int) := by rw [w32_of (by omega) (by omega)]; omega
    refine b173_0 (an_i (by omega) (by omega) ?_)
    simp only [Int.toNat_natCast]
    rw [up_MHP3, ew, a]
    refine br_i (fun q => K 3 ?_) (fun q => K 2 ?_)
    · unfold mostT; rw [if_neg (by omega)]; rfl
    · unfold mostT; rw [if_pos (by omega)]; rfl
