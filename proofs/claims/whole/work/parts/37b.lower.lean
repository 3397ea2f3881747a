/-! a plate lowered -/
section CLS
variable {n N1 N2 : Nat} {a b l a2 b2 l2 z : Nat → Int}
set_option maxHeartbeats 4000000 in
theorem c_lower {d : Nat} {h : HP} {Q : PV → HP → Prop} {p : Nat} (hC : CS h n N1 N2 a b l a2 b2 l2 z) (hp : p < n) (hW : ∀ q, q < n → 0 ≤ h 48 q ∧ h 48 q ≤ 600) (H0 : stl (ntS h N1 N2 a b l a2 b2 l2 z) (h 48) p → Q (I 0) h) (H1 : ∀ t, 0 ≤ t → t < h 48 p → (t = 0 ∨ 0 ≤ ntS h N1 N2 a b l a2 b2 l2 z (st1 (h 48) p t) p) → (∀ s, t < s → s ≤ h 48 p → ntS h N1 N2 a b l a2 b2 l2 z (st1 (h 48) p s) p < 0) → Q (I 1) (up2 h 48 p t)) : X (d + 2) 75 0 [some (P 44), some (I p), none, none, none, none, none] [] h Q := by
  obtain ⟨⟨hn, n8, m20, m8⟩, -⟩ := id hC
  have p8 : p < 8 := by omega
  have w := hW p hp
  have hA := ntS_anti hC
  have L2 : ∀ k i : Nat, i + k = 10 → ∀ lo hi sp : Int, 0 ≤ lo → lo < hi → hi ≤ h 48 p → hi - lo ≤ ((2 ^ k : Nat) : Int) → ntS h N1 N2 a b l a2 b2 l2 z (st1 (h 48) p hi) p < 0 → (lo = 0 ∨ 0 ≤ ntS h N1 N2 a b l a2 b2 l2 z (st1 (h 48) p lo) p) → X (d + 2) 75 80 [some (P 44), some (I p), some (I hi), some (I sp), some (I lo), some (I i), none] [] h Q := by
    have E : ∀ lo hi sp : Int, ∀ i : Nat, 0 ≤ lo → lo < hi → hi ≤ h 48 p → hi - lo ≤ 1 → ntS h N1 N2 a b l a2 b2 l2 z (st1 (h 48) p hi) p < 0 → (lo = 0 ∨ 0 ≤ ntS h N1 N2 a b l a2 b2 l2 z (st1 (h 48) p lo) p) → X (d + 2) 75 129 [some (P 44), some (I p), some (I hi), some (I sp), some (I lo), some (I i), none] [] h Q := by
      intro lo hi sp i q1 q2 q3 q4 q5 q6
      refine b75_129 (an_i (by omega) (by omega) ?_)
      refine H1 lo q1 (by omega) q6 (fun s s1 s2 => ?_)
      have := hA (h 48) p hi s hp (by omega) (by omega) (by omega)
      omega
    intro k
    induction k with
    | zero =>
      intro i hi lo hi2 sp q1 q2 q3 q4 q5 q6
      have q7 : hi2 - lo ≤ 1 := by simpa using q4
      exact b75_80 (br_i (fun q => absurd q (by omega)) (fun _ => br_i (fun _ => E lo hi2 sp i q1 q2 q3 q7 q5 q6) (fun q => absurd (by rw [w32_of (by omega) (by omega)]; omega) q)))
    | succ k ih =>
      intro i hi lo hi2 sp q1 q2 q3 q4 q5 q6
      rw [p2s] at q4
      refine b75_80 (br_i (fun q => absurd q (by omega)) (fun _ => br_i (fun q => ?_) (fun q => ?_)))
      · rw [w32_of (by omega) (by omega)] at q
        exact E lo hi2 sp i q1 q2 q3 q q5 q6
      · rw [w32_of (by omega) (by omega)] at q
        rw [w32_of (x := lo + hi2) (by omega) (by omega), tdv (by omega), w32_of (x := (lo + hi2) / 2) (by omega) (by omega)]
        have e1 : w32 ((i : Int) + 1) = ((i + 1 : Nat) : Int) := by rw [w32_of (by omega) (by omega)]; omega
        refine c_net hC hp (by omega) (by omega) hW (b75_110 (br_i (fun qs => b75_123 ?_) (fun qs => b75_123 ?_)))
        · rw [e1]
          exact ih (i + 1) (by omega) lo _ sp q1 (by omega) (by omega) (by omega) qs q6
        · rw [e1]
          exact ih (i + 1) (by omega) _ hi2 sp (by omega) (by omega) q3 (by omega) q5 (Or.inr (by omega))
  have L1 : ∀ k i : Nat, i + k = 10 → ∀ lo hi : Int, 0 ≤ lo → lo < hi → hi ≤ h 48 p → (lo = 0 ∨ lo + 2 * ((2 ^ i : Nat) : Int) ≤ h 48 p + 1) → ntS h N1 N2 a b l a2 b2 l2 z (st1 (h 48) p hi) p < 0 → X (d + 2) 75 32 [some (P 44), some (I p), some (I hi), some (I ((2 ^ i : Nat) : Int)), some (I lo), some (I i), none] [] h Q := by
    have E : ∀ lo hi sp : Int, ∀ i : Nat, 0 ≤ lo → lo < hi → hi ≤ h 48 p → ntS h N1 N2 a b l a2 b2 l2 z (st1 (h 48) p hi) p < 0 → (lo = 0 ∨ 0 ≤ ntS h N1 N2 a b l a2 b2 l2 z (st1 (h 48) p lo) p) → X (d + 2) 75 77 [some (P 44), some (I p), some (I hi), some (I sp), some (I lo), some (I i), none] [] h Q := by
      intro lo hi sp i q1 q2 q3 q5 q6
      refine b75_77 ?_
      exact L2 10 0 (by omega) lo hi sp q1 q2 q3 (by rw [p10]; omega) q5 q6
    intro k
    induction k with
    | zero =>
      intro i hi lo hi2 q1 q2 q3 q4 q5
      have e : i = 10 := by omega
      subst e
      rw [p10] at q4
      refine b75_32 (br_i (fun q => absurd q (by decide)) (fun _ => br_i (fun _ => E lo hi2 _ 10 q1 q2 q3 q5 (Or.inl (by omega))) (fun q => absurd (by omega) q)))
    | succ k ih =>
      intro i hi lo hi2 q1 q2 q3 q4 q5
      have hpw : 2 ^ i ≤ 2 ^ 9 := Nat.pow_le_pow_right (by decide) (by omega)
      have hpp : 0 < 2 ^ i := Nat.two_pow_pos i
      have q7 : (2 ^ 9 : Nat) = 512 := by decide
      refine b75_32 (br_i (fun q => absurd q (by omega)) (fun _ => br_i (fun q => E lo hi2 _ i q1 q2 q3 q5 (Or.inl (by omega))) (fun q => ?_)))
      refine c_net hC hp (by omega) (by omega) hW (b75_51 (br_i (fun qs => E lo hi2 _ i q1 q2 q3 q5 (Or.inr qs)) (fun qs => ?_)))
      have e2 : w32 (((2 ^ i : Nat) : Int) * 2) = ((2 ^ (i + 1) : Nat) : Int) := by
        rw [p2s, w32_of (by omega) (by omega)]; omega
      have e3 := p2s i
      have e1 : w32 ((i : Int) + 1) = ((i + 1 : Nat) : Int) := by rw [w32_of (by omega) (by omega)]; omega
      rw [e2, w32_of (x := lo - ((2 ^ (i + 1) : Nat) : Int)) (by omega) (by omega)]
      refine z224 (br_i (fun qm => b75_69 ?_) (fun qm => b75_69 ?_))
      · rw [e1]
        exact ih (i + 1) (by omega) _ lo (by omega) (by omega) (by omega) (Or.inr (by omega)) (by omega)
      · rw [e1]
        exact ih (i + 1) (by omega) 0 lo (by omega) (by omega) (by omega) (Or.inl rfl) (by omega)
  refine b75_0 (an_i (by omega) (by omega) (br_i (fun q => H0 (Or.inl q)) (fun q => ?_)))
  simp only [Int.toNat_natCast] at q ⊢
  refine c_net hC hp w.1 w.2 hW (b75_17 (br_i (fun qs => ?_) (fun qs => ?_)))
  · rw [w32_of (by omega) (by omega)]
    exact L1 10 0 (by omega) _ _ (by omega) (by omega) (by omega) (Or.inr (by rw [p00]; omega)) qs
  · rw [st1_id] at qs
    exact H0 (Or.inr (by omega))
end CLS
