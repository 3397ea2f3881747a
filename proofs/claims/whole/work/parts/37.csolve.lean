/-! the class's solver: a plate alone, a plate lowered, solve -/
theorem fill_s {f : Nat → Int} {i : Nat} {v : Int} : (fun j => if j = i then v else (fun j => if j < i then v else f j) j) = (fun j => if j < i + 1 then v else f j) := by
  funext j
  by_cases e : j = i
  · subst e; simp
  · by_cases h : j < i
    · simp [e, h, show j < i + 1 by omega]
    · simp [e, h, show ¬ j < i + 1 by omega]
theorem fill_0 {h : HP} {p : Nat} {v : Int} : setr h p (fun j => if j < 0 then v else h p j) = h := by
  have : (fun j => if j < 0 then v else h p j) = h p := by funext j; simp
  rw [this, setr_id]
theorem c_fill45 {d : Nat} {h : HP} {Q : PV → HP → Prop} {v : Int} (H : Q (I 0) (setr h 45 (fun j => if j < 8 then v else h 45 j))) : X d 226 0 [some (P 45), some (I v), none, none] [] h Q := by
  have L : ∀ k i : Nat, i + k = 8 → X d 226 5 [some (P 45), some (I v), some (I i), some (I 8)] [] (setr h 45 (fun j => if j < i then v else h 45 j)) Q := by
    intro k
    induction k with
    | zero =>
      intro i hi
      refine b226a_5 (br_i (fun _ => ?_) (fun q => absurd (by omega) q))
      rw [show i = 8 by omega]; exact H
    | succ k ih =>
      intro i hi
      refine b226a_5 (br_i (fun q => absurd q (by omega)) (fun _ => an_i (by omega) (by omega) ?_))
      rw [w32_of (by omega) (by omega)]
      simp only [Int.toNat_natCast]
      rw [up_setr, fill_s]
      exact ih (i + 1) (by omega)
  have := L 8 0 rfl
  rw [fill_0] at this
  exact b226a_0 this
theorem c_fill49 {d : Nat} {h : HP} {Q : PV → HP → Prop} {v : Int} (H : Q (I 0) (setr h 49 (fun j => if j < 8 then v else h 49 j))) : X d 226 0 [some (P 49), some (I v), none, none] [] h Q := by
  have L : ∀ k i : Nat, i + k = 8 → X d 226 5 [some (P 49), some (I v), some (I i), some (I 8)] [] (setr h 49 (fun j => if j < i then v else h 49 j)) Q := by
    intro k
    induction k with
    | zero =>
      intro i hi
      refine b226b_5 (br_i (fun _ => ?_) (fun q => absurd (by omega) q))
      rw [show i = 8 by omega]; exact H
    | succ k ih =>
      intro i hi
      refine b226b_5 (br_i (fun q => absurd q (by omega)) (fun _ => an_i (by omega) (by omega) ?_))
      rw [w32_of (by omega) (by omega)]
      simp only [Int.toNat_natCast]
      rw [up_setr, fill_s]
      exact ih (i + 1) (by omega)
  have := L 8 0 rfl
  rw [fill_0] at this
  exact b226b_0 this
theorem c_fill50 {d : Nat} {h : HP} {Q : PV → HP → Prop} {v : Int} (H : Q (I 0) (setr h 50 (fun j => if j < 64 then v else h 50 j))) : X d 226 0 [some (P 50), some (I v), none, none] [] h Q := by
  have L : ∀ k i : Nat, i + k = 64 → X d 226 5 [some (P 50), some (I v), some (I i), some (I 64)] [] (setr h 50 (fun j => if j < i then v else h 50 j)) Q := by
    intro k
    induction k with
    | zero =>
      intro i hi
      refine b226c_5 (br_i (fun _ => ?_) (fun q => absurd (by omega) q))
      rw [show i = 64 by omega]; exact H
    | succ k ih =>
      intro i hi
      refine b226c_5 (br_i (fun q => absurd q (by omega)) (fun _ => an_i (by omega) (by omega) ?_))
      rw [w32_of (by omega) (by omega)]
      simp only [Int.toNat_natCast]
      rw [up_setr, fill_s]
      exact ih (i + 1) (by omega)
  have := L 64 0 rfl
  rw [fill_0] at this
  exact b226c_0 this
theorem c_fill51 {d : Nat} {h : HP} {Q : PV → HP → Prop} {v : Int} (H : Q (I 0) (setr h 51 (fun j => if j < 64 then v else h 51 j))) : X d 226 0 [some (P 51), some (I v), none, none] [] h Q := by
  have L : ∀ k i : Nat, i + k = 64 → X d 226 5 [some (P 51), some (I v), some (I i), some (I 64)] [] (setr h 51 (fun j => if j < i then v else h 51 j)) Q := by
    intro k
    induction k with
    | zero =>
      intro i hi
      refine b226d_5 (br_i (fun _ => ?_) (fun q => absurd (by omega) q))
      rw [show i = 64 by omega]; exact H
    | succ k ih =>
      intro i hi
      refine b226d_5 (br_i (fun q => absurd q (by omega)) (fun _ => an_i (by omega) (by omega) ?_))
      rw [w32_of (by omega) (by omega)]
      simp only [Int.toNat_natCast]
      rw [up_setr, fill_s]
      exact ih (i + 1) (by omega)
  have := L 64 0 rfl
  rw [fill_0] at this
  exact b226d_0 this
theorem c_fill48 {d : Nat} {h : HP} {Q : PV → HP → Prop} {v : Int} (H : Q (I 0) (setr h 48 (fun j => if j < 8 then v else h 48 j))) : X d 226 0 [some (P 48), some (I v), none, none] [] h Q := by
  have L : ∀ k i : Nat, i + k = 8 → X d 226 5 [some (P 48), some (I v), some (I i), some (I 8)] [] (setr h 48 (fun j => if j < i then v else h 48 j)) Q := by
    intro k
    induction k with
    | zero =>
      intro i hi
      refine b226e_5 (br_i (fun _ => ?_) (fun q => absurd (by omega) q))
      rw [show i = 8 by omega]; exact H
    | succ k ih =>
      intro i hi
      refine b226e_5 (br_i (fun q => absurd q (by omega)) (fun _ => an_i (by omega) (by omega) ?_))
      rw [w32_of (by omega) (by omega)]
      simp only [Int.toNat_natCast]
      rw [up_setr, fill_s]
      exact ih (i + 1) (by omega)
  have := L 8 0 rfl
  rw [fill_0] at this
  exact b226e_0 this
section CLS
variable {n N1 N2 : Nat} {a b l a2 b2 l2 z : Nat → Int}
theorem p10 : ((2 ^ 10 : Nat) : Int) = 1024 := by decide
theorem p00 : ((2 ^ 0 : Nat) : Int) = 1 := by decide
theorem p2s (k : Nat) : 2 ^ (k + 1) = 2 * 2 ^ k := by rw [Nat.pow_succ, Nat.mul_comm]
set_option maxHeartbeats 4000000 in
theorem c_alone {d : Nat} {h : HP} {Q : PV → HP → Prop} {p : Nat} {ls : Int} (hC : CS h n N1 N2 a b l a2 b2 l2 z) (hp : p < n) (l0 : 0 ≤ ls) (l6 : ls ≤ 600) (H : ∀ r, ls ≤ r → r ≤ 600 → (∀ t, r < t → t ≤ 600 → h 45 p < TS h p t) → Q (I r) h) : X (d + 1) 74 0 [some (P 44), some (I p), some (I ls), none, none, none, none] [] h Q := by
  obtain ⟨⟨hn, n8, m20, m8⟩, ⟨hr, h31, h4⟩, hg, ⟨k1, k2⟩, hJP, hnr, hsy, hz⟩ := id hC
  have g1 := hg p hp
  have L : ∀ k i : Nat, i + k = 10 → ∀ lo hi : Int, ls ≤ lo → lo < hi → hi ≤ 601 → hi - lo ≤ ((2 ^ k : Nat) : Int) → (∀ t, hi ≤ t → t ≤ 600 → h 45 p < TS h p t) → X (d + 1) 74 10 [some (P 44), some (I p), some (I ls), some (I lo), some (I hi), some (I i), none] [] h Q := by
    intro k
    induction k with
    | zero =>
      intro i hi lo hi2 q1 q2 q3 q4 q5
      have : hi2 - lo ≤ 1 := by simpa using q4
      refine b74_10 (br_i (fun q => absurd q (by omega)) (fun _ => br_i (fun _ => ?_) (fun q => absurd (by rw [w32_of (by omega) (by omega)]; omega) q)))
      exact H lo q1 (by omega) (fun t t1 t2 => q5 t (by omega) t2)
    | succ k ih =>
      intro i hi lo hi2 q1 q2 q3 q4 q5
      rw [p2s] at q4
      refine b74_10 (br_i (fun q => absurd q (by omega)) (fun _ => br_i (fun q => ?_) (fun q => ?_)))
      · rw [w32_of (by omega) (by omega)] at q
        exact H lo q1 (by omega) (fun t t1 t2 => q5 t (by omega) t2)
      · rw [w32_of (by omega) (by omega)] at q
        rw [w32_of (x := lo + hi2) (by omega) (by omega), tdv (by omega), w32_of (x := (lo + hi2) / 2) (by omega) (by omega)]
        simp only [Int.toNat_natCast]
        have e1 : w32 ((i : Int) + 1) = ((i + 1 : Nat) : Int) := by rw [w32_of (by omega) (by omega)]; omega
        refine an_i (by omega) (by omega) (an_i (by omega) (by omega) (c_sent (by omega) (by omega) (by omega) (by omega) hr h31 h4 (by exact g1.2.1) (by exact g1.2.2) (b74_55 (an_i (by omega) (by omega) (br_i (fun qs => b74_74 ?_) (fun qs => b74_74 ?_))))))
        · rw [e1]
          refine ih (i + 1) (by omega) lo _ q1 (by omega) (by omega) (by omega) (fun t t1 t2 => ?_)
          have m1 := TS_m hC hp (s := (lo + hi2) / 2) (by omega) t1
          have m2 : h 45 p < TS h p ((lo + hi2) / 2) := qs
          omega
        · rw [e1]
          exact ih (i + 1) (by omega) _ hi2 (by omega) (by omega) q3 (by omega) q5
  exact b74_0 (L 10 0 (by omega) ls 601 (by omega) (by omega) (by omega) (by rw [p10]; omega) (fun t t1 t2 => absurd t1 (by omega)))
end CLS
